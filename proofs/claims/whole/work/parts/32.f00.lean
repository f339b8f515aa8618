/-! SwallowsAir.forgetKept()V -/
def f_C_forgetKept (M : jp_M) : jp_M :=
  let M1 := jp_set M 0 (upd (M 0) 4 (0 : Int32))
  M1
theorem t_C_forgetKept {Ln : Nat} {xs : Nat → Int32} {sv : jp_V} {w : Nat} {M : jp_M} {res : jp_M} (hf : f_C_forgetKept M = res) : jE (jZ (jK Ln xs sv)) 0 160 [(.inr (some 0))] (jSH w) M (none, jSH w, res) := by
  unfold f_C_forgetKept at hf
  refine jE_in (L0 := [some (.inr (some 0))]) rfl (Nat.le_of_ble_eq_true rfl) rfl (fun d hd => ?_)
  refine jR_in rfl ⟨rfl, rfl, rfl⟩ rfl ?_
  refine js_aload_n rfl ?_
  refine js_iconst (v := (0 : Int32)) rfl ?_
  refine js_puti rfl rfl (Or.inl rfl) ?_
  subst hf
  exact js_ret rfl rfl
/-! SwallowsAir.state(I)I -/
def f_C_state (a1 : Int32) (M : jp_M) : Int32 × jp_M :=
  let M1 := jp_set M 2 (upd (M 2) 0 a1)
  let q2 := f_C_forgetKept M1
  ((M 2 0), q2)
theorem t_C_state {Ln : Nat} {xs : Nat → Int32} {sv : jp_V} {a1 : Int32} {w : Nat} {M : jp_M} {res : Int32 × jp_M} (hf : f_C_state a1 M = res) : jE (jZ (jK Ln xs sv)) 1 112 [(.inr (some 0)), (.inl a1)] (jSH w) M (some (.inl res.1), jSH w, res.2) := by
  unfold f_C_state at hf
  refine jE_in (L0 := [some (.inr (some 0)), some (.inl a1), none]) rfl (Nat.le_of_ble_eq_true rfl) rfl (fun d hd => ?_)
  refine jR_in rfl ⟨rfl, rfl, rfl⟩ rfl ?_
  refine js_aload_n rfl ?_
  refine js_getr rfl rfl rfl ?_
  refine js_getr rfl rfl rfl ?_
  refine js_geti rfl rfl rfl ?_
  refine js_istore_n rfl rfl ?_
  refine js_aload_n rfl ?_
  refine js_getr rfl rfl rfl ?_
  refine js_getr rfl rfl rfl ?_
  refine js_iload_n rfl ?_
  refine js_puti rfl rfl (Or.inl rfl) ?_
  refine js_aload_n rfl ?_
  refine js_c1v (w := 0) rfl rfl ⟨rfl, rfl⟩ rfl rfl (t_C_forgetKept rfl) (by omega) ?_
  refine js_iload_n rfl ?_
  subst hf
  exact js_iret rfl rfl
/-! SwallowsAir.within(II)Z -/
def f_C_within (a0 : Int32) (a1 : Int32) : Int32 :=
  if jp_c .lt a0 0 = true then (
  (0 : Int32)) else (
  if jp_c .gt a0 a1 = true then (
  (0 : Int32)) else (
  (1 : Int32)))
theorem t_C_within {Ln : Nat} {xs : Nat → Int32} {sv : jp_V} {a0 : Int32} {a1 : Int32} {w : Nat} {M : jp_M} {res : Int32} (hf : f_C_within a0 a1 = res) : jE (jZ (jK Ln xs sv)) 0 152 [(.inl a0), (.inl a1)] (jSH w) M (some (.inl res), jSH w, M) := by
  unfold f_C_within at hf
  refine jE_in (L0 := [some (.inl a0), some (.inl a1)]) rfl (Nat.le_of_ble_eq_true rfl) rfl (fun d hd => ?_)
  refine jR_in rfl ⟨rfl, rfl, rfl⟩ rfl ?_
  refine js_iload_n rfl ?_
  refine js_ifc (tgt := 13) rfl rfl (fun h => ?_) (fun h => ?_)
  · have hf := jif_t hf h
    refine jR_in rfl ⟨rfl, rfl, rfl⟩ rfl ?_
    refine js_iconst (v := (0 : Int32)) rfl ?_
    subst hf
    exact js_iret rfl rfl
  · have hf := jif_f hf h
    refine js_iload_n rfl ?_
    refine js_iload_n rfl ?_
    refine js_icmp (tgt := 13) rfl rfl (fun h => ?_) (fun h => ?_)
    · have hf := jif_t hf h
      refine jR_in rfl ⟨rfl, rfl, rfl⟩ rfl ?_
      refine js_iconst (v := (0 : Int32)) rfl ?_
      subst hf
      exact js_iret rfl rfl
    · have hf := jif_f hf h
      refine js_iconst (v := (1 : Int32)) rfl ?_
      refine js_goto (tgt := 14) rfl rfl ?_
      refine jR_in rfl ⟨rfl, rfl, rfl⟩ rfl ?_
      subst hf
      exact js_iret rfl rfl
theorem b_C_within {a0 : Int32} {a1 : Int32} {res : Int32} (hf : f_C_within a0 a1 = res) : res = 0 ∨ res = 1 := by
  unfold f_C_within at hf
  rcases jif_d hf with ⟨h, hf⟩ | ⟨h, hf⟩
  · subst hf
    exact Or.inl rfl
  · rcases jif_d hf with ⟨h, hf⟩ | ⟨h, hf⟩
    · subst hf
      exact Or.inl rfl
    · subst hf
      exact Or.inr rfl
/-! SwallowsAir.person(III)I -/
def f_C_person (a1 : Int32) (a2 : Int32) (a3 : Int32) (M : jp_M) : Option (Int32 × jp_M) :=
  if jp_c .ge (M 2 4) (10 : Int32) = true then (
  some ((-1 : Int32), M)) else (
  if jp_c .eq (f_C_within a1 (7 : Int32)) 0 = true then (
  some ((-1 : Int32), M)) else (
  if jp_c .eq (f_C_within a2 (9 : Int32)) 0 = true then (
  some ((-1 : Int32), M)) else (
  if jp_c .ne (f_C_within a3 (9999 : Int32)) 0 = true then (
  jg (jp_in (((5 : Int32) * (M 2 4)) + (0 : Int32)) 50) (
  let M4 := jp_set M 3 (upd (M 3) (Int32.toNatClampNeg (((5 : Int32) * (M 2 4)) + (0 : Int32))) a1)
  jg (jp_in (((5 : Int32) * (M 2 4)) + (1 : Int32)) 50) (
  let M6 := jp_set M4 3 (upd (M4 3) (Int32.toNatClampNeg (((5 : Int32) * (M 2 4)) + (1 : Int32))) a3)
  jg (jp_in (((5 : Int32) * (M 2 4)) + (2 : Int32)) 50) (
  let M8 := jp_set M6 3 (upd (M6 3) (Int32.toNatClampNeg (((5 : Int32) * (M 2 4)) + (2 : Int32))) a2)
  jg (jp_in (((5 : Int32) * (M 2 4)) + (3 : Int32)) 50) (
  let M10 := jp_set M8 3 (upd (M8 3) (Int32.toNatClampNeg (((5 : Int32) * (M 2 4)) + (3 : Int32))) (0 : Int32))
  jg (jp_in (((5 : Int32) * (M 2 4)) + (4 : Int32)) 50) (
  let M12 := jp_set M10 3 (upd (M10 3) (Int32.toNatClampNeg (((5 : Int32) * (M 2 4)) + (4 : Int32))) (0 : Int32))
  let M14 := jp_set M12 2 (upd (M12 2) 4 ((M12 2 4) + (1 : Int32)))
  let q15 := f_C_forgetKept M14
  some (((q15 2 4) - (1 : Int32)), q15))))))) else (
  some ((-1 : Int32), M)))))
theorem t_C_person {Ln : Nat} {xs : Nat → Int32} {sv : jp_V} {a1 : Int32} {a2 : Int32} {a3 : Int32} {w : Nat} {M : jp_M} {res : Int32 × jp_M} (hf : f_C_person a1 a2 a3 M = some res) : jE (jZ (jK Ln xs sv)) 1 113 [(.inr (some 0)), (.inl a1), (.inl a2), (.inl a3)] (jSH w) M (some (.inl res.1), jSH w, res.2) := by
  unfold f_C_person at hf
  refine jE_in (L0 := [some (.inr (some 0)), some (.inl a1), some (.inl a2), some (.inl a3), none, none]) rfl (Nat.le_of_ble_eq_true rfl) rfl (fun d hd => ?_)
  refine jR_in rfl ⟨rfl, rfl, rfl⟩ rfl ?_
  refine js_aload_n rfl ?_
  refine js_getr rfl rfl rfl ?_
  refine js_getr rfl rfl rfl ?_
  refine js_astore rfl rfl ?_
  refine js_aload rfl ?_
  refine js_geti rfl rfl rfl ?_
  refine js_bipush (v := (10 : Int32)) rfl ?_
  refine js_icmp (tgt := 47) rfl rfl (fun h => ?_) (fun h => ?_)
  · have hf := jif_t hf h
    refine jR_in rfl ⟨rfl, rfl, rfl⟩ rfl ?_
    refine js_iconst (v := (-1 : Int32)) rfl ?_
    obtain rfl := Option.some.inj hf
    exact js_iret rfl rfl
  · have hf := jif_f hf h
    refine js_iload_n rfl ?_
    refine js_bipush (v := (7 : Int32)) rfl ?_
    refine js_c2i rfl rfl ⟨rfl, rfl⟩ rfl rfl (t_C_within rfl) (by omega) ?_
    refine js_ifc (tgt := 47) rfl rfl (fun h => ?_) (fun h => ?_)
    · have hf := jif_t hf h
      refine jR_in rfl ⟨rfl, rfl, rfl⟩ rfl ?_
      refine js_iconst (v := (-1 : Int32)) rfl ?_
      obtain rfl := Option.some.inj hf
      exact js_iret rfl rfl
    · have hf := jif_f hf h
      refine js_iload_n rfl ?_
      refine js_bipush (v := (9 : Int32)) rfl ?_
      refine js_c2i rfl rfl ⟨rfl, rfl⟩ rfl rfl (t_C_within rfl) (by omega) ?_
      refine js_ifc (tgt := 47) rfl rfl (fun h => ?_) (fun h => ?_)
      · have hf := jif_t hf h
        refine jR_in rfl ⟨rfl, rfl, rfl⟩ rfl ?_
        refine js_iconst (v := (-1 : Int32)) rfl ?_
        obtain rfl := Option.some.inj hf
        exact js_iret rfl rfl
      · have hf := jif_f hf h
        refine js_iload_n rfl ?_
        refine js_sipush (v := (9999 : Int32)) rfl ?_
        refine js_c2i rfl rfl ⟨rfl, rfl⟩ rfl rfl (t_C_within rfl) (by omega) ?_
        refine js_ifc (tgt := 49) rfl rfl (fun h => ?_) (fun h => ?_)
        · have hf := jif_t hf h
          refine jR_in rfl ⟨rfl, rfl, rfl⟩ rfl ?_
          refine js_iconst (v := (5 : Int32)) rfl ?_
          refine js_aload rfl ?_
          refine js_geti rfl rfl rfl ?_
          refine js_imul ?_
          refine js_istore rfl rfl ?_
          refine js_aload rfl ?_
          refine js_getr rfl rfl rfl ?_
          refine js_iload rfl ?_
          refine js_iconst (v := (0 : Int32)) rfl ?_
          refine js_iadd ?_
          refine js_iload_n rfl ?_
          obtain ⟨hb5, hf⟩ := jg_some hf
          refine js_iast rfl hb5 ?_
          refine js_aload rfl ?_
          refine js_getr rfl rfl rfl ?_
          refine js_iload rfl ?_
          refine js_iconst (v := (1 : Int32)) rfl ?_
          refine js_iadd ?_
          refine js_iload_n rfl ?_
          obtain ⟨hb7, hf⟩ := jg_some hf
          refine js_iast rfl hb7 ?_
          refine js_aload rfl ?_
          refine js_getr rfl rfl rfl ?_
          refine js_iload rfl ?_
          refine js_iconst (v := (2 : Int32)) rfl ?_
          refine js_iadd ?_
          refine js_iload_n rfl ?_
          obtain ⟨hb9, hf⟩ := jg_some hf
          refine js_iast rfl hb9 ?_
          refine js_aload rfl ?_
          refine js_getr rfl rfl rfl ?_
          refine js_iload rfl ?_
          refine js_iconst (v := (3 : Int32)) rfl ?_
          refine js_iadd ?_
          refine js_iconst (v := (0 : Int32)) rfl ?_
          obtain ⟨hb11, hf⟩ := jg_some hf
          refine js_iast rfl hb11 ?_
          refine js_aload rfl ?_
          refine js_getr rfl rfl rfl ?_
          refine js_iload rfl ?_
          refine js_iconst (v := (4 : Int32)) rfl ?_
          refine js_iadd ?_
          refine js_iconst (v := (0 : Int32)) rfl ?_
          obtain ⟨hb13, hf⟩ := jg_some hf
          refine js_iast rfl hb13 ?_
          refine js_aload rfl ?_
          refine js_dup ?_
          refine js_geti rfl rfl rfl ?_
          refine js_iconst (v := (1 : Int32)) rfl ?_
          refine js_iadd ?_
          refine js_puti rfl rfl (Or.inl rfl) ?_
          refine js_aload_n rfl ?_
          refine js_c1v (w := 0) rfl rfl ⟨rfl, rfl⟩ rfl rfl (t_C_forgetKept rfl) (by omega) ?_
          refine js_aload rfl ?_
          refine js_geti rfl rfl rfl ?_
          refine js_iconst (v := (1 : Int32)) rfl ?_
          refine js_isub ?_
          obtain rfl := Option.some.inj hf
          exact js_iret rfl rfl
        · have hf := jif_f hf h
          refine js_iconst (v := (-1 : Int32)) rfl ?_
          obtain rfl := Option.some.inj hf
          exact js_iret rfl rfl
/-! SwallowsAir.swallow(II)I -/
def f_C_swallow (a1 : Int32) (a2 : Int32) (M : jp_M) : Option (Int32 × jp_M) :=
  if jp_c .ge (M 2 5) (10 : Int32) = true then (
  some ((-1 : Int32), M)) else (
  if jp_c .eq (f_C_within a1 (9 : Int32)) 0 = true then (
  some ((-1 : Int32), M)) else (
  if jp_c .lt a2 (1 : Int32) = true then (
  some ((-1 : Int32), M)) else (
  if jp_c .le a2 (9 : Int32) = true then (
  jg (jp_in (((3 : Int32) * (M 2 5)) + (0 : Int32)) 30) (
  let M2 := jp_set M 4 (upd (M 4) (Int32.toNatClampNeg (((3 : Int32) * (M 2 5)) + (0 : Int32))) a1)
  jg (jp_in (((3 : Int32) * (M 2 5)) + (1 : Int32)) 30) (
  let M4 := jp_set M2 4 (upd (M2 4) (Int32.toNatClampNeg (((3 : Int32) * (M 2 5)) + (1 : Int32))) a2)
  jg (jp_in (((3 : Int32) * (M 2 5)) + (2 : Int32)) 30) (
  let M6 := jp_set M4 4 (upd (M4 4) (Int32.toNatClampNeg (((3 : Int32) * (M 2 5)) + (2 : Int32))) (0 : Int32))
  let M8 := jp_set M6 2 (upd (M6 2) 5 ((M6 2 5) + (1 : Int32)))
  let q9 := f_C_forgetKept M8
  some (((q9 2 5) - (1 : Int32)), q9))))) else (
  some ((-1 : Int32), M)))))
theorem t_C_swallow {Ln : Nat} {xs : Nat → Int32} {sv : jp_V} {a1 : Int32} {a2 : Int32} {w : Nat} {M : jp_M} {res : Int32 × jp_M} (hf : f_C_swallow a1 a2 M = some res) : jE (jZ (jK Ln xs sv)) 1 114 [(.inr (some 0)), (.inl a1), (.inl a2)] (jSH w) M (some (.inl res.1), jSH w, res.2) := by
  unfold f_C_swallow at hf
  refine jE_in (L0 := [some (.inr (some 0)), some (.inl a1), some (.inl a2), none, none]) rfl (Nat.le_of_ble_eq_true rfl) rfl (fun d hd => ?_)
  refine jR_in rfl ⟨rfl, rfl, rfl⟩ rfl ?_
  refine js_aload_n rfl ?_
  refine js_getr rfl rfl rfl ?_
  refine js_getr rfl rfl rfl ?_
  refine js_astore_n rfl rfl ?_
  refine js_aload_n rfl ?_
  refine js_geti rfl rfl rfl ?_
  refine js_bipush (v := (10 : Int32)) rfl ?_
  refine js_icmp (tgt := 37) rfl rfl (fun h => ?_) (fun h => ?_)
  · have hf := jif_t hf h
    refine jR_in rfl ⟨rfl, rfl, rfl⟩ rfl ?_
    refine js_iconst (v := (-1 : Int32)) rfl ?_
    obtain rfl := Option.some.inj hf
    exact js_iret rfl rfl
  · have hf := jif_f hf h
    refine js_iload_n rfl ?_
    refine js_bipush (v := (9 : Int32)) rfl ?_
    refine js_c2i rfl rfl ⟨rfl, rfl⟩ rfl rfl (t_C_within rfl) (by omega) ?_
    refine js_ifc (tgt := 37) rfl rfl (fun h => ?_) (fun h => ?_)
    · have hf := jif_t hf h
      refine jR_in rfl ⟨rfl, rfl, rfl⟩ rfl ?_
      refine js_iconst (v := (-1 : Int32)) rfl ?_
      obtain rfl := Option.some.inj hf
      exact js_iret rfl rfl
    · have hf := jif_f hf h
      refine js_iload_n rfl ?_
      refine js_iconst (v := (1 : Int32)) rfl ?_
      refine js_icmp (tgt := 37) rfl rfl (fun h => ?_) (fun h => ?_)
      · have hf := jif_t hf h
        refine jR_in rfl ⟨rfl, rfl, rfl⟩ rfl ?_
        refine js_iconst (v := (-1 : Int32)) rfl ?_
        obtain rfl := Option.some.inj hf
        exact js_iret rfl rfl
      · have hf := jif_f hf h
        refine js_iload_n rfl ?_
        refine js_bipush (v := (9 : Int32)) rfl ?_
        refine js_icmp (tgt := 39) rfl rfl (fun h => ?_) (fun h => ?_)
        · have hf := jif_t hf h
          refine jR_in rfl ⟨rfl, rfl, rfl⟩ rfl ?_
          refine js_iconst (v := (3 : Int32)) rfl ?_
          refine js_aload_n rfl ?_
          refine js_geti rfl rfl rfl ?_
          refine js_imul ?_
          refine js_istore rfl rfl ?_
          refine js_aload_n rfl ?_
          refine js_getr rfl rfl rfl ?_
          refine js_iload rfl ?_
          refine js_iconst (v := (0 : Int32)) rfl ?_
          refine js_iadd ?_
          refine js_iload_n rfl ?_
          obtain ⟨hb3, hf⟩ := jg_some hf
          refine js_iast rfl hb3 ?_
          refine js_aload_n rfl ?_
          refine js_getr rfl rfl rfl ?_
          refine js_iload rfl ?_
          refine js_iconst (v := (1 : Int32)) rfl ?_
          refine js_iadd ?_
          refine js_iload_n rfl ?_
          obtain ⟨hb5, hf⟩ := jg_some hf
          refine js_iast rfl hb5 ?_
          refine js_aload_n rfl ?_
          refine js_getr rfl rfl rfl ?_
          refine js_iload rfl ?_
          refine js_iconst (v := (2 : Int32)) rfl ?_
          refine js_iadd ?_
          refine js_iconst (v := (0 : Int32)) rfl ?_
          obtain ⟨hb7, hf⟩ := jg_some hf
          refine js_iast rfl hb7 ?_
          refine js_aload_n rfl ?_
          refine js_dup ?_
          refine js_geti rfl rfl rfl ?_
          refine js_iconst (v := (1 : Int32)) rfl ?_
          refine js_iadd ?_
          refine js_puti rfl rfl (Or.inl rfl) ?_
          refine js_aload_n rfl ?_
          refine js_c1v (w := 0) rfl rfl ⟨rfl, rfl⟩ rfl rfl (t_C_forgetKept rfl) (by omega) ?_
          refine js_aload_n rfl ?_
          refine js_geti rfl rfl rfl ?_
          refine js_iconst (v := (1 : Int32)) rfl ?_
          refine js_isub ?_
          obtain rfl := Option.some.inj hf
          exact js_iret rfl rfl
        · have hf := jif_f hf h
          refine js_iconst (v := (-1 : Int32)) rfl ?_
          obtain rfl := Option.some.inj hf
          exact js_iret rfl rfl
/-! SwallowsAir.setDay(I)Z -/
def f_C_setDay (a1 : Int32) (M : jp_M) : Int32 × jp_M :=
  if jp_c .ne (f_C_within a1 (9999 : Int32)) 0 = true then (
  let M2 := jp_set M 2 (upd (M 2) 1 a1)
  ((1 : Int32), M2)) else (
  ((0 : Int32), M))
theorem t_C_setDay {Ln : Nat} {xs : Nat → Int32} {sv : jp_V} {a1 : Int32} {w : Nat} {M : jp_M} {res : Int32 × jp_M} (hf : f_C_setDay a1 M = res) : jE (jZ (jK Ln xs sv)) 1 157 [(.inr (some 0)), (.inl a1)] (jSH w) M (some (.inl res.1), jSH w, res.2) := by
  unfold f_C_setDay at hf
  refine jE_in (L0 := [some (.inr (some 0)), some (.inl a1)]) rfl (Nat.le_of_ble_eq_true rfl) rfl (fun d hd => ?_)
  refine jR_in rfl ⟨rfl, rfl, rfl⟩ rfl ?_
  refine js_iload_n rfl ?_
  refine js_sipush (v := (9999 : Int32)) rfl ?_
  refine js_c2i rfl rfl ⟨rfl, rfl⟩ rfl rfl (t_C_within rfl) (by omega) ?_
  refine js_ifc (tgt := 12) rfl rfl (fun h => ?_) (fun h => ?_)
  · have hf := jif_t hf h
    refine jR_in rfl ⟨rfl, rfl, rfl⟩ rfl ?_
    refine js_aload_n rfl ?_
    refine js_getr rfl rfl rfl ?_
    refine js_getr rfl rfl rfl ?_
    refine js_iload_n rfl ?_
    refine js_puti rfl rfl (Or.inl rfl) ?_
    refine js_iconst (v := (1 : Int32)) rfl ?_
    subst hf
    exact js_iret rfl rfl
  · have hf := jif_f hf h
    refine js_iconst (v := (0 : Int32)) rfl ?_
    subst hf
    exact js_iret rfl rfl
theorem b_C_setDay {a1 : Int32} {M : jp_M} {res : Int32 × jp_M} (hf : f_C_setDay a1 M = res) : res.1 = 0 ∨ res.1 = 1 := by
  unfold f_C_setDay at hf
  rcases jif_d hf with ⟨h, hf⟩ | ⟨h, hf⟩
  · subst hf
    exact Or.inr rfl
  · subst hf
    exact Or.inl rfl
/-! SwallowsAir$World.hasSwallow(I)Z -/
def f_W_hasSwallow (a1 : Int32) (M : jp_M) : Int32 :=
  if jp_c .lt a1 0 = true then (
  (0 : Int32)) else (
  if jp_c .ge a1 (M 2 5) = true then (
  (0 : Int32)) else (
  (1 : Int32)))
theorem t_W_hasSwallow {Ln : Nat} {xs : Nat → Int32} {sv : jp_V} {a1 : Int32} {w : Nat} {M : jp_M} {res : Int32} (hf : f_W_hasSwallow a1 M = res) : jE (jZ (jK Ln xs sv)) 0 98 [(.inr (some 2)), (.inl a1)] (jSH w) M (some (.inl res), jSH w, M) := by
  unfold f_W_hasSwallow at hf
  refine jE_in (L0 := [some (.inr (some 2)), some (.inl a1)]) rfl (Nat.le_of_ble_eq_true rfl) rfl (fun d hd => ?_)
  refine jR_in rfl ⟨rfl, rfl, rfl⟩ rfl ?_
  refine js_iload_n rfl ?_
  refine js_ifc (tgt := 16) rfl rfl (fun h => ?_) (fun h => ?_)
  · have hf := jif_t hf h
    refine jR_in rfl ⟨rfl, rfl, rfl⟩ rfl ?_
    refine js_iconst (v := (0 : Int32)) rfl ?_
    subst hf
    exact js_iret rfl rfl
  · have hf := jif_f hf h
    refine js_iload_n rfl ?_
    refine js_aload_n rfl ?_
    refine js_geti rfl rfl rfl ?_
    refine js_icmp (tgt := 16) rfl rfl (fun h => ?_) (fun h => ?_)
    · have hf := jif_t hf h
      refine jR_in rfl ⟨rfl, rfl, rfl⟩ rfl ?_
      refine js_iconst (v := (0 : Int32)) rfl ?_
      subst hf
      exact js_iret rfl rfl
    · have hf := jif_f hf h
      refine js_iconst (v := (1 : Int32)) rfl ?_
      refine js_goto (tgt := 17) rfl rfl ?_
      refine jR_in rfl ⟨rfl, rfl, rfl⟩ rfl ?_
      subst hf
      exact js_iret rfl rfl
theorem b_W_hasSwallow {a1 : Int32} {M : jp_M} {res : Int32} (hf : f_W_hasSwallow a1 M = res) : res = 0 ∨ res = 1 := by
  unfold f_W_hasSwallow at hf
  rcases jif_d hf with ⟨h, hf⟩ | ⟨h, hf⟩
  · subst hf
    exact Or.inl rfl
  · rcases jif_d hf with ⟨h, hf⟩ | ⟨h, hf⟩
    · subst hf
      exact Or.inl rfl
    · subst hf
      exact Or.inr rfl
/-! SwallowsAir.setEyes(II)Z -/
def f_C_setEyes (a1 : Int32) (a2 : Int32) (M : jp_M) : Option (Int32 × jp_M) :=
  if jp_c .eq (f_W_hasSwallow a1 M) 0 = true then (
  some ((0 : Int32), M)) else (
  if jp_c .lt a2 (1 : Int32) = true then (
  some ((0 : Int32), M)) else (
  if jp_c .le a2 (9 : Int32) = true then (
  jg (jp_in (((3 : Int32) * a1) + (1 : Int32)) 30) (
  let M2 := jp_set M 4 (upd (M 4) (Int32.toNatClampNeg (((3 : Int32) * a1) + (1 : Int32))) a2)
  some ((1 : Int32), M2))) else (
  some ((0 : Int32), M))))
theorem t_C_setEyes {Ln : Nat} {xs : Nat → Int32} {sv : jp_V} {a1 : Int32} {a2 : Int32} {w : Nat} {M : jp_M} {res : Int32 × jp_M} (hf : f_C_setEyes a1 a2 M = some res) : jE (jZ (jK Ln xs sv)) 1 156 [(.inr (some 0)), (.inl a1), (.inl a2)] (jSH w) M (some (.inl res.1), jSH w, res.2) := by
  unfold f_C_setEyes at hf
  refine jE_in (L0 := [some (.inr (some 0)), some (.inl a1), some (.inl a2)]) rfl (Nat.le_of_ble_eq_true rfl) rfl (fun d hd => ?_)
  refine jR_in rfl ⟨rfl, rfl, rfl⟩ rfl ?_
  refine js_aload_n rfl ?_
  refine js_getr rfl rfl rfl ?_
  refine js_getr rfl rfl rfl ?_
  refine js_iload_n rfl ?_
  refine js_c2i rfl rfl ⟨rfl, rfl⟩ rfl rfl (t_W_hasSwallow rfl) (by omega) ?_
  refine js_ifc (tgt := 25) rfl rfl (fun h => ?_) (fun h => ?_)
  · have hf := jif_t hf h
    refine jR_in rfl ⟨rfl, rfl, rfl⟩ rfl ?_
    refine js_iconst (v := (0 : Int32)) rfl ?_
    obtain rfl := Option.some.inj hf
    exact js_iret rfl rfl
  · have hf := jif_f hf h
    refine js_iload_n rfl ?_
    refine js_iconst (v := (1 : Int32)) rfl ?_
    refine js_icmp (tgt := 25) rfl rfl (fun h => ?_) (fun h => ?_)
    · have hf := jif_t hf h
      refine jR_in rfl ⟨rfl, rfl, rfl⟩ rfl ?_
      refine js_iconst (v := (0 : Int32)) rfl ?_
      obtain rfl := Option.some.inj hf
      exact js_iret rfl rfl
    · have hf := jif_f hf h
      refine js_iload_n rfl ?_
      refine js_bipush (v := (9 : Int32)) rfl ?_
      refine js_icmp (tgt := 27) rfl rfl (fun h => ?_) (fun h => ?_)
      · have hf := jif_t hf h
        refine jR_in rfl ⟨rfl, rfl, rfl⟩ rfl ?_
        refine js_aload_n rfl ?_
        refine js_getr rfl rfl rfl ?_
        refine js_getr rfl rfl rfl ?_
        refine js_getr rfl rfl rfl ?_
        refine js_iconst (v := (3 : Int32)) rfl ?_
        refine js_iload_n rfl ?_
        refine js_imul ?_
        refine js_iconst (v := (1 : Int32)) rfl ?_
        refine js_iadd ?_
        refine js_iload_n rfl ?_
        obtain ⟨hb3, hf⟩ := jg_some hf
        refine js_iast rfl hb3 ?_
        refine js_iconst (v := (1 : Int32)) rfl ?_
        obtain rfl := Option.some.inj hf
        exact js_iret rfl rfl
      · have hf := jif_f hf h
        refine js_iconst (v := (0 : Int32)) rfl ?_
        obtain rfl := Option.some.inj hf
        exact js_iret rfl rfl
theorem b_C_setEyes {a1 : Int32} {a2 : Int32} {M : jp_M} {res : Int32 × jp_M} (hf : f_C_setEyes a1 a2 M = some res) : res.1 = 0 ∨ res.1 = 1 := by
  unfold f_C_setEyes at hf
  rcases jif_d hf with ⟨h, hf⟩ | ⟨h, hf⟩
  · obtain rfl := Option.some.inj hf
    exact Or.inl rfl
  · rcases jif_d hf with ⟨h, hf⟩ | ⟨h, hf⟩
    · obtain rfl := Option.some.inj hf
      exact Or.inl rfl
    · rcases jif_d hf with ⟨h, hf⟩ | ⟨h, hf⟩
      · obtain ⟨hb3, hf⟩ := jg_some hf
        obtain rfl := Option.some.inj hf
        exact Or.inr rfl
      · obtain rfl := Option.some.inj hf
        exact Or.inl rfl
/-! SwallowsAir$World.hasPerson(I)Z -/
def f_W_hasPerson (a1 : Int32) (M : jp_M) : Int32 :=
  if jp_c .lt a1 0 = true then (
  (0 : Int32)) else (
  if jp_c .ge a1 (M 2 4) = true then (
  (0 : Int32)) else (
  (1 : Int32)))
theorem t_W_hasPerson {Ln : Nat} {xs : Nat → Int32} {sv : jp_V} {a1 : Int32} {w : Nat} {M : jp_M} {res : Int32} (hf : f_W_hasPerson a1 M = res) : jE (jZ (jK Ln xs sv)) 0 97 [(.inr (some 2)), (.inl a1)] (jSH w) M (some (.inl res), jSH w, M) := by
  unfold f_W_hasPerson at hf
  refine jE_in (L0 := [some (.inr (some 2)), some (.inl a1)]) rfl (Nat.le_of_ble_eq_true rfl) rfl (fun d hd => ?_)
  refine jR_in rfl ⟨rfl, rfl, rfl⟩ rfl ?_
  refine js_iload_n rfl ?_
  refine js_ifc (tgt := 16) rfl rfl (fun h => ?_) (fun h => ?_)
  · have hf := jif_t hf h
    refine jR_in rfl ⟨rfl, rfl, rfl⟩ rfl ?_
    refine js_iconst (v := (0 : Int32)) rfl ?_
    subst hf
    exact js_iret rfl rfl
  · have hf := jif_f hf h
    refine js_iload_n rfl ?_
    refine js_aload_n rfl ?_
    refine js_geti rfl rfl rfl ?_
    refine js_icmp (tgt := 16) rfl rfl (fun h => ?_) (fun h => ?_)
    · have hf := jif_t hf h
      refine jR_in rfl ⟨rfl, rfl, rfl⟩ rfl ?_
      refine js_iconst (v := (0 : Int32)) rfl ?_
      subst hf
      exact js_iret rfl rfl
    · have hf := jif_f hf h
      refine js_iconst (v := (1 : Int32)) rfl ?_
      refine js_goto (tgt := 17) rfl rfl ?_
      refine jR_in rfl ⟨rfl, rfl, rfl⟩ rfl ?_
      subst hf
      exact js_iret rfl rfl
theorem b_W_hasPerson {a1 : Int32} {M : jp_M} {res : Int32} (hf : f_W_hasPerson a1 M = res) : res = 0 ∨ res = 1 := by
  unfold f_W_hasPerson at hf
  rcases jif_d hf with ⟨h, hf⟩ | ⟨h, hf⟩
  · subst hf
    exact Or.inl rfl
  · rcases jif_d hf with ⟨h, hf⟩ | ⟨h, hf⟩
    · subst hf
      exact Or.inl rfl
    · subst hf
      exact Or.inr rfl
/-! SwallowsAir.setPerson(IIII)Z -/
def f_C_setPerson (a1 : Int32) (a2 : Int32) (a3 : Int32) (a4 : Int32) (M : jp_M) : Option (Int32 × jp_M) :=
  if jp_c .eq (f_W_hasPerson a2 M) 0 = true then (
  some ((0 : Int32), M)) else (
  if jp_c .ne (f_C_within a3 a4) 0 = true then (
  jg (jp_in (((5 : Int32) * a2) + a1) 50) (
  let M3 := jp_set M 3 (upd (M 3) (Int32.toNatClampNeg (((5 : Int32) * a2) + a1)) a3)
  some ((1 : Int32), M3))) else (
  some ((0 : Int32), M)))
theorem t_C_setPerson {Ln : Nat} {xs : Nat → Int32} {sv : jp_V} {a1 : Int32} {a2 : Int32} {a3 : Int32} {a4 : Int32} {w : Nat} {M : jp_M} {res : Int32 × jp_M} (hf : f_C_setPerson a1 a2 a3 a4 M = some res) : jE (jZ (jK Ln xs sv)) 1 155 [(.inr (some 0)), (.inl a1), (.inl a2), (.inl a3), (.inl a4)] (jSH w) M (some (.inl res.1), jSH w, res.2) := by
  unfold f_C_setPerson at hf
  refine jE_in (L0 := [some (.inr (some 0)), some (.inl a1), some (.inl a2), some (.inl a3), some (.inl a4)]) rfl (Nat.le_of_ble_eq_true rfl) rfl (fun d hd => ?_)
  refine jR_in rfl ⟨rfl, rfl, rfl⟩ rfl ?_
  refine js_aload_n rfl ?_
  refine js_getr rfl rfl rfl ?_
  refine js_getr rfl rfl rfl ?_
  refine js_iload_n rfl ?_
  refine js_c2i rfl rfl ⟨rfl, rfl⟩ rfl rfl (t_W_hasPerson rfl) (by omega) ?_
  refine js_ifc (tgt := 23) rfl rfl (fun h => ?_) (fun h => ?_)
  · have hf := jif_t hf h
    refine jR_in rfl ⟨rfl, rfl, rfl⟩ rfl ?_
    refine js_iconst (v := (0 : Int32)) rfl ?_
    obtain rfl := Option.some.inj hf
    exact js_iret rfl rfl
  · have hf := jif_f hf h
    refine js_iload_n rfl ?_
    refine js_iload rfl ?_
    refine js_c2i rfl rfl ⟨rfl, rfl⟩ rfl rfl (t_C_within rfl) (by omega) ?_
    refine js_ifc (tgt := 25) rfl rfl (fun h => ?_) (fun h => ?_)
    · have hf := jif_t hf h
      refine jR_in rfl ⟨rfl, rfl, rfl⟩ rfl ?_
      refine js_aload_n rfl ?_
      refine js_getr rfl rfl rfl ?_
      refine js_getr rfl rfl rfl ?_
      refine js_getr rfl rfl rfl ?_
      refine js_iconst (v := (5 : Int32)) rfl ?_
      refine js_iload_n rfl ?_
      refine js_imul ?_
      refine js_iload_n rfl ?_
      refine js_iadd ?_
      refine js_iload_n rfl ?_
      obtain ⟨hb4, hf⟩ := jg_some hf
      refine js_iast rfl hb4 ?_
      refine js_iconst (v := (1 : Int32)) rfl ?_
      obtain rfl := Option.some.inj hf
      exact js_iret rfl rfl
    · have hf := jif_f hf h
      refine js_iconst (v := (0 : Int32)) rfl ?_
      obtain rfl := Option.some.inj hf
      exact js_iret rfl rfl
theorem b_C_setPerson {a1 : Int32} {a2 : Int32} {a3 : Int32} {a4 : Int32} {M : jp_M} {res : Int32 × jp_M} (hf : f_C_setPerson a1 a2 a3 a4 M = some res) : res.1 = 0 ∨ res.1 = 1 := by
  unfold f_C_setPerson at hf
  rcases jif_d hf with ⟨h, hf⟩ | ⟨h, hf⟩
  · obtain rfl := Option.some.inj hf
    exact Or.inl rfl
  · rcases jif_d hf with ⟨h, hf⟩ | ⟨h, hf⟩
    · obtain ⟨hb4, hf⟩ := jg_some hf
      obtain rfl := Option.some.inj hf
      exact Or.inr rfl
    · obtain rfl := Option.some.inj hf
      exact Or.inl rfl
/-! SwallowsAir.set(III)Z -/
def f_C_set_121  (l4 : Int32) (M : jp_M) : Option (Int32 × jp_M) :=
  if jp_c .eq l4 0 = true then (
  jg (l4 = 0 ∨ l4 = 1) (
  some (l4, M))) else (
  let q2 := f_C_forgetKept M
  jg (l4 = 0 ∨ l4 = 1) (
  some (l4, q2)))
theorem t_C_set_121 {Ln : Nat} {xs : Nat → Int32} {sv : jp_V} {d : Nat} (hd : 2 ≤ d)  (l4 : Int32) (o1 : Option jp_V) (o2 : Option jp_V) (o3 : Option jp_V) (w : Nat) (M : jp_M) {res : Int32 × jp_M} (hf : f_C_set_121  l4 M = some res) : jR (jZ (jK Ln xs sv)) d 115 121 ([some (.inr (some 0)), o1, o2, o3, some (.inl l4)], [], jSH w, M) (some (.inl res.1), jSH w, res.2) := by
  unfold f_C_set_121 at hf
  refine jR_in rfl ⟨rfl, rfl, rfl⟩ rfl ?_
  refine js_iload rfl ?_
  refine js_ifc (tgt := 130) rfl rfl (fun h => ?_) (fun h => ?_)
  · have hf := jif_t hf h
    refine jR_in rfl ⟨rfl, rfl, rfl⟩ rfl ?_
    refine js_iload rfl ?_
    obtain ⟨hb1, hf⟩ := jg_some hf
    obtain rfl := Option.some.inj hf
    exact js_iret (jbool hb1) rfl
  · have hf := jif_f hf h
    refine js_aload_n rfl ?_
    refine js_c1v (w := 0) rfl rfl ⟨rfl, rfl⟩ rfl rfl (t_C_forgetKept rfl) (by omega) ?_
    refine js_iload rfl ?_
    obtain ⟨hb3, hf⟩ := jg_some hf
    obtain rfl := Option.some.inj hf
    exact js_iret (jbool hb3) rfl
theorem b_C_set_121  (l4 : Int32) (M : jp_M) {res : Int32 × jp_M} (hf : f_C_set_121  l4 M = some res) : res.1 = 0 ∨ res.1 = 1 := by
  unfold f_C_set_121 at hf
  rcases jif_d hf with ⟨h, hf⟩ | ⟨h, hf⟩
  · obtain ⟨hb1, hf⟩ := jg_some hf
    obtain rfl := Option.some.inj hf
    exact hb1
  · obtain ⟨hb3, hf⟩ := jg_some hf
    obtain rfl := Option.some.inj hf
    exact hb3
def f_C_set (a1 : Int32) (a2 : Int32) (a3 : Int32) (M : jp_M) : Option (Int32 × jp_M) :=
  if a1 = (0 : Int32) then (
  (f_C_setPerson (0 : Int32) a2 a3 (7 : Int32) M).bind fun q1 => (
  f_C_set_121 (q1.1) (q1.2))) else if a1 = (1 : Int32) then (
  (f_C_setPerson (1 : Int32) a2 a3 (9999 : Int32) M).bind fun q2 => (
  f_C_set_121 (q2.1) (q2.2))) else if a1 = (2 : Int32) then (
  (f_C_setPerson (2 : Int32) a2 a3 (9 : Int32) M).bind fun q3 => (
  f_C_set_121 (q3.1) (q3.2))) else if a1 = (3 : Int32) then (
  (f_C_setPerson (3 : Int32) a2 a3 (7 : Int32) M).bind fun q4 => (
  f_C_set_121 (q4.1) (q4.2))) else if a1 = (4 : Int32) then (
  (f_C_setEyes a2 a3 M).bind fun q5 => (
  f_C_set_121 (q5.1) (q5.2))) else if a1 = (5 : Int32) then (
  let q6 := f_C_setDay a3 M
  f_C_set_121 (q6.1) (q6.2)) else (
  f_C_set_121 (0 : Int32) M)
theorem t_C_set {Ln : Nat} {xs : Nat → Int32} {sv : jp_V} {a1 : Int32} {a2 : Int32} {a3 : Int32} {w : Nat} {M : jp_M} {res : Int32 × jp_M} (hf : f_C_set a1 a2 a3 M = some res) : jE (jZ (jK Ln xs sv)) 2 115 [(.inr (some 0)), (.inl a1), (.inl a2), (.inl a3)] (jSH w) M (some (.inl res.1), jSH w, res.2) := by
  unfold f_C_set at hf
  refine jE_in (L0 := [some (.inr (some 0)), some (.inl a1), some (.inl a2), some (.inl a3), none]) rfl (Nat.le_of_ble_eq_true rfl) rfl (fun d hd => ?_)
  refine jR_in rfl ⟨rfl, rfl, rfl⟩ rfl ?_
  refine js_iload_n rfl ?_
  rcases jif_d hf with ⟨hk, hf⟩ | ⟨hk0, hf⟩
  · refine js_tabIn (v := (0 : Int32)) (off := 39) (tgt := 40) hk rfl rfl rfl rfl ?_
    refine jR_in rfl ⟨rfl, rfl, rfl⟩ rfl ?_
    refine js_aload_n rfl ?_
    refine js_iconst (v := (0 : Int32)) rfl ?_
    refine js_iload_n rfl ?_
    refine js_iload_n rfl ?_
    refine js_bipush (v := (7 : Int32)) rfl ?_
    obtain ⟨q1, hc_1, hf⟩ := jbind hf
    refine js_c5i rfl rfl ⟨rfl, rfl⟩ rfl rfl (t_C_setPerson hc_1) (by omega) ?_
    refine js_istore rfl rfl ?_
    refine js_goto (tgt := 121) rfl rfl ?_
    exact t_C_set_121 hd _ _ _ _ _ _ hf
  · rcases jif_d hf with ⟨hk, hf⟩ | ⟨hk1, hf⟩
    · refine js_tabIn (v := (1 : Int32)) (off := 53) (tgt := 54) hk rfl rfl rfl rfl ?_
      refine jR_in rfl ⟨rfl, rfl, rfl⟩ rfl ?_
      refine js_aload_n rfl ?_
      refine js_iconst (v := (1 : Int32)) rfl ?_
      refine js_iload_n rfl ?_
      refine js_iload_n rfl ?_
      refine js_sipush (v := (9999 : Int32)) rfl ?_
      obtain ⟨q2, hc_2, hf⟩ := jbind hf
      refine js_c5i rfl rfl ⟨rfl, rfl⟩ rfl rfl (t_C_setPerson hc_2) (by omega) ?_
      refine js_istore rfl rfl ?_
      refine js_goto (tgt := 121) rfl rfl ?_
      exact t_C_set_121 hd _ _ _ _ _ _ hf
    · rcases jif_d hf with ⟨hk, hf⟩ | ⟨hk2, hf⟩
      · refine js_tabIn (v := (2 : Int32)) (off := 68) (tgt := 69) hk rfl rfl rfl rfl ?_
        refine jR_in rfl ⟨rfl, rfl, rfl⟩ rfl ?_
        refine js_aload_n rfl ?_
        refine js_iconst (v := (2 : Int32)) rfl ?_
        refine js_iload_n rfl ?_
        refine js_iload_n rfl ?_
        refine js_bipush (v := (9 : Int32)) rfl ?_
        obtain ⟨q3, hc_3, hf⟩ := jbind hf
        refine js_c5i rfl rfl ⟨rfl, rfl⟩ rfl rfl (t_C_setPerson hc_3) (by omega) ?_
        refine js_istore rfl rfl ?_
        refine js_goto (tgt := 121) rfl rfl ?_
        exact t_C_set_121 hd _ _ _ _ _ _ hf
      · rcases jif_d hf with ⟨hk, hf⟩ | ⟨hk3, hf⟩
        · refine js_tabIn (v := (3 : Int32)) (off := 82) (tgt := 83) hk rfl rfl rfl rfl ?_
          refine jR_in rfl ⟨rfl, rfl, rfl⟩ rfl ?_
          refine js_aload_n rfl ?_
          refine js_iconst (v := (3 : Int32)) rfl ?_
          refine js_iload_n rfl ?_
          refine js_iload_n rfl ?_
          refine js_bipush (v := (7 : Int32)) rfl ?_
          obtain ⟨q4, hc_4, hf⟩ := jbind hf
          refine js_c5i rfl rfl ⟨rfl, rfl⟩ rfl rfl (t_C_setPerson hc_4) (by omega) ?_
          refine js_istore rfl rfl ?_
          refine js_goto (tgt := 121) rfl rfl ?_
          exact t_C_set_121 hd _ _ _ _ _ _ hf
        · rcases jif_d hf with ⟨hk, hf⟩ | ⟨hk4, hf⟩
          · refine js_tabIn (v := (4 : Int32)) (off := 96) (tgt := 97) hk rfl rfl rfl rfl ?_
            refine jR_in rfl ⟨rfl, rfl, rfl⟩ rfl ?_
            refine js_aload_n rfl ?_
            refine js_iload_n rfl ?_
            refine js_iload_n rfl ?_
            obtain ⟨q5, hc_5, hf⟩ := jbind hf
            refine js_c3i rfl rfl ⟨rfl, rfl⟩ rfl rfl (t_C_setEyes hc_5) (by omega) ?_
            refine js_istore rfl rfl ?_
            refine js_goto (tgt := 121) rfl rfl ?_
            exact t_C_set_121 hd _ _ _ _ _ _ hf
          · rcases jif_d hf with ⟨hk, hf⟩ | ⟨hk5, hf⟩
            · refine js_tabIn (v := (5 : Int32)) (off := 107) (tgt := 108) hk rfl rfl rfl rfl ?_
              refine jR_in rfl ⟨rfl, rfl, rfl⟩ rfl ?_
              refine js_aload_n rfl ?_
              refine js_iload_n rfl ?_
              refine js_c2i rfl rfl ⟨rfl, rfl⟩ rfl rfl (t_C_setDay rfl) (by omega) ?_
              refine js_istore rfl rfl ?_
              refine js_goto (tgt := 121) rfl rfl ?_
              exact t_C_set_121 hd _ _ _ _ _ _ hf
            · refine js_tabOut (tgt := 118) (jsw_1 hk0 hk1 hk2 hk3 hk4 hk5) rfl rfl ?_
              refine jR_in rfl ⟨rfl, rfl, rfl⟩ rfl ?_
              refine js_iconst (v := (0 : Int32)) rfl ?_
              refine js_istore rfl rfl ?_
              exact jS_out rfl ⟨rfl, rfl, rfl⟩ rfl (t_C_set_121 hd _ _ _ _ _ _ hf)
theorem b_C_set {a1 : Int32} {a2 : Int32} {a3 : Int32} {M : jp_M} {res : Int32 × jp_M} (hf : f_C_set a1 a2 a3 M = some res) : res.1 = 0 ∨ res.1 = 1 := by
  unfold f_C_set at hf
  rcases jif_d hf with ⟨h, hf⟩ | ⟨h, hf⟩
  · obtain ⟨q1, hc_1, hf⟩ := jbind hf
    exact b_C_set_121 _ _ hf
  · rcases jif_d hf with ⟨h, hf⟩ | ⟨h, hf⟩
    · obtain ⟨q2, hc_2, hf⟩ := jbind hf
      exact b_C_set_121 _ _ hf
    · rcases jif_d hf with ⟨h, hf⟩ | ⟨h, hf⟩
      · obtain ⟨q3, hc_3, hf⟩ := jbind hf
        exact b_C_set_121 _ _ hf
      · rcases jif_d hf with ⟨h, hf⟩ | ⟨h, hf⟩
        · obtain ⟨q4, hc_4, hf⟩ := jbind hf
          exact b_C_set_121 _ _ hf
        · rcases jif_d hf with ⟨h, hf⟩ | ⟨h, hf⟩
          · obtain ⟨q5, hc_5, hf⟩ := jbind hf
            exact b_C_set_121 _ _ hf
          · rcases jif_d hf with ⟨h, hf⟩ | ⟨h, hf⟩
            · exact b_C_set_121 _ _ hf
            · exact b_C_set_121 _ _ hf
/-! SwallowsAir$Keeper.wants(IIIII)Z -/
def f_K_wants (a1 : Int32) (a2 : Int32) (a3 : Int32) (a4 : Int32) (a5 : Int32) (M : jp_M) : Int32 × jp_M :=
  if jp_c .eq (f_W_hasPerson a1 M) 0 = true then (
  ((0 : Int32), M)) else (
  if jp_c .eq (f_C_within a2 (5 : Int32)) 0 = true then (
  ((0 : Int32), M)) else (
  if jp_c .eq (f_C_within a3 (9 : Int32)) 0 = true then (
  ((0 : Int32), M)) else (
  if jp_c .lt a4 0 = true then (
  ((0 : Int32), M)) else (
  if jp_c .lt a5 (1 : Int32) = true then (
  ((0 : Int32), M)) else (
  if jp_c .le a5 (30 : Int32) = true then (
  if jp_c .lt (a4 % (10 : Int32)) (a4 / (10 : Int32)) = true then (
  ((0 : Int32), M)) else (
  if jp_c .lt (a4 % (10 : Int32)) (8 : Int32) = true then (
  let M4 := jp_set M 55 (upd (M 55) 1 a1)
  let M5 := jp_set M4 55 (upd (M4 55) 2 a2)
  let M6 := jp_set M5 55 (upd (M5 55) 3 a3)
  let M7 := jp_set M6 55 (upd (M6 55) 4 (a4 / (10 : Int32)))
  let M8 := jp_set M7 55 (upd (M7 55) 5 (a4 % (10 : Int32)))
  let M9 := jp_set M8 55 (upd (M8 55) 6 a5)
  ((1 : Int32), M9)) else (
  ((0 : Int32), M)))) else (
  ((0 : Int32), M)))))))
theorem t_K_wants {Ln : Nat} {xs : Nat → Int32} {sv : jp_V} {a1 : Int32} {a2 : Int32} {a3 : Int32} {a4 : Int32} {a5 : Int32} {w : Nat} {M : jp_M} {res : Int32 × jp_M} (hf : f_K_wants a1 a2 a3 a4 a5 M = res) : jE (jZ (jK Ln xs sv)) 1 21 [(.inr (some 54)), (.inl a1), (.inl a2), (.inl a3), (.inl a4), (.inl a5)] (jSH w) M (some (.inl res.1), jSH w, res.2) := by
  unfold f_K_wants at hf
  refine jE_in (L0 := [some (.inr (some 54)), some (.inl a1), some (.inl a2), some (.inl a3), some (.inl a4), some (.inl a5), none, none]) rfl (Nat.le_of_ble_eq_true rfl) rfl (fun d hd => ?_)
  refine jR_in rfl ⟨rfl, rfl, rfl⟩ rfl ?_
  refine js_aload_n rfl ?_
  refine js_getr rfl rfl rfl ?_
  refine js_iload_n rfl ?_
  refine js_c2i rfl rfl ⟨rfl, rfl⟩ rfl rfl (t_W_hasPerson rfl) (by omega) ?_
  refine js_ifc (tgt := 46) rfl rfl (fun h => ?_) (fun h => ?_)
  · have hf := jif_t hf h
    refine jR_in rfl ⟨rfl, rfl, rfl⟩ rfl ?_
    refine js_iconst (v := (0 : Int32)) rfl ?_
    subst hf
    exact js_iret rfl rfl
  · have hf := jif_f hf h
    refine js_iload_n rfl ?_
    refine js_iconst (v := (5 : Int32)) rfl ?_
    refine js_c2i rfl rfl ⟨rfl, rfl⟩ rfl rfl (t_C_within rfl) (by omega) ?_
    refine js_ifc (tgt := 46) rfl rfl (fun h => ?_) (fun h => ?_)
    · have hf := jif_t hf h
      refine jR_in rfl ⟨rfl, rfl, rfl⟩ rfl ?_
      refine js_iconst (v := (0 : Int32)) rfl ?_
      subst hf
      exact js_iret rfl rfl
    · have hf := jif_f hf h
      refine js_iload_n rfl ?_
      refine js_bipush (v := (9 : Int32)) rfl ?_
      refine js_c2i rfl rfl ⟨rfl, rfl⟩ rfl rfl (t_C_within rfl) (by omega) ?_
      refine js_ifc (tgt := 46) rfl rfl (fun h => ?_) (fun h => ?_)
      · have hf := jif_t hf h
        refine jR_in rfl ⟨rfl, rfl, rfl⟩ rfl ?_
        refine js_iconst (v := (0 : Int32)) rfl ?_
        subst hf
        exact js_iret rfl rfl
      · have hf := jif_f hf h
        refine js_iload rfl ?_
        refine js_ifc (tgt := 46) rfl rfl (fun h => ?_) (fun h => ?_)
        · have hf := jif_t hf h
          refine jR_in rfl ⟨rfl, rfl, rfl⟩ rfl ?_
          refine js_iconst (v := (0 : Int32)) rfl ?_
          subst hf
          exact js_iret rfl rfl
        · have hf := jif_f hf h
          refine js_iload rfl ?_
          refine js_iconst (v := (1 : Int32)) rfl ?_
          refine js_icmp (tgt := 46) rfl rfl (fun h => ?_) (fun h => ?_)
          · have hf := jif_t hf h
            refine jR_in rfl ⟨rfl, rfl, rfl⟩ rfl ?_
            refine js_iconst (v := (0 : Int32)) rfl ?_
            subst hf
            exact js_iret rfl rfl
          · have hf := jif_f hf h
            refine js_iload rfl ?_
            refine js_bipush (v := (30 : Int32)) rfl ?_
            refine js_icmp (tgt := 48) rfl rfl (fun h => ?_) (fun h => ?_)
            · have hf := jif_t hf h
              refine jR_in rfl ⟨rfl, rfl, rfl⟩ rfl ?_
              refine js_iload rfl ?_
              refine js_bipush (v := (10 : Int32)) rfl ?_
              refine js_idiv (by decide) ?_
              refine js_istore rfl rfl ?_
              refine js_iload rfl ?_
              refine js_bipush (v := (10 : Int32)) rfl ?_
              refine js_irem (by decide) ?_
              refine js_istore rfl rfl ?_
              refine js_iload rfl ?_
              refine js_iload rfl ?_
              refine js_icmp (tgt := 76) rfl rfl (fun h => ?_) (fun h => ?_)
              · have hf := jif_t hf h
                refine jR_in rfl ⟨rfl, rfl, rfl⟩ rfl ?_
                refine js_iconst (v := (0 : Int32)) rfl ?_
                subst hf
                exact js_iret rfl rfl
              · have hf := jif_f hf h
                refine js_iload rfl ?_
                refine js_bipush (v := (8 : Int32)) rfl ?_
                refine js_icmp (tgt := 78) rfl rfl (fun h => ?_) (fun h => ?_)
                · have hf := jif_t hf h
                  refine jR_in rfl ⟨rfl, rfl, rfl⟩ rfl ?_
                  refine js_aload_n rfl ?_
                  refine js_getr rfl rfl rfl ?_
                  refine js_iconst (v := (1 : Int32)) rfl ?_
                  refine js_iload_n rfl ?_
                  refine js_iast rfl (by decide) ?_
                  refine js_aload_n rfl ?_
                  refine js_getr rfl rfl rfl ?_
                  refine js_iconst (v := (2 : Int32)) rfl ?_
                  refine js_iload_n rfl ?_
                  refine js_iast rfl (by decide) ?_
                  refine js_aload_n rfl ?_
                  refine js_getr rfl rfl rfl ?_
                  refine js_iconst (v := (3 : Int32)) rfl ?_
                  refine js_iload_n rfl ?_
                  refine js_iast rfl (by decide) ?_
                  refine js_aload_n rfl ?_
                  refine js_getr rfl rfl rfl ?_
                  refine js_iconst (v := (4 : Int32)) rfl ?_
                  refine js_iload rfl ?_
                  refine js_iast rfl (by decide) ?_
                  refine js_aload_n rfl ?_
                  refine js_getr rfl rfl rfl ?_
                  refine js_iconst (v := (5 : Int32)) rfl ?_
                  refine js_iload rfl ?_
                  refine js_iast rfl (by decide) ?_
                  refine js_aload_n rfl ?_
                  refine js_getr rfl rfl rfl ?_
                  refine js_bipush (v := (6 : Int32)) rfl ?_
                  refine js_iload rfl ?_
                  refine js_iast rfl (by decide) ?_
                  refine js_iconst (v := (1 : Int32)) rfl ?_
                  subst hf
                  exact js_iret rfl rfl
                · have hf := jif_f hf h
                  refine js_iconst (v := (0 : Int32)) rfl ?_
                  subst hf
                  exact js_iret rfl rfl
            · have hf := jif_f hf h
              refine js_iconst (v := (0 : Int32)) rfl ?_
              subst hf
              exact js_iret rfl rfl
theorem b_K_wants {a1 : Int32} {a2 : Int32} {a3 : Int32} {a4 : Int32} {a5 : Int32} {M : jp_M} {res : Int32 × jp_M} (hf : f_K_wants a1 a2 a3 a4 a5 M = res) : res.1 = 0 ∨ res.1 = 1 := by
  unfold f_K_wants at hf
  rcases jif_d hf with ⟨h, hf⟩ | ⟨h, hf⟩
  · subst hf
    exact Or.inl rfl
  · rcases jif_d hf with ⟨h, hf⟩ | ⟨h, hf⟩
    · subst hf
      exact Or.inl rfl
    · rcases jif_d hf with ⟨h, hf⟩ | ⟨h, hf⟩
      · subst hf
        exact Or.inl rfl
      · rcases jif_d hf with ⟨h, hf⟩ | ⟨h, hf⟩
        · subst hf
          exact Or.inl rfl
        · rcases jif_d hf with ⟨h, hf⟩ | ⟨h, hf⟩
          · subst hf
            exact Or.inl rfl
          · rcases jif_d hf with ⟨h, hf⟩ | ⟨h, hf⟩
            · rcases jif_d hf with ⟨h, hf⟩ | ⟨h, hf⟩
              · subst hf
                exact Or.inl rfl
              · rcases jif_d hf with ⟨h, hf⟩ | ⟨h, hf⟩
                · subst hf
                  exact Or.inr rfl
                · subst hf
                  exact Or.inl rfl
            · subst hf
              exact Or.inl rfl
/-! SwallowsAir$World.span(II)I -/
def f_W_span (a0 : Int32) (a1 : Int32) : Int32 :=
  (((1 : Int32) <<< ((a1 + (1 : Int32)) &&& 31)) - ((1 : Int32) <<< (a0 &&& 31)))
theorem t_W_span {Ln : Nat} {xs : Nat → Int32} {sv : jp_V} {a0 : Int32} {a1 : Int32} {w : Nat} {M : jp_M} {res : Int32} (hf : f_W_span a0 a1 = res) : jE (jZ (jK Ln xs sv)) 0 103 [(.inl a0), (.inl a1)] (jSH w) M (some (.inl res), jSH w, M) := by
  unfold f_W_span at hf
  refine jE_in (L0 := [some (.inl a0), some (.inl a1)]) rfl (Nat.le_of_ble_eq_true rfl) rfl (fun d hd => ?_)
  refine jR_in rfl ⟨rfl, rfl, rfl⟩ rfl ?_
  refine js_iconst (v := (1 : Int32)) rfl ?_
  refine js_iload_n rfl ?_
  refine js_iconst (v := (1 : Int32)) rfl ?_
  refine js_iadd ?_
  refine js_ishl ?_
  refine js_iconst (v := (1 : Int32)) rfl ?_
  refine js_iload_n rfl ?_
  refine js_ishl ?_
  refine js_isub ?_
  subst hf
  exact js_iret rfl rfl
/-! SwallowsAir$World.usedAbove(I)I -/
def f_W_usedAbove_49 (c4 : Int32 → Int32 → Int32 → jp_M → Option (Int32)) (l1 : Int32) (l2 : Int32) (l3 : Int32) (M : jp_M) : Option (Int32) :=
  c4 l1 l2 (l3 + (8 : Int32)) M
theorem t_W_usedAbove_49 {Ln : Nat} {xs : Nat → Int32} {sv : jp_V} {d : Nat} (hd : 1 ≤ d) {c4 : Int32 → Int32 → Int32 → jp_M → Option (Int32)} (hc4 : ∀ (l1 : Int32) (l2 : Int32) (l3 : Int32) (w : Nat) (M : jp_M) (res : Int32), c4 l1 l2 l3 M = some res → jR (jZ (jK Ln xs sv)) d 102 4 ([some (.inr (some 2)), some (.inl l1), some (.inl l2), some (.inl l3)], [], jSH w, M) (some (.inl res), jSH w, M)) (l1 : Int32) (l2 : Int32) (l3 : Int32) (w : Nat) (M : jp_M) {res : Int32} (hf : f_W_usedAbove_49 c4 l1 l2 l3 M = some res) : jR (jZ (jK Ln xs sv)) d 102 49 ([some (.inr (some 2)), some (.inl l1), some (.inl l2), some (.inl l3)], [], jSH w, M) (some (.inl res), jSH w, M) := by
  unfold f_W_usedAbove_49 at hf
  refine jR_in rfl ⟨rfl, rfl, rfl⟩ rfl ?_
  refine js_iinc (v := (8 : Int32)) rfl rfl rfl rfl ?_
  refine js_goto (tgt := 4) rfl rfl ?_
  exact hc4 _ _ _ _ _ _ hf
def f_W_usedAbove_4  : Nat → Int32 → Int32 → Int32 → jp_M → Option (Int32)
  | 0, _, _, _, _ => none
  | n + 1, l1, l2, l3, M =>
    if jp_c .ge l3 ((8 : Int32) * (M 2 6)) = true then (
    some l2) else (
    jg (jp_in (l3 + (3 : Int32)) 128) (
    if jp_c .ne (M 5 (Int32.toNatClampNeg (l3 + (3 : Int32)))) l1 = true then (
    f_W_usedAbove_49 (f_W_usedAbove_4 n ) l1 l2 l3 M) else (
    jg (jp_in (l3 + (4 : Int32)) 128) (
    jg (jp_in (l3 + (5 : Int32)) 128) (
    f_W_usedAbove_49 (f_W_usedAbove_4 n ) l1 (l2 ||| (f_W_span (M 5 (Int32.toNatClampNeg (l3 + (4 : Int32)))) (M 5 (Int32.toNatClampNeg (l3 + (5 : Int32)))))) l3 M)))))
theorem t_W_usedAbove_4 {Ln : Nat} {xs : Nat → Int32} {sv : jp_V} {d : Nat} (hd : 1 ≤ d)  : ∀ (n : Nat) (l1 : Int32) (l2 : Int32) (l3 : Int32) (w : Nat) (M : jp_M) {res : Int32}, f_W_usedAbove_4 n  l1 l2 l3 M = some res → jR (jZ (jK Ln xs sv)) d 102 4 ([some (.inr (some 2)), some (.inl l1), some (.inl l2), some (.inl l3)], [], jSH w, M) (some (.inl res), jSH w, M) := by
  intro n
  induction n with
  | zero =>
    intro l1 l2 l3 w M res hf
    cases hf
  | succ n ih =>
    intro l1 l2 l3 w M res hf
    rw [f_W_usedAbove_4] at hf
    refine jR_in rfl ⟨rfl, rfl, rfl⟩ rfl ?_
    refine js_iload_n rfl ?_
    refine js_bipush (v := (8 : Int32)) rfl ?_
    refine js_aload_n rfl ?_
    refine js_geti rfl rfl rfl ?_
    refine js_imul ?_
    refine js_icmp (tgt := 55) rfl rfl (fun h => ?_) (fun h => ?_)
    · have hf := jif_t hf h
      refine jR_in rfl ⟨rfl, rfl, rfl⟩ rfl ?_
      refine js_iload_n rfl ?_
      obtain rfl := Option.some.inj hf
      exact js_iret rfl rfl
    · have hf := jif_f hf h
      refine js_aload_n rfl ?_
      refine js_getr rfl rfl rfl ?_
      refine js_iload_n rfl ?_
      refine js_iconst (v := (3 : Int32)) rfl ?_
      refine js_iadd ?_
      obtain ⟨hb1, hf⟩ := jg_some hf
      refine js_iald rfl hb1 ?_
      refine js_iload_n rfl ?_
      refine js_icmp (tgt := 49) rfl rfl (fun h => ?_) (fun h => ?_)
      · have hf := jif_t hf h
        exact t_W_usedAbove_49 hd (fun l1 l2 l3 w M res hf => ih l1 l2 l3 w M hf) _ _ _ _ _ hf
      · have hf := jif_f hf h
        refine js_iload_n rfl ?_
        refine js_aload_n rfl ?_
        refine js_getr rfl rfl rfl ?_
        refine js_iload_n rfl ?_
        refine js_iconst (v := (4 : Int32)) rfl ?_
        refine js_iadd ?_
        obtain ⟨hb2, hf⟩ := jg_some hf
        refine js_iald rfl hb2 ?_
        refine js_aload_n rfl ?_
        refine js_getr rfl rfl rfl ?_
        refine js_iload_n rfl ?_
        refine js_iconst (v := (5 : Int32)) rfl ?_
        refine js_iadd ?_
        obtain ⟨hb3, hf⟩ := jg_some hf
        refine js_iald rfl hb3 ?_
        refine js_c2i rfl rfl ⟨rfl, rfl⟩ rfl rfl (t_W_span rfl) (by omega) ?_
        refine js_ior ?_
        refine js_istore_n rfl rfl ?_
        exact jS_out rfl ⟨rfl, rfl, rfl⟩ rfl (t_W_usedAbove_49 hd (fun l1 l2 l3 w M res hf => ih l1 l2 l3 w M hf) _ _ _ _ _ hf)
def f_W_usedAbove (a1 : Int32) (M : jp_M) : Option (Int32) :=
  f_W_usedAbove_4 jFu a1 (0 : Int32) (0 : Int32) M
theorem t_W_usedAbove {Ln : Nat} {xs : Nat → Int32} {sv : jp_V} {a1 : Int32} {w : Nat} {M : jp_M} {res : Int32} (hf : f_W_usedAbove a1 M = some res) : jE (jZ (jK Ln xs sv)) 1 102 [(.inr (some 2)), (.inl a1)] (jSH w) M (some (.inl res), jSH w, M) := by
  unfold f_W_usedAbove at hf
  refine jE_in (L0 := [some (.inr (some 2)), some (.inl a1), none, none]) rfl (Nat.le_of_ble_eq_true rfl) rfl (fun d hd => ?_)
  refine jR_in rfl ⟨rfl, rfl, rfl⟩ rfl ?_
  refine js_iconst (v := (0 : Int32)) rfl ?_
  refine js_istore_n rfl rfl ?_
  refine js_iconst (v := (0 : Int32)) rfl ?_
  refine js_istore_n rfl rfl ?_
  exact jS_out rfl ⟨rfl, rfl, rfl⟩ rfl (t_W_usedAbove_4 hd jFu _ _ _ _ _ hf)
/-! SwallowsAir$Keeper.fits()Z -/
def f_K_fits (M : jp_M) : Option (Int32) :=
  if jp_c .ge (M 2 6) (16 : Int32) = true then (
  some (0 : Int32)) else (
  (f_W_usedAbove (M 55 3) M).bind fun q2 => (
  if jp_c .ne (q2 &&& (f_W_span (M 55 4) (M 55 5))) 0 = true then (
  some (0 : Int32)) else (
  some (1 : Int32))))
theorem t_K_fits {Ln : Nat} {xs : Nat → Int32} {sv : jp_V} {w : Nat} {M : jp_M} {res : Int32} (hf : f_K_fits M = some res) : jE (jZ (jK Ln xs sv)) 2 22 [(.inr (some 54))] (jSH w) M (some (.inl res), jSH w, M) := by
  unfold f_K_fits at hf
  refine jE_in (L0 := [some (.inr (some 54)), none]) rfl (Nat.le_of_ble_eq_true rfl) rfl (fun d hd => ?_)
  refine jR_in rfl ⟨rfl, rfl, rfl⟩ rfl ?_
  refine js_aload_n rfl ?_
  refine js_getr rfl rfl rfl ?_
  refine js_iconst (v := (4 : Int32)) rfl ?_
  refine js_iald rfl (by decide) ?_
  refine js_aload_n rfl ?_
  refine js_getr rfl rfl rfl ?_
  refine js_iconst (v := (5 : Int32)) rfl ?_
  refine js_iald rfl (by decide) ?_
  refine js_c2i rfl rfl ⟨rfl, rfl⟩ rfl rfl (t_W_span rfl) (by omega) ?_
  refine js_istore_n rfl rfl ?_
  refine js_aload_n rfl ?_
  refine js_getr rfl rfl rfl ?_
  refine js_geti rfl rfl rfl ?_
  refine js_bipush (v := (16 : Int32)) rfl ?_
  refine js_icmp (tgt := 50) rfl rfl (fun h => ?_) (fun h => ?_)
  · have hf := jif_t hf h
    refine jR_in rfl ⟨rfl, rfl, rfl⟩ rfl ?_
    refine js_iconst (v := (0 : Int32)) rfl ?_
    obtain rfl := Option.some.inj hf
    exact js_iret rfl rfl
  · have hf := jif_f hf h
    refine js_aload_n rfl ?_
    refine js_getr rfl rfl rfl ?_
    refine js_aload_n rfl ?_
    refine js_getr rfl rfl rfl ?_
    refine js_iconst (v := (3 : Int32)) rfl ?_
    refine js_iald rfl (by decide) ?_
    obtain ⟨q2, hc_2, hf⟩ := jbind hf
    refine js_c2i rfl rfl ⟨rfl, rfl⟩ rfl rfl (t_W_usedAbove hc_2) (by omega) ?_
    refine js_iload_n rfl ?_
    refine js_iand ?_
    refine js_ifc (tgt := 50) rfl rfl (fun h => ?_) (fun h => ?_)
    · have hf := jif_t hf h
      refine jR_in rfl ⟨rfl, rfl, rfl⟩ rfl ?_
      refine js_iconst (v := (0 : Int32)) rfl ?_
      obtain rfl := Option.some.inj hf
      exact js_iret rfl rfl
    · have hf := jif_f hf h
      refine js_iconst (v := (1 : Int32)) rfl ?_
      refine js_goto (tgt := 51) rfl rfl ?_
      refine jR_in rfl ⟨rfl, rfl, rfl⟩ rfl ?_
      obtain rfl := Option.some.inj hf
      exact js_iret rfl rfl
theorem b_K_fits {M : jp_M} {res : Int32} (hf : f_K_fits M = some res) : res = 0 ∨ res = 1 := by
  unfold f_K_fits at hf
  rcases jif_d hf with ⟨h, hf⟩ | ⟨h, hf⟩
  · obtain rfl := Option.some.inj hf
    exact Or.inl rfl
  · obtain ⟨q2, hc_2, hf⟩ := jbind hf
    rcases jif_d hf with ⟨h, hf⟩ | ⟨h, hf⟩
    · obtain rfl := Option.some.inj hf
      exact Or.inl rfl
    · obtain rfl := Option.some.inj hf
      exact Or.inr rfl
/-! SwallowsAir$World.becomes(LSwallowsAir$World;)V -/
def f_W_becomes (M : jp_M) : jp_M :=
  let M1 := jp_set M 80 (upd (M 80) 0 (M 2 0))
  let M2 := jp_set M1 80 (upd (M1 80) 1 (M1 2 1))
  let M3 := jp_set M2 80 (upd (M2 80) 2 (M2 2 2))
  let M4 := jp_set M3 80 (upd (M3 80) 3 (M3 2 3))
  let M5 := jp_set M4 80 (upd (M4 80) 4 (M4 2 4))
  let M6 := jp_set M5 80 (upd (M5 80) 5 (M5 2 5))
  let M7 := jp_set M6 80 (upd (M6 80) 6 (M6 2 6))
  let M8 := jp_set M7 80 (upd (M7 80) 7 (M7 2 7))
  let M9 := jp_set M8 81 (va_cpy (M8 3) (M8 81) 0 0 50)
  let M10 := jp_set M9 82 (va_cpy (M9 4) (M9 82) 0 0 30)
  let M11 := jp_set M10 83 (va_cpy (M10 5) (M10 83) 0 0 128)
  M11
theorem t_W_becomes {Ln : Nat} {xs : Nat → Int32} {sv : jp_V} {w : Nat} {M : jp_M} {res : jp_M} (hf : f_W_becomes M = res) : jE (jZ (jK Ln xs sv)) 0 96 [(.inr (some 80)), (.inr (some 2))] (jSH w) M (none, jSH w, res) := by
  unfold f_W_becomes at hf
  refine jE_in (L0 := [some (.inr (some 80)), some (.inr (some 2))]) rfl (Nat.le_of_ble_eq_true rfl) rfl (fun d hd => ?_)
  refine jR_in rfl ⟨rfl, rfl, rfl⟩ rfl ?_
  refine js_aload_n rfl ?_
  refine js_ifnonnull (tgt := 5) rfl rfl ?_
  refine jR_in rfl ⟨rfl, rfl, rfl⟩ rfl ?_
  refine js_aload_n rfl ?_
  refine js_aload_n rfl ?_
  refine js_geti rfl rfl rfl ?_
  refine js_puti rfl rfl (Or.inl rfl) ?_
  refine js_aload_n rfl ?_
  refine js_aload_n rfl ?_
  refine js_geti rfl rfl rfl ?_
  refine js_puti rfl rfl (Or.inl rfl) ?_
  refine js_aload_n rfl ?_
  refine js_aload_n rfl ?_
  refine js_geti rfl rfl rfl ?_
  refine js_puti rfl rfl (Or.inl rfl) ?_
  refine js_aload_n rfl ?_
  refine js_aload_n rfl ?_
  refine js_geti rfl rfl rfl ?_
  refine js_puti rfl rfl (Or.inl rfl) ?_
  refine js_aload_n rfl ?_
  refine js_aload_n rfl ?_
  refine js_geti rfl rfl rfl ?_
  refine js_puti rfl rfl (Or.inl rfl) ?_
  refine js_aload_n rfl ?_
  refine js_aload_n rfl ?_
  refine js_geti rfl rfl rfl ?_
  refine js_puti rfl rfl (Or.inl rfl) ?_
  refine js_aload_n rfl ?_
  refine js_aload_n rfl ?_
  refine js_geti rfl rfl rfl ?_
  refine js_puti rfl rfl (Or.inl rfl) ?_
  refine js_aload_n rfl ?_
  refine js_aload_n rfl ?_
  refine js_geti rfl rfl rfl ?_
  refine js_puti rfl rfl (Or.inl rfl) ?_
  refine js_aload_n rfl ?_
  refine js_getr rfl rfl rfl ?_
  refine js_iconst (v := (0 : Int32)) rfl ?_
  refine js_aload_n rfl ?_
  refine js_getr rfl rfl rfl ?_
  refine js_iconst (v := (0 : Int32)) rfl ?_
  refine js_aload_n rfl ?_
  refine js_getr rfl rfl rfl ?_
  refine js_alen (v := (50 : Int32)) rfl rfl rfl ?_
  refine js_copy rfl rfl rfl (by decide) (by decide) rfl ?_
  refine js_aload_n rfl ?_
  refine js_getr rfl rfl rfl ?_
  refine js_iconst (v := (0 : Int32)) rfl ?_
  refine js_aload_n rfl ?_
  refine js_getr rfl rfl rfl ?_
  refine js_iconst (v := (0 : Int32)) rfl ?_
  refine js_aload_n rfl ?_
  refine js_getr rfl rfl rfl ?_
  refine js_alen (v := (30 : Int32)) rfl rfl rfl ?_
  refine js_copy rfl rfl rfl (by decide) (by decide) rfl ?_
  refine js_aload_n rfl ?_
  refine js_getr rfl rfl rfl ?_
  refine js_iconst (v := (0 : Int32)) rfl ?_
  refine js_aload_n rfl ?_
  refine js_getr rfl rfl rfl ?_
  refine js_iconst (v := (0 : Int32)) rfl ?_
  refine js_aload_n rfl ?_
  refine js_getr rfl rfl rfl ?_
  refine js_alen (v := (128 : Int32)) rfl rfl rfl ?_
  refine js_copy rfl rfl rfl (by decide) (by decide) rfl ?_
  subst hf
  exact js_ret rfl rfl
/-! SwallowsAir$World.becomes(LSwallowsAir$World;)V -/
def f_W_becomes_1 (M : jp_M) : jp_M :=
  let M1 := jp_set M 84 (upd (M 84) 0 (M 2 0))
  let M2 := jp_set M1 84 (upd (M1 84) 1 (M1 2 1))
  let M3 := jp_set M2 84 (upd (M2 84) 2 (M2 2 2))
  let M4 := jp_set M3 84 (upd (M3 84) 3 (M3 2 3))
  let M5 := jp_set M4 84 (upd (M4 84) 4 (M4 2 4))
  let M6 := jp_set M5 84 (upd (M5 84) 5 (M5 2 5))
  let M7 := jp_set M6 84 (upd (M6 84) 6 (M6 2 6))
  let M8 := jp_set M7 84 (upd (M7 84) 7 (M7 2 7))
  let M9 := jp_set M8 85 (va_cpy (M8 3) (M8 85) 0 0 50)
  let M10 := jp_set M9 86 (va_cpy (M9 4) (M9 86) 0 0 30)
  let M11 := jp_set M10 87 (va_cpy (M10 5) (M10 87) 0 0 128)
  M11
theorem t_W_becomes_1 {Ln : Nat} {xs : Nat → Int32} {sv : jp_V} {w : Nat} {M : jp_M} {res : jp_M} (hf : f_W_becomes_1 M = res) : jE (jZ (jK Ln xs sv)) 0 96 [(.inr (some 84)), (.inr (some 2))] (jSH w) M (none, jSH w, res) := by
  unfold f_W_becomes_1 at hf
  refine jE_in (L0 := [some (.inr (some 84)), some (.inr (some 2))]) rfl (Nat.le_of_ble_eq_true rfl) rfl (fun d hd => ?_)
  refine jR_in rfl ⟨rfl, rfl, rfl⟩ rfl ?_
  refine js_aload_n rfl ?_
  refine js_ifnonnull (tgt := 5) rfl rfl ?_
  refine jR_in rfl ⟨rfl, rfl, rfl⟩ rfl ?_
  refine js_aload_n rfl ?_
  refine js_aload_n rfl ?_
  refine js_geti rfl rfl rfl ?_
  refine js_puti rfl rfl (Or.inl rfl) ?_
  refine js_aload_n rfl ?_
  refine js_aload_n rfl ?_
  refine js_geti rfl rfl rfl ?_
  refine js_puti rfl rfl (Or.inl rfl) ?_
  refine js_aload_n rfl ?_
  refine js_aload_n rfl ?_
  refine js_geti rfl rfl rfl ?_
  refine js_puti rfl rfl (Or.inl rfl) ?_
  refine js_aload_n rfl ?_
  refine js_aload_n rfl ?_
  refine js_geti rfl rfl rfl ?_
  refine js_puti rfl rfl (Or.inl rfl) ?_
  refine js_aload_n rfl ?_
  refine js_aload_n rfl ?_
  refine js_geti rfl rfl rfl ?_
  refine js_puti rfl rfl (Or.inl rfl) ?_
  refine js_aload_n rfl ?_
  refine js_aload_n rfl ?_
  refine js_geti rfl rfl rfl ?_
  refine js_puti rfl rfl (Or.inl rfl) ?_
  refine js_aload_n rfl ?_
  refine js_aload_n rfl ?_
  refine js_geti rfl rfl rfl ?_
  refine js_puti rfl rfl (Or.inl rfl) ?_
  refine js_aload_n rfl ?_
  refine js_aload_n rfl ?_
  refine js_geti rfl rfl rfl ?_
  refine js_puti rfl rfl (Or.inl rfl) ?_
  refine js_aload_n rfl ?_
  refine js_getr rfl rfl rfl ?_
  refine js_iconst (v := (0 : Int32)) rfl ?_
  refine js_aload_n rfl ?_
  refine js_getr rfl rfl rfl ?_
  refine js_iconst (v := (0 : Int32)) rfl ?_
  refine js_aload_n rfl ?_
  refine js_getr rfl rfl rfl ?_
  refine js_alen (v := (50 : Int32)) rfl rfl rfl ?_
  refine js_copy rfl rfl rfl (by decide) (by decide) rfl ?_
  refine js_aload_n rfl ?_
  refine js_getr rfl rfl rfl ?_
  refine js_iconst (v := (0 : Int32)) rfl ?_
  refine js_aload_n rfl ?_
  refine js_getr rfl rfl rfl ?_
  refine js_iconst (v := (0 : Int32)) rfl ?_
  refine js_aload_n rfl ?_
  refine js_getr rfl rfl rfl ?_
  refine js_alen (v := (30 : Int32)) rfl rfl rfl ?_
  refine js_copy rfl rfl rfl (by decide) (by decide) rfl ?_
  refine js_aload_n rfl ?_
  refine js_getr rfl rfl rfl ?_
  refine js_iconst (v := (0 : Int32)) rfl ?_
  refine js_aload_n rfl ?_
  refine js_getr rfl rfl rfl ?_
  refine js_iconst (v := (0 : Int32)) rfl ?_
  refine js_aload_n rfl ?_
  refine js_getr rfl rfl rfl ?_
  refine js_alen (v := (128 : Int32)) rfl rfl rfl ?_
  refine js_copy rfl rfl rfl (by decide) (by decide) rfl ?_
  subst hf
  exact js_ret rfl rfl
/-! SwallowsAir$World.becomes(LSwallowsAir$World;)V -/
def f_W_becomes_2 (M : jp_M) : jp_M :=
  let M1 := jp_set M 88 (upd (M 88) 0 (M 2 0))
  let M2 := jp_set M1 88 (upd (M1 88) 1 (M1 2 1))
  let M3 := jp_set M2 88 (upd (M2 88) 2 (M2 2 2))
  let M4 := jp_set M3 88 (upd (M3 88) 3 (M3 2 3))
  let M5 := jp_set M4 88 (upd (M4 88) 4 (M4 2 4))
  let M6 := jp_set M5 88 (upd (M5 88) 5 (M5 2 5))
  let M7 := jp_set M6 88 (upd (M6 88) 6 (M6 2 6))
  let M8 := jp_set M7 88 (upd (M7 88) 7 (M7 2 7))
  let M9 := jp_set M8 89 (va_cpy (M8 3) (M8 89) 0 0 50)
  let M10 := jp_set M9 90 (va_cpy (M9 4) (M9 90) 0 0 30)
  let M11 := jp_set M10 91 (va_cpy (M10 5) (M10 91) 0 0 128)
  M11
theorem t_W_becomes_2 {Ln : Nat} {xs : Nat → Int32} {sv : jp_V} {w : Nat} {M : jp_M} {res : jp_M} (hf : f_W_becomes_2 M = res) : jE (jZ (jK Ln xs sv)) 0 96 [(.inr (some 88)), (.inr (some 2))] (jSH w) M (none, jSH w, res) := by
  unfold f_W_becomes_2 at hf
  refine jE_in (L0 := [some (.inr (some 88)), some (.inr (some 2))]) rfl (Nat.le_of_ble_eq_true rfl) rfl (fun d hd => ?_)
  refine jR_in rfl ⟨rfl, rfl, rfl⟩ rfl ?_
  refine js_aload_n rfl ?_
  refine js_ifnonnull (tgt := 5) rfl rfl ?_
  refine jR_in rfl ⟨rfl, rfl, rfl⟩ rfl ?_
  refine js_aload_n rfl ?_
  refine js_aload_n rfl ?_
  refine js_geti rfl rfl rfl ?_
  refine js_puti rfl rfl (Or.inl rfl) ?_
  refine js_aload_n rfl ?_
  refine js_aload_n rfl ?_
  refine js_geti rfl rfl rfl ?_
  refine js_puti rfl rfl (Or.inl rfl) ?_
  refine js_aload_n rfl ?_
  refine js_aload_n rfl ?_
  refine js_geti rfl rfl rfl ?_
  refine js_puti rfl rfl (Or.inl rfl) ?_
  refine js_aload_n rfl ?_
  refine js_aload_n rfl ?_
  refine js_geti rfl rfl rfl ?_
  refine js_puti rfl rfl (Or.inl rfl) ?_
  refine js_aload_n rfl ?_
  refine js_aload_n rfl ?_
  refine js_geti rfl rfl rfl ?_
  refine js_puti rfl rfl (Or.inl rfl) ?_
  refine js_aload_n rfl ?_
  refine js_aload_n rfl ?_
  refine js_geti rfl rfl rfl ?_
  refine js_puti rfl rfl (Or.inl rfl) ?_
  refine js_aload_n rfl ?_
  refine js_aload_n rfl ?_
  refine js_geti rfl rfl rfl ?_
  refine js_puti rfl rfl (Or.inl rfl) ?_
  refine js_aload_n rfl ?_
  refine js_aload_n rfl ?_
  refine js_geti rfl rfl rfl ?_
  refine js_puti rfl rfl (Or.inl rfl) ?_
  refine js_aload_n rfl ?_
  refine js_getr rfl rfl rfl ?_
  refine js_iconst (v := (0 : Int32)) rfl ?_
  refine js_aload_n rfl ?_
  refine js_getr rfl rfl rfl ?_
  refine js_iconst (v := (0 : Int32)) rfl ?_
  refine js_aload_n rfl ?_
  refine js_getr rfl rfl rfl ?_
  refine js_alen (v := (50 : Int32)) rfl rfl rfl ?_
  refine js_copy rfl rfl rfl (by decide) (by decide) rfl ?_
  refine js_aload_n rfl ?_
  refine js_getr rfl rfl rfl ?_
  refine js_iconst (v := (0 : Int32)) rfl ?_
  refine js_aload_n rfl ?_
  refine js_getr rfl rfl rfl ?_
  refine js_iconst (v := (0 : Int32)) rfl ?_
  refine js_aload_n rfl ?_
  refine js_getr rfl rfl rfl ?_
  refine js_alen (v := (30 : Int32)) rfl rfl rfl ?_
  refine js_copy rfl rfl rfl (by decide) (by decide) rfl ?_
  refine js_aload_n rfl ?_
  refine js_getr rfl rfl rfl ?_
  refine js_iconst (v := (0 : Int32)) rfl ?_
  refine js_aload_n rfl ?_
  refine js_getr rfl rfl rfl ?_
  refine js_iconst (v := (0 : Int32)) rfl ?_
  refine js_aload_n rfl ?_
  refine js_getr rfl rfl rfl ?_
  refine js_alen (v := (128 : Int32)) rfl rfl rfl ?_
  refine js_copy rfl rfl rfl (by decide) (by decide) rfl ?_
  subst hf
  exact js_ret rfl rfl
/-! SwallowsAir$World.becomes(LSwallowsAir$World;)V -/
def f_W_becomes_3 (M : jp_M) : jp_M :=
  let M1 := jp_set M 92 (upd (M 92) 0 (M 2 0))
  let M2 := jp_set M1 92 (upd (M1 92) 1 (M1 2 1))
  let M3 := jp_set M2 92 (upd (M2 92) 2 (M2 2 2))
  let M4 := jp_set M3 92 (upd (M3 92) 3 (M3 2 3))
  let M5 := jp_set M4 92 (upd (M4 92) 4 (M4 2 4))
  let M6 := jp_set M5 92 (upd (M5 92) 5 (M5 2 5))
  let M7 := jp_set M6 92 (upd (M6 92) 6 (M6 2 6))
  let M8 := jp_set M7 92 (upd (M7 92) 7 (M7 2 7))
  let M9 := jp_set M8 93 (va_cpy (M8 3) (M8 93) 0 0 50)
  let M10 := jp_set M9 94 (va_cpy (M9 4) (M9 94) 0 0 30)
  let M11 := jp_set M10 95 (va_cpy (M10 5) (M10 95) 0 0 128)
  M11
theorem t_W_becomes_3 {Ln : Nat} {xs : Nat → Int32} {sv : jp_V} {w : Nat} {M : jp_M} {res : jp_M} (hf : f_W_becomes_3 M = res) : jE (jZ (jK Ln xs sv)) 0 96 [(.inr (some 92)), (.inr (some 2))] (jSH w) M (none, jSH w, res) := by
  unfold f_W_becomes_3 at hf
  refine jE_in (L0 := [some (.inr (some 92)), some (.inr (some 2))]) rfl (Nat.le_of_ble_eq_true rfl) rfl (fun d hd => ?_)
  refine jR_in rfl ⟨rfl, rfl, rfl⟩ rfl ?_
  refine js_aload_n rfl ?_
  refine js_ifnonnull (tgt := 5) rfl rfl ?_
  refine jR_in rfl ⟨rfl, rfl, rfl⟩ rfl ?_
  refine js_aload_n rfl ?_
  refine js_aload_n rfl ?_
  refine js_geti rfl rfl rfl ?_
  refine js_puti rfl rfl (Or.inl rfl) ?_
  refine js_aload_n rfl ?_
  refine js_aload_n rfl ?_
  refine js_geti rfl rfl rfl ?_
  refine js_puti rfl rfl (Or.inl rfl) ?_
  refine js_aload_n rfl ?_
  refine js_aload_n rfl ?_
  refine js_geti rfl rfl rfl ?_
  refine js_puti rfl rfl (Or.inl rfl) ?_
  refine js_aload_n rfl ?_
  refine js_aload_n rfl ?_
  refine js_geti rfl rfl rfl ?_
  refine js_puti rfl rfl (Or.inl rfl) ?_
  refine js_aload_n rfl ?_
  refine js_aload_n rfl ?_
  refine js_geti rfl rfl rfl ?_
  refine js_puti rfl rfl (Or.inl rfl) ?_
  refine js_aload_n rfl ?_
  refine js_aload_n rfl ?_
  refine js_geti rfl rfl rfl ?_
  refine js_puti rfl rfl (Or.inl rfl) ?_
  refine js_aload_n rfl ?_
  refine js_aload_n rfl ?_
  refine js_geti rfl rfl rfl ?_
  refine js_puti rfl rfl (Or.inl rfl) ?_
  refine js_aload_n rfl ?_
  refine js_aload_n rfl ?_
  refine js_geti rfl rfl rfl ?_
  refine js_puti rfl rfl (Or.inl rfl) ?_
  refine js_aload_n rfl ?_
  refine js_getr rfl rfl rfl ?_
  refine js_iconst (v := (0 : Int32)) rfl ?_
  refine js_aload_n rfl ?_
  refine js_getr rfl rfl rfl ?_
  refine js_iconst (v := (0 : Int32)) rfl ?_
  refine js_aload_n rfl ?_
  refine js_getr rfl rfl rfl ?_
  refine js_alen (v := (50 : Int32)) rfl rfl rfl ?_
  refine js_copy rfl rfl rfl (by decide) (by decide) rfl ?_
  refine js_aload_n rfl ?_
  refine js_getr rfl rfl rfl ?_
  refine js_iconst (v := (0 : Int32)) rfl ?_
  refine js_aload_n rfl ?_
  refine js_getr rfl rfl rfl ?_
  refine js_iconst (v := (0 : Int32)) rfl ?_
  refine js_aload_n rfl ?_
  refine js_getr rfl rfl rfl ?_
  refine js_alen (v := (30 : Int32)) rfl rfl rfl ?_
  refine js_copy rfl rfl rfl (by decide) (by decide) rfl ?_
  refine js_aload_n rfl ?_
  refine js_getr rfl rfl rfl ?_
  refine js_iconst (v := (0 : Int32)) rfl ?_
  refine js_aload_n rfl ?_
  refine js_getr rfl rfl rfl ?_
  refine js_iconst (v := (0 : Int32)) rfl ?_
  refine js_aload_n rfl ?_
  refine js_getr rfl rfl rfl ?_
  refine js_alen (v := (128 : Int32)) rfl rfl rfl ?_
  refine js_copy rfl rfl rfl (by decide) (by decide) rfl ?_
  subst hf
  exact js_ret rfl rfl
/-! SwallowsAir$World.becomes(LSwallowsAir$World;)V -/
def f_W_becomes_4 (M : jp_M) : jp_M :=
  let M1 := jp_set M 96 (upd (M 96) 0 (M 2 0))
  let M2 := jp_set M1 96 (upd (M1 96) 1 (M1 2 1))
  let M3 := jp_set M2 96 (upd (M2 96) 2 (M2 2 2))
  let M4 := jp_set M3 96 (upd (M3 96) 3 (M3 2 3))
  let M5 := jp_set M4 96 (upd (M4 96) 4 (M4 2 4))
  let M6 := jp_set M5 96 (upd (M5 96) 5 (M5 2 5))
  let M7 := jp_set M6 96 (upd (M6 96) 6 (M6 2 6))
  let M8 := jp_set M7 96 (upd (M7 96) 7 (M7 2 7))
  let M9 := jp_set M8 97 (va_cpy (M8 3) (M8 97) 0 0 50)
  let M10 := jp_set M9 98 (va_cpy (M9 4) (M9 98) 0 0 30)
  let M11 := jp_set M10 99 (va_cpy (M10 5) (M10 99) 0 0 128)
  M11
theorem t_W_becomes_4 {Ln : Nat} {xs : Nat → Int32} {sv : jp_V} {w : Nat} {M : jp_M} {res : jp_M} (hf : f_W_becomes_4 M = res) : jE (jZ (jK Ln xs sv)) 0 96 [(.inr (some 96)), (.inr (some 2))] (jSH w) M (none, jSH w, res) := by
  unfold f_W_becomes_4 at hf
  refine jE_in (L0 := [some (.inr (some 96)), some (.inr (some 2))]) rfl (Nat.le_of_ble_eq_true rfl) rfl (fun d hd => ?_)
  refine jR_in rfl ⟨rfl, rfl, rfl⟩ rfl ?_
  refine js_aload_n rfl ?_
  refine js_ifnonnull (tgt := 5) rfl rfl ?_
  refine jR_in rfl ⟨rfl, rfl, rfl⟩ rfl ?_
  refine js_aload_n rfl ?_
  refine js_aload_n rfl ?_
  refine js_geti rfl rfl rfl ?_
  refine js_puti rfl rfl (Or.inl rfl) ?_
  refine js_aload_n rfl ?_
  refine js_aload_n rfl ?_
  refine js_geti rfl rfl rfl ?_
  refine js_puti rfl rfl (Or.inl rfl) ?_
  refine js_aload_n rfl ?_
  refine js_aload_n rfl ?_
  refine js_geti rfl rfl rfl ?_
  refine js_puti rfl rfl (Or.inl rfl) ?_
  refine js_aload_n rfl ?_
  refine js_aload_n rfl ?_
  refine js_geti rfl rfl rfl ?_
  refine js_puti rfl rfl (Or.inl rfl) ?_
  refine js_aload_n rfl ?_
  refine js_aload_n rfl ?_
  refine js_geti rfl rfl rfl ?_
  refine js_puti rfl rfl (Or.inl rfl) ?_
  refine js_aload_n rfl ?_
  refine js_aload_n rfl ?_
  refine js_geti rfl rfl rfl ?_
  refine js_puti rfl rfl (Or.inl rfl) ?_
  refine js_aload_n rfl ?_
  refine js_aload_n rfl ?_
  refine js_geti rfl rfl rfl ?_
  refine js_puti rfl rfl (Or.inl rfl) ?_
  refine js_aload_n rfl ?_
  refine js_aload_n rfl ?_
  refine js_geti rfl rfl rfl ?_
  refine js_puti rfl rfl (Or.inl rfl) ?_
  refine js_aload_n rfl ?_
  refine js_getr rfl rfl rfl ?_
  refine js_iconst (v := (0 : Int32)) rfl ?_
  refine js_aload_n rfl ?_
  refine js_getr rfl rfl rfl ?_
  refine js_iconst (v := (0 : Int32)) rfl ?_
  refine js_aload_n rfl ?_
  refine js_getr rfl rfl rfl ?_
  refine js_alen (v := (50 : Int32)) rfl rfl rfl ?_
  refine js_copy rfl rfl rfl (by decide) (by decide) rfl ?_
  refine js_aload_n rfl ?_
  refine js_getr rfl rfl rfl ?_
  refine js_iconst (v := (0 : Int32)) rfl ?_
  refine js_aload_n rfl ?_
  refine js_getr rfl rfl rfl ?_
  refine js_iconst (v := (0 : Int32)) rfl ?_
  refine js_aload_n rfl ?_
  refine js_getr rfl rfl rfl ?_
  refine js_alen (v := (30 : Int32)) rfl rfl rfl ?_
  refine js_copy rfl rfl rfl (by decide) (by decide) rfl ?_
  refine js_aload_n rfl ?_
  refine js_getr rfl rfl rfl ?_
  refine js_iconst (v := (0 : Int32)) rfl ?_
  refine js_aload_n rfl ?_
  refine js_getr rfl rfl rfl ?_
  refine js_iconst (v := (0 : Int32)) rfl ?_
  refine js_aload_n rfl ?_
  refine js_getr rfl rfl rfl ?_
  refine js_alen (v := (128 : Int32)) rfl rfl rfl ?_
  refine js_copy rfl rfl rfl (by decide) (by decide) rfl ?_
  subst hf
  exact js_ret rfl rfl
/-! SwallowsAir$World.becomes(LSwallowsAir$World;)V -/
def f_W_becomes_5 (M : jp_M) : jp_M :=
  let M1 := jp_set M 100 (upd (M 100) 0 (M 2 0))
  let M2 := jp_set M1 100 (upd (M1 100) 1 (M1 2 1))
  let M3 := jp_set M2 100 (upd (M2 100) 2 (M2 2 2))
  let M4 := jp_set M3 100 (upd (M3 100) 3 (M3 2 3))
  let M5 := jp_set M4 100 (upd (M4 100) 4 (M4 2 4))
  let M6 := jp_set M5 100 (upd (M5 100) 5 (M5 2 5))
  let M7 := jp_set M6 100 (upd (M6 100) 6 (M6 2 6))
  let M8 := jp_set M7 100 (upd (M7 100) 7 (M7 2 7))
  let M9 := jp_set M8 101 (va_cpy (M8 3) (M8 101) 0 0 50)
  let M10 := jp_set M9 102 (va_cpy (M9 4) (M9 102) 0 0 30)
  let M11 := jp_set M10 103 (va_cpy (M10 5) (M10 103) 0 0 128)
  M11
theorem t_W_becomes_5 {Ln : Nat} {xs : Nat → Int32} {sv : jp_V} {w : Nat} {M : jp_M} {res : jp_M} (hf : f_W_becomes_5 M = res) : jE (jZ (jK Ln xs sv)) 0 96 [(.inr (some 100)), (.inr (some 2))] (jSH w) M (none, jSH w, res) := by
  unfold f_W_becomes_5 at hf
  refine jE_in (L0 := [some (.inr (some 100)), some (.inr (some 2))]) rfl (Nat.le_of_ble_eq_true rfl) rfl (fun d hd => ?_)
  refine jR_in rfl ⟨rfl, rfl, rfl⟩ rfl ?_
  refine js_aload_n rfl ?_
  refine js_ifnonnull (tgt := 5) rfl rfl ?_
  refine jR_in rfl ⟨rfl, rfl, rfl⟩ rfl ?_
  refine js_aload_n rfl ?_
  refine js_aload_n rfl ?_
  refine js_geti rfl rfl rfl ?_
  refine js_puti rfl rfl (Or.inl rfl) ?_
  refine js_aload_n rfl ?_
  refine js_aload_n rfl ?_
  refine js_geti rfl rfl rfl ?_
  refine js_puti rfl rfl (Or.inl rfl) ?_
  refine js_aload_n rfl ?_
  refine js_aload_n rfl ?_
  refine js_geti rfl rfl rfl ?_
  refine js_puti rfl rfl (Or.inl rfl) ?_
  refine js_aload_n rfl ?_
  refine js_aload_n rfl ?_
  refine js_geti rfl rfl rfl ?_
  refine js_puti rfl rfl (Or.inl rfl) ?_
  refine js_aload_n rfl ?_
  refine js_aload_n rfl ?_
  refine js_geti rfl rfl rfl ?_
  refine js_puti rfl rfl (Or.inl rfl) ?_
  refine js_aload_n rfl ?_
  refine js_aload_n rfl ?_
  refine js_geti rfl rfl rfl ?_
  refine js_puti rfl rfl (Or.inl rfl) ?_
  refine js_aload_n rfl ?_
  refine js_aload_n rfl ?_
  refine js_geti rfl rfl rfl ?_
  refine js_puti rfl rfl (Or.inl rfl) ?_
  refine js_aload_n rfl ?_
  refine js_aload_n rfl ?_
  refine js_geti rfl rfl rfl ?_
  refine js_puti rfl rfl (Or.inl rfl) ?_
  refine js_aload_n rfl ?_
  refine js_getr rfl rfl rfl ?_
  refine js_iconst (v := (0 : Int32)) rfl ?_
  refine js_aload_n rfl ?_
  refine js_getr rfl rfl rfl ?_
  refine js_iconst (v := (0 : Int32)) rfl ?_
  refine js_aload_n rfl ?_
  refine js_getr rfl rfl rfl ?_
  refine js_alen (v := (50 : Int32)) rfl rfl rfl ?_
  refine js_copy rfl rfl rfl (by decide) (by decide) rfl ?_
  refine js_aload_n rfl ?_
  refine js_getr rfl rfl rfl ?_
  refine js_iconst (v := (0 : Int32)) rfl ?_
  refine js_aload_n rfl ?_
  refine js_getr rfl rfl rfl ?_
  refine js_iconst (v := (0 : Int32)) rfl ?_
  refine js_aload_n rfl ?_
  refine js_getr rfl rfl rfl ?_
  refine js_alen (v := (30 : Int32)) rfl rfl rfl ?_
  refine js_copy rfl rfl rfl (by decide) (by decide) rfl ?_
  refine js_aload_n rfl ?_
  refine js_getr rfl rfl rfl ?_
  refine js_iconst (v := (0 : Int32)) rfl ?_
  refine js_aload_n rfl ?_
  refine js_getr rfl rfl rfl ?_
  refine js_iconst (v := (0 : Int32)) rfl ?_
  refine js_aload_n rfl ?_
  refine js_getr rfl rfl rfl ?_
  refine js_alen (v := (128 : Int32)) rfl rfl rfl ?_
  refine js_copy rfl rfl rfl (by decide) (by decide) rfl ?_
  subst hf
  exact js_ret rfl rfl
/-! SwallowsAir.keep()V -/
def f_C_keep (M : jp_M) : Option (jp_M) :=
  let M1 := jp_set M 0 (upd (M 0) 5 (((M 0 5) + (1 : Int32)) % (6 : Int32)))
  jg (jp_in (M1 0 5) 6) (
  if (M1 0 5) = (0 : Int32) then (
  let q3 := f_W_becomes M1
  let M4 := jp_set q3 0 (upd (q3 0) 4 (jp_min (6 : Int32) ((q3 0 4) + (1 : Int32))))
  some M4) else if (M1 0 5) = (1 : Int32) then (
  let q5 := f_W_becomes_1 M1
  let M6 := jp_set q5 0 (upd (q5 0) 4 (jp_min (6 : Int32) ((q5 0 4) + (1 : Int32))))
  some M6) else if (M1 0 5) = (2 : Int32) then (
  let q7 := f_W_becomes_2 M1
  let M8 := jp_set q7 0 (upd (q7 0) 4 (jp_min (6 : Int32) ((q7 0 4) + (1 : Int32))))
  some M8) else if (M1 0 5) = (3 : Int32) then (
  let q9 := f_W_becomes_3 M1
  let M10 := jp_set q9 0 (upd (q9 0) 4 (jp_min (6 : Int32) ((q9 0 4) + (1 : Int32))))
  some M10) else if (M1 0 5) = (4 : Int32) then (
  let q11 := f_W_becomes_4 M1
  let M12 := jp_set q11 0 (upd (q11 0) 4 (jp_min (6 : Int32) ((q11 0 4) + (1 : Int32))))
  some M12) else if (M1 0 5) = (5 : Int32) then (
  let q13 := f_W_becomes_5 M1
  let M14 := jp_set q13 0 (upd (q13 0) 4 (jp_min (6 : Int32) ((q13 0 4) + (1 : Int32))))
  some M14) else none)
theorem t_C_keep {Ln : Nat} {xs : Nat → Int32} {sv : jp_V} {w : Nat} {M : jp_M} {res : jp_M} (hf : f_C_keep M = some res) : jE (jZ (jK Ln xs sv)) 1 159 [(.inr (some 0))] (jSH w) M (none, jSH w, res) := by
  unfold f_C_keep at hf
  refine jE_in (L0 := [some (.inr (some 0)), none]) rfl (Nat.le_of_ble_eq_true rfl) rfl (fun d hd => ?_)
  refine jR_in rfl ⟨rfl, rfl, rfl⟩ rfl ?_
  refine js_aload_n rfl ?_
  refine js_aload_n rfl ?_
  refine js_geti rfl rfl rfl ?_
  refine js_iconst (v := (1 : Int32)) rfl ?_
  refine js_iadd ?_
  refine js_bipush (v := (6 : Int32)) rfl ?_
  refine js_irem (by decide) ?_
  refine js_puti rfl rfl (Or.inl rfl) ?_
  refine js_aload_n rfl ?_
  refine js_getr rfl rfl rfl ?_
  refine js_aload_n rfl ?_
  refine js_geti rfl rfl rfl ?_
  obtain ⟨hb2, hf⟩ := jg_some hf
  rcases jif_d hf with ⟨hk, hf⟩ | ⟨hk, hf⟩
  · refine js_aald (o := some 80) rfl hb2 (by rw [hk]; rfl) ?_
    refine js_astore_n rfl rfl ?_
    refine js_aload_n rfl ?_
    refine js_ifnull ?_
    refine js_aload_n rfl ?_
    refine js_aload_n rfl ?_
    refine js_getr rfl rfl rfl ?_
    refine js_getr rfl rfl rfl ?_
    refine js_c2v (w := 0) rfl rfl ⟨rfl, rfl⟩ rfl rfl (t_W_becomes rfl) (by omega) ?_
    refine js_aload_n rfl ?_
    refine js_bipush (v := (6 : Int32)) rfl ?_
    refine js_aload_n rfl ?_
    refine js_geti rfl rfl rfl ?_
    refine js_iconst (v := (1 : Int32)) rfl ?_
    refine js_iadd ?_
    refine js_min rfl ?_
    refine js_puti rfl rfl (Or.inl rfl) ?_
    obtain rfl := Option.some.inj hf
    exact js_ret rfl rfl
  · rcases jif_d hf with ⟨hk, hf⟩ | ⟨hk, hf⟩
    · refine js_aald (o := some 84) rfl hb2 (by rw [hk]; rfl) ?_
      refine js_astore_n rfl rfl ?_
      refine js_aload_n rfl ?_
      refine js_ifnull ?_
      refine js_aload_n rfl ?_
      refine js_aload_n rfl ?_
      refine js_getr rfl rfl rfl ?_
      refine js_getr rfl rfl rfl ?_
      refine js_c2v (w := 0) rfl rfl ⟨rfl, rfl⟩ rfl rfl (t_W_becomes_1 rfl) (by omega) ?_
      refine js_aload_n rfl ?_
      refine js_bipush (v := (6 : Int32)) rfl ?_
      refine js_aload_n rfl ?_
      refine js_geti rfl rfl rfl ?_
      refine js_iconst (v := (1 : Int32)) rfl ?_
      refine js_iadd ?_
      refine js_min rfl ?_
      refine js_puti rfl rfl (Or.inl rfl) ?_
      obtain rfl := Option.some.inj hf
      exact js_ret rfl rfl
    · rcases jif_d hf with ⟨hk, hf⟩ | ⟨hk, hf⟩
      · refine js_aald (o := some 88) rfl hb2 (by rw [hk]; rfl) ?_
        refine js_astore_n rfl rfl ?_
        refine js_aload_n rfl ?_
        refine js_ifnull ?_
        refine js_aload_n rfl ?_
        refine js_aload_n rfl ?_
        refine js_getr rfl rfl rfl ?_
        refine js_getr rfl rfl rfl ?_
        refine js_c2v (w := 0) rfl rfl ⟨rfl, rfl⟩ rfl rfl (t_W_becomes_2 rfl) (by omega) ?_
        refine js_aload_n rfl ?_
        refine js_bipush (v := (6 : Int32)) rfl ?_
        refine js_aload_n rfl ?_
        refine js_geti rfl rfl rfl ?_
        refine js_iconst (v := (1 : Int32)) rfl ?_
        refine js_iadd ?_
        refine js_min rfl ?_
        refine js_puti rfl rfl (Or.inl rfl) ?_
        obtain rfl := Option.some.inj hf
        exact js_ret rfl rfl
      · rcases jif_d hf with ⟨hk, hf⟩ | ⟨hk, hf⟩
        · refine js_aald (o := some 92) rfl hb2 (by rw [hk]; rfl) ?_
          refine js_astore_n rfl rfl ?_
          refine js_aload_n rfl ?_
          refine js_ifnull ?_
          refine js_aload_n rfl ?_
          refine js_aload_n rfl ?_
          refine js_getr rfl rfl rfl ?_
          refine js_getr rfl rfl rfl ?_
          refine js_c2v (w := 0) rfl rfl ⟨rfl, rfl⟩ rfl rfl (t_W_becomes_3 rfl) (by omega) ?_
          refine js_aload_n rfl ?_
          refine js_bipush (v := (6 : Int32)) rfl ?_
          refine js_aload_n rfl ?_
          refine js_geti rfl rfl rfl ?_
          refine js_iconst (v := (1 : Int32)) rfl ?_
          refine js_iadd ?_
          refine js_min rfl ?_
          refine js_puti rfl rfl (Or.inl rfl) ?_
          obtain rfl := Option.some.inj hf
          exact js_ret rfl rfl
        · rcases jif_d hf with ⟨hk, hf⟩ | ⟨hk, hf⟩
          · refine js_aald (o := some 96) rfl hb2 (by rw [hk]; rfl) ?_
            refine js_astore_n rfl rfl ?_
            refine js_aload_n rfl ?_
            refine js_ifnull ?_
            refine js_aload_n rfl ?_
            refine js_aload_n rfl ?_
            refine js_getr rfl rfl rfl ?_
            refine js_getr rfl rfl rfl ?_
            refine js_c2v (w := 0) rfl rfl ⟨rfl, rfl⟩ rfl rfl (t_W_becomes_4 rfl) (by omega) ?_
            refine js_aload_n rfl ?_
            refine js_bipush (v := (6 : Int32)) rfl ?_
            refine js_aload_n rfl ?_
            refine js_geti rfl rfl rfl ?_
            refine js_iconst (v := (1 : Int32)) rfl ?_
            refine js_iadd ?_
            refine js_min rfl ?_
            refine js_puti rfl rfl (Or.inl rfl) ?_
            obtain rfl := Option.some.inj hf
            exact js_ret rfl rfl
          · rcases jif_d hf with ⟨hk, hf⟩ | ⟨hk, hf⟩
            · refine js_aald (o := some 100) rfl hb2 (by rw [hk]; rfl) ?_
              refine js_astore_n rfl rfl ?_
              refine js_aload_n rfl ?_
              refine js_ifnull ?_
              refine js_aload_n rfl ?_
              refine js_aload_n rfl ?_
              refine js_getr rfl rfl rfl ?_
              refine js_getr rfl rfl rfl ?_
              refine js_c2v (w := 0) rfl rfl ⟨rfl, rfl⟩ rfl rfl (t_W_becomes_5 rfl) (by omega) ?_
              refine js_aload_n rfl ?_
              refine js_bipush (v := (6 : Int32)) rfl ?_
              refine js_aload_n rfl ?_
              refine js_geti rfl rfl rfl ?_
              refine js_iconst (v := (1 : Int32)) rfl ?_
              refine js_iadd ?_
              refine js_min rfl ?_
              refine js_puti rfl rfl (Or.inl rfl) ?_
              obtain rfl := Option.some.inj hf
              exact js_ret rfl rfl
            · cases hf
/-! SwallowsAir$World.isSummer()Z -/
def f_W_isSummer (M : jp_M) : Int32 :=
  if jp_c .lt ((M 2 1) % (360 : Int32)) (90 : Int32) = true then (
  (0 : Int32)) else (
  if jp_c .gt ((M 2 1) % (360 : Int32)) (269 : Int32) = true then (
  (0 : Int32)) else (
  (1 : Int32)))
theorem t_W_isSummer {Ln : Nat} {xs : Nat → Int32} {sv : jp_V} {w : Nat} {M : jp_M} {res : Int32} (hf : f_W_isSummer M = res) : jE (jZ (jK Ln xs sv)) 0 99 [(.inr (some 2))] (jSH w) M (some (.inl res), jSH w, M) := by
  unfold f_W_isSummer at hf
  refine jE_in (L0 := [some (.inr (some 2)), none]) rfl (Nat.le_of_ble_eq_true rfl) rfl (fun d hd => ?_)
  refine jR_in rfl ⟨rfl, rfl, rfl⟩ rfl ?_
  refine js_aload_n rfl ?_
  refine js_geti rfl rfl rfl ?_
  refine js_sipush (v := (360 : Int32)) rfl ?_
  refine js_irem (by decide) ?_
  refine js_istore_n rfl rfl ?_
  refine js_iload_n rfl ?_
  refine js_bipush (v := (90 : Int32)) rfl ?_
  refine js_icmp (tgt := 26) rfl rfl (fun h => ?_) (fun h => ?_)
  · have hf := jif_t hf h
    refine jR_in rfl ⟨rfl, rfl, rfl⟩ rfl ?_
    refine js_iconst (v := (0 : Int32)) rfl ?_
    subst hf
    exact js_iret rfl rfl
  · have hf := jif_f hf h
    refine js_iload_n rfl ?_
    refine js_sipush (v := (269 : Int32)) rfl ?_
    refine js_icmp (tgt := 26) rfl rfl (fun h => ?_) (fun h => ?_)
    · have hf := jif_t hf h
      refine jR_in rfl ⟨rfl, rfl, rfl⟩ rfl ?_
      refine js_iconst (v := (0 : Int32)) rfl ?_
      subst hf
      exact js_iret rfl rfl
    · have hf := jif_f hf h
      refine js_iconst (v := (1 : Int32)) rfl ?_
      refine js_goto (tgt := 27) rfl rfl ?_
      refine jR_in rfl ⟨rfl, rfl, rfl⟩ rfl ?_
      subst hf
      exact js_iret rfl rfl
theorem b_W_isSummer {M : jp_M} {res : Int32} (hf : f_W_isSummer M = res) : res = 0 ∨ res = 1 := by
  unfold f_W_isSummer at hf
  rcases jif_d hf with ⟨h, hf⟩ | ⟨h, hf⟩
  · subst hf
    exact Or.inl rfl
  · rcases jif_d hf with ⟨h, hf⟩ | ⟨h, hf⟩
    · subst hf
      exact Or.inl rfl
    · subst hf
      exact Or.inr rfl
/-! SwallowsAir$Affairs.writes(III)V -/
def f_A_writes (a1 : Int32) (a2 : Int32) (a3 : Int32) (M : jp_M) : Option (jp_M) :=
  if jp_c .lt (M 2 7) (150 : Int32) = true then (
  jg (jp_in ((4 : Int32) * (M 2 7)) 600) (
  let M1 := jp_set M 6 (upd (M 6) (Int32.toNatClampNeg ((4 : Int32) * (M 2 7))) (M 2 1))
  jg (jp_in (((4 : Int32) * (M 2 7)) + (1 : Int32)) 600) (
  let M3 := jp_set M1 6 (upd (M1 6) (Int32.toNatClampNeg (((4 : Int32) * (M 2 7)) + (1 : Int32))) a1)
  jg (jp_in (((4 : Int32) * (M 2 7)) + (2 : Int32)) 600) (
  let M5 := jp_set M3 6 (upd (M3 6) (Int32.toNatClampNeg (((4 : Int32) * (M 2 7)) + (2 : Int32))) a2)
  jg (jp_in (((4 : Int32) * (M 2 7)) + (3 : Int32)) 600) (
  let M7 := jp_set M5 6 (upd (M5 6) (Int32.toNatClampNeg (((4 : Int32) * (M 2 7)) + (3 : Int32))) a3)
  let M9 := jp_set M7 2 (upd (M7 2) 7 ((M7 2 7) + (1 : Int32)))
  some M9))))) else (
  some M)
theorem t_A_writes {Ln : Nat} {xs : Nat → Int32} {sv : jp_V} {a1 : Int32} {a2 : Int32} {a3 : Int32} {w : Nat} {M : jp_M} {res : jp_M} (hf : f_A_writes a1 a2 a3 M = some res) : jE (jZ (jK Ln xs sv)) 0 4 [(.inr (some 1)), (.inl a1), (.inl a2), (.inl a3)] (jSH w) M (none, jSH w, res) := by
  unfold f_A_writes at hf
  refine jE_in (L0 := [some (.inr (some 1)), some (.inl a1), some (.inl a2), some (.inl a3), none]) rfl (Nat.le_of_ble_eq_true rfl) rfl (fun d hd => ?_)
  refine jR_in rfl ⟨rfl, rfl, rfl⟩ rfl ?_
  refine js_aload_n rfl ?_
  refine js_getr rfl rfl rfl ?_
  refine js_geti rfl rfl rfl ?_
  refine js_sipush (v := (150 : Int32)) rfl ?_
  refine js_icmp (tgt := 14) rfl rfl (fun h => ?_) (fun h => ?_)
  · have hf := jif_t hf h
    refine jR_in rfl ⟨rfl, rfl, rfl⟩ rfl ?_
    refine js_iconst (v := (4 : Int32)) rfl ?_
    refine js_aload_n rfl ?_
    refine js_getr rfl rfl rfl ?_
    refine js_geti rfl rfl rfl ?_
    refine js_imul ?_
    refine js_istore rfl rfl ?_
    refine js_aload_n rfl ?_
    refine js_getr rfl rfl rfl ?_
    refine js_iload rfl ?_
    refine js_aload_n rfl ?_
    refine js_getr rfl rfl rfl ?_
    refine js_geti rfl rfl rfl ?_
    obtain ⟨hb2, hf⟩ := jg_some hf
    refine js_iast rfl hb2 ?_
    refine js_aload_n rfl ?_
    refine js_getr rfl rfl rfl ?_
    refine js_iload rfl ?_
    refine js_iconst (v := (1 : Int32)) rfl ?_
    refine js_iadd ?_
    refine js_iload_n rfl ?_
    obtain ⟨hb4, hf⟩ := jg_some hf
    refine js_iast rfl hb4 ?_
    refine js_aload_n rfl ?_
    refine js_getr rfl rfl rfl ?_
    refine js_iload rfl ?_
    refine js_iconst (v := (2 : Int32)) rfl ?_
    refine js_iadd ?_
    refine js_iload_n rfl ?_
    obtain ⟨hb6, hf⟩ := jg_some hf
    refine js_iast rfl hb6 ?_
    refine js_aload_n rfl ?_
    refine js_getr rfl rfl rfl ?_
    refine js_iload rfl ?_
    refine js_iconst (v := (3 : Int32)) rfl ?_
    refine js_iadd ?_
    refine js_iload_n rfl ?_
    obtain ⟨hb8, hf⟩ := jg_some hf
    refine js_iast rfl hb8 ?_
    refine js_aload_n rfl ?_
    refine js_getr rfl rfl rfl ?_
    refine js_dup ?_
    refine js_geti rfl rfl rfl ?_
    refine js_iconst (v := (1 : Int32)) rfl ?_
    refine js_iadd ?_
    refine js_puti rfl rfl (Or.inl rfl) ?_
    obtain rfl := Option.some.inj hf
    exact js_ret rfl rfl
  · have hf := jif_f hf h
    obtain rfl := Option.some.inj hf
    exact js_ret rfl rfl
/-! SwallowsAir$Keeper.begins(III)I -/
def f_K_begins (a1 : Int32) (a2 : Int32) (a3 : Int32) (M : jp_M) : Option (Int32 × jp_M) :=
  let M1 := jp_set M 55 (upd (M 55) 0 (M 2 3))
  let M2 := jp_set M1 55 (upd (M1 55) 7 a1)
  jg ((0 ≤ (0 : Int32) ∧ 0 ≤ ((8 : Int32) * (M2 2 6)) ∧ 0 ≤ (8 : Int32)) ∧ ((Int32.toNatClampNeg (0 : Int32)) + (Int32.toNatClampNeg (8 : Int32)) ≤ 8 ∧ (Int32.toNatClampNeg ((8 : Int32) * (M2 2 6))) + (Int32.toNatClampNeg (8 : Int32)) ≤ 128)) (
  let M3 := jp_set M2 5 (va_cpy (M2 55) (M2 5) 0 (Int32.toNatClampNeg ((8 : Int32) * (M2 2 6))) 8)
  let M5 := jp_set M3 2 (upd (M3 2) 6 ((M3 2 6) + (1 : Int32)))
  let M6 := jp_set M5 2 (upd (M5 2) 3 ((M5 2 3) + (1 : Int32)))
  (f_A_writes a2 (M 2 3) a3 M6).bind fun q7 => (
  some ((M 2 3), q7)))
theorem t_K_begins {Ln : Nat} {xs : Nat → Int32} {sv : jp_V} {a1 : Int32} {a2 : Int32} {a3 : Int32} {w : Nat} {M : jp_M} {res : Int32 × jp_M} (hf : f_K_begins a1 a2 a3 M = some res) : jE (jZ (jK Ln xs sv)) 1 25 [(.inr (some 54)), (.inl a1), (.inl a2), (.inl a3)] (jSH w) M (some (.inl res.1), jSH w, res.2) := by
  unfold f_K_begins at hf
  refine jE_in (L0 := [some (.inr (some 54)), some (.inl a1), some (.inl a2), some (.inl a3), none]) rfl (Nat.le_of_ble_eq_true rfl) rfl (fun d hd => ?_)
  refine jR_in rfl ⟨rfl, rfl, rfl⟩ rfl ?_
  refine js_aload_n rfl ?_
  refine js_getr rfl rfl rfl ?_
  refine js_geti rfl rfl rfl ?_
  refine js_istore rfl rfl ?_
  refine js_aload_n rfl ?_
  refine js_getr rfl rfl rfl ?_
  refine js_iconst (v := (0 : Int32)) rfl ?_
  refine js_iload rfl ?_
  refine js_iast rfl (by decide) ?_
  refine js_aload_n rfl ?_
  refine js_getr rfl rfl rfl ?_
  refine js_bipush (v := (7 : Int32)) rfl ?_
  refine js_iload_n rfl ?_
  refine js_iast rfl (by decide) ?_
  refine js_aload_n rfl ?_
  refine js_getr rfl rfl rfl ?_
  refine js_iconst (v := (0 : Int32)) rfl ?_
  refine js_aload_n rfl ?_
  refine js_getr rfl rfl rfl ?_
  refine js_getr rfl rfl rfl ?_
  refine js_bipush (v := (8 : Int32)) rfl ?_
  refine js_aload_n rfl ?_
  refine js_getr rfl rfl rfl ?_
  refine js_geti rfl rfl rfl ?_
  refine js_imul ?_
  refine js_bipush (v := (8 : Int32)) rfl ?_
  obtain ⟨hb4, hf⟩ := jg_some hf
  refine js_copy rfl rfl rfl hb4.1 hb4.2 rfl ?_
  refine js_aload_n rfl ?_
  refine js_getr rfl rfl rfl ?_
  refine js_dup ?_
  refine js_geti rfl rfl rfl ?_
  refine js_iconst (v := (1 : Int32)) rfl ?_
  refine js_iadd ?_
  refine js_puti rfl rfl (Or.inl rfl) ?_
  refine js_aload_n rfl ?_
  refine js_getr rfl rfl rfl ?_
  refine js_dup ?_
  refine js_geti rfl rfl rfl ?_
  refine js_iconst (v := (1 : Int32)) rfl ?_
  refine js_iadd ?_
  refine js_puti rfl rfl (Or.inl rfl) ?_
  refine js_aload_n rfl ?_
  refine js_getr rfl rfl rfl ?_
  refine js_iload_n rfl ?_
  refine js_iload rfl ?_
  refine js_iload_n rfl ?_
  obtain ⟨q7, hc_7, hf⟩ := jbind hf
  refine js_c4v (w := 0) rfl rfl ⟨rfl, rfl⟩ rfl rfl (t_A_writes hc_7) (by omega) ?_
  refine js_iload rfl ?_
  obtain rfl := Option.some.inj hf
  exact js_iret rfl rfl
/-! SwallowsAir$World.nestsAt(I)I -/
def f_W_nestsAt_29 (c4 : Int32 → Int32 → Int32 → jp_M → Option (Int32)) (l1 : Int32) (l2 : Int32) (l3 : Int32) (M : jp_M) : Option (Int32) :=
  c4 l1 l2 (l3 + (1 : Int32)) M
theorem t_W_nestsAt_29 {Ln : Nat} {xs : Nat → Int32} {sv : jp_V} {d : Nat} (hd : 0 ≤ d) {c4 : Int32 → Int32 → Int32 → jp_M → Option (Int32)} (hc4 : ∀ (l1 : Int32) (l2 : Int32) (l3 : Int32) (w : Nat) (M : jp_M) (res : Int32), c4 l1 l2 l3 M = some res → jR (jZ (jK Ln xs sv)) d 105 4 ([some (.inr (some 2)), some (.inl l1), some (.inl l2), some (.inl l3)], [], jSH w, M) (some (.inl res), jSH w, M)) (l1 : Int32) (l2 : Int32) (l3 : Int32) (w : Nat) (M : jp_M) {res : Int32} (hf : f_W_nestsAt_29 c4 l1 l2 l3 M = some res) : jR (jZ (jK Ln xs sv)) d 105 29 ([some (.inr (some 2)), some (.inl l1), some (.inl l2), some (.inl l3)], [], jSH w, M) (some (.inl res), jSH w, M) := by
  unfold f_W_nestsAt_29 at hf
  refine jR_in rfl ⟨rfl, rfl, rfl⟩ rfl ?_
  refine js_iinc (v := (1 : Int32)) rfl rfl rfl rfl ?_
  refine js_goto (tgt := 4) rfl rfl ?_
  exact hc4 _ _ _ _ _ _ hf
def f_W_nestsAt_4  : Nat → Int32 → Int32 → Int32 → jp_M → Option (Int32)
  | 0, _, _, _, _ => none
  | n + 1, l1, l2, l3, M =>
    if jp_c .ge l3 (M 2 5) = true then (
    some l2) else (
    jg (jp_in (((3 : Int32) * l3) + (0 : Int32)) 30) (
    if jp_c .ne (M 4 (Int32.toNatClampNeg (((3 : Int32) * l3) + (0 : Int32)))) l1 = true then (
    f_W_nestsAt_29 (f_W_nestsAt_4 n ) l1 l2 l3 M) else (
    f_W_nestsAt_29 (f_W_nestsAt_4 n ) l1 (l2 + (1 : Int32)) l3 M)))
theorem t_W_nestsAt_4 {Ln : Nat} {xs : Nat → Int32} {sv : jp_V} {d : Nat} (hd : 0 ≤ d)  : ∀ (n : Nat) (l1 : Int32) (l2 : Int32) (l3 : Int32) (w : Nat) (M : jp_M) {res : Int32}, f_W_nestsAt_4 n  l1 l2 l3 M = some res → jR (jZ (jK Ln xs sv)) d 105 4 ([some (.inr (some 2)), some (.inl l1), some (.inl l2), some (.inl l3)], [], jSH w, M) (some (.inl res), jSH w, M) := by
  intro n
  induction n with
  | zero =>
    intro l1 l2 l3 w M res hf
    cases hf
  | succ n ih =>
    intro l1 l2 l3 w M res hf
    rw [f_W_nestsAt_4] at hf
    refine jR_in rfl ⟨rfl, rfl, rfl⟩ rfl ?_
    refine js_iload_n rfl ?_
    refine js_aload_n rfl ?_
    refine js_geti rfl rfl rfl ?_
    refine js_icmp (tgt := 35) rfl rfl (fun h => ?_) (fun h => ?_)
    · have hf := jif_t hf h
      refine jR_in rfl ⟨rfl, rfl, rfl⟩ rfl ?_
      refine js_iload_n rfl ?_
      obtain rfl := Option.some.inj hf
      exact js_iret rfl rfl
    · have hf := jif_f hf h
      refine js_aload_n rfl ?_
      refine js_getr rfl rfl rfl ?_
      refine js_iconst (v := (3 : Int32)) rfl ?_
      refine js_iload_n rfl ?_
      refine js_imul ?_
      refine js_iconst (v := (0 : Int32)) rfl ?_
      refine js_iadd ?_
      obtain ⟨hb1, hf⟩ := jg_some hf
      refine js_iald rfl hb1 ?_
      refine js_iload_n rfl ?_
      refine js_icmp (tgt := 29) rfl rfl (fun h => ?_) (fun h => ?_)
      · have hf := jif_t hf h
        exact t_W_nestsAt_29 hd (fun l1 l2 l3 w M res hf => ih l1 l2 l3 w M hf) _ _ _ _ _ hf
      · have hf := jif_f hf h
        refine js_iinc (v := (1 : Int32)) rfl rfl rfl rfl ?_
        exact jS_out rfl ⟨rfl, rfl, rfl⟩ rfl (t_W_nestsAt_29 hd (fun l1 l2 l3 w M res hf => ih l1 l2 l3 w M hf) _ _ _ _ _ hf)
def f_W_nestsAt (a1 : Int32) (M : jp_M) : Option (Int32) :=
  f_W_nestsAt_4 jFu a1 (0 : Int32) (0 : Int32) M
theorem t_W_nestsAt {Ln : Nat} {xs : Nat → Int32} {sv : jp_V} {a1 : Int32} {w : Nat} {M : jp_M} {res : Int32} (hf : f_W_nestsAt a1 M = some res) : jE (jZ (jK Ln xs sv)) 0 105 [(.inr (some 2)), (.inl a1)] (jSH w) M (some (.inl res), jSH w, M) := by
  unfold f_W_nestsAt at hf
  refine jE_in (L0 := [some (.inr (some 2)), some (.inl a1), none, none]) rfl (Nat.le_of_ble_eq_true rfl) rfl (fun d hd => ?_)
  refine jR_in rfl ⟨rfl, rfl, rfl⟩ rfl ?_
  refine js_iconst (v := (0 : Int32)) rfl ?_
  refine js_istore_n rfl rfl ?_
  refine js_iconst (v := (0 : Int32)) rfl ?_
  refine js_istore_n rfl rfl ?_
  exact jS_out rfl ⟨rfl, rfl, rfl⟩ rfl (t_W_nestsAt_4 hd jFu _ _ _ _ _ hf)
/-! SwallowsAir$World.usedCells()I -/
def f_W_usedCells_4  : Nat → Int32 → Int32 → jp_M → Option (Int32)
  | 0, _, _, _ => none
  | n + 1, l1, l2, M =>
    if jp_c .ge l2 ((8 : Int32) * (M 2 6)) = true then (
    some l1) else (
    jg (jp_in (l2 + (5 : Int32)) 128) (
    jg (jp_in (l2 + (4 : Int32)) 128) (
    f_W_usedCells_4 n (l1 + (((M 5 (Int32.toNatClampNeg (l2 + (5 : Int32)))) - (M 5 (Int32.toNatClampNeg (l2 + (4 : Int32))))) + (1 : Int32))) (l2 + (8 : Int32)) M)))
theorem t_W_usedCells_4 {Ln : Nat} {xs : Nat → Int32} {sv : jp_V} {d : Nat} (hd : 0 ≤ d)  : ∀ (n : Nat) (l1 : Int32) (l2 : Int32) (w : Nat) (M : jp_M) {res : Int32}, f_W_usedCells_4 n  l1 l2 M = some res → jR (jZ (jK Ln xs sv)) d 104 4 ([some (.inr (some 2)), some (.inl l1), some (.inl l2)], [], jSH w, M) (some (.inl res), jSH w, M) := by
  intro n
  induction n with
  | zero =>
    intro l1 l2 w M res hf
    cases hf
  | succ n ih =>
    intro l1 l2 w M res hf
    rw [f_W_usedCells_4] at hf
    refine jR_in rfl ⟨rfl, rfl, rfl⟩ rfl ?_
    refine js_iload_n rfl ?_
    refine js_bipush (v := (8 : Int32)) rfl ?_
    refine js_aload_n rfl ?_
    refine js_geti rfl rfl rfl ?_
    refine js_imul ?_
    refine js_icmp (tgt := 43) rfl rfl (fun h => ?_) (fun h => ?_)
    · have hf := jif_t hf h
      refine jR_in rfl ⟨rfl, rfl, rfl⟩ rfl ?_
      refine js_iload_n rfl ?_
      obtain rfl := Option.some.inj hf
      exact js_iret rfl rfl
    · have hf := jif_f hf h
      refine js_iload_n rfl ?_
      refine js_aload_n rfl ?_
      refine js_getr rfl rfl rfl ?_
      refine js_iload_n rfl ?_
      refine js_iconst (v := (5 : Int32)) rfl ?_
      refine js_iadd ?_
      obtain ⟨hb1, hf⟩ := jg_some hf
      refine js_iald rfl hb1 ?_
      refine js_aload_n rfl ?_
      refine js_getr rfl rfl rfl ?_
      refine js_iload_n rfl ?_
      refine js_iconst (v := (4 : Int32)) rfl ?_
      refine js_iadd ?_
      obtain ⟨hb2, hf⟩ := jg_some hf
      refine js_iald rfl hb2 ?_
      refine js_isub ?_
      refine js_iconst (v := (1 : Int32)) rfl ?_
      refine js_iadd ?_
      refine js_iadd ?_
      refine js_istore_n rfl rfl ?_
      refine js_iinc (v := (8 : Int32)) rfl rfl rfl rfl ?_
      refine js_goto (tgt := 4) rfl rfl ?_
      exact ih _ _ _ _ hf
def f_W_usedCells (M : jp_M) : Option (Int32) :=
  f_W_usedCells_4 jFu (0 : Int32) (0 : Int32) M
theorem t_W_usedCells {Ln : Nat} {xs : Nat → Int32} {sv : jp_V} {w : Nat} {M : jp_M} {res : Int32} (hf : f_W_usedCells M = some res) : jE (jZ (jK Ln xs sv)) 0 104 [(.inr (some 2))] (jSH w) M (some (.inl res), jSH w, M) := by
  unfold f_W_usedCells at hf
  refine jE_in (L0 := [some (.inr (some 2)), none, none]) rfl (Nat.le_of_ble_eq_true rfl) rfl (fun d hd => ?_)
  refine jR_in rfl ⟨rfl, rfl, rfl⟩ rfl ?_
  refine js_iconst (v := (0 : Int32)) rfl ?_
  refine js_istore_n rfl rfl ?_
  refine js_iconst (v := (0 : Int32)) rfl ?_
  refine js_istore_n rfl rfl ?_
  exact jS_out rfl ⟨rfl, rfl, rfl⟩ rfl (t_W_usedCells_4 hd jFu _ _ _ _ hf)
/-! SwallowsAir$Law.learns(LSwallowsAir$World;[II)V -/
def f_L_learns_118  (s1 : Int32) (s2 : Int32) (M : jp_M) : Option (jp_M) :=
  jg (jp_in s1 10) (
  let M1 := jp_set M 12 (upd (M 12) (Int32.toNatClampNeg s1) s2)
  (f_W_usedCells M1).bind fun q3 => (
  let M4 := jp_set M1 12 (upd (M1 12) 8 q3)
  let M5 := jp_set M4 12 (upd (M4 12) 9 (M4 2 1))
  some M5))
theorem t_L_learns_118 {Ln : Nat} {xs : Nat → Int32} {sv : jp_V} {d : Nat} (hd : 1 ≤ d)  (s1 : Int32) (s2 : Int32) (o2 : Option jp_V) (o3 : Option jp_V) (o4 : Option jp_V) (w : Nat) (M : jp_M) {res : jp_M} (hf : f_L_learns_118  s1 s2 M = some res) : jR (jZ (jK Ln xs sv)) d 37 118 ([some (.inr (some 7)), some (.inr (some 2)), o2, o3, o4], [.inl s2, .inl s1, (.inr (some 12))], jSH w, M) (none, jSH w, res) := by
  unfold f_L_learns_118 at hf
  refine jR_in rfl ⟨rfl, rfl, rfl⟩ rfl ?_
  obtain ⟨hb2, hf⟩ := jg_some hf
  refine js_iast rfl hb2 ?_
  refine js_aload_n rfl ?_
  refine js_getr rfl rfl rfl ?_
  refine js_bipush (v := (8 : Int32)) rfl ?_
  refine js_aload_n rfl ?_
  obtain ⟨q3, hc_3, hf⟩ := jbind hf
  refine js_c1i rfl rfl ⟨rfl, rfl⟩ rfl rfl (t_W_usedCells hc_3) (by omega) ?_
  refine js_iast rfl (by decide) ?_
  refine js_aload_n rfl ?_
  refine js_getr rfl rfl rfl ?_
  refine js_bipush (v := (9 : Int32)) rfl ?_
  refine js_aload_n rfl ?_
  refine js_geti rfl rfl rfl ?_
  refine js_iast rfl (by decide) ?_
  obtain rfl := Option.some.inj hf
  exact js_ret rfl rfl
def f_L_learns (a3 : Int32) (M : jp_M) : Option (jp_M) :=
  jg (jp_in (a3 + (1 : Int32)) 8) (
  jg (jp_in (a3 + (2 : Int32)) 8) (
  let M3 := jp_set M 12 (upd (M 12) 0 (M 55 (Int32.toNatClampNeg (a3 + (2 : Int32)))))
  jg (jp_in (a3 + (5 : Int32)) 8) (
  let M5 := jp_set M3 12 (upd (M3 12) 1 (M3 55 (Int32.toNatClampNeg (a3 + (5 : Int32)))))
  jg (jp_in (a3 + (6 : Int32)) 8) (
  let M7 := jp_set M5 12 (upd (M5 12) 2 (M5 55 (Int32.toNatClampNeg (a3 + (6 : Int32)))))
  jg (jp_in (a3 + (3 : Int32)) 8) (
  let M9 := jp_set M7 12 (upd (M7 12) 3 (M7 55 (Int32.toNatClampNeg (a3 + (3 : Int32)))))
  jg (jp_in (((5 : Int32) * (M 55 (Int32.toNatClampNeg (a3 + (1 : Int32))))) + (0 : Int32)) 50) (
  let M11 := jp_set M9 12 (upd (M9 12) 4 (M9 3 (Int32.toNatClampNeg (((5 : Int32) * (M 55 (Int32.toNatClampNeg (a3 + (1 : Int32))))) + (0 : Int32)))))
  jg (jp_in (((5 : Int32) * (M 55 (Int32.toNatClampNeg (a3 + (1 : Int32))))) + (4 : Int32)) 50) (
  let M13 := jp_set M11 12 (upd (M11 12) 5 (M11 3 (Int32.toNatClampNeg (((5 : Int32) * (M 55 (Int32.toNatClampNeg (a3 + (1 : Int32))))) + (4 : Int32)))))
  jg (jp_in (a3 + (3 : Int32)) 8) (
  (f_W_nestsAt (M13 55 (Int32.toNatClampNeg (a3 + (3 : Int32)))) M13).bind fun q15 => (
  let M16 := jp_set M13 12 (upd (M13 12) 6 q15)
  if jp_c .eq (f_W_isSummer M16) 0 = true then (
  f_L_learns_118 (7 : Int32) (0 : Int32) M16) else (
  f_L_learns_118 (7 : Int32) (1 : Int32) M16))))))))))
theorem t_L_learns {Ln : Nat} {xs : Nat → Int32} {sv : jp_V} {a3 : Int32} {w : Nat} {M : jp_M} {res : jp_M} (hf : f_L_learns a3 M = some res) : jE (jZ (jK Ln xs sv)) 1 37 [(.inr (some 7)), (.inr (some 2)), (.inr (some 55)), (.inl a3)] (jSH w) M (none, jSH w, res) := by
  unfold f_L_learns at hf
  refine jE_in (L0 := [some (.inr (some 7)), some (.inr (some 2)), some (.inr (some 55)), some (.inl a3), none]) rfl (Nat.le_of_ble_eq_true rfl) rfl (fun d hd => ?_)
  refine jR_in rfl ⟨rfl, rfl, rfl⟩ rfl ?_
  refine js_iconst (v := (5 : Int32)) rfl ?_
  refine js_aload_n rfl ?_
  refine js_iload_n rfl ?_
  refine js_iconst (v := (1 : Int32)) rfl ?_
  refine js_iadd ?_
  obtain ⟨hb1, hf⟩ := jg_some hf
  refine js_iald rfl hb1 ?_
  refine js_imul ?_
  refine js_istore rfl rfl ?_
  refine js_aload_n rfl ?_
  refine js_getr rfl rfl rfl ?_
  refine js_iconst (v := (0 : Int32)) rfl ?_
  refine js_aload_n rfl ?_
  refine js_iload_n rfl ?_
  refine js_iconst (v := (2 : Int32)) rfl ?_
  refine js_iadd ?_
  obtain ⟨hb2, hf⟩ := jg_some hf
  refine js_iald rfl hb2 ?_
  refine js_iast rfl (by decide) ?_
  refine js_aload_n rfl ?_
  refine js_getr rfl rfl rfl ?_
  refine js_iconst (v := (1 : Int32)) rfl ?_
  refine js_aload_n rfl ?_
  refine js_iload_n rfl ?_
  refine js_iconst (v := (5 : Int32)) rfl ?_
  refine js_iadd ?_
  obtain ⟨hb4, hf⟩ := jg_some hf
  refine js_iald rfl hb4 ?_
  refine js_iast rfl (by decide) ?_
  refine js_aload_n rfl ?_
  refine js_getr rfl rfl rfl ?_
  refine js_iconst (v := (2 : Int32)) rfl ?_
  refine js_aload_n rfl ?_
  refine js_iload_n rfl ?_
  refine js_bipush (v := (6 : Int32)) rfl ?_
  refine js_iadd ?_
  obtain ⟨hb6, hf⟩ := jg_some hf
  refine js_iald rfl hb6 ?_
  refine js_iast rfl (by decide) ?_
  refine js_aload_n rfl ?_
  refine js_getr rfl rfl rfl ?_
  refine js_iconst (v := (3 : Int32)) rfl ?_
  refine js_aload_n rfl ?_
  refine js_iload_n rfl ?_
  refine js_iconst (v := (3 : Int32)) rfl ?_
  refine js_iadd ?_
  obtain ⟨hb8, hf⟩ := jg_some hf
  refine js_iald rfl hb8 ?_
  refine js_iast rfl (by decide) ?_
  refine js_aload_n rfl ?_
  refine js_getr rfl rfl rfl ?_
  refine js_iconst (v := (4 : Int32)) rfl ?_
  refine js_aload_n rfl ?_
  refine js_getr rfl rfl rfl ?_
  refine js_iload rfl ?_
  refine js_iconst (v := (0 : Int32)) rfl ?_
  refine js_iadd ?_
  obtain ⟨hb10, hf⟩ := jg_some hf
  refine js_iald rfl hb10 ?_
  refine js_iast rfl (by decide) ?_
  refine js_aload_n rfl ?_
  refine js_getr rfl rfl rfl ?_
  refine js_iconst (v := (5 : Int32)) rfl ?_
  refine js_aload_n rfl ?_
  refine js_getr rfl rfl rfl ?_
  refine js_iload rfl ?_
  refine js_iconst (v := (4 : Int32)) rfl ?_
  refine js_iadd ?_
  obtain ⟨hb12, hf⟩ := jg_some hf
  refine js_iald rfl hb12 ?_
  refine js_iast rfl (by decide) ?_
  refine js_aload_n rfl ?_
  refine js_getr rfl rfl rfl ?_
  refine js_bipush (v := (6 : Int32)) rfl ?_
  refine js_aload_n rfl ?_
  refine js_aload_n rfl ?_
  refine js_iload_n rfl ?_
  refine js_iconst (v := (3 : Int32)) rfl ?_
  refine js_iadd ?_
  obtain ⟨hb14, hf⟩ := jg_some hf
  refine js_iald rfl hb14 ?_
  obtain ⟨q15, hc_15, hf⟩ := jbind hf
  refine js_c2i rfl rfl ⟨rfl, rfl⟩ rfl rfl (t_W_nestsAt hc_15) (by omega) ?_
  refine js_iast rfl (by decide) ?_
  refine js_aload_n rfl ?_
  refine js_getr rfl rfl rfl ?_
  refine js_bipush (v := (7 : Int32)) rfl ?_
  refine js_aload_n rfl ?_
  refine js_c1i rfl rfl ⟨rfl, rfl⟩ rfl rfl (t_W_isSummer rfl) (by omega) ?_
  refine js_ifc (tgt := 117) rfl rfl (fun h => ?_) (fun h => ?_)
  · have hf := jif_t hf h
    refine jR_in rfl ⟨rfl, rfl, rfl⟩ rfl ?_
    refine js_iconst (v := (0 : Int32)) rfl ?_
    exact jS_out rfl ⟨rfl, rfl, rfl⟩ rfl (t_L_learns_118 hd _ _ _ _ _ _ _ hf)
  · have hf := jif_f hf h
    refine js_iconst (v := (1 : Int32)) rfl ?_
    refine js_goto (tgt := 118) rfl rfl ?_
    exact t_L_learns_118 hd _ _ _ _ _ _ _ hf
/-! SwallowsAir$Law.usual(I)I -/
def f_L_usual (a1 : Int32) (M : jp_M) : Int32 :=
  if a1 = (0 : Int32) then (
  (((800 : Int32) - ((60 : Int32) * (M 12 1))) - ((100 : Int32) * (M 12 6)))) else if a1 = (1 : Int32) then (
  ((M 12 2) + (M 12 1))) else (
  ((5 : Int32) * (M 12 2)))
theorem t_L_usual {Ln : Nat} {xs : Nat → Int32} {sv : jp_V} {a1 : Int32} {w : Nat} {M : jp_M} {res : Int32} (hf : f_L_usual a1 M = res) : jE (jZ (jK Ln xs sv)) 0 38 [(.inr (some 7)), (.inl a1)] (jSH w) M (some (.inl res), jSH w, M) := by
  unfold f_L_usual at hf
  refine jE_in (L0 := [some (.inr (some 7)), some (.inl a1), none, none]) rfl (Nat.le_of_ble_eq_true rfl) rfl (fun d hd => ?_)
  refine jR_in rfl ⟨rfl, rfl, rfl⟩ rfl ?_
  refine js_aload_n rfl ?_
  refine js_getr rfl rfl rfl ?_
  refine js_iconst (v := (1 : Int32)) rfl ?_
  refine js_iald rfl (by decide) ?_
  refine js_istore_n rfl rfl ?_
  refine js_aload_n rfl ?_
  refine js_getr rfl rfl rfl ?_
  refine js_iconst (v := (2 : Int32)) rfl ?_
  refine js_iald rfl (by decide) ?_
  refine js_istore_n rfl rfl ?_
  refine js_iload_n rfl ?_
  rcases jif_d hf with ⟨hk, hf⟩ | ⟨hk0, hf⟩
  · refine js_look (off := 25) (tgt := 40) rfl (by rw [hk]; rfl) rfl rfl ?_
    refine jR_in rfl ⟨rfl, rfl, rfl⟩ rfl ?_
    refine js_sipush (v := (800 : Int32)) rfl ?_
    refine js_bipush (v := (60 : Int32)) rfl ?_
    refine js_iload_n rfl ?_
    refine js_imul ?_
    refine js_isub ?_
    refine js_bipush (v := (100 : Int32)) rfl ?_
    refine js_aload_n rfl ?_
    refine js_getr rfl rfl rfl ?_
    refine js_bipush (v := (6 : Int32)) rfl ?_
    refine js_iald rfl (by decide) ?_
    refine js_imul ?_
    refine js_isub ?_
    subst hf
    exact js_iret rfl rfl
  · rcases jif_d hf with ⟨hk, hf⟩ | ⟨hk1, hf⟩
    · refine js_look (off := 45) (tgt := 60) rfl (by rw [hk]; rfl) rfl rfl ?_
      refine jR_in rfl ⟨rfl, rfl, rfl⟩ rfl ?_
      refine js_iload_n rfl ?_
      refine js_iload_n rfl ?_
      refine js_iadd ?_
      subst hf
      exact js_iret rfl rfl
    · refine js_look (off := 49) (tgt := 64) rfl (jsw_2 hk0 hk1) rfl rfl ?_
      refine jR_in rfl ⟨rfl, rfl, rfl⟩ rfl ?_
      refine js_iconst (v := (5 : Int32)) rfl ?_
      refine js_iload_n rfl ?_
      refine js_imul ?_
      subst hf
      exact js_iret rfl rfl
/-! SwallowsAir$Law.joined(III)I -/
def f_L_joined (a0 : Int32) (a1 : Int32) (a2 : Int32) : Option (Int32) :=
  if a0 = (38 : Int32) then (
  some (a1 &&& a2)) else if a0 = (39 : Int32) then (
  some (a1 ||| a2)) else if a0 = (40 : Int32) then (
  some (a1 ||| a2)) else if a0 = (41 : Int32) then (
  some (a1 ||| a2)) else if a0 = (42 : Int32) then (
  some (a1 * a2)) else if a0 = (43 : Int32) then (
  some (a1 + a2)) else if a0 = (44 : Int32) then (
  some (a1 ||| a2)) else if a0 = (45 : Int32) then (
  some (a1 - a2)) else if a0 = (46 : Int32) then (
  some (a1 ||| a2)) else if a0 = (47 : Int32) then (
  if jp_c .ne a2 0 = true then (
  jg (¬ a2 = 0) (
  some (a1 / a2))) else (
  some (0 : Int32))) else if a0 = (48 : Int32) then (
  some (a1 ||| a2)) else if a0 = (49 : Int32) then (
  some (a1 ||| a2)) else if a0 = (50 : Int32) then (
  some (a1 ||| a2)) else if a0 = (51 : Int32) then (
  some (a1 ||| a2)) else if a0 = (52 : Int32) then (
  some (a1 ||| a2)) else if a0 = (53 : Int32) then (
  some (a1 ||| a2)) else if a0 = (54 : Int32) then (
  some (a1 ||| a2)) else if a0 = (55 : Int32) then (
  some (a1 ||| a2)) else if a0 = (56 : Int32) then (
  some (a1 ||| a2)) else if a0 = (57 : Int32) then (
  some (a1 ||| a2)) else if a0 = (58 : Int32) then (
  some (a1 ||| a2)) else if a0 = (59 : Int32) then (
  some (a1 ||| a2)) else if a0 = (60 : Int32) then (
  if jp_c .ge a1 a2 = true then (
  some (0 : Int32)) else (
  some (1 : Int32))) else if a0 = (61 : Int32) then (
  if jp_c .ne a1 a2 = true then (
  some (0 : Int32)) else (
  some (1 : Int32))) else if a0 = (62 : Int32) then (
  if jp_c .le a1 a2 = true then (
  some (0 : Int32)) else (
  some (1 : Int32))) else (
  some (a1 ||| a2))
theorem t_L_joined {Ln : Nat} {xs : Nat → Int32} {sv : jp_V} {a0 : Int32} {a1 : Int32} {a2 : Int32} {w : Nat} {M : jp_M} {res : Int32} (hf : f_L_joined a0 a1 a2 = some res) : jE (jZ (jK Ln xs sv)) 0 41 [(.inl a0), (.inl a1), (.inl a2)] (jSH w) M (some (.inl res), jSH w, M) := by
  unfold f_L_joined at hf
  refine jE_in (L0 := [some (.inl a0), some (.inl a1), some (.inl a2)]) rfl (Nat.le_of_ble_eq_true rfl) rfl (fun d hd => ?_)
  refine jR_in rfl ⟨rfl, rfl, rfl⟩ rfl ?_
  refine js_iload_n rfl ?_
  rcases jif_d hf with ⟨hk, hf⟩ | ⟨hk38, hf⟩
  · refine js_tabIn (v := (38 : Int32)) (off := 172) (tgt := 173) hk rfl rfl rfl rfl ?_
    refine jR_in rfl ⟨rfl, rfl, rfl⟩ rfl ?_
    refine js_iload_n rfl ?_
    refine js_iload_n rfl ?_
    refine js_iand ?_
    obtain rfl := Option.some.inj hf
    exact js_iret rfl rfl
  · rcases jif_d hf with ⟨hk, hf⟩ | ⟨hk39, hf⟩
    · refine js_tabIn (v := (39 : Int32)) (off := 176) (tgt := 177) hk rfl rfl rfl rfl ?_
      refine jR_in rfl ⟨rfl, rfl, rfl⟩ rfl ?_
      refine js_iload_n rfl ?_
      refine js_iload_n rfl ?_
      refine js_ior ?_
      obtain rfl := Option.some.inj hf
      exact js_iret rfl rfl
    · rcases jif_d hf with ⟨hk, hf⟩ | ⟨hk40, hf⟩
      · refine js_tabIn (v := (40 : Int32)) (off := 176) (tgt := 177) hk rfl rfl rfl rfl ?_
        refine jR_in rfl ⟨rfl, rfl, rfl⟩ rfl ?_
        refine js_iload_n rfl ?_
        refine js_iload_n rfl ?_
        refine js_ior ?_
        obtain rfl := Option.some.inj hf
        exact js_iret rfl rfl
      · rcases jif_d hf with ⟨hk, hf⟩ | ⟨hk41, hf⟩
        · refine js_tabIn (v := (41 : Int32)) (off := 176) (tgt := 177) hk rfl rfl rfl rfl ?_
          refine jR_in rfl ⟨rfl, rfl, rfl⟩ rfl ?_
          refine js_iload_n rfl ?_
          refine js_iload_n rfl ?_
          refine js_ior ?_
          obtain rfl := Option.some.inj hf
          exact js_iret rfl rfl
        · rcases jif_d hf with ⟨hk, hf⟩ | ⟨hk42, hf⟩
          · refine js_tabIn (v := (42 : Int32)) (off := 123) (tgt := 124) hk rfl rfl rfl rfl ?_
            refine jR_in rfl ⟨rfl, rfl, rfl⟩ rfl ?_
            refine js_iload_n rfl ?_
            refine js_iload_n rfl ?_
            refine js_imul ?_
            obtain rfl := Option.some.inj hf
            exact js_iret rfl rfl
          · rcases jif_d hf with ⟨hk, hf⟩ | ⟨hk43, hf⟩
            · refine js_tabIn (v := (43 : Int32)) (off := 115) (tgt := 116) hk rfl rfl rfl rfl ?_
              refine jR_in rfl ⟨rfl, rfl, rfl⟩ rfl ?_
              refine js_iload_n rfl ?_
              refine js_iload_n rfl ?_
              refine js_iadd ?_
              obtain rfl := Option.some.inj hf
              exact js_iret rfl rfl
            · rcases jif_d hf with ⟨hk, hf⟩ | ⟨hk44, hf⟩
              · refine js_tabIn (v := (44 : Int32)) (off := 176) (tgt := 177) hk rfl rfl rfl rfl ?_
                refine jR_in rfl ⟨rfl, rfl, rfl⟩ rfl ?_
                refine js_iload_n rfl ?_
                refine js_iload_n rfl ?_
                refine js_ior ?_
                obtain rfl := Option.some.inj hf
                exact js_iret rfl rfl
              · rcases jif_d hf with ⟨hk, hf⟩ | ⟨hk45, hf⟩
                · refine js_tabIn (v := (45 : Int32)) (off := 119) (tgt := 120) hk rfl rfl rfl rfl ?_
                  refine jR_in rfl ⟨rfl, rfl, rfl⟩ rfl ?_
                  refine js_iload_n rfl ?_
                  refine js_iload_n rfl ?_
                  refine js_isub ?_
                  obtain rfl := Option.some.inj hf
                  exact js_iret rfl rfl
                · rcases jif_d hf with ⟨hk, hf⟩ | ⟨hk46, hf⟩
                  · refine js_tabIn (v := (46 : Int32)) (off := 176) (tgt := 177) hk rfl rfl rfl rfl ?_
                    refine jR_in rfl ⟨rfl, rfl, rfl⟩ rfl ?_
                    refine js_iload_n rfl ?_
                    refine js_iload_n rfl ?_
                    refine js_ior ?_
                    obtain rfl := Option.some.inj hf
                    exact js_iret rfl rfl
                  · rcases jif_d hf with ⟨hk, hf⟩ | ⟨hk47, hf⟩
                    · refine js_tabIn (v := (47 : Int32)) (off := 127) (tgt := 128) hk rfl rfl rfl rfl ?_
                      refine jR_in rfl ⟨rfl, rfl, rfl⟩ rfl ?_
                      refine js_iload_n rfl ?_
                      refine js_ifc (tgt := 136) rfl rfl (fun h => ?_) (fun h => ?_)
                      · have hf := jif_t hf h
                        refine jR_in rfl ⟨rfl, rfl, rfl⟩ rfl ?_
                        refine js_iload_n rfl ?_
                        refine js_iload_n rfl ?_
                        obtain ⟨hb2, hf⟩ := jg_some hf
                        refine js_idiv hb2 ?_
                        obtain rfl := Option.some.inj hf
                        exact js_iret rfl rfl
                      · have hf := jif_f hf h
                        refine js_iconst (v := (0 : Int32)) rfl ?_
                        refine js_goto (tgt := 139) rfl rfl ?_
                        refine jR_in rfl ⟨rfl, rfl, rfl⟩ rfl ?_
                        obtain rfl := Option.some.inj hf
                        exact js_iret rfl rfl
                    · rcases jif_d hf with ⟨hk, hf⟩ | ⟨hk48, hf⟩
                      · refine js_tabIn (v := (48 : Int32)) (off := 176) (tgt := 177) hk rfl rfl rfl rfl ?_
                        refine jR_in rfl ⟨rfl, rfl, rfl⟩ rfl ?_
                        refine js_iload_n rfl ?_
                        refine js_iload_n rfl ?_
                        refine js_ior ?_
                        obtain rfl := Option.some.inj hf
                        exact js_iret rfl rfl
                      · rcases jif_d hf with ⟨hk, hf⟩ | ⟨hk49, hf⟩
                        · refine js_tabIn (v := (49 : Int32)) (off := 176) (tgt := 177) hk rfl rfl rfl rfl ?_
                          refine jR_in rfl ⟨rfl, rfl, rfl⟩ rfl ?_
                          refine js_iload_n rfl ?_
                          refine js_iload_n rfl ?_
                          refine js_ior ?_
                          obtain rfl := Option.some.inj hf
                          exact js_iret rfl rfl
                        · rcases jif_d hf with ⟨hk, hf⟩ | ⟨hk50, hf⟩
                          · refine js_tabIn (v := (50 : Int32)) (off := 176) (tgt := 177) hk rfl rfl rfl rfl ?_
                            refine jR_in rfl ⟨rfl, rfl, rfl⟩ rfl ?_
                            refine js_iload_n rfl ?_
                            refine js_iload_n rfl ?_
                            refine js_ior ?_
                            obtain rfl := Option.some.inj hf
                            exact js_iret rfl rfl
                          · rcases jif_d hf with ⟨hk, hf⟩ | ⟨hk51, hf⟩
                            · refine js_tabIn (v := (51 : Int32)) (off := 176) (tgt := 177) hk rfl rfl rfl rfl ?_
                              refine jR_in rfl ⟨rfl, rfl, rfl⟩ rfl ?_
                              refine js_iload_n rfl ?_
                              refine js_iload_n rfl ?_
                              refine js_ior ?_
                              obtain rfl := Option.some.inj hf
                              exact js_iret rfl rfl
                            · rcases jif_d hf with ⟨hk, hf⟩ | ⟨hk52, hf⟩
                              · refine js_tabIn (v := (52 : Int32)) (off := 176) (tgt := 177) hk rfl rfl rfl rfl ?_
                                refine jR_in rfl ⟨rfl, rfl, rfl⟩ rfl ?_
                                refine js_iload_n rfl ?_
                                refine js_iload_n rfl ?_
                                refine js_ior ?_
                                obtain rfl := Option.some.inj hf
                                exact js_iret rfl rfl
                              · rcases jif_d hf with ⟨hk, hf⟩ | ⟨hk53, hf⟩
                                · refine js_tabIn (v := (53 : Int32)) (off := 176) (tgt := 177) hk rfl rfl rfl rfl ?_
                                  refine jR_in rfl ⟨rfl, rfl, rfl⟩ rfl ?_
                                  refine js_iload_n rfl ?_
                                  refine js_iload_n rfl ?_
                                  refine js_ior ?_
                                  obtain rfl := Option.some.inj hf
                                  exact js_iret rfl rfl
                                · rcases jif_d hf with ⟨hk, hf⟩ | ⟨hk54, hf⟩
                                  · refine js_tabIn (v := (54 : Int32)) (off := 176) (tgt := 177) hk rfl rfl rfl rfl ?_
                                    refine jR_in rfl ⟨rfl, rfl, rfl⟩ rfl ?_
                                    refine js_iload_n rfl ?_
                                    refine js_iload_n rfl ?_
                                    refine js_ior ?_
                                    obtain rfl := Option.some.inj hf
                                    exact js_iret rfl rfl
                                  · rcases jif_d hf with ⟨hk, hf⟩ | ⟨hk55, hf⟩
                                    · refine js_tabIn (v := (55 : Int32)) (off := 176) (tgt := 177) hk rfl rfl rfl rfl ?_
                                      refine jR_in rfl ⟨rfl, rfl, rfl⟩ rfl ?_
                                      refine js_iload_n rfl ?_
                                      refine js_iload_n rfl ?_
                                      refine js_ior ?_
                                      obtain rfl := Option.some.inj hf
                                      exact js_iret rfl rfl
                                    · rcases jif_d hf with ⟨hk, hf⟩ | ⟨hk56, hf⟩
                                      · refine js_tabIn (v := (56 : Int32)) (off := 176) (tgt := 177) hk rfl rfl rfl rfl ?_
                                        refine jR_in rfl ⟨rfl, rfl, rfl⟩ rfl ?_
                                        refine js_iload_n rfl ?_
                                        refine js_iload_n rfl ?_
                                        refine js_ior ?_
                                        obtain rfl := Option.some.inj hf
                                        exact js_iret rfl rfl
                                      · rcases jif_d hf with ⟨hk, hf⟩ | ⟨hk57, hf⟩
                                        · refine js_tabIn (v := (57 : Int32)) (off := 176) (tgt := 177) hk rfl rfl rfl rfl ?_
                                          refine jR_in rfl ⟨rfl, rfl, rfl⟩ rfl ?_
                                          refine js_iload_n rfl ?_
                                          refine js_iload_n rfl ?_
                                          refine js_ior ?_
                                          obtain rfl := Option.some.inj hf
                                          exact js_iret rfl rfl
                                        · rcases jif_d hf with ⟨hk, hf⟩ | ⟨hk58, hf⟩
                                          · refine js_tabIn (v := (58 : Int32)) (off := 176) (tgt := 177) hk rfl rfl rfl rfl ?_
                                            refine jR_in rfl ⟨rfl, rfl, rfl⟩ rfl ?_
                                            refine js_iload_n rfl ?_
                                            refine js_iload_n rfl ?_
                                            refine js_ior ?_
                                            obtain rfl := Option.some.inj hf
                                            exact js_iret rfl rfl
                                          · rcases jif_d hf with ⟨hk, hf⟩ | ⟨hk59, hf⟩
                                            · refine js_tabIn (v := (59 : Int32)) (off := 176) (tgt := 177) hk rfl rfl rfl rfl ?_
                                              refine jR_in rfl ⟨rfl, rfl, rfl⟩ rfl ?_
                                              refine js_iload_n rfl ?_
                                              refine js_iload_n rfl ?_
                                              refine js_ior ?_
                                              obtain rfl := Option.some.inj hf
                                              exact js_iret rfl rfl
                                            · rcases jif_d hf with ⟨hk, hf⟩ | ⟨hk60, hf⟩
                                              · refine js_tabIn (v := (60 : Int32)) (off := 139) (tgt := 140) hk rfl rfl rfl rfl ?_
                                                refine jR_in rfl ⟨rfl, rfl, rfl⟩ rfl ?_
                                                refine js_iload_n rfl ?_
                                                refine js_iload_n rfl ?_
                                                refine js_icmp (tgt := 149) rfl rfl (fun h => ?_) (fun h => ?_)
                                                · have hf := jif_t hf h
                                                  refine jR_in rfl ⟨rfl, rfl, rfl⟩ rfl ?_
                                                  refine js_iconst (v := (0 : Int32)) rfl ?_
                                                  obtain rfl := Option.some.inj hf
                                                  exact js_iret rfl rfl
                                                · have hf := jif_f hf h
                                                  refine js_iconst (v := (1 : Int32)) rfl ?_
                                                  refine js_goto (tgt := 150) rfl rfl ?_
                                                  refine jR_in rfl ⟨rfl, rfl, rfl⟩ rfl ?_
                                                  obtain rfl := Option.some.inj hf
                                                  exact js_iret rfl rfl
                                              · rcases jif_d hf with ⟨hk, hf⟩ | ⟨hk61, hf⟩
                                                · refine js_tabIn (v := (61 : Int32)) (off := 150) (tgt := 151) hk rfl rfl rfl rfl ?_
                                                  refine jR_in rfl ⟨rfl, rfl, rfl⟩ rfl ?_
                                                  refine js_iload_n rfl ?_
                                                  refine js_iload_n rfl ?_
                                                  refine js_icmp (tgt := 160) rfl rfl (fun h => ?_) (fun h => ?_)
                                                  · have hf := jif_t hf h
                                                    refine jR_in rfl ⟨rfl, rfl, rfl⟩ rfl ?_
                                                    refine js_iconst (v := (0 : Int32)) rfl ?_
                                                    obtain rfl := Option.some.inj hf
                                                    exact js_iret rfl rfl
                                                  · have hf := jif_f hf h
                                                    refine js_iconst (v := (1 : Int32)) rfl ?_
                                                    refine js_goto (tgt := 161) rfl rfl ?_
                                                    refine jR_in rfl ⟨rfl, rfl, rfl⟩ rfl ?_
                                                    obtain rfl := Option.some.inj hf
                                                    exact js_iret rfl rfl
                                                · rcases jif_d hf with ⟨hk, hf⟩ | ⟨hk62, hf⟩
                                                  · refine js_tabIn (v := (62 : Int32)) (off := 161) (tgt := 162) hk rfl rfl rfl rfl ?_
                                                    refine jR_in rfl ⟨rfl, rfl, rfl⟩ rfl ?_
                                                    refine js_iload_n rfl ?_
                                                    refine js_iload_n rfl ?_
                                                    refine js_icmp (tgt := 171) rfl rfl (fun h => ?_) (fun h => ?_)
                                                    · have hf := jif_t hf h
                                                      refine jR_in rfl ⟨rfl, rfl, rfl⟩ rfl ?_
                                                      refine js_iconst (v := (0 : Int32)) rfl ?_
                                                      obtain rfl := Option.some.inj hf
                                                      exact js_iret rfl rfl
                                                    · have hf := jif_f hf h
                                                      refine js_iconst (v := (1 : Int32)) rfl ?_
                                                      refine js_goto (tgt := 172) rfl rfl ?_
                                                      refine jR_in rfl ⟨rfl, rfl, rfl⟩ rfl ?_
                                                      obtain rfl := Option.some.inj hf
                                                      exact js_iret rfl rfl
                                                  · refine js_tabOut (tgt := 177) (jsw_3 hk38 hk39 hk40 hk41 hk42 hk43 hk44 hk45 hk46 hk47 hk48 hk49 hk50 hk51 hk52 hk53 hk54 hk55 hk56 hk57 hk58 hk59 hk60 hk61 hk62) rfl rfl ?_
                                                    refine jR_in rfl ⟨rfl, rfl, rfl⟩ rfl ?_
                                                    refine js_iload_n rfl ?_
                                                    refine js_iload_n rfl ?_
                                                    refine js_ior ?_
                                                    obtain rfl := Option.some.inj hf
                                                    exact js_iret rfl rfl
/-! SwallowsAir$Law.fact(I)I -/
def f_L_fact (a1 : Int32) (M : jp_M) : Option (Int32) :=
  if jp_c .eq (f_C_within a1 (9 : Int32)) 0 = true then (
  some (0 : Int32)) else (
  jg (jp_in a1 10) (
  some (M 12 (Int32.toNatClampNeg a1))))
theorem t_L_fact {Ln : Nat} {xs : Nat → Int32} {sv : jp_V} {a1 : Int32} {w : Nat} {M : jp_M} {res : Int32} (hf : f_L_fact a1 M = some res) : jE (jZ (jK Ln xs sv)) 1 40 [(.inr (some 7)), (.inl a1)] (jSH w) M (some (.inl res), jSH w, M) := by
  unfold f_L_fact at hf
  refine jE_in (L0 := [some (.inr (some 7)), some (.inl a1)]) rfl (Nat.le_of_ble_eq_true rfl) rfl (fun d hd => ?_)
  refine jR_in rfl ⟨rfl, rfl, rfl⟩ rfl ?_
  refine js_iload_n rfl ?_
  refine js_bipush (v := (9 : Int32)) rfl ?_
  refine js_c2i rfl rfl ⟨rfl, rfl⟩ rfl rfl (t_C_within rfl) (by omega) ?_
  refine js_ifc (tgt := 18) rfl rfl (fun h => ?_) (fun h => ?_)
  · have hf := jif_t hf h
    refine jR_in rfl ⟨rfl, rfl, rfl⟩ rfl ?_
    refine js_iconst (v := (0 : Int32)) rfl ?_
    obtain rfl := Option.some.inj hf
    exact js_iret rfl rfl
  · have hf := jif_f hf h
    refine js_aload_n rfl ?_
    refine js_getr rfl rfl rfl ?_
    refine js_iload_n rfl ?_
    obtain ⟨hb2, hf⟩ := jg_some hf
    refine js_iald rfl hb2 ?_
    refine js_goto (tgt := 19) rfl rfl ?_
    refine jR_in rfl ⟨rfl, rfl, rfl⟩ rfl ?_
    obtain rfl := Option.some.inj hf
    exact js_iret rfl rfl
/-! SwallowsAir$Law.value(II)I -/
def f_L_value_117 (c4 : Int32 → Int32 → Int32 → jp_M → Option (Int32 × jp_M)) (l2 : Int32) (l3 : Int32) (l4 : Int32) (M : jp_M) : Option (Int32 × jp_M) :=
  c4 l2 l3 (l4 + (1 : Int32)) M
theorem t_L_value_117 {Ln : Nat} {xs : Nat → Int32} {sv : jp_V} {d : Nat} (hd : 2 ≤ d) {c4 : Int32 → Int32 → Int32 → jp_M → Option (Int32 × jp_M)} (hc4 : ∀ (l2 : Int32) (l3 : Int32) (l4 : Int32) (o1 : Option jp_V) (o5 : Option jp_V) (w : Nat) (M : jp_M) (res : Int32 × jp_M), c4 l2 l3 l4 M = some res → jR (jZ (jK Ln xs sv)) d 39 5 ([some (.inr (some 7)), o1, some (.inl l2), some (.inl l3), some (.inl l4), o5], [], jSH w, M) (some (.inl res.1), jSH w, res.2)) (l2 : Int32) (l3 : Int32) (l4 : Int32) (o1 : Option jp_V) (o5 : Option jp_V) (w : Nat) (M : jp_M) {res : Int32 × jp_M} (hf : f_L_value_117 c4 l2 l3 l4 M = some res) : jR (jZ (jK Ln xs sv)) d 39 117 ([some (.inr (some 7)), o1, some (.inl l2), some (.inl l3), some (.inl l4), o5], [], jSH w, M) (some (.inl res.1), jSH w, res.2) := by
  unfold f_L_value_117 at hf
  refine jR_in rfl ⟨rfl, rfl, rfl⟩ rfl ?_
  refine js_iinc (v := (1 : Int32)) rfl rfl rfl rfl ?_
  refine js_goto (tgt := 5) rfl rfl ?_
  exact hc4 _ _ _ _ _ _ _ _ hf
def f_L_value_113 (c4 : Int32 → Int32 → Int32 → jp_M → Option (Int32 × jp_M)) (l2 : Int32) (l3 : Int32) (l4 : Int32) (s1 : Int32) (s2 : Int32) (M : jp_M) : Option (Int32 × jp_M) :=
  jg (jp_in s1 32) (
  let M1 := jp_set M 13 (upd (M 13) (Int32.toNatClampNeg s1) s2)
  f_L_value_117 c4 l2 (l3 + (1 : Int32)) l4 M1)
theorem t_L_value_113 {Ln : Nat} {xs : Nat → Int32} {sv : jp_V} {d : Nat} (hd : 2 ≤ d) {c4 : Int32 → Int32 → Int32 → jp_M → Option (Int32 × jp_M)} (hc4 : ∀ (l2 : Int32) (l3 : Int32) (l4 : Int32) (o1 : Option jp_V) (o5 : Option jp_V) (w : Nat) (M : jp_M) (res : Int32 × jp_M), c4 l2 l3 l4 M = some res → jR (jZ (jK Ln xs sv)) d 39 5 ([some (.inr (some 7)), o1, some (.inl l2), some (.inl l3), some (.inl l4), o5], [], jSH w, M) (some (.inl res.1), jSH w, res.2)) (l2 : Int32) (l3 : Int32) (l4 : Int32) (s1 : Int32) (s2 : Int32) (o1 : Option jp_V) (o5 : Option jp_V) (w : Nat) (M : jp_M) {res : Int32 × jp_M} (hf : f_L_value_113 c4 l2 l3 l4 s1 s2 M = some res) : jR (jZ (jK Ln xs sv)) d 39 113 ([some (.inr (some 7)), o1, some (.inl l2), some (.inl l3), some (.inl l4), o5], [.inl s2, .inl s1, (.inr (some 13))], jSH w, M) (some (.inl res.1), jSH w, res.2) := by
  unfold f_L_value_113 at hf
  refine jR_in rfl ⟨rfl, rfl, rfl⟩ rfl ?_
  obtain ⟨hb2, hf⟩ := jg_some hf
  refine js_iast rfl hb2 ?_
  refine js_iinc (v := (1 : Int32)) rfl rfl rfl rfl ?_
  exact jS_out rfl ⟨rfl, rfl, rfl⟩ rfl (t_L_value_117 hd hc4 _ _ _ _ _ _ _ hf)
def f_L_value_123  (l3 : Int32) (M : jp_M) : Option (Int32 × jp_M) :=
  if jp_c .le l3 0 = true then (
  some ((0 : Int32), M)) else (
  jg (jp_in (l3 - (1 : Int32)) 32) (
  some ((M 13 (Int32.toNatClampNeg (l3 - (1 : Int32)))), M)))
theorem t_L_value_123 {Ln : Nat} {xs : Nat → Int32} {sv : jp_V} {d : Nat} (hd : 2 ≤ d)  (l3 : Int32) (o1 : Option jp_V) (o2 : Option jp_V) (o4 : Option jp_V) (o5 : Option jp_V) (w : Nat) (M : jp_M) {res : Int32 × jp_M} (hf : f_L_value_123  l3 M = some res) : jR (jZ (jK Ln xs sv)) d 39 123 ([some (.inr (some 7)), o1, o2, some (.inl l3), o4, o5], [], jSH w, M) (some (.inl res.1), jSH w, res.2) := by
  unfold f_L_value_123 at hf
  refine jR_in rfl ⟨rfl, rfl, rfl⟩ rfl ?_
  refine js_iload_n rfl ?_
  refine js_ifc (tgt := 138) rfl rfl (fun h => ?_) (fun h => ?_)
  · have hf := jif_t hf h
    refine jR_in rfl ⟨rfl, rfl, rfl⟩ rfl ?_
    refine js_iconst (v := (0 : Int32)) rfl ?_
    obtain rfl := Option.some.inj hf
    exact js_iret rfl rfl
  · have hf := jif_f hf h
    refine js_aload_n rfl ?_
    refine js_getr rfl rfl rfl ?_
    refine js_iload_n rfl ?_
    refine js_iconst (v := (1 : Int32)) rfl ?_
    refine js_isub ?_
    obtain ⟨hb1, hf⟩ := jg_some hf
    refine js_iald rfl hb1 ?_
    refine js_goto (tgt := 139) rfl rfl ?_
    refine jR_in rfl ⟨rfl, rfl, rfl⟩ rfl ?_
    obtain rfl := Option.some.inj hf
    exact js_iret rfl rfl
def f_L_value_5  : Nat → Int32 → Int32 → Int32 → jp_M → Option (Int32 × jp_M)
  | 0, _, _, _, _ => none
  | n + 1, l2, l3, l4, M =>
    if jp_c .ge l4 l2 = true then (
    f_L_value_123 l3 M) else (
    if jp_c .ge l4 (M 7 1) = true then (
    f_L_value_123 l3 M) else (
    jg (jp_in l4 400) (
    if jp_c .lt (Int32.toInt16 (M 11 (Int32.toNatClampNeg l4))).toInt32 (20000 : Int32) = true then (
    if jp_c .ge l3 (32 : Int32) = true then (
    f_L_value_117 (f_L_value_5 n ) l2 l3 l4 M) else (
    if jp_c .ge (Int32.toInt16 (M 11 (Int32.toNatClampNeg l4))).toInt32 (10000 : Int32) = true then (
    (f_L_fact ((Int32.toInt16 (M 11 (Int32.toNatClampNeg l4))).toInt32 - (10000 : Int32)) M).bind fun q2 => (
    f_L_value_113 (f_L_value_5 n ) l2 l3 l4 l3 q2 M)) else (
    f_L_value_113 (f_L_value_5 n ) l2 l3 l4 l3 ((Int32.toInt16 (M 11 (Int32.toNatClampNeg l4))).toInt32) M))) else (
    if jp_c .lt l3 (2 : Int32) = true then (
    f_L_value_117 (f_L_value_5 n ) l2 l3 l4 M) else (
    jg (jp_in ((l3 + (-1 : Int32)) - (1 : Int32)) 32) (
    jg (jp_in (l3 + (-1 : Int32)) 32) (
    (f_L_joined ((Int32.toInt16 (M 11 (Int32.toNatClampNeg l4))).toInt32 - (20000 : Int32)) (M 13 (Int32.toNatClampNeg ((l3 + (-1 : Int32)) - (1 : Int32)))) (M 13 (Int32.toNatClampNeg (l3 + (-1 : Int32))))).bind fun q5 => (
    jg (jp_in ((l3 + (-1 : Int32)) - (1 : Int32)) 32) (
    let M6 := jp_set M 13 (upd (M 13) (Int32.toNatClampNeg ((l3 + (-1 : Int32)) - (1 : Int32))) q5)
    f_L_value_117 (f_L_value_5 n ) l2 (l3 + (-1 : Int32)) l4 M6)))))))))
theorem t_L_value_5 {Ln : Nat} {xs : Nat → Int32} {sv : jp_V} {d : Nat} (hd : 2 ≤ d)  : ∀ (n : Nat) (l2 : Int32) (l3 : Int32) (l4 : Int32) (o1 : Option jp_V) (o5 : Option jp_V) (w : Nat) (M : jp_M) {res : Int32 × jp_M}, f_L_value_5 n  l2 l3 l4 M = some res → jR (jZ (jK Ln xs sv)) d 39 5 ([some (.inr (some 7)), o1, some (.inl l2), some (.inl l3), some (.inl l4), o5], [], jSH w, M) (some (.inl res.1), jSH w, res.2) := by
  intro n
  induction n with
  | zero =>
    intro l2 l3 l4 o1 o5 w M res hf
    cases hf
  | succ n ih =>
    intro l2 l3 l4 o1 o5 w M res hf
    rw [f_L_value_5] at hf
    refine jR_in rfl ⟨rfl, rfl, rfl⟩ rfl ?_
    refine js_iload rfl ?_
    refine js_iload_n rfl ?_
    refine js_icmp (tgt := 123) rfl rfl (fun h => ?_) (fun h => ?_)
    · have hf := jif_t hf h
      exact t_L_value_123 hd _ _ _ _ _ _ _ hf
    · have hf := jif_f hf h
      refine js_iload rfl ?_
      refine js_aload_n rfl ?_
      refine js_geti rfl rfl rfl ?_
      refine js_icmp (tgt := 123) rfl rfl (fun h => ?_) (fun h => ?_)
      · have hf := jif_t hf h
        exact t_L_value_123 hd _ _ _ _ _ _ _ hf
      · have hf := jif_f hf h
        refine js_aload_n rfl ?_
        refine js_getr rfl rfl rfl ?_
        refine js_iload rfl ?_
        obtain ⟨hb1, hf⟩ := jg_some hf
        refine js_sald rfl hb1 ?_
        refine js_istore rfl rfl ?_
        refine js_iload rfl ?_
        refine js_sipush (v := (20000 : Int32)) rfl ?_
        refine js_icmp (tgt := 79) rfl rfl (fun h => ?_) (fun h => ?_)
        · have hf := jif_t hf h
          refine jR_in rfl ⟨rfl, rfl, rfl⟩ rfl ?_
          refine js_iload_n rfl ?_
          refine js_bipush (v := (32 : Int32)) rfl ?_
          refine js_icmp (tgt := 117) rfl rfl (fun h => ?_) (fun h => ?_)
          · have hf := jif_t hf h
            exact t_L_value_117 hd (fun l2 l3 l4 o1 o5 w M res hf => ih l2 l3 l4 o1 o5 w M hf) _ _ _ _ _ _ _ hf
          · have hf := jif_f hf h
            refine js_aload_n rfl ?_
            refine js_getr rfl rfl rfl ?_
            refine js_iload_n rfl ?_
            refine js_iload rfl ?_
            refine js_sipush (v := (10000 : Int32)) rfl ?_
            refine js_icmp (tgt := 103) rfl rfl (fun h => ?_) (fun h => ?_)
            · have hf := jif_t hf h
              refine jR_in rfl ⟨rfl, rfl, rfl⟩ rfl ?_
              refine js_aload_n rfl ?_
              refine js_iload rfl ?_
              refine js_sipush (v := (10000 : Int32)) rfl ?_
              refine js_isub ?_
              obtain ⟨q2, hc_2, hf⟩ := jbind hf
              refine js_c2i rfl rfl ⟨rfl, rfl⟩ rfl rfl (t_L_fact hc_2) (by omega) ?_
              exact jS_out rfl ⟨rfl, rfl, rfl⟩ rfl (t_L_value_113 hd (fun l2 l3 l4 o1 o5 w M res hf => ih l2 l3 l4 o1 o5 w M hf) _ _ _ _ _ _ _ _ _ hf)
            · have hf := jif_f hf h
              refine js_iload rfl ?_
              refine js_goto (tgt := 113) rfl rfl ?_
              exact t_L_value_113 hd (fun l2 l3 l4 o1 o5 w M res hf => ih l2 l3 l4 o1 o5 w M hf) _ _ _ _ _ _ _ _ _ hf
        · have hf := jif_f hf h
          refine js_iload_n rfl ?_
          refine js_iconst (v := (2 : Int32)) rfl ?_
          refine js_icmp (tgt := 117) rfl rfl (fun h => ?_) (fun h => ?_)
          · have hf := jif_t hf h
            exact t_L_value_117 hd (fun l2 l3 l4 o1 o5 w M res hf => ih l2 l3 l4 o1 o5 w M hf) _ _ _ _ _ _ _ hf
          · have hf := jif_f hf h
            refine js_iinc (v := (-1 : Int32)) rfl rfl rfl rfl ?_
            refine js_aload_n rfl ?_
            refine js_getr rfl rfl rfl ?_
            refine js_iload_n rfl ?_
            refine js_iconst (v := (1 : Int32)) rfl ?_
            refine js_isub ?_
            refine js_iload rfl ?_
            refine js_sipush (v := (20000 : Int32)) rfl ?_
            refine js_isub ?_
            refine js_aload_n rfl ?_
            refine js_getr rfl rfl rfl ?_
            refine js_iload_n rfl ?_
            refine js_iconst (v := (1 : Int32)) rfl ?_
            refine js_isub ?_
            obtain ⟨hb3, hf⟩ := jg_some hf
            refine js_iald rfl hb3 ?_
            refine js_aload_n rfl ?_
            refine js_getr rfl rfl rfl ?_
            refine js_iload_n rfl ?_
            obtain ⟨hb4, hf⟩ := jg_some hf
            refine js_iald rfl hb4 ?_
            obtain ⟨q5, hc_5, hf⟩ := jbind hf
            refine js_c3i rfl rfl ⟨rfl, rfl⟩ rfl rfl (t_L_joined hc_5) (by omega) ?_
            obtain ⟨hb7, hf⟩ := jg_some hf
            refine js_iast rfl hb7 ?_
            refine js_goto (tgt := 117) rfl rfl ?_
            exact t_L_value_117 hd (fun l2 l3 l4 o1 o5 w M res hf => ih l2 l3 l4 o1 o5 w M hf) _ _ _ _ _ _ _ hf
def f_L_value (a1 : Int32) (a2 : Int32) (M : jp_M) : Option (Int32 × jp_M) :=
  f_L_value_5 jFu a2 (0 : Int32) a1 M
theorem t_L_value {Ln : Nat} {xs : Nat → Int32} {sv : jp_V} {a1 : Int32} {a2 : Int32} {w : Nat} {M : jp_M} {res : Int32 × jp_M} (hf : f_L_value a1 a2 M = some res) : jE (jZ (jK Ln xs sv)) 2 39 [(.inr (some 7)), (.inl a1), (.inl a2)] (jSH w) M (some (.inl res.1), jSH w, res.2) := by
  unfold f_L_value at hf
  refine jE_in (L0 := [some (.inr (some 7)), some (.inl a1), some (.inl a2), none, none, none]) rfl (Nat.le_of_ble_eq_true rfl) rfl (fun d hd => ?_)
  refine jR_in rfl ⟨rfl, rfl, rfl⟩ rfl ?_
  refine js_iconst (v := (0 : Int32)) rfl ?_
  refine js_istore_n rfl rfl ?_
  refine js_iload_n rfl ?_
  refine js_istore rfl rfl ?_
  exact jS_out rfl ⟨rfl, rfl, rfl⟩ rfl (t_L_value_5 hd jFu _ _ _ _ _ _ _ hf)
/-! SwallowsAir$Law.tells(ILSwallowsAir$World;[II)I -/
def f_L_tells_142  (l5 : Int32) (s0 : Int32) (s1 : Int32) (M : jp_M) : Option (Int32 × jp_M) :=
  some ((jp_max s0 (jp_min s1 l5)), M)
theorem t_L_tells_142 {Ln : Nat} {xs : Nat → Int32} {sv : jp_V} {d : Nat} (hd : 3 ≤ d)  (l5 : Int32) (s0 : Int32) (s1 : Int32) (o0 : Option jp_V) (o1 : Option jp_V) (o2 : Option jp_V) (o3 : Option jp_V) (o4 : Option jp_V) (o6 : Option jp_V) (o7 : Option jp_V) (w : Nat) (M : jp_M) {res : Int32 × jp_M} (hf : f_L_tells_142  l5 s0 s1 M = some res) : jR (jZ (jK Ln xs sv)) d 36 142 ([o0, o1, o2, o3, o4, some (.inl l5), o6, o7], [.inl s1, .inl s0], jSH w, M) (some (.inl res.1), jSH w, res.2) := by
  unfold f_L_tells_142 at hf
  refine jR_in rfl ⟨rfl, rfl, rfl⟩ rfl ?_
  refine js_iload rfl ?_
  refine js_min rfl ?_
  refine js_max rfl ?_
  obtain rfl := Option.some.inj hf
  exact js_iret rfl rfl
def f_L_tells_128  (l1 : Int32) (l5 : Int32) (M : jp_M) : Option (Int32 × jp_M) :=
  if jp_c .ne l1 0 = true then (
  f_L_tells_142 l5 (0 : Int32) (999 : Int32) M) else (
  f_L_tells_142 l5 (0 : Int32) (1000 : Int32) M)
theorem t_L_tells_128 {Ln : Nat} {xs : Nat → Int32} {sv : jp_V} {d : Nat} (hd : 3 ≤ d)  (l1 : Int32) (l5 : Int32) (o0 : Option jp_V) (o2 : Option jp_V) (o3 : Option jp_V) (o4 : Option jp_V) (o6 : Option jp_V) (o7 : Option jp_V) (w : Nat) (M : jp_M) {res : Int32 × jp_M} (hf : f_L_tells_128  l1 l5 M = some res) : jR (jZ (jK Ln xs sv)) d 36 128 ([o0, some (.inl l1), o2, o3, o4, some (.inl l5), o6, o7], [], jSH w, M) (some (.inl res.1), jSH w, res.2) := by
  unfold f_L_tells_128 at hf
  refine jR_in rfl ⟨rfl, rfl, rfl⟩ rfl ?_
  refine js_iconst (v := (0 : Int32)) rfl ?_
  refine js_iload_n rfl ?_
  refine js_ifc (tgt := 139) rfl rfl (fun h => ?_) (fun h => ?_)
  · have hf := jif_t hf h
    refine jR_in rfl ⟨rfl, rfl, rfl⟩ rfl ?_
    refine js_sipush (v := (999 : Int32)) rfl ?_
    exact jS_out rfl ⟨rfl, rfl, rfl⟩ rfl (t_L_tells_142 hd _ _ _ _ _ _ _ _ _ _ _ _ hf)
  · have hf := jif_f hf h
    refine js_sipush (v := (1000 : Int32)) rfl ?_
    refine js_goto (tgt := 142) rfl rfl ?_
    exact t_L_tells_142 hd _ _ _ _ _ _ _ _ _ _ _ _ hf
def f_L_tells_107  (l1 : Int32) (l6 : Int32) (s1 : Int32) (M : jp_M) : Option (Int32 × jp_M) :=
  jg (jp_in l6 16) (
  (f_L_value s1 (M 9 (Int32.toNatClampNeg l6)) M).bind fun q2 => (
  f_L_tells_128 l1 (q2.1) (q2.2)))
theorem t_L_tells_107 {Ln : Nat} {xs : Nat → Int32} {sv : jp_V} {d : Nat} (hd : 3 ≤ d)  (l1 : Int32) (l6 : Int32) (s1 : Int32) (o2 : Option jp_V) (o3 : Option jp_V) (o4 : Option jp_V) (o5 : Option jp_V) (o7 : Option jp_V) (w : Nat) (M : jp_M) {res : Int32 × jp_M} (hf : f_L_tells_107  l1 l6 s1 M = some res) : jR (jZ (jK Ln xs sv)) d 36 107 ([some (.inr (some 7)), some (.inl l1), o2, o3, o4, o5, some (.inl l6), o7], [.inl s1, (.inr (some 7))], jSH w, M) (some (.inl res.1), jSH w, res.2) := by
  unfold f_L_tells_107 at hf
  refine jR_in rfl ⟨rfl, rfl, rfl⟩ rfl ?_
  refine js_aload_n rfl ?_
  refine js_getr rfl rfl rfl ?_
  refine js_iload rfl ?_
  obtain ⟨hb1, hf⟩ := jg_some hf
  refine js_iald rfl hb1 ?_
  obtain ⟨q2, hc_2, hf⟩ := jbind hf
  refine js_c3i rfl rfl ⟨rfl, rfl⟩ rfl rfl (t_L_value hc_2) (by omega) ?_
  refine js_istore rfl rfl ?_
  refine js_goto (tgt := 128) rfl rfl ?_
  exact t_L_tells_128 hd _ _ _ _ _ _ _ _ _ _ hf
def f_L_tells_88  (l1 : Int32) (l6 : Int32) (M : jp_M) : Option (Int32 × jp_M) :=
  if jp_c .ne l6 0 = true then (
  jg (jp_in (l6 - (1 : Int32)) 16) (
  f_L_tells_107 l1 l6 (M 10 (Int32.toNatClampNeg (l6 - (1 : Int32)))) M)) else (
  f_L_tells_107 l1 l6 (0 : Int32) M)
theorem t_L_tells_88 {Ln : Nat} {xs : Nat → Int32} {sv : jp_V} {d : Nat} (hd : 3 ≤ d)  (l1 : Int32) (l6 : Int32) (o2 : Option jp_V) (o3 : Option jp_V) (o4 : Option jp_V) (o5 : Option jp_V) (o7 : Option jp_V) (w : Nat) (M : jp_M) {res : Int32 × jp_M} (hf : f_L_tells_88  l1 l6 M = some res) : jR (jZ (jK Ln xs sv)) d 36 88 ([some (.inr (some 7)), some (.inl l1), o2, o3, o4, o5, some (.inl l6), o7], [], jSH w, M) (some (.inl res.1), jSH w, res.2) := by
  unfold f_L_tells_88 at hf
  refine jR_in rfl ⟨rfl, rfl, rfl⟩ rfl ?_
  refine js_aload_n rfl ?_
  refine js_iload rfl ?_
  refine js_ifc (tgt := 98) rfl rfl (fun h => ?_) (fun h => ?_)
  · have hf := jif_t hf h
    refine jR_in rfl ⟨rfl, rfl, rfl⟩ rfl ?_
    refine js_aload_n rfl ?_
    refine js_getr rfl rfl rfl ?_
    refine js_iload rfl ?_
    refine js_iconst (v := (1 : Int32)) rfl ?_
    refine js_isub ?_
    obtain ⟨hb1, hf⟩ := jg_some hf
    refine js_iald rfl hb1 ?_
    exact jS_out rfl ⟨rfl, rfl, rfl⟩ rfl (t_L_tells_107 hd _ _ _ _ _ _ _ _ _ _ hf)
  · have hf := jif_f hf h
    refine js_iconst (v := (0 : Int32)) rfl ?_
    refine js_goto (tgt := 107) rfl rfl ?_
    exact t_L_tells_107 hd _ _ _ _ _ _ _ _ _ _ hf
def f_L_tells_122 (c11 : Int32 → Int32 → Int32 → jp_M → Option (Int32 × jp_M)) (l1 : Int32) (l5 : Int32) (l6 : Int32) (M : jp_M) : Option (Int32 × jp_M) :=
  c11 l1 l5 (l6 + (1 : Int32)) M
theorem t_L_tells_122 {Ln : Nat} {xs : Nat → Int32} {sv : jp_V} {d : Nat} (hd : 3 ≤ d) {c11 : Int32 → Int32 → Int32 → jp_M → Option (Int32 × jp_M)} (hc11 : ∀ (l1 : Int32) (l5 : Int32) (l6 : Int32) (o2 : Option jp_V) (o3 : Option jp_V) (o4 : Option jp_V) (o7 : Option jp_V) (w : Nat) (M : jp_M) (res : Int32 × jp_M), c11 l1 l5 l6 M = some res → jR (jZ (jK Ln xs sv)) d 36 18 ([some (.inr (some 7)), some (.inl l1), o2, o3, o4, some (.inl l5), some (.inl l6), o7], [], jSH w, M) (some (.inl res.1), jSH w, res.2)) (l1 : Int32) (l5 : Int32) (l6 : Int32) (o2 : Option jp_V) (o3 : Option jp_V) (o4 : Option jp_V) (o7 : Option jp_V) (w : Nat) (M : jp_M) {res : Int32 × jp_M} (hf : f_L_tells_122 c11 l1 l5 l6 M = some res) : jR (jZ (jK Ln xs sv)) d 36 122 ([some (.inr (some 7)), some (.inl l1), o2, o3, o4, some (.inl l5), some (.inl l6), o7], [], jSH w, M) (some (.inl res.1), jSH w, res.2) := by
  unfold f_L_tells_122 at hf
  refine jR_in rfl ⟨rfl, rfl, rfl⟩ rfl ?_
  refine js_iinc (v := (1 : Int32)) rfl rfl rfl rfl ?_
  refine js_goto (tgt := 18) rfl rfl ?_
  exact hc11 _ _ _ _ _ _ _ _ _ _ hf
def f_L_tells_49 (c11 : Int32 → Int32 → Int32 → jp_M → Option (Int32 × jp_M)) (l1 : Int32) (l5 : Int32) (l6 : Int32) (s0 : Int32) (M : jp_M) : Option (Int32 × jp_M) :=
  jg (jp_in l6 16) (
  if jp_c .ne (M 8 (Int32.toNatClampNeg l6)) l1 = true then (
  f_L_tells_122 c11 l1 l5 l6 M) else (
  if jp_c .ne s0 0 = true then (
  f_L_tells_88 l1 l6 M) else (
  jg (jp_in l6 16) (
  jg (jp_in l6 16) (
  (f_L_value (M 9 (Int32.toNatClampNeg l6)) (M 10 (Int32.toNatClampNeg l6)) M).bind fun q4 => (
  if jp_c .eq q4.1 0 = true then (
  f_L_tells_122 c11 l1 l5 l6 (q4.2)) else (
  f_L_tells_88 l1 l6 (q4.2))))))))
theorem t_L_tells_49 {Ln : Nat} {xs : Nat → Int32} {sv : jp_V} {d : Nat} (hd : 3 ≤ d) {c11 : Int32 → Int32 → Int32 → jp_M → Option (Int32 × jp_M)} (hc11 : ∀ (l1 : Int32) (l5 : Int32) (l6 : Int32) (o2 : Option jp_V) (o3 : Option jp_V) (o4 : Option jp_V) (o7 : Option jp_V) (w : Nat) (M : jp_M) (res : Int32 × jp_M), c11 l1 l5 l6 M = some res → jR (jZ (jK Ln xs sv)) d 36 18 ([some (.inr (some 7)), some (.inl l1), o2, o3, o4, some (.inl l5), some (.inl l6), o7], [], jSH w, M) (some (.inl res.1), jSH w, res.2)) (l1 : Int32) (l5 : Int32) (l6 : Int32) (s0 : Int32) (o2 : Option jp_V) (o3 : Option jp_V) (o4 : Option jp_V) (o7 : Option jp_V) (w : Nat) (M : jp_M) {res : Int32 × jp_M} (hf : f_L_tells_49 c11 l1 l5 l6 s0 M = some res) : jR (jZ (jK Ln xs sv)) d 36 49 ([some (.inr (some 7)), some (.inl l1), o2, o3, o4, some (.inl l5), some (.inl l6), o7], [.inl s0], jSH w, M) (some (.inl res.1), jSH w, res.2) := by
  unfold f_L_tells_49 at hf
  refine jR_in rfl ⟨rfl, rfl, rfl⟩ rfl ?_
  refine js_istore rfl rfl ?_
  refine js_aload_n rfl ?_
  refine js_getr rfl rfl rfl ?_
  refine js_iload rfl ?_
  obtain ⟨hb1, hf⟩ := jg_some hf
  refine js_iald rfl hb1 ?_
  refine js_iload_n rfl ?_
  refine js_icmp (tgt := 122) rfl rfl (fun h => ?_) (fun h => ?_)
  · have hf := jif_t hf h
    exact t_L_tells_122 hd hc11 _ _ _ _ _ _ _ _ _ hf
  · have hf := jif_f hf h
    refine js_iload rfl ?_
    refine js_ifc (tgt := 88) rfl rfl (fun h => ?_) (fun h => ?_)
    · have hf := jif_t hf h
      exact t_L_tells_88 hd _ _ _ _ _ _ _ _ _ hf
    · have hf := jif_f hf h
      refine js_aload_n rfl ?_
      refine js_aload_n rfl ?_
      refine js_getr rfl rfl rfl ?_
      refine js_iload rfl ?_
      obtain ⟨hb2, hf⟩ := jg_some hf
      refine js_iald rfl hb2 ?_
      refine js_aload_n rfl ?_
      refine js_getr rfl rfl rfl ?_
      refine js_iload rfl ?_
      obtain ⟨hb3, hf⟩ := jg_some hf
      refine js_iald rfl hb3 ?_
      obtain ⟨q4, hc_4, hf⟩ := jbind hf
      refine js_c3i rfl rfl ⟨rfl, rfl⟩ rfl rfl (t_L_value hc_4) (by omega) ?_
      refine js_ifc (tgt := 122) rfl rfl (fun h => ?_) (fun h => ?_)
      · have hf := jif_t hf h
        exact t_L_tells_122 hd hc11 _ _ _ _ _ _ _ _ _ hf
      · have hf := jif_f hf h
        exact jS_out rfl ⟨rfl, rfl, rfl⟩ rfl (t_L_tells_88 hd _ _ _ _ _ _ _ _ _ hf)
def f_L_tells_18  : Nat → Int32 → Int32 → Int32 → jp_M → Option (Int32 × jp_M)
  | 0, _, _, _, _ => none
  | n + 1, l1, l5, l6, M =>
    if jp_c .ge l6 (M 7 0) = true then (
    f_L_tells_128 l1 l5 M) else (
    jg (jp_in l6 16) (
    jg (jp_in l6 16) (
    if jp_c .ne (M 9 (Int32.toNatClampNeg l6)) (M 10 (Int32.toNatClampNeg l6)) = true then (
    f_L_tells_49 (f_L_tells_18 n ) l1 l5 l6 (0 : Int32) M) else (
    f_L_tells_49 (f_L_tells_18 n ) l1 l5 l6 (1 : Int32) M))))
theorem t_L_tells_18 {Ln : Nat} {xs : Nat → Int32} {sv : jp_V} {d : Nat} (hd : 3 ≤ d)  : ∀ (n : Nat) (l1 : Int32) (l5 : Int32) (l6 : Int32) (o2 : Option jp_V) (o3 : Option jp_V) (o4 : Option jp_V) (o7 : Option jp_V) (w : Nat) (M : jp_M) {res : Int32 × jp_M}, f_L_tells_18 n  l1 l5 l6 M = some res → jR (jZ (jK Ln xs sv)) d 36 18 ([some (.inr (some 7)), some (.inl l1), o2, o3, o4, some (.inl l5), some (.inl l6), o7], [], jSH w, M) (some (.inl res.1), jSH w, res.2) := by
  intro n
  induction n with
  | zero =>
    intro l1 l5 l6 o2 o3 o4 o7 w M res hf
    cases hf
  | succ n ih =>
    intro l1 l5 l6 o2 o3 o4 o7 w M res hf
    rw [f_L_tells_18] at hf
    refine jR_in rfl ⟨rfl, rfl, rfl⟩ rfl ?_
    refine js_iload rfl ?_
    refine js_aload_n rfl ?_
    refine js_geti rfl rfl rfl ?_
    refine js_icmp (tgt := 128) rfl rfl (fun h => ?_) (fun h => ?_)
    · have hf := jif_t hf h
      exact t_L_tells_128 hd _ _ _ _ _ _ _ _ _ _ hf
    · have hf := jif_f hf h
      refine js_aload_n rfl ?_
      refine js_getr rfl rfl rfl ?_
      refine js_iload rfl ?_
      obtain ⟨hb1, hf⟩ := jg_some hf
      refine js_iald rfl hb1 ?_
      refine js_aload_n rfl ?_
      refine js_getr rfl rfl rfl ?_
      refine js_iload rfl ?_
      obtain ⟨hb2, hf⟩ := jg_some hf
      refine js_iald rfl hb2 ?_
      refine js_icmp (tgt := 48) rfl rfl (fun h => ?_) (fun h => ?_)
      · have hf := jif_t hf h
        refine jR_in rfl ⟨rfl, rfl, rfl⟩ rfl ?_
        refine js_iconst (v := (0 : Int32)) rfl ?_
        exact jS_out rfl ⟨rfl, rfl, rfl⟩ rfl (t_L_tells_49 hd (fun l1 l5 l6 o2 o3 o4 o7 w M res hf => ih l1 l5 l6 o2 o3 o4 o7 w M hf) _ _ _ _ _ _ _ _ _ _ hf)
      · have hf := jif_f hf h
        refine js_iconst (v := (1 : Int32)) rfl ?_
        refine js_goto (tgt := 49) rfl rfl ?_
        exact t_L_tells_49 hd (fun l1 l5 l6 o2 o3 o4 o7 w M res hf => ih l1 l5 l6 o2 o3 o4 o7 w M hf) _ _ _ _ _ _ _ _ _ _ hf
def f_L_tells (a1 : Int32) (a4 : Int32) (M : jp_M) : Option (Int32 × jp_M) :=
  (f_L_learns a4 M).bind fun q1 => (
  f_L_tells_18 jFu a1 (f_L_usual a1 q1) (0 : Int32) q1)
theorem t_L_tells {Ln : Nat} {xs : Nat → Int32} {sv : jp_V} {a1 : Int32} {a4 : Int32} {w : Nat} {M : jp_M} {res : Int32 × jp_M} (hf : f_L_tells a1 a4 M = some res) : jE (jZ (jK Ln xs sv)) 3 36 [(.inr (some 7)), (.inl a1), (.inr (some 2)), (.inr (some 55)), (.inl a4)] (jSH w) M (some (.inl res.1), jSH w, res.2) := by
  unfold f_L_tells at hf
  refine jE_in (L0 := [some (.inr (some 7)), some (.inl a1), some (.inr (some 2)), some (.inr (some 55)), some (.inl a4), none, none, none]) rfl (Nat.le_of_ble_eq_true rfl) rfl (fun d hd => ?_)
  refine jR_in rfl ⟨rfl, rfl, rfl⟩ rfl ?_
  refine js_aload_n rfl ?_
  refine js_aload_n rfl ?_
  refine js_aload_n rfl ?_
  refine js_iload rfl ?_
  obtain ⟨q1, hc_1, hf⟩ := jbind hf
  refine js_c4v (w := 0) rfl rfl ⟨rfl, rfl⟩ rfl rfl (t_L_learns hc_1) (by omega) ?_
  refine js_aload_n rfl ?_
  refine js_iload_n rfl ?_
  refine js_c2i rfl rfl ⟨rfl, rfl⟩ rfl rfl (t_L_usual rfl) (by omega) ?_
  refine js_istore rfl rfl ?_
  refine js_iconst (v := (0 : Int32)) rfl ?_
  refine js_istore rfl rfl ?_
  exact jS_out rfl ⟨rfl, rfl, rfl⟩ rfl (t_L_tells_18 hd jFu _ _ _ _ _ _ _ _ _ hf)
/-! SwallowsAir$World.pays(II)I -/
def f_W_pays (a1 : Int32) (a2 : Int32) (M : jp_M) : Option (Int32 × jp_M) :=
  jg (jp_in (((5 : Int32) * a1) + (1 : Int32)) 50) (
  jg (jp_in (((5 : Int32) * a1) + (1 : Int32)) 50) (
  jg (jp_in (((5 : Int32) * a1) + (1 : Int32)) 50) (
  let M3 := jp_set M 3 (upd (M 3) (Int32.toNatClampNeg (((5 : Int32) * a1) + (1 : Int32))) ((M 3 (Int32.toNatClampNeg (((5 : Int32) * a1) + (1 : Int32)))) - (jp_min a2 (M 3 (Int32.toNatClampNeg (((5 : Int32) * a1) + (1 : Int32)))))))
  let M5 := jp_set M3 2 (upd (M3 2) 2 ((M3 2 2) + (jp_min a2 (M 3 (Int32.toNatClampNeg (((5 : Int32) * a1) + (1 : Int32)))))))
  some ((jp_min a2 (M 3 (Int32.toNatClampNeg (((5 : Int32) * a1) + (1 : Int32))))), M5))))
theorem t_W_pays {Ln : Nat} {xs : Nat → Int32} {sv : jp_V} {a1 : Int32} {a2 : Int32} {w : Nat} {M : jp_M} {res : Int32 × jp_M} (hf : f_W_pays a1 a2 M = some res) : jE (jZ (jK Ln xs sv)) 0 106 [(.inr (some 2)), (.inl a1), (.inl a2)] (jSH w) M (some (.inl res.1), jSH w, res.2) := by
  unfold f_W_pays at hf
  refine jE_in (L0 := [some (.inr (some 2)), some (.inl a1), some (.inl a2), none]) rfl (Nat.le_of_ble_eq_true rfl) rfl (fun d hd => ?_)
  refine jR_in rfl ⟨rfl, rfl, rfl⟩ rfl ?_
  refine js_iload_n rfl ?_
  refine js_aload_n rfl ?_
  refine js_getr rfl rfl rfl ?_
  refine js_iconst (v := (5 : Int32)) rfl ?_
  refine js_iload_n rfl ?_
  refine js_imul ?_
  refine js_iconst (v := (1 : Int32)) rfl ?_
  refine js_iadd ?_
  obtain ⟨hb1, hf⟩ := jg_some hf
  refine js_iald rfl hb1 ?_
  refine js_min rfl ?_
  refine js_istore_n rfl rfl ?_
  refine js_aload_n rfl ?_
  refine js_getr rfl rfl rfl ?_
  refine js_iconst (v := (5 : Int32)) rfl ?_
  refine js_iload_n rfl ?_
  refine js_imul ?_
  refine js_iconst (v := (1 : Int32)) rfl ?_
  refine js_iadd ?_
  refine js_dup2 ?_
  obtain ⟨hb2, hf⟩ := jg_some hf
  refine js_iald rfl hb2 ?_
  refine js_iload_n rfl ?_
  refine js_isub ?_
  obtain ⟨hb4, hf⟩ := jg_some hf
  refine js_iast rfl hb4 ?_
  refine js_aload_n rfl ?_
  refine js_dup ?_
  refine js_geti rfl rfl rfl ?_
  refine js_iload_n rfl ?_
  refine js_iadd ?_
  refine js_puti rfl rfl (Or.inl rfl) ?_
  refine js_iload_n rfl ?_
  obtain rfl := Option.some.inj hf
  exact js_iret rfl rfl
/-! SwallowsAir$World.drawsOfThousand()I -/
def f_W_drawsOfThousand (M : jp_M) : Int32 × jp_M :=
  let M1 := jp_set M 2 (upd (M 2) 0 (((1664525 : Int32) * (M 2 0)) + (1013904223 : Int32)))
  (((jp_ushr (M1 2 0) (8 : Int32)) % (1000 : Int32)), M1)
theorem t_W_drawsOfThousand {Ln : Nat} {xs : Nat → Int32} {sv : jp_V} {w : Nat} {M : jp_M} {res : Int32 × jp_M} (hf : f_W_drawsOfThousand M = res) : jE (jZ (jK Ln xs sv)) 0 100 [(.inr (some 2))] (jSH w) M (some (.inl res.1), jSH w, res.2) := by
  unfold f_W_drawsOfThousand at hf
  refine jE_in (L0 := [some (.inr (some 2))]) rfl (Nat.le_of_ble_eq_true rfl) rfl (fun d hd => ?_)
  refine jR_in rfl ⟨rfl, rfl, rfl⟩ rfl ?_
  refine js_aload_n rfl ?_
  refine js_ldc (v := (1664525 : Int32)) rfl ?_
  refine js_aload_n rfl ?_
  refine js_geti rfl rfl rfl ?_
  refine js_imul ?_
  refine js_ldc (v := (1013904223 : Int32)) rfl ?_
  refine js_iadd ?_
  refine js_puti rfl rfl (Or.inl rfl) ?_
  refine js_aload_n rfl ?_
  refine js_geti rfl rfl rfl ?_
  refine js_bipush (v := (8 : Int32)) rfl ?_
  refine js_iushr ?_
  refine js_sipush (v := (1000 : Int32)) rfl ?_
  refine js_irem (by decide) ?_
  subst hf
  exact js_iret rfl rfl
/-! SwallowsAir$Keeper.asks()I -/
def f_K_asks_77  (l1 : Int32) (s0 : Int32) (M : jp_M) : Option (Int32 × jp_M) :=
  if jp_c .ne s0 0 = true then (
  (f_L_tells (1 : Int32) (0 : Int32) M).bind fun q1 => (
  (f_W_pays (q1.2 55 1) q1.1 q1.2).bind fun q2 => (
  (f_K_begins (1 : Int32) (0 : Int32) q2.1 q2.2).bind fun q3 => (
  some (q3.1, q3.2))))) else (
  (f_A_writes (1 : Int32) (M 55 1) l1 M).bind fun q4 => (
  some ((-1 : Int32), q4)))
theorem t_K_asks_77 {Ln : Nat} {xs : Nat → Int32} {sv : jp_V} {d : Nat} (hd : 4 ≤ d)  (l1 : Int32) (s0 : Int32) (o2 : Option jp_V) (o3 : Option jp_V) (w : Nat) (M : jp_M) {res : Int32 × jp_M} (hf : f_K_asks_77  l1 s0 M = some res) : jR (jZ (jK Ln xs sv)) d 23 77 ([some (.inr (some 54)), some (.inl l1), o2, o3], [.inl s0], jSH w, M) (some (.inl res.1), jSH w, res.2) := by
  unfold f_K_asks_77 at hf
  refine jR_in rfl ⟨rfl, rfl, rfl⟩ rfl ?_
  refine js_istore_n rfl rfl ?_
  refine js_iload_n rfl ?_
  refine js_ifc (tgt := 99) rfl rfl (fun h => ?_) (fun h => ?_)
  · have hf := jif_t hf h
    refine jR_in rfl ⟨rfl, rfl, rfl⟩ rfl ?_
    refine js_aload_n rfl ?_
    refine js_getr rfl rfl rfl ?_
    refine js_getr rfl rfl rfl ?_
    refine js_iconst (v := (1 : Int32)) rfl ?_
    refine js_aload_n rfl ?_
    refine js_getr rfl rfl rfl ?_
    refine js_aload_n rfl ?_
    refine js_getr rfl rfl rfl ?_
    refine js_iconst (v := (0 : Int32)) rfl ?_
    obtain ⟨q1, hc_1, hf⟩ := jbind hf
    refine js_c5i rfl rfl ⟨rfl, rfl⟩ rfl rfl (t_L_tells hc_1) (by omega) ?_
    refine js_istore_n rfl rfl ?_
    refine js_aload_n rfl ?_
    refine js_iconst (v := (1 : Int32)) rfl ?_
    refine js_iconst (v := (0 : Int32)) rfl ?_
    refine js_aload_n rfl ?_
    refine js_getr rfl rfl rfl ?_
    refine js_aload_n rfl ?_
    refine js_getr rfl rfl rfl ?_
    refine js_iconst (v := (1 : Int32)) rfl ?_
    refine js_iald rfl (by decide) ?_
    refine js_iload_n rfl ?_
    obtain ⟨q2, hc_2, hf⟩ := jbind hf
    refine js_c3i rfl rfl ⟨rfl, rfl⟩ rfl rfl (t_W_pays hc_2) (by omega) ?_
    obtain ⟨q3, hc_3, hf⟩ := jbind hf
    refine js_c4i rfl rfl ⟨rfl, rfl⟩ rfl rfl (t_K_begins hc_3) (by omega) ?_
    obtain rfl := Option.some.inj hf
    exact js_iret rfl rfl
  · have hf := jif_f hf h
    refine js_aload_n rfl ?_
    refine js_getr rfl rfl rfl ?_
    refine js_iconst (v := (1 : Int32)) rfl ?_
    refine js_aload_n rfl ?_
    refine js_getr rfl rfl rfl ?_
    refine js_iconst (v := (1 : Int32)) rfl ?_
    refine js_iald rfl (by decide) ?_
    refine js_iload_n rfl ?_
    obtain ⟨q4, hc_4, hf⟩ := jbind hf
    refine js_c4v (w := 0) rfl rfl ⟨rfl, rfl⟩ rfl rfl (t_A_writes hc_4) (by omega) ?_
    refine js_iconst (v := (-1 : Int32)) rfl ?_
    obtain rfl := Option.some.inj hf
    exact js_iret rfl rfl
def f_K_asks (M : jp_M) : Option (Int32 × jp_M) :=
  if jp_c .ne (f_W_isSummer M) 0 = true then (
  (f_L_tells (0 : Int32) (0 : Int32) M).bind fun q2 => (
  if jp_c .eq (q2.2 54 3) 0 = true then (
  let q3 := f_W_drawsOfThousand q2.2
  if jp_c .ge q3.1 q2.1 = true then (
  f_K_asks_77 (q2.1) (0 : Int32) (q3.2)) else (
  f_K_asks_77 (q2.1) (1 : Int32) (q3.2))) else (
  if jp_c .lt q2.1 (500 : Int32) = true then (
  f_K_asks_77 (q2.1) (0 : Int32) (q2.2)) else (
  f_K_asks_77 (q2.1) (1 : Int32) (q2.2))))) else (
  (f_K_begins (1 : Int32) (0 : Int32) (0 : Int32) M).bind fun q4 => (
  some (q4.1, q4.2)))
theorem t_K_asks {Ln : Nat} {xs : Nat → Int32} {sv : jp_V} {w : Nat} {M : jp_M} {res : Int32 × jp_M} (hf : f_K_asks M = some res) : jE (jZ (jK Ln xs sv)) 4 23 [(.inr (some 54))] (jSH w) M (some (.inl res.1), jSH w, res.2) := by
  unfold f_K_asks at hf
  refine jE_in (L0 := [some (.inr (some 54)), none, none, none]) rfl (Nat.le_of_ble_eq_true rfl) rfl (fun d hd => ?_)
  refine jR_in rfl ⟨rfl, rfl, rfl⟩ rfl ?_
  refine js_aload_n rfl ?_
  refine js_getr rfl rfl rfl ?_
  refine js_c1i rfl rfl ⟨rfl, rfl⟩ rfl rfl (t_W_isSummer rfl) (by omega) ?_
  refine js_ifc (tgt := 18) rfl rfl (fun h => ?_) (fun h => ?_)
  · have hf := jif_t hf h
    refine jR_in rfl ⟨rfl, rfl, rfl⟩ rfl ?_
    refine js_aload_n rfl ?_
    refine js_getr rfl rfl rfl ?_
    refine js_getr rfl rfl rfl ?_
    refine js_iconst (v := (0 : Int32)) rfl ?_
    refine js_aload_n rfl ?_
    refine js_getr rfl rfl rfl ?_
    refine js_aload_n rfl ?_
    refine js_getr rfl rfl rfl ?_
    refine js_iconst (v := (0 : Int32)) rfl ?_
    obtain ⟨q2, hc_2, hf⟩ := jbind hf
    refine js_c5i rfl rfl ⟨rfl, rfl⟩ rfl rfl (t_L_tells hc_2) (by omega) ?_
    refine js_istore_n rfl rfl ?_
    refine js_aload_n rfl ?_
    refine js_geti rfl rfl rfl ?_
    refine js_ifc (tgt := 61) rfl rfl (fun h => ?_) (fun h => ?_)
    · have hf := jif_t hf h
      refine jR_in rfl ⟨rfl, rfl, rfl⟩ rfl ?_
      refine js_aload_n rfl ?_
      refine js_getr rfl rfl rfl ?_
      refine js_c1i rfl rfl ⟨rfl, rfl⟩ rfl rfl (t_W_drawsOfThousand rfl) (by omega) ?_
      refine js_iload_n rfl ?_
      refine js_icmp (tgt := 76) rfl rfl (fun h => ?_) (fun h => ?_)
      · have hf := jif_t hf h
        refine jR_in rfl ⟨rfl, rfl, rfl⟩ rfl ?_
        refine js_iconst (v := (0 : Int32)) rfl ?_
        exact jS_out rfl ⟨rfl, rfl, rfl⟩ rfl (t_K_asks_77 hd _ _ _ _ _ _ hf)
      · have hf := jif_f hf h
        refine js_iconst (v := (1 : Int32)) rfl ?_
        refine js_goto (tgt := 77) rfl rfl ?_
        exact t_K_asks_77 hd _ _ _ _ _ _ hf
    · have hf := jif_f hf h
      refine js_iload_n rfl ?_
      refine js_sipush (v := (500 : Int32)) rfl ?_
      refine js_icmp (tgt := 57) rfl rfl (fun h => ?_) (fun h => ?_)
      · have hf := jif_t hf h
        refine jR_in rfl ⟨rfl, rfl, rfl⟩ rfl ?_
        refine js_iconst (v := (0 : Int32)) rfl ?_
        refine js_goto (tgt := 77) rfl rfl ?_
        exact t_K_asks_77 hd _ _ _ _ _ _ hf
      · have hf := jif_f hf h
        refine js_iconst (v := (1 : Int32)) rfl ?_
        refine js_goto (tgt := 77) rfl rfl ?_
        exact t_K_asks_77 hd _ _ _ _ _ _ hf
  · have hf := jif_f hf h
    refine js_aload_n rfl ?_
    refine js_iconst (v := (1 : Int32)) rfl ?_
    refine js_iconst (v := (0 : Int32)) rfl ?_
    refine js_iconst (v := (0 : Int32)) rfl ?_
    obtain ⟨q4, hc_4, hf⟩ := jbind hf
    refine js_c4i rfl rfl ⟨rfl, rfl⟩ rfl rfl (t_K_begins hc_4) (by omega) ?_
    obtain rfl := Option.some.inj hf
    exact js_iret rfl rfl
