/-! EACH STEP OF THE PURE MACHINE IS A STEP OF THE MACHINE -/
def jp_al (ad : Nat → Nat) (L : List (Option jp_V)) : List (Nat × Value) := (List.range L.length).filterMap (fun i => (jp_ld L i).map (fun v => (i, jp_tr ad v)))
def jp_LR (ad : Nat → Nat) (ls : Array Slot) (nL : Nat) (L : List (Option jp_V)) : Prop := L.length = nL ∧ lv_has ls nL (jp_al ad L)
theorem jp_ld_some {L : List (Option jp_V)} {i : Nat} {v : jp_V} (h : jp_ld L i = some v) : L[i]? = some (some v) := by
  unfold jp_ld at h
  split at h
  · next w hw => rw [hw]; rw [Option.some.inj h]
  · cases h
theorem jp_al_mem {ad : Nat → Nat} {L : List (Option jp_V)} {i : Nat} {v : jp_V} (h : jp_ld L i = some v) : (i, jp_tr ad v) ∈ jp_al ad L := by
  have h1 := (List.getElem?_eq_some_iff.mp (jp_ld_some h)).1
  exact List.mem_filterMap.mpr ⟨i, List.mem_range.mpr h1, by rw [h]; rfl⟩
theorem jp_LR.at {ad : Nat → Nat} {ls : Array Slot} {nL i : Nat} {L : List (Option jp_V)} {v : jp_V} (h : jp_LR ad ls nL L) (hi : jp_ld L i = some v) : ls[i]? = some (.val (jp_tr ad v)) := h.2.2.2 _ (jp_al_mem hi)
theorem jp_LR.st {ad : Nat → Nat} {ls ls' : Array Slot} {nL i : Nat} {L : List (Option jp_V)} {v : jp_V} (h : jp_LR ad ls nL L) (hi : i < L.length)
    (h' : lv_has ls' nL ((i, jp_tr ad v) :: (jp_al ad L).filter (fun q => !(q.1 == i) && !(q.1 + 1 == i && q.2.category == 2)))) : jp_LR ad ls' nL (L.set i (some v)) := by
  refine ⟨by rw [List.length_set]; exact h.1, h'.1, h'.2.1, fun q hq => ?_⟩
  obtain ⟨j, hj, hq⟩ := List.mem_filterMap.mp hq
  cases hw : jp_ld (L.set i (some v)) j with
  | none => rw [hw] at hq; cases hq
  | some w =>
    rw [hw] at hq
    cases hq
    have h1 := jp_ld_some hw
    by_cases hij : j = i
    · subst hij
      rw [List.getElem?_set, if_pos rfl, if_pos hi] at h1
      cases h1
      exact h'.2.2 _ List.mem_cons_self
    · rw [List.getElem?_set, if_neg (Ne.symm hij)] at h1
      have h2 : jp_ld L j = some w := by unfold jp_ld; rw [h1]
      refine h'.2.2 (j, jp_tr ad w) (List.mem_cons_of_mem _ (List.mem_filter.mpr ⟨jp_al_mem h2, ?_⟩))
      simp [hij, jp_cat]
def jp_len (ins : Instr) : Nat := match ins with
  | .bipush _ | .ldc _ | .iload _ | .aload _ | .istore _ | .astore _ | .newarray _ => 2
  | .sipush _ | .ldc_w _ | .iinc _ _ | .getfield _ | .getstatic _ | .putfield _ | .invokestatic _ | .invokespecial _ | .invokevirtual _ | .new _ | .anewarray _ | .goto _ | .if_icmp _ _ | .ifCond _ _ | .ifnull _ | .ifnonnull _ => 3
  | _ => 1
def jp_tys (cA : Nat → ClassId) (CW : String) : List (ClassId × FieldType) := [(cA 0, .int), (cA 1, .byte), (cA 2, .short), (cA 3, .object CW)]
/-- what is known of a class -/
def jp_okC (TBL : List Jvm.Cond) (fk : Nat → Nat → Nat) (ci : Nat) (q : vw_C) : Prop :=
  (∀ w ∈ u_ws q.1 q.2.1 q.2.2, w ∈ TBL) ∧ ∃ ty0 : Nat → FieldType, (∀ k, k < q.2.2 → parseFieldDescriptor (q.2.1 k).2.2.1 = some (ty0 k)) ∧ (∀ a, a < q.2.2 → ∀ b, b < q.2.2 → a ≠ b → (q.2.1 a).2.1 ≠ (q.2.1 b).2.1) ∧
  ∀ k, k < q.2.2 → (fk ci k = 0 → ty0 k = .int) ∧ (fk ci k = 1 → ty0 k = .boolean) ∧ (fk ci k = 2 → (∃ C, ty0 k = .object C) ∨ ∃ t, ty0 k = .array t)
/-- what an instruction links to -/
def jp_okE (TBL : List Jvm.Cond) (cl : List vw_C) (CW : String) (SR : List (String × Nat × String)) (CF SF : List (String × String × String)) (own : String) (ini : Prop) (ins : Instr) (a b : Nat) : Prop := match ins with
  | .getstatic i => ∀ C n d, SF[a]? = some (C, n, d) → Jvm.Cond.fieldLink own i C n d ∈ TBL
  | .getfield i => if 100 ≤ a then (∀ C n d, CF[a - 100]? = some (C, n, d) → Jvm.Cond.fieldLink own i C n d ∈ TBL) else ∃ q : vw_C, cl[a]? = some q ∧ b < q.2.2 ∧ Jvm.Cond.fieldLink own i (q.2.1 b).1 (q.2.1 b).2.1 (q.2.1 b).2.2.1 ∈ TBL
  | .putfield i => ∃ q : vw_C, cl[a]? = some q ∧ b < q.2.2 ∧ Jvm.Cond.fieldLink own i (q.2.1 b).1 (q.2.1 b).2.1 (q.2.1 b).2.2.1 ∈ TBL ∧ ((q.2.1 b).2.2.2 = false ∨ ((q.2.1 b).2.2.2 = true ∧ ini ∧ (q.2.1 b).1 = own))
  | .ldc i => (b = 0 → Jvm.Cond.constant own i (Int32.ofNat a) ∈ TBL) ∧ (¬ b = 0 → ∃ tx, 1000 ≤ a ∧ SR[a - 1000]? = some (own, i, tx))
  | .ldc_w i => Jvm.Cond.constant own i (Int32.ofNat a) ∈ TBL
  | .bipush n => (Int8.ofInt n).toInt32 = Int32.ofInt n
  | .sipush n => (Int16.ofInt n).toInt32 = Int32.ofInt n
  | .new i => ∃ q : vw_C, cl[a]? = some q ∧ Jvm.Cond.classLink own i q.1 ∈ TBL ∧ Jvm.Cond.instantiable q.1 q.2.2 ∈ TBL ∧ Jvm.Cond.initialized q.1 ∈ TBL
  | .newarray t => Jvm.Cond.arrayClass (newarray.typeOf t) ∈ TBL
  | .anewarray i => Jvm.Cond.classLink own i CW ∈ TBL
  | .invokestatic i => (a = 9001 → Jvm.Cond.methodLink own i arraycopyName ∈ TBL ∧ Jvm.Cond.native arraycopyName ∈ TBL ∧ Jvm.Cond.static arraycopyName ∈ TBL ∧ Jvm.Cond.initialized "java/lang/System" ∈ TBL) ∧
    (a = 9010 → Jvm.Cond.methodLink own i Lib.Math.max.name ∈ TBL ∧ Jvm.Cond.static Lib.Math.max.name ∈ TBL ∧ Jvm.Cond.initialized "java/lang/Math" ∈ TBL ∧ Jvm.Cond.code Lib.Math.max.name Lib.Math.max.code 2 (some .int) ∈ TBL) ∧
    (a = 9011 → Jvm.Cond.methodLink own i Lib.Math.min.name ∈ TBL ∧ Jvm.Cond.static Lib.Math.min.name ∈ TBL ∧ Jvm.Cond.initialized "java/lang/Math" ∈ TBL ∧ Jvm.Cond.code Lib.Math.min.name Lib.Math.min.code 2 (some .int) ∈ TBL) ∧
    (a = 9012 → Jvm.Cond.methodLink own i Lib.Math.abs.name ∈ TBL ∧ Jvm.Cond.static Lib.Math.abs.name ∈ TBL ∧ Jvm.Cond.initialized "java/lang/Math" ∈ TBL ∧ Jvm.Cond.code Lib.Math.abs.name Lib.Math.abs.code 1 (some .int) ∈ TBL)
  | .invokespecial i => a = 9000 → Jvm.Cond.methodLink own i Lib.objectInit ∈ TBL ∧ Jvm.Cond.instanceMethod Lib.objectInit ∈ TBL ∧ Jvm.Cond.code Lib.objectInit ⟨#[0xb1]⟩ 1 none ∈ TBL
  | _ => True
def jp_Wd (D : va_G) (cl : List vw_C) (cA : Nat → ClassId) (A : Nat → Prop) (H0 : Heap) (ad : Nat → Nat) (sh : jp_S) (M : jp_M) (H : Heap) (locs : List Loc) : Prop :=
  va_P D cl (jp_ws cA ad M sh) H ∧ va_D A (jp_ws cA ad M sh) ∧ va_S A H0 H locs
theorem jp_vin {i : Int32} {n : Nat} (h : jp_in i n) : vp_in i n := by
  intro h2
  rcases h2 with h2 | h2
  · have := h.1
    rw [Int32.lt_iff_toInt_lt] at h2
    rw [Int32.le_iff_toInt_le] at this
    omega
  · have := h.2
    omega
theorem jp_nneg {x : Int32} (h : 0 ≤ x) : ¬ x < 0 := by
  intro h2
  rw [Int32.lt_iff_toInt_lt] at h2
  rw [Int32.le_iff_toInt_le] at h
  omega
