/-! WHAT THE LAW STARTS WITH: constants, classes, its run -/
def jA0 (sz : Nat) : Nat → Prop := fun z => ¬ z < sz
def jXX (sz Ln : Nat) (xs : Nat → Int32) (sv : jp_V) (aK : Nat → Nat) (U : State) (H : Heap) : Prop :=
  ((∀ w ∈ jNW, va_Nw w U) ∧ va_AO RX10 U ∧ ∀ i own k tx, jSR[i]? = some (own, k, tx) → vk_R own k tx (aK (1000 + i)) U) ∧
  (∀ i, i < 5 → va_O "java/lang/String" (aK (1000 + i)) (jA0 sz) U H ∧ va_OF "java/lang/String" "value" "[B" (.ref (aK (2002 + i))) (aK (1000 + i)) (jA0 sz) U H ∧ va_OF "java/lang/String" "coder" "B" (.int 0) (aK (1000 + i)) (jA0 sz) U H ∧ va_T .byte (aK (2002 + i)) (jstr.getD i []).length (fun j => .int (jcon (2002 + i) j)) (jA0 sz) U H) ∧
  va_T .int (aK 2000) Ln (fun j => .int (xs j)) (jA0 sz) U H ∧ va_T .int (aK 2001) 8 (fun j => .int (jcon 2001 j)) (jA0 sz) U H ∧
  va_Z "SwallowsAir$AirThought" "WORTHS" "[I" (.ref (aK 2001)) (jA0 sz) U H ∧ va_Z "java/lang/String" "COMPACT_STRINGS" "Z" (.int 1) (jA0 sz) U H ∧ va_Z "jdk/internal/util/Preconditions" "SIOOBE_FORMATTER" "Ljava/util/function/BiFunction;" (jp_tr aK sv) (jA0 sz) U H
theorem jNW_is : ∀ w ∈ jNW, ∃ a i x h, w = Jvm.Cond.methodLinkNest a i x h := by
  intro w hw
  simp only [jNW, List.mem_cons, List.not_mem_nil, or_false] at hw
  rcases hw with rfl | rfl | rfl | rfl | rfl | rfl | rfl | rfl | rfl <;> exact ⟨_, _, _, _, rfl⟩
section JX
variable {sz Ln : Nat} {xs : Nat → Int32} {sv : jp_V} {aK : Nat → Nat}
theorem jXX_heap {U V : State} {H H1 : Heap} (hvm : U.vm.Alike V.vm) (hk : ∀ q, q < sz → H1[q]? = H[q]?)
    (hw : (∀ w ∈ jNW, va_Nw w V) ∧ va_AO RX10 V ∧ ∀ i own k tx, jSR[i]? = some (own, k, tx) → vk_R own k tx (aK (1000 + i)) V) (h : jXX sz Ln xs sv aK U H) : jXX sz Ln xs sv aK V H1 := by
  obtain ⟨-, h2, h3, h4, h5, h6, h7⟩ := h
  have hq : ∀ a : Nat, a < H.size → ¬ jA0 sz a → H1[a]? = H[a]? := fun a _ ha => hk a (Classical.byContradiction ha)
  refine ⟨hw, fun i hi => ?_, (va_T.moved hvm h3).kept hq, (va_T.moved hvm h4).kept hq, (va_Z.moved hvm h5).kept hq, (va_Z.moved hvm h6).kept hq, (va_Z.moved hvm h7).kept hq⟩
  obtain ⟨g1, g2, g3, g4⟩ := h2 i hi
  exact ⟨(va_O.moved hvm g1).kept hq, (va_OF.moved hvm g2).kept hq, (va_OF.moved hvm g3).kept hq, (va_T.moved hvm g4).kept hq⟩
set_option maxRecDepth 100000 in
theorem jokX (D : va_G) (cA : Nat → ClassId) (hsv : sv = .inr none ∨ sv = .inr (some 3000)) : jp_okX (jK Ln xs sv) (jG D cA aK) (jXX sz Ln xs sv aK) (fun z => z < sz) := by
  refine ⟨?_, ?_, ?_, ?_, ?_, ?_, ?_, ?_, ?_, ?_⟩
  · intro s U H hW h
    refine jXX_heap hW.alike (fun _ _ => rfl) ⟨fun w hw => ?_, va_AO.moved hW.alike h.1.2.1, fun i own k tx hi => vk_R.warm hW (h.1.2.2 i own k tx hi)⟩ h
    obtain ⟨a, i, x, hh, rfl⟩ := jNW_is w hw
    exact va_Nw.warmM hW (h.1.1 _ hw)
  · intro U g mk a H h
    refine jXX_heap (V := U.calling g mk a) (Vm.Alike.refl U.vm) (fun _ _ => rfl) ⟨fun w hw => ?_, va_AO.moved (U := U.calling g mk a) (Vm.Alike.refl U.vm) h.1.2.1, fun i own k tx hi => vk_R.same rfl (h.1.2.2 i own k tx hi)⟩ h
    obtain ⟨a, i, x, hh, rfl⟩ := jNW_is w hw
    exact va_Nw.same rfl rfl (h.1.1 _ hw)
  · intro s H H1 hk h
    exact jXX_heap (Vm.Alike.refl s.vm) hk h.1 h
  · intro s H i own k tx h hi
    exact h.1.2.2 i own k tx hi
  · intro s H w h hw
    exact h.1.1 w hw
  · intro s H h
    exact h.1.2.1
  · intro s H q h h1 h2
    have h3 := (h.2.1 (q - 1000) (by omega)).1
    rw [show 1000 + (q - 1000) = q by omega] at h3
    obtain ⟨cell, e1, e2, e3, -⟩ := h3
    exact ⟨cell, e1, e2, e3⟩
  · intro s H q t n f h hq
    simp only [jK] at hq
    split at hq
    · next h0 =>
      cases hq
      subst h0
      exact ⟨by omega, Or.inl ⟨rfl, h.2.2.1⟩⟩
    · split at hq
      · next h0 =>
        cases hq
        subst h0
        exact ⟨by omega, Or.inl ⟨rfl, h.2.2.2.1⟩⟩
      · split at hq
        · next h0 =>
          simp only [Option.some.injEq, Prod.mk.injEq] at hq
          obtain ⟨rfl, rfl, rfl⟩ := hq
          have h3 := (h.2.1 (q - 2002) (by omega)).2.2.2
          rw [show 2002 + (q - 2002) = q by omega] at h3
          exact ⟨by omega, Or.inr ⟨rfl, h3⟩⟩
        · cases hq
  · intro s H q j v h hq
    simp only [jK] at hq
    split at hq
    · next h0 =>
      have h3 := h.2.1 (q - 1000) (by omega)
      rw [show 1000 + (q - 1000) = q by omega, show 2002 + (q - 1000) = q + 1002 by omega] at h3
      split at hq
      · next hj =>
        cases hq
        subst hj
        refine ⟨h0.1, ?_, _, _, _, rfl, h3.2.1⟩
        simp [jp_wfV, jp_wfq]
      · split at hq
        · next hj =>
          cases hq
          subst hj
          exact ⟨h0.1, rfl, _, _, _, rfl, h3.2.2.1⟩
        · cases hq
    · cases hq
  · intro s H j v h hq
    simp only [jK] at hq
    split at hq
    · next hj =>
      cases hq; subst hj
      exact ⟨rfl, _, _, _, rfl, h.2.2.2.2.1⟩
    · split at hq
      · next hj =>
        cases hq; subst hj
        exact ⟨rfl, _, _, _, rfl, h.2.2.2.2.2.1⟩
      · split at hq
        · next hj =>
          cases hq; subst hj
          refine ⟨?_, _, _, _, rfl, h.2.2.2.2.2.2⟩
          rcases hsv with rfl | rfl <;> rfl
        · cases hq
end JX
theorem jstr1 {args : Array Value} {s : State} {k len : Nat} {byt : Nat → Int32} {A : Nat → Prop} (hlen : len < 2 ^ 31) (hex : (Jvm.Cond.exactly (.string RX6 k) "java/lang/String").before args s = true) (hco : (Jvm.Cond.eq (.field (.string RX6 k) "java/lang/String" "coder" "B") (.int 0)).before args s = true)
    (har : (Jvm.Cond.arrayOf (.field (.string RX6 k) "java/lang/String" "value" "[B") .byte).before args s = true) (hle : (Jvm.Cond.eq (.length (.field (.string RX6 k) "java/lang/String" "value" "[B")) (.int (Int32.ofNat len))).before args s = true)
    (hel : ∀ j : Nat, j < len → (Jvm.Cond.eq (.elem (.field (.string RX6 k) "java/lang/String" "value" "[B") (.int (Int32.ofNat j))) (.int (byt j))).before args s = true) (hA : ∀ a : Nat, a < s.heap.size → ¬ A a) :
    ∃ a t, (Term.string RX6 k).eval args s none [] s = some (.ref a) ∧ va_O "java/lang/String" a A s s.heap ∧ va_OF "java/lang/String" "value" "[B" (.ref t) a A s s.heap ∧ va_OF "java/lang/String" "coder" "B" (.int 0) a A s s.heap ∧ va_T .byte t len (fun j => .int (byt j)) A s s.heap := by
  obtain ⟨a, c, cA, kA, q1, q2, q3, q4, q5, q6, -⟩ := Cond.exactly_spec (args := args) (first := s) (o := none) (s := s) (idx := []) (t := .string RX6 k) (cls := "java/lang/String") hex
  obtain ⟨t, ht, hT⟩ := va_Tof (f := fun j => .int (byt j)) (A := A) hlen har (va_eqt hle) (fun j hj => va_eqt (hel j hj)) hA
  exact ⟨a, t, q1, ⟨cA, q3, q5, by rw [q6]; exact q2, hA a (Array.getElem?_eq_some_iff.mp q3).1⟩, vk_OFof q1 ht hA, vk_OFof q1 (va_eqt hco) hA, hT⟩
theorem jfl_use {α : Type} {f g : Nat → α} {n : Nat} (h : (List.range n).map f = (List.range n).map g) : ∀ j, j < n → f j = g j := fun j hj => List.map_inj_left.mp h j (List.mem_range.mpr hj)
abbrev jfl : List Jvm.Cond := flatC (Jvm.Cond.and given_1 narrow_1)
set_option maxRecDepth 100000 in
theorem jfl_0 : (List.range 85).map (fun j => jfl[24 + j]?) = (List.range 85).map (fun j => some (Jvm.Cond.eq (.elem (.field (.string RX6 11) "java/lang/String" "value" "[B") (.int (Int32.ofNat j))) (.int (jcon 2002 j)))) := rfl
set_option maxRecDepth 100000 in
theorem jfl_1 : (List.range 57).map (fun j => jfl[113 + j]?) = (List.range 57).map (fun j => some (Jvm.Cond.eq (.elem (.field (.string RX6 40) "java/lang/String" "value" "[B") (.int (Int32.ofNat j))) (.int (jcon 2003 j)))) := rfl
set_option maxRecDepth 100000 in
theorem jfl_2 : (List.range 8).map (fun j => jfl[175 + j]?) = (List.range 8).map (fun j => some (Jvm.Cond.eq (.elem (.field (.string RX6 42) "java/lang/String" "value" "[B") (.int (Int32.ofNat j))) (.int (jcon 2004 j)))) := rfl
set_option maxRecDepth 100000 in
theorem jfl_3 : (List.range 13).map (fun j => jfl[189 + j]?) = (List.range 13).map (fun j => some (Jvm.Cond.eq (.elem (.field (.string RX6 44) "java/lang/String" "value" "[B") (.int (Int32.ofNat j))) (.int (jcon 2005 j)))) := rfl
set_option maxRecDepth 100000 in
theorem jfl_4 : (List.range 10).map (fun j => jfl[209 + j]?) = (List.range 10).map (fun j => some (Jvm.Cond.eq (.elem (.field (.string RX6 83) "java/lang/String" "value" "[B") (.int (Int32.ofNat j))) (.int (jcon 2006 j)))) := rfl
set_option maxRecDepth 100000 in
theorem jfl_5 : (List.range 8).map (fun j => jfl[12 + j]?) = (List.range 8).map (fun j => some (Jvm.Cond.eq (.elem (.static "SwallowsAir$AirThought" "WORTHS" "[I") (.int (Int32.ofNat j))) (.int (jcon 2001 j)))) := rfl
theorem jstrs {args : Array Value} {s : State} (h : (Jvm.Cond.and given_1 narrow_1).before args s = true) {A : Nat → Prop} (hA : ∀ a : Nat, a < s.heap.size → ¬ A a) : ∀ i, i < 5 → ∃ a t, (∀ q, jSR[i]? = some q → (Term.string q.1 q.2.1).eval args s none [] s = some (.ref a)) ∧ va_O "java/lang/String" a A s s.heap ∧ va_OF "java/lang/String" "value" "[B" (.ref t) a A s s.heap ∧ va_OF "java/lang/String" "coder" "B" (.int 0) a A s s.heap ∧ va_T .byte t (jstr.getD i []).length (fun j => .int (jcon (2002 + i) j)) A s s.heap := by
  have hs := flat_of_before _ h
  intro i hi
  match i, hi with
  | 0, _ =>
    obtain ⟨a, t, h1, h2⟩ := jstr1 (k := 11) (len := 85) (byt := jcon 2002) (A := A) (by decide) (hs _ (List.mem_of_getElem? (i := 20) rfl)) (hs _ (List.mem_of_getElem? (i := 21) rfl)) (hs _ (List.mem_of_getElem? (i := 22) rfl)) (hs _ (List.mem_of_getElem? (i := 23) rfl)) (fun j hj => hs _ (List.mem_of_getElem? (jfl_use jfl_0 j hj))) hA
    exact ⟨a, t, fun q hq => by cases hq; exact h1, h2⟩
  | 1, _ =>
    obtain ⟨a, t, h1, h2⟩ := jstr1 (k := 40) (len := 57) (byt := jcon 2003) (A := A) (by decide) (hs _ (List.mem_of_getElem? (i := 109) rfl)) (hs _ (List.mem_of_getElem? (i := 110) rfl)) (hs _ (List.mem_of_getElem? (i := 111) rfl)) (hs _ (List.mem_of_getElem? (i := 112) rfl)) (fun j hj => hs _ (List.mem_of_getElem? (jfl_use jfl_1 j hj))) hA
    exact ⟨a, t, fun q hq => by cases hq; exact h1, h2⟩
  | 2, _ =>
    obtain ⟨a, t, h1, h2⟩ := jstr1 (k := 42) (len := 8) (byt := jcon 2004) (A := A) (by decide) (hs _ (List.mem_of_getElem? (i := 171) rfl)) (hs _ (List.mem_of_getElem? (i := 172) rfl)) (hs _ (List.mem_of_getElem? (i := 173) rfl)) (hs _ (List.mem_of_getElem? (i := 174) rfl)) (fun j hj => hs _ (List.mem_of_getElem? (jfl_use jfl_2 j hj))) hA
    exact ⟨a, t, fun q hq => by cases hq; exact h1, h2⟩
  | 3, _ =>
    obtain ⟨a, t, h1, h2⟩ := jstr1 (k := 44) (len := 13) (byt := jcon 2005) (A := A) (by decide) (hs _ (List.mem_of_getElem? (i := 185) rfl)) (hs _ (List.mem_of_getElem? (i := 186) rfl)) (hs _ (List.mem_of_getElem? (i := 187) rfl)) (hs _ (List.mem_of_getElem? (i := 188) rfl)) (fun j hj => hs _ (List.mem_of_getElem? (jfl_use jfl_3 j hj))) hA
    exact ⟨a, t, fun q hq => by cases hq; exact h1, h2⟩
  | 4, _ =>
    obtain ⟨a, t, h1, h2⟩ := jstr1 (k := 83) (len := 10) (byt := jcon 2006) (A := A) (by decide) (hs _ (List.mem_of_getElem? (i := 205) rfl)) (hs _ (List.mem_of_getElem? (i := 206) rfl)) (hs _ (List.mem_of_getElem? (i := 207) rfl)) (hs _ (List.mem_of_getElem? (i := 208) rfl)) (fun j hj => hs _ (List.mem_of_getElem? (jfl_use jfl_4 j hj))) hA
    exact ⟨a, t, fun q hq => by cases hq; exact h1, h2⟩
set_option maxRecDepth 100000 in
theorem jcls {args : Array Value} {s : State} (hts : ∀ w ∈ lw_tbl, w.before args s = true) (hao : va_AO RX10 s) : ∃ (D : va_G) (cA : Nat → ClassId), va_K D jcl (jp_tys cA RX10) s := by
  have hj : ∀ w ∈ jw, w.before args s = true := fun w hw => hts w (jw_in w hw).1
  have h : ∀ ci : Nat, ∃ p : ClassId × (Nat → Nat), ∀ q : vw_C, jcl[ci]? = some q → u_Kn s q.1 q.2.1 q.2.2 p.1 p.2 := by
    intro ci
    cases hq : jcl[ci]? with
    | none => exact ⟨(0, fun _ => 0), fun q h => by cases h⟩
    | some q =>
      obtain ⟨cC, iS, hK⟩ := u_known (ws := jw) (T := q.2.1) (N := q.2.2) hj (jC_all ci q hq).1 (hj _ (jI_all ci q hq).1.1)
      exact ⟨(cC, iS), fun q' h => by cases h; exact hK⟩
  obtain ⟨f, hf⟩ := Classical.axiomOfChoice h
  have har : ∀ ty : FieldType, (∀ C, ty ≠ .object C) → (Jvm.Cond.arrayClass ty).before args s = true → ∃ c : ClassId, ArrOfT s c ty ∧ va_RA s c ty := by
    intro ty hty h
    obtain ⟨c, k, comp, e1, e2, e3⟩ := Cond.arrayClass_spec h
    refine ⟨c, fun n z => ⟨fun k h => (by cases h), k, e2, comp, e3⟩, ?_⟩
    cases ty with
    | object C => exact absurd rfl (hty C)
    | _ => exact e1
  obtain ⟨c0, a0⟩ := har .int (fun C h => by cases h) (hts _ (List.mem_of_getElem? (i := 247) rfl))
  obtain ⟨c1, a1⟩ := har .byte (fun C h => by cases h) (hts _ (List.mem_of_getElem? (i := 540) rfl))
  obtain ⟨c2, a2⟩ := har .short (fun C h => by cases h) (hts _ (List.mem_of_getElem? (i := 285) rfl))
  obtain ⟨comp, c3, k3, e1, -, e3, e4, e5⟩ := Cond.arrayOver_spec hao
  refine ⟨(fun c => (f c).1, fun c => (f c).2), fun t => match t with
    | 0 => c0
    | 1 => c1
    | 2 => c2
    | _ => c3, fun c q hq => hf c q hq, fun k q hk => ?_⟩
  match k, hk with
  | 0, hk => cases hk; exact a0
  | 1, hk => cases hk; exact a1
  | 2, hk => cases hk; exact a2
  | 3, hk => cases hk; exact ⟨fun n z => ⟨fun k h => (by cases h), k3, e3, comp, e4⟩, k3, comp, e3, e4, e1, e5⟩
  | n + 4, hk => cases hk
theorem jW_mono {p : Program} {l : Launch} {e : Env} {R : Room} {s : State} {m : MethodId} {args : Array Value} {below : List Frame} {meth : Method} {c : Code} {H : Heap} {locs : List Loc} {cells slots : Nat} {Q Q' : State → Prop} {g : JFrame} (h : ∀ t, Q t → Q' t) (k : W p l e R s m args below meth c H locs cells slots Q g) : W p l e R s m args below meth c H locs cells slots Q' g := by
  intro T hT X
  obtain ⟨t, a, b⟩ := k T hT X
  exact ⟨t, a, h t b⟩
theorem jokP (l : Launch) (kc : jp_Kc) (G : jp_G) (XX : State → Heap → Prop) (CA : Nat → Prop) : jp_okP l (jZ kc) G XX CA := by
  intro k mi as v _ _ h
  cases h
