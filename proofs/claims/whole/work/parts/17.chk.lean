/-! what a program's tables must say, as a check that the kernel runs, and the words that it needs -/
def jp_ndM (Y : Nat → jp_Y) (Z1 : Nat → Option jp_I) (own : String) (x a i : Nat) : List Jvm.Cond := match Z1 a with
  | none => []
  | some _ => if i = 0 then [.methodLink own x (Y a).1] else []
/-- the words that an instruction needs; i: 1 for a call of a nest mate's private member -/
def jp_nd (cl : List vw_C) (CW : String) (Y : Nat → jp_Y) (Z1 : Nat → Option jp_I) (CF SF : List (String × String × String)) (own : String) (ins : Instr) (a b i : Nat) : List Jvm.Cond := match ins with
  | .getstatic x => (match SF[a]? with
    | some q => [.fieldLink own x q.1 q.2.1 q.2.2]
    | none => [])
  | .getfield x => if 100 ≤ a then (match CF[a - 100]? with
      | some q => [.fieldLink own x q.1 q.2.1 q.2.2]
      | none => []) else (match cl[a]? with
    | some q => [.fieldLink own x (q.2.1 b).1 (q.2.1 b).2.1 (q.2.1 b).2.2.1]
    | none => [])
  | .putfield x => (match cl[a]? with
    | some q => [.fieldLink own x (q.2.1 b).1 (q.2.1 b).2.1 (q.2.1 b).2.2.1]
    | none => [])
  | .ldc x => if b = 0 then [.constant own x (Int32.ofNat a)] else []
  | .ldc_w x => [.constant own x (Int32.ofNat a)]
  | .new x => (match cl[a]? with
    | some q => [.classLink own x q.1]
    | none => [])
  | .newarray t => [.arrayClass (newarray.typeOf t)]
  | .anewarray x => [.classLink own x CW]
  | .invokestatic x => if a = 9001 then [.methodLink own x arraycopyName] else if a = 9010 then [.methodLink own x Lib.Math.max.name] else if a = 9011 then [.methodLink own x Lib.Math.min.name] else if a = 9012 then [.methodLink own x Lib.Math.abs.name] else jp_ndM Y Z1 own x a i
  | .invokespecial x => if a = 9000 then [.methodLink own x Lib.objectInit] else jp_ndM Y Z1 own x a i
  | .invokevirtual x => jp_ndM Y Z1 own x a i
  | _ => []
def jp_nw (Y : Nat → jp_Y) (own : String) (ins : Instr) (a i : Nat) : List Jvm.Cond := if i = 0 then [] else match ins with
  | .invokestatic x => [.methodLinkNest own x (Y a).1 "SwallowsAir"]
  | .invokespecial x => [.methodLinkNest own x (Y a).1 "SwallowsAir"]
  | _ => []
def jp_chkO (cl : List vw_C) (SR : List (String × Nat × String)) (oci : Nat) (ini : Bool) (ins : Instr) (a b i : Nat) : Bool := match ins with
  | .getfield _ => decide (100 ≤ a) || (match cl[a]? with
    | some q => decide (b < q.2.2)
    | none => false)
  | .putfield _ => (match cl[a]? with
    | some q => decide (b < q.2.2) && (!(q.2.1 b).2.2.2 || (ini && decide (a = oci)))
    | none => false)
  | .ldc x => decide (b = 0) || (decide (1000 ≤ a) && decide (oci = 6) && (match SR[a - 1000]? with
    | some q => decide (q.2.1 = x)
    | none => false))
  | .bipush n => decide ((Int8.ofInt n).toInt32 = Int32.ofInt n)
  | .sipush n => decide ((Int16.ofInt n).toInt32 = Int32.ofInt n)
  | .new _ => (match cl[a]? with
    | some _ => true
    | none => false)
  | .invokevirtual _ => decide (i = 0)
  | .invokestatic _ => decide (a < 9001 ∨ a = 9001 ∨ a = 9010 ∨ a = 9011 ∨ a = 9012 ∨ 9012 < a)
  | _ => true
def jp_kdc (Z1 : Nat → Option jp_I) (ins : Instr) (a : Nat) : Bool := match ins with
  | .invokevirtual _ | .invokestatic _ | .invokespecial _ => (match Z1 a with
    | some mi => jp_kdb ins mi.2.2.2.1
    | none => true)
  | _ => true
def jp_dec (bytes : ByteArray) (pc : Nat) (ins : Instr) : Bool := match decode bytes pc with
  | .ok (ins', len) => decide (ins' = ins) && (jp_sl ins || decide (len = jp_len ins))
  | .error _ => false
def jp_chkL (cl : List vw_C) (Z1 : Nat → Option jp_I) (SR : List (String × Nat × String)) (oci : Nat) (ini : Bool) (bytes : ByteArray) : List jp_O → List Nat → Bool
  | [], _ => true
  | _ :: _, [] => false
  | o :: r, i :: is => jp_dec bytes o.1 o.2.1 && jp_chkO cl SR oci ini o.2.1 o.2.2.1 o.2.2.2 i && jp_kdc Z1 o.2.1 o.2.2.1 && (match r with
    | [] => true
    | o' :: _ => jp_sl o.2.1 || decide (o'.1 = o.1 + jp_len o.2.1)) && jp_chkL cl Z1 SR oci ini bytes r is
def jp_nds (cl : List vw_C) (CW : String) (Y : Nat → jp_Y) (Z1 : Nat → Option jp_I) (CF SF : List (String × String × String)) (own : String) : List jp_O → List Nat → List Jvm.Cond
  | o :: r, i :: is => jp_nd cl CW Y Z1 CF SF own o.2.1 o.2.2.1 o.2.2.2 i ++ jp_nds cl CW Y Z1 CF SF own r is
  | _, _ => []
def jp_nws (Y : Nat → jp_Y) (own : String) : List jp_O → List Nat → List Jvm.Cond
  | o :: r, i :: is => jp_nw Y own o.2.1 o.2.2.1 i ++ jp_nws Y own r is
  | _, _ => []
/-- words that are used everywhere -/
def jp_glob (TBL : List Jvm.Cond) (cl : List vw_C) (SR : List (String × Nat × String)) : Prop := (Jvm.Cond.native arraycopyName ∈ TBL ∧ Jvm.Cond.static arraycopyName ∈ TBL ∧ Jvm.Cond.initialized "java/lang/System" ∈ TBL) ∧ (Jvm.Cond.instanceMethod Lib.objectInit ∈ TBL ∧ Jvm.Cond.code Lib.objectInit ⟨#[0xb1]⟩ 1 none ∈ TBL) ∧ ((Jvm.Cond.static Lib.Math.max.name ∈ TBL ∧ Jvm.Cond.initialized "java/lang/Math" ∈ TBL ∧ Jvm.Cond.code Lib.Math.max.name Lib.Math.max.code 2 (some .int) ∈ TBL) ∧ (Jvm.Cond.static Lib.Math.min.name ∈ TBL ∧ Jvm.Cond.initialized "java/lang/Math" ∈ TBL ∧ Jvm.Cond.code Lib.Math.min.name Lib.Math.min.code 2 (some .int) ∈ TBL) ∧ (Jvm.Cond.static Lib.Math.abs.name ∈ TBL ∧ Jvm.Cond.initialized "java/lang/Math" ∈ TBL ∧ Jvm.Cond.code Lib.Math.abs.name Lib.Math.abs.code 1 (some .int) ∈ TBL)) ∧ ∀ (ci : Nat) (q : vw_C), cl[ci]? = some q → (Jvm.Cond.instantiable q.1 q.2.2 ∈ TBL ∧ Jvm.Cond.initialized q.1 ∈ TBL) ∧ ∀ k, (q.2.1 k).1 = q.1
section JPK
variable {cl : List vw_C} {CW : String} {Y : Nat → jp_Y} {Z : jp_P} {TBL NW : List Jvm.Cond} {SR : List (String × Nat × String)} {CF SF : List (String × String × String)} {y : MethodName} {bytes : ByteArray} {oci : Nat}
theorem jp_ndM_ok {own : String} {x a i : Nat} (hT : ∀ w ∈ jp_ndM Y Z.1 own x a i, w ∈ TBL) (hN : ¬ i = 0 → Jvm.Cond.methodLinkNest own x (Y a).1 "SwallowsAir" ∈ NW) : Z.1 a = none ∨ (Jvm.Cond.methodLink own x (Y a).1 ∈ TBL ∨ ∃ host, Jvm.Cond.methodLinkNest own x (Y a).1 host ∈ NW) := by
  unfold jp_ndM at hT
  split at hT
  · next h0 => exact Or.inl h0
  · by_cases hi : i = 0
    · rw [if_pos hi] at hT
      exact Or.inr (Or.inl (hT _ List.mem_cons_self))
    · exact Or.inr (Or.inr ⟨_, hN hi⟩)
theorem jp_chkO_ok {ini : Bool} {ins : Instr} {a b i : Nat} (hg : jp_glob TBL cl SR) (hini : ini = true → y.name = "<init>") (hoci : (∀ q : vw_C, cl[oci]? = some q → q.1 = y.cls) ∧ (oci = 6 → ∀ (j : Nat) (q : String × Nat × String), SR[j]? = some q → q.1 = y.cls))
    (hT : ∀ w ∈ jp_nd cl CW Y Z.1 CF SF y.cls ins a b i, w ∈ TBL) (hN : ∀ w ∈ jp_nw Y y.cls ins a i, w ∈ NW) (h : jp_chkO cl SR oci ini ins a b i = true) :
    jp_okE TBL cl CW SR CF SF y.cls (y.name = "<init>") ins a b ∧ (Z.1 a = none ∨ jp_okK TBL NW Y y.cls ins a) := by
  cases ins <;> simp only [jp_chkO, jp_okE, jp_okK, jp_nd, jp_nw] at h hT hN ⊢ <;> first | exact ⟨trivial, Or.inr trivial⟩ | skip
  case getstatic x =>
    refine ⟨fun C n d hq => ?_, Or.inr trivial⟩
    rw [hq] at hT
    exact hT _ List.mem_cons_self
  case getfield x =>
    refine ⟨?_, Or.inr trivial⟩
    split
    · next h100 =>
      intro C n d hq
      rw [if_pos h100, hq] at hT
      exact hT _ List.mem_cons_self
    · next h100 =>
      rw [if_neg h100] at hT
      simp only [h100, decide_false, Bool.false_or] at h
      split at h
      · next q hq =>
        rw [hq] at hT
        exact ⟨q, hq, of_decide_eq_true h, hT _ List.mem_cons_self⟩
      · cases h
  case putfield x =>
    refine ⟨?_, Or.inr trivial⟩
    split at h
    · next q hq =>
      rw [hq] at hT
      simp only [Bool.and_eq_true, Bool.or_eq_true, decide_eq_true_eq, Bool.not_eq_true'] at h
      refine ⟨q, hq, h.1, hT _ List.mem_cons_self, ?_⟩
      rcases h.2 with h2 | h2
      · exact Or.inl h2
      · cases hf : (q.2.1 b).2.2.2 with
        | false => exact Or.inl rfl
        | true =>
          refine Or.inr ⟨rfl, hini h2.1, ?_⟩
          rw [(hg.2.2.2 a q hq).2 b]
          rw [h2.2] at hq
          exact hoci.1 q hq
    · cases h
  case ldc x =>
    refine ⟨⟨fun hb => ?_, fun hb => ?_⟩, Or.inr trivial⟩
    · rw [if_pos hb] at hT
      exact hT _ List.mem_cons_self
    · simp only [hb, decide_false, Bool.false_or, Bool.and_eq_true, decide_eq_true_eq] at h
      obtain ⟨⟨h1, h6⟩, h2⟩ := h
      split at h2
      · next q hq =>
        have h3 := of_decide_eq_true h2
        have h4 := hoci.2 h6 _ _ hq
        obtain ⟨o, x', tx⟩ := q
        dsimp only at h3 h4
        rw [← h4, ← h3]
        exact ⟨tx, h1, hq⟩
      · cases h2
  case ldc_w x => exact ⟨hT _ List.mem_cons_self, Or.inr trivial⟩
  case bipush n => exact ⟨of_decide_eq_true h, Or.inr trivial⟩
  case sipush n => exact ⟨of_decide_eq_true h, Or.inr trivial⟩
  case new x =>
    refine ⟨?_, Or.inr trivial⟩
    split at h
    · next q hq =>
      rw [hq] at hT
      exact ⟨q, hq, hT _ List.mem_cons_self, (hg.2.2.2 a q hq).1⟩
    · cases h
  case newarray t => exact ⟨hT _ List.mem_cons_self, Or.inr trivial⟩
  case anewarray x => exact ⟨hT _ List.mem_cons_self, Or.inr trivial⟩
  case invokestatic x =>
    have hh := of_decide_eq_true h
    by_cases ha : a = 9001
    · rw [if_pos ha] at hT
      exact ⟨⟨fun _ => ⟨hT _ List.mem_cons_self, hg.1⟩, fun h9 => by omega, fun h9 => by omega, fun h9 => by omega⟩, Or.inr (Or.inl (by omega))⟩
    · rw [if_neg ha] at hT
      by_cases ha2 : a = 9010
      · rw [if_pos ha2] at hT
        exact ⟨⟨fun h9 => by omega, fun _ => ⟨hT _ List.mem_cons_self, hg.2.2.1.1⟩, fun h9 => by omega, fun h9 => by omega⟩, Or.inr (Or.inl (by omega))⟩
      · rw [if_neg ha2] at hT
        by_cases ha3 : a = 9011
        · rw [if_pos ha3] at hT
          exact ⟨⟨fun h9 => by omega, fun h9 => by omega, fun _ => ⟨hT _ List.mem_cons_self, hg.2.2.1.2.1⟩, fun h9 => by omega⟩, Or.inr (Or.inl (by omega))⟩
        · rw [if_neg ha3] at hT
          by_cases ha4 : a = 9012
          · rw [if_pos ha4] at hT
            exact ⟨⟨fun h9 => by omega, fun h9 => by omega, fun h9 => by omega, fun _ => ⟨hT _ List.mem_cons_self, hg.2.2.1.2.2⟩⟩, Or.inr (Or.inl (by omega))⟩
          · rw [if_neg ha4] at hT
            exact ⟨⟨fun h9 => by omega, fun h9 => by omega, fun h9 => by omega, fun h9 => by omega⟩, (jp_ndM_ok hT (fun hi => hN _ (by rw [if_neg hi]; exact List.mem_cons_self))).imp id Or.inr⟩
  case invokespecial x =>
    by_cases ha : a = 9000
    · rw [if_pos ha] at hT
      exact ⟨fun _ => ⟨hT _ List.mem_cons_self, hg.2.1⟩, Or.inr (Or.inl ha)⟩
    · rw [if_neg ha] at hT
      exact ⟨fun h9 => absurd h9 ha, (jp_ndM_ok hT (fun hi => hN _ (by rw [if_neg hi]; exact List.mem_cons_self))).imp id Or.inr⟩
  case invokevirtual x => exact ⟨trivial, jp_ndM_ok hT (fun hi => absurd (of_decide_eq_true h) hi)⟩
theorem jp_kdc_ok {ins : Instr} {a : Nat} (h : jp_kdc Z.1 ins a = true) : ∀ mi, Z.1 a = some mi → jp_kdb ins mi.2.2.2.1 = true := by
  intro mi hmi
  cases ins <;> simp only [jp_kdc, hmi] at h <;> first | exact h | rfl
theorem jp_dec_ok {pc : Nat} {ins : Instr} (h : jp_dec bytes pc ins = true) : if jp_sl ins then ∃ len, decode bytes pc = .ok (ins, len) else decode bytes pc = .ok (ins, jp_len ins) := by
  unfold jp_dec at h
  split at h
  · next ins' len hd =>
    simp only [Bool.and_eq_true, Bool.or_eq_true, decide_eq_true_eq] at h
    obtain ⟨rfl, h2⟩ := h
    split
    · exact ⟨len, hd⟩
    · next hsl =>
      rcases h2 with h2 | h2
      · exact absurd h2 hsl
      · rw [← h2]; exact hd
  · cases h
theorem jp_chkL_ok {ini : Bool} (hg : jp_glob TBL cl SR) (hini : ini = true → y.name = "<init>") (hoci : (∀ q : vw_C, cl[oci]? = some q → q.1 = y.cls) ∧ (oci = 6 → ∀ (j : Nat) (q : String × Nat × String), SR[j]? = some q → q.1 = y.cls)) : ∀ {ops : List jp_O} {is : List Nat}, (∀ w ∈ jp_nds cl CW Y Z.1 CF SF y.cls ops is, w ∈ TBL) → (∀ w ∈ jp_nws Y y.cls ops is, w ∈ NW) → jp_chkL cl Z.1 SR oci ini bytes ops is = true → jp_okL Z Y cl CW TBL NW SR CF SF y bytes ops
  | [], _, _, _, _ => trivial
  | o :: r, [], _, _, h => by cases h
  | o :: r, i :: is, hT, hN, h => by
    simp only [jp_chkL, Bool.and_eq_true] at h
    obtain ⟨⟨⟨⟨h1, h2⟩, h3⟩, h4⟩, h5⟩ := h
    simp only [jp_nds, jp_nws, List.mem_append] at hT hN
    obtain ⟨e1, e2⟩ := jp_chkO_ok (Z := Z) hg hini hoci (fun w hw => hT w (Or.inl hw)) (fun w hw => hN w (Or.inl hw)) h2
    refine ⟨⟨jp_dec_ok h1, e1, e2, jp_kdc_ok h3⟩, fun o' r' hr => ?_, jp_chkL_ok hg hini hoci (fun w hw => hT w (Or.inr hw)) (fun w hw => hN w (Or.inr hw)) h5⟩
    subst hr
    simpa using h4
end JPK
