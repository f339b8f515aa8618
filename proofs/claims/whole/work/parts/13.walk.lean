/-! A RUN OF THE PURE MACHINE IS A RUN OF THE MACHINE -/
/-- a method's names: name, bytes, return type -/
abbrev jp_Y : Type := MethodName × ByteArray × Option FieldType
/-- what all stands on: launch, class numbers and slots, classes, array classes, the class of the array of references, words, words of nest mates, Strings, addresses of what was there before -/
abbrev jp_G : Type := (Nat → jp_Y) × va_G × List vw_C × (Nat → ClassId) × String × List Jvm.Cond × List Jvm.Cond × List (String × Nat × String) × (Nat → Nat) × List (String × String × String) × List (String × String × String)
def jp_sl (ins : Instr) : Bool := match ins with
  | .tableswitch _ _ _ _ => true
  | .lookupswitch _ _ => true
  | _ => false
def jp_okK (TBL NW : List Jvm.Cond) (Y : Nat → jp_Y) (own : String) (ins : Instr) (a : Nat) : Prop := match ins with
  | .invokevirtual i => Jvm.Cond.methodLink own i (Y a).1 ∈ TBL ∨ ∃ host, Jvm.Cond.methodLinkNest own i (Y a).1 host ∈ NW
  | .invokestatic i => (9001 ≤ a ∧ a ≤ 9012) ∨ Jvm.Cond.methodLink own i (Y a).1 ∈ TBL ∨ ∃ host, Jvm.Cond.methodLinkNest own i (Y a).1 host ∈ NW
  | .invokespecial i => a = 9000 ∨ Jvm.Cond.methodLink own i (Y a).1 ∈ TBL ∨ ∃ host, Jvm.Cond.methodLinkNest own i (Y a).1 host ∈ NW
  | _ => True
def jp_kdb (ins : Instr) (k : Nat) : Bool := match ins with
  | .invokevirtual _ => k == 1 || k == 3
  | .invokestatic _ => k == 0
  | .invokespecial _ => k == 2
  | _ => true
def jp_okO (Z : jp_P) (Y : Nat → jp_Y) (cl : List vw_C) (CW : String) (TBL NW : List Jvm.Cond) (SR : List (String × Nat × String)) (CF SF : List (String × String × String)) (y : MethodName) (bytes : ByteArray) (o : jp_O) : Prop :=
  (if jp_sl o.2.1 then ∃ len, decode bytes o.1 = .ok (o.2.1, len) else decode bytes o.1 = .ok (o.2.1, jp_len o.2.1)) ∧ jp_okE TBL cl CW SR CF SF y.cls (y.name = "<init>") o.2.1 o.2.2.1 o.2.2.2 ∧ (Z.1 o.2.2.1 = none ∨ jp_okK TBL NW Y y.cls o.2.1 o.2.2.1) ∧
  ∀ mi, Z.1 o.2.2.1 = some mi → jp_kdb o.2.1 mi.2.2.2.1 = true
def jp_okL (Z : jp_P) (Y : Nat → jp_Y) (cl : List vw_C) (CW : String) (TBL NW : List Jvm.Cond) (SR : List (String × Nat × String)) (CF SF : List (String × String × String)) (y : MethodName) (bytes : ByteArray) : List jp_O → Prop
  | [] => True
  | o :: r => jp_okO Z Y cl CW TBL NW SR CF SF y bytes o ∧ (∀ o' r', r = o' :: r' → jp_sl o.2.1 = true ∨ o'.1 = o.1 + jp_len o.2.1) ∧ jp_okL Z Y cl CW TBL NW SR CF SF y bytes r
/-- the contract of a method at a heap, with its answer and its heap behind it -/
def jp_Pc (G : jp_G) (XX : State → Heap → Prop) (CA : Nat → Prop) (as : List jp_V) (sh : jp_S) (M : jp_M) (ad : Nat → Nat) (sz : Nat) : Array Value → State → Prop :=
  va_Pc (as.map (jp_tr ad)) (fun U => U.heap.size = sz ∧ va_P G.2.1 G.2.2.1 (jp_ws G.2.2.2.1 ad M sh) U.heap ∧ va_K G.2.1 G.2.2.1 (jp_tys G.2.2.2.1 G.2.2.2.2.1) U ∧ va_D (fun _ => True) (jp_ws G.2.2.2.1 ad M sh) ∧ XX U U.heap ∧ ∀ q, CA q → q < sz ∧ ∀ i, i < sh.length → ad i ≠ q)
def jp_Qc (G : jp_G) (as : List jp_V) (sh : jp_S) (M : jp_M) (ad : Nat → Nat) (sz mc : Nat) (r : jp_R) : Array Value → State → Outcome → State → Prop := fun _ st oc t =>
  (∃ ad' : Nat → Nat, ((∀ q, q < sh.length ∨ 1000 ≤ q → ad' q = ad q) ∧ (mc = 0 → ad' = ad) ∧ sh.length ≤ r.2.1.length) ∧ oc = .returned (r.1.map (jp_tr ad')) ∧ va_P G.2.1 G.2.2.1 (jp_ws G.2.2.2.1 ad' r.2.2 r.2.1) t.heap ∧ va_K G.2.1 G.2.2.1 (jp_tys G.2.2.2.1 G.2.2.2.2.1) t ∧ va_D (va_A (jp_ws G.2.2.2.1 ad M sh) sz) (jp_ws G.2.2.2.1 ad' r.2.2 r.2.1)) ∧ va_F (va_A (jp_ws G.2.2.2.1 ad M sh) sz) st t
def jp_wsM (G : jp_G) (k maxL : Nat) : List Jvm.Cond := Jvm.Cond.code (G.1 k).1 (G.1 k).2.1 maxL (G.1 k).2.2 :: G.2.2.2.2.2.1
/-- what is known of a method -/
def jp_okM (Z : jp_P) (G : jp_G) (k : Nat) (mi : jp_I) : Prop :=
  (plainName (G.1 k).1.cls = true ∧ (mi.2.2.2.1 = 9 ∨ Jvm.Cond.code (G.1 k).1 (G.1 k).2.1 mi.1 (G.1 k).2.2 ∈ G.2.2.2.2.2.1) ∧ Jvm.Cond.initialized (G.1 k).1.cls ∈ G.2.2.2.2.2.1 ∧ (G.1 k).1.cls ≠ "java/lang/invoke/MethodHandle" ∧ (G.1 k).1.cls ≠ "java/lang/invoke/VarHandle" ∧ mi.1 ≤ 40) ∧
  ((mi.2.2.2.1 = 0 ∧ Jvm.Cond.static (G.1 k).1 ∈ G.2.2.2.2.2.1 ∧ (parseMethodDescriptor (G.1 k).1.desc).map (fun d => d.parameters.length) = some mi.2.2.2.2.2.2.1) ∨
   (mi.2.2.2.1 = 1 ∧ Jvm.Cond.instanceMethod (G.1 k).1 ∈ G.2.2.2.2.2.1 ∧ Jvm.Cond.selects (G.1 k).1.cls (G.1 k).1 (G.1 k).1 ∈ G.2.2.2.2.2.1 ∧ (∃ T N, G.2.2.1[mi.2.2.2.2.1]? = some ((G.1 k).1.cls, T, N)) ∧ ∃ n, mi.2.2.2.2.2.2.1 = n + 1 ∧ (parseMethodDescriptor (G.1 k).1.desc).map (fun d => d.parameters.length) = some n) ∨
   (mi.2.2.2.1 = 2 ∧ Jvm.Cond.instanceMethod (G.1 k).1 ∈ G.2.2.2.2.2.1 ∧ (G.1 k).1.name = "<init>" ∧ (G.1 k).2.2 = none ∧ ∃ n, mi.2.2.2.2.2.2.1 = n + 1 ∧ (parseMethodDescriptor (G.1 k).1.desc).map (fun d => d.parameters.length) = some n) ∨
   mi.2.2.2.1 = 9 ∨
   (mi.2.2.2.1 = 3 ∧ Jvm.Cond.instanceMethod (G.1 k).1 ∈ G.2.2.2.2.2.1 ∧ Jvm.Cond.selects (G.1 k).1.cls (G.1 k).1 (G.1 k).1 ∈ G.2.2.2.2.2.1 ∧ (G.1 k).1.cls = "java/lang/String" ∧ ∃ n, mi.2.2.2.2.2.2.1 = n + 1 ∧ (parseMethodDescriptor (G.1 k).1.desc).map (fun d => d.parameters.length) = some n)) ∧
  (G.1 k).2.2 = jp_rty mi.2.2.2.2.2.1 ∧
  jp_okL Z G.1 G.2.2.1 G.2.2.2.2.1 G.2.2.2.2.2.1 G.2.2.2.2.2.2.1 G.2.2.2.2.2.2.2.1 G.2.2.2.2.2.2.2.2.2.1 G.2.2.2.2.2.2.2.2.2.2 (G.1 k).1 (G.1 k).2.1 mi.2.2.2.2.2.2.2
/-- a call and what comes behind it: any answer -/
theorem jp_callX {p : Program} {l : Launch} {e : Env} {R : Room} {s : State} {m : MethodId} {args : Array Value} {below : List Frame} {meth : Method} {c : Code} {H : Heap} {locs : List Loc} {cells slots : Nat} {Q : State → Prop} {pc : Nat} {ls : Array Slot} {rest st0 : List Value} {A0 A1 : Nat → Prop} {H0 : Heap} {mc ms : Nat} {free : Addr → Prop} {B : Outcome → State → Prop} {Qa : State → Outcome → State → Prop} (hr : va_Run p l e R s m args below meth c H locs cells slots mc ms (F0 m pc ls st0) rest Qa free) (hQ : ∀ st oc t, Qa st oc t → B oc t ∧ va_F A1 st t) (hS : va_S A0 H0 H locs) (hA : ∀ q, q < H.size → A1 q → A0 q) (hf : ∀ q, free q → A0 q)
    (kk : ∀ (v : Option Value) (t : State) (H1 : Heap) (locs1 : List Loc), t.heap = H1 → s.vm.Alike t.vm → B (.returned v) t → H.size ≤ H1.size → (∀ q : Nat, q < H.size → ¬ A1 q → H1[q]? = H[q]?) → va_S A0 H0 H1 locs1 → W p l e R s m args below meth c H1 locs1 (cells + mc) (slots + ms) Q (F0 m (pc + 3) ls (v.toList ++ rest))) : W p l e R s m args below meth c H locs cells slots Q (F0 m pc ls st0) := by
  intro T hT X
  obtain ⟨v, st₀, t, T', L, h0, X', hL, e1, e2, hqa, st⟩ := hr T hT X
  obtain ⟨hb, hz, hk⟩ := hQ _ _ _ hqa
  rw [h0] at hz hk
  obtain ⟨t2, a1, b1⟩ := kk v t T'.heap (locs ++ L) e1.symm (by rw [← e2]; exact X'.warmed.alike) hb (by rw [e1]; exact hz) (fun q h1 h2 => by rw [e1]; exact hk q h1 h2)
    ⟨Nat.le_trans hS.1 (by rw [e1]; exact hz), fun q h1 h2 => by rw [e1, hk q (Nat.lt_of_lt_of_le h1 hS.1) (fun z => h2 (hA q (Nat.lt_of_lt_of_le h1 hS.1) z))]; exact hS.2.1 q h1 h2, fun q hq => by
      rcases List.mem_append.mp hq with h | h
      · exact hS.2.2 q h
      · exact hf _ (hL q h)⟩ T' rfl X'
  exact ⟨t2, st t2 a1, b1⟩
theorem jp_tr_ag {ad ad' : Nat → Nat} {n : Nat} (hag : ∀ q, q < n ∨ 1000 ≤ q → ad' q = ad q) {v : jp_V} (h : jp_wfV n v = true) : jp_tr ad' v = jp_tr ad v := by
  rcases v with x | _ | q
  · rfl
  · rfl
  · simp only [jp_wfV, jp_wfq, Bool.or_eq_true, decide_eq_true_eq] at h
    simp only [jp_tr, hag q h]
theorem jp_map_ag {ad ad' : Nat → Nat} {n : Nat} (hag : ∀ q, q < n ∨ 1000 ≤ q → ad' q = ad q) {S : List jp_V} (h : S.all (jp_wfV n) = true) : S.map (jp_tr ad') = S.map (jp_tr ad) :=
  List.map_congr_left fun v hv => jp_tr_ag hag (List.all_eq_true.mp h v hv)
theorem jp_LR.ag {ad ad' : Nat → Nat} {n nL : Nat} {ls : Array Slot} {L : List (Option jp_V)} (hag : ∀ q, q < n ∨ 1000 ≤ q → ad' q = ad q) (hw : jp_wfL n L = true) (h : jp_LR ad ls nL L) : jp_LR ad' ls nL L := by
  refine ⟨h.1, h.2.1, h.2.2.1, fun q hq => ?_⟩
  obtain ⟨j, hj, hq⟩ := List.mem_filterMap.mp hq
  cases hv : jp_ld L j with
  | none => rw [hv] at hq; cases hq
  | some v =>
    rw [hv] at hq
    cases hq
    have h1 := List.all_eq_true.mp hw (some v) (List.mem_of_getElem? (jp_ld_some hv))
    show ls[j]? = some (.val (jp_tr ad' v))
    rw [jp_tr_ag hag h1]
    exact h.at hv
theorem jp_cv_ag {cA : Nat → ClassId} {ad ad' : Nat → Nat} {M : jp_M} {n p : Nat} {c : jp_C} (hag : ∀ q, q < n ∨ 1000 ≤ q → ad' q = ad q) (h : jp_wfC n c = true) : jp_cv cA ad' M p c = jp_cv cA ad M p c := by
  rcases c with ⟨t, k⟩ | l | ⟨ci, fs⟩
  · rfl
  · simp only [jp_cv]
    congr 7
    funext i
    cases hv : l.getD i none with
    | none => rfl
    | some q =>
      simp only [jp_wfC] at h
      have hi : l[i]? = some (some q) := by
        rw [List.getD_eq_getElem?_getD] at hv
        cases h0 : l[i]? with
        | none => rw [h0] at hv; cases hv
        | some z => rw [h0] at hv; simp at hv; rw [hv]
      have h1 := List.all_eq_true.mp h (some q) (List.mem_of_getElem? hi)
      simp only [jp_wfq, Bool.or_eq_true, decide_eq_true_eq] at h1
      simp [hag q h1]
  · simp only [jp_cv]
    congr 2
    apply List.ext_getElem?
    intro i
    simp only [List.getElem?_mapIdx]
    cases hv : fs[i]? with
    | none => rfl
    | some o =>
      simp only [jp_wfC] at h
      have h1 := List.all_eq_true.mp h o (List.mem_of_getElem? hv)
      rcases o with _ | _ | q
      · rfl
      · rfl
      · simp only [jp_wfq, Bool.or_eq_true, decide_eq_true_eq] at h1
        simp [jp_fval, jp_tr, hag q h1]
theorem jp_ws_ag {cA : Nat → ClassId} {ad ad' : Nat → Nat} {M : jp_M} {sh : jp_S} {n : Nat} (hn : sh.length ≤ n) (hag : ∀ q, q < n ∨ 1000 ≤ q → ad' q = ad q) (h : sh.all (jp_wfC n) = true) : jp_ws cA ad' M sh = jp_ws cA ad M sh := by
  apply List.ext_getElem?
  intro i
  simp only [jp_ws, List.getElem?_mapIdx]
  cases hv : sh[i]? with
  | none => rfl
  | some c =>
    have hi := (List.getElem?_eq_some_iff.mp hv).1
    have h1 := List.all_eq_true.mp h c (List.mem_of_getElem? hv)
    simp only [Option.map_some]
    rw [jp_cv_ag hag h1, hag i (Or.inl (by omega))]
/-- a new cell behind the others -/
theorem jp_ws_new {cA : Nat → ClassId} {ad : Nat → Nat} {M : jp_M} {sh : jp_S} {q : Nat} {c : jp_C} (h : sh.all (jp_wfC sh.length) = true) (hc : jp_wfC sh.length c = true) (hn : sh.length < 1000) : jp_ws cA (fun i => if i = sh.length then q else ad i) (jp_set M sh.length (fun _ => 0)) (sh ++ [c]) = jp_ws cA ad M sh ++ [(q, jp_cv cA ad (fun _ _ => 0) sh.length c)] := by
  have hag : ∀ i, i < sh.length ∨ 1000 ≤ i → (fun i => if i = sh.length then q else ad i) i = ad i := by
    intro i hi
    show (if i = sh.length then q else ad i) = ad i
    rw [if_neg (by omega)]
  have e1 : jp_ws cA (fun i => if i = sh.length then q else ad i) M sh = jp_ws cA ad M sh := jp_ws_ag (Nat.le_refl _) hag h
  rw [← e1]
  apply List.ext_getElem?
  intro i
  simp only [jp_ws, List.getElem?_mapIdx, List.getElem?_append, List.length_mapIdx]
  by_cases hi : i < sh.length
  · rw [if_pos hi, if_pos hi]
    cases hv : sh[i]? with
    | none => rfl
    | some x =>
      simp only [Option.map_some]
      have hne : ¬ i = sh.length := by omega
      rcases x with ⟨t, k⟩ | l | ⟨ci, fs⟩ <;> simp [jp_cv, jp_set, hne]
  · rw [if_neg hi, if_neg hi]
    by_cases hi2 : i = sh.length
    · subst hi2
      simp only [Nat.sub_self, List.getElem?_cons_zero, Option.map_some, if_pos]
      congr 2
      rw [jp_cv_ag hag hc]
      rcases c with ⟨t, k⟩ | l | ⟨ci, fs⟩ <;> simp [jp_cv, jp_set]
    · have h3 : i - sh.length = (i - sh.length - 1) + 1 := by omega
      rw [h3]
      simp
