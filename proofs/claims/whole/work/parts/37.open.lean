def R_law : String := "SwallowsAirLaw"
def lw_P (b : Addr) (xs : List Int32) (args : Array Value) (s : State) : Prop := args = #[.ref b] ∧ s.IntsAt b xs ∧ xs.length ≤ 3072 ∧ (Jvm.Cond.and given_1 narrow_1).before args s = true
def lw_Q (_ : Array Value) (s : State) (o : Outcome) (t : State) : Prop := o = .returned (some (.int 1)) ∧ Framed s o t [] 600000 7302250
def lw_Z (below : List Frame) (a : Array Value) (s : State) : State → Prop := fun t => ∃ o, t.status = .running ∧ Ended t below o ∧ lw_Q a s o t
/-- the law's own end, with 1 on the stack, nothing written that was there before, its room as the claim has it -/
theorem lw_ret {p : Program} {l : Launch} {e : Env} {s : State} {m : MethodId} {below : List Frame} {meth : Method} {c : Code} {b : Nat} (hx : p.tables.exec = Jvm.exec) (hb : c.code = code) (hr : meth.sig.returnType = ret) (hlocks : meth.locks = false) {pc : Nat} {H : Heap} {ls : Array Slot} (hdg : decode code pc = .ok (.ireturn, 1)) : W p l e room_1 s m #[Value.ref b] below meth c H [] 600000 7302250 (lw_Z below #[Value.ref b] s) (F0 m pc ls [.int 1]) := by
  intro T hT X
  obtain ⟨fs, hret, hrun, hended, hW, hframe⟩ := X.leave (v := some (.int 1)) (hlocks := hlocks) (fun h => by rw [hr] at h; cases h)
  have hmeth' : T.vm.method? m = some meth := X.method'
  refine ⟨T.setFrames fs, ?_, .returned (some (.int 1)), hrun, hended, rfl, ⟨_, rfl⟩, hW, hframe⟩
  jvm_step X.here [X.here.top, hx, hb, hdg, hmeth', hr, ret, narrow_b1]
  (try refine ⟨rfl, ?_⟩); (try refine ⟨rfl, ?_⟩)
  first | (intro acts; rw [hret _ acts rfl rfl rfl]) | rw [hret _ _ rfl rfl rfl]
  exact Steps.refl _
/-- what holds at the law's entry: the machine, the code, the tables' words (any of lw_tbl by 'hts w (by decide +kernel)'), the script of L ints xs at the cell b, what the Statement gives of the start (any of its parts by flat_of_before) -/
def lw_At (p : Program) (s : State) (m : MethodId) (meth : Method) (c : Code) (b L : Nat) (xs : Nat → Int32) : Prop :=
  p.tables.exec = Jvm.exec ∧ c.code = code ∧ meth.sig.returnType = ret ∧ c.maxLocals = 4 ∧ s.vm.findClass R_law = some m.cls ∧ (∀ w ∈ lw_tbl, w.before #[Value.ref b] s = true) ∧ va_X b L xs s s.heap ∧ b < s.heap.size ∧ meth.locks = false ∧ (Jvm.Cond.and given_1 narrow_1).before #[Value.ref b] s = true ∧ meth.name = "law"
set_option maxRecDepth 100000 in
theorem jnest_in : ∀ w ∈ jNW, w ∈ lw_tbl := by
  intro w hw
  simp only [jNW, List.mem_cons, List.not_mem_nil, or_false] at hw
  rcases hw with rfl | rfl | rfl | rfl | rfl | rfl | rfl | rfl | rfl
  · exact List.mem_of_getElem? (i := 185) rfl
  · exact List.mem_of_getElem? (i := 250) rfl
  · exact List.mem_of_getElem? (i := 396) rfl
  · exact List.mem_of_getElem? (i := 548) rfl
  · exact List.mem_of_getElem? (i := 683) rfl
  · exact List.mem_of_getElem? (i := 759) rfl
  · exact List.mem_of_getElem? (i := 1114) rfl
  · exact List.mem_of_getElem? (i := 1181) rfl
  · exact List.mem_of_getElem? (i := 1275) rfl
set_option maxRecDepth 100000 in
theorem jstr_in : ∀ (i : Nat) own k tx, jSR[i]? = some (own, k, tx) → Jvm.Cond.stringRef own k tx ∈ lw_tbl := by
  intro i own k tx h
  match i, h with
  | 0, h => cases h; exact List.mem_of_getElem? (i := 505) rfl
  | 1, h => cases h; exact List.mem_of_getElem? (i := 870) rfl
  | 2, h => cases h; exact List.mem_of_getElem? (i := 871) rfl
  | 3, h => cases h; exact List.mem_of_getElem? (i := 872) rfl
  | 4, h => cases h; exact List.mem_of_getElem? (i := 939) rfl
  | n + 5, h => cases h
/-- the pure machine's run of the law, on every script -/
def jPure : Prop := ∀ (Ln : Nat) (xs : Nat → Int32) (sv : jp_V), Ln ≤ 3072 → (sv = .inr none ∨ sv = .inr (some 3000)) → ∃ (n : Nat) (sh : jp_S) (M : jp_M), jp_run (jZ (jK Ln xs sv)) n 200 315 0 (jp_ent 4 [.inr (some 2000)], [], [], fun _ _ => 0) 0 0 = some (some (.inl 1), sh, M)
set_option maxRecDepth 100000 in
theorem jstart_open (hpure : jPure) {p : Program} {e : Env} {s : State} {m : MethodId} {below : List Frame} {meth : Method} {c : Code} (l : Launch) {b L : Nat} {xs : Nat → Int32} (hL : L ≤ 3072) (C0 : lw_At p s m meth c b L xs) : W p l e room_1 s m #[Value.ref b] below meth c s.heap [] 0 0 (lw_Z below #[Value.ref b] s) (entryFrame m ([Value.ref b] : List Value).toArray 4) := by
  obtain ⟨hx, hb, hr, hml, hown, hts, hXs, hbl, hlocks, hgv, hname⟩ := C0
  have hs := flat_of_before _ hgv
  have hA : ∀ a : Nat, a < s.heap.size → ¬ jA0 s.heap.size a := fun a h h2 => h2 h
  have hnw : ∀ w ∈ jNW, va_Nw w s := by
    intro w hw
    obtain ⟨a, i, x, hh, rfl⟩ := jNW_is w hw
    refine va_Nw.of rfl (hts _ ?_)
    exact jnest_in _ hw
  have hao : va_AO RX10 s := va_AO.of (hts _ (List.mem_of_getElem? (i := 395) rfl))
  obtain ⟨D, cA, hK⟩ := jcls hts hao
  have h5 := jstrs hgv (A := jA0 s.heap.size) hA
  have h6 : ∀ i : Nat, ∃ p : Nat × Nat, i < 5 → (∀ q, jSR[i]? = some q → (Term.string q.1 q.2.1).eval #[Value.ref b] s none [] s = some (.ref p.1)) ∧ va_O "java/lang/String" p.1 (jA0 s.heap.size) s s.heap ∧ va_OF "java/lang/String" "value" "[B" (.ref p.2) p.1 (jA0 s.heap.size) s s.heap ∧ va_OF "java/lang/String" "coder" "B" (.int 0) p.1 (jA0 s.heap.size) s s.heap ∧ va_T .byte p.2 (jstr.getD i []).length (fun j => .int (jcon (2002 + i) j)) (jA0 s.heap.size) s s.heap := by
    intro i
    by_cases hi : i < 5
    · obtain ⟨a, t, h⟩ := h5 i hi
      exact ⟨(a, t), fun _ => h⟩
    · exact ⟨(0, 0), fun h => absurd h hi⟩
  obtain ⟨ad, had⟩ := Classical.axiomOfChoice h6
  obtain ⟨tw, htw, hTw⟩ := va_Tof (tm := .static "SwallowsAir$AirThought" "WORTHS" "[I") (ty := .int) (N := 8) (f := fun j => .int (jcon 2001 j)) (A := jA0 s.heap.size) (by decide) (hs _ (List.mem_of_getElem? (i := 10) rfl)) (va_eqt (hs _ (List.mem_of_getElem? (i := 11) rfl))) (fun j hj => va_eqt (hs _ (List.mem_of_getElem? (jfl_use jfl_5 j hj)))) hA
  have hZw := va_Zof (A := jA0 s.heap.size) (hts (.laysStatic "SwallowsAir$AirThought" "WORTHS" "[I") (List.mem_of_getElem? (i := 1360) rfl)) (hts (.initialized "SwallowsAir$AirThought") (List.mem_of_getElem? (i := 156) rfl)) htw hA
  have hZc := va_Zof (A := jA0 s.heap.size) (hts (.laysStatic "java/lang/String" "COMPACT_STRINGS" "Z") (List.mem_of_getElem? (i := 893) rfl)) (hts (.initialized "java/lang/String") (List.mem_of_getElem? (i := 163) rfl)) (va_eqi (hs (.eq (.static "java/lang/String" "COMPACT_STRINGS" "Z") (.int 1)) (List.mem_of_getElem? (i := 4) rfl))) hA
  have hZq := va_Zqof (A := jA0 s.heap.size) (hts (.laysStatic "jdk/internal/util/Preconditions" "SIOOBE_FORMATTER" "Ljava/util/function/BiFunction;") (List.mem_of_getElem? (i := 909) rfl)) (hts (.initialized "jdk/internal/util/Preconditions") (List.mem_of_getElem? (i := 165) rfl)) (hs (.isRef (.static "jdk/internal/util/Preconditions" "SIOOBE_FORMATTER" "Ljava/util/function/BiFunction;")) (List.mem_of_getElem? (i := 5) rfl)) hA
  have hsv : ∃ (sv : jp_V) (tf : Nat), (sv = .inr none ∨ sv = .inr (some 3000)) ∧ ∀ aK : Nat → Nat, aK 3000 = tf → va_Z "jdk/internal/util/Preconditions" "SIOOBE_FORMATTER" "Ljava/util/function/BiFunction;" (jp_tr aK sv) (jA0 s.heap.size) s s.heap := by
    rcases hZq with h | ⟨t, h⟩
    · exact ⟨.inr none, 0, Or.inl rfl, fun aK _ => h⟩
    · refine ⟨.inr (some 3000), t, Or.inr rfl, fun aK h9 => ?_⟩
      simp only [jp_tr, h9]
      exact h
  obtain ⟨sv, tf, hsv, hZf⟩ := hsv
  let aK : Nat → Nat := fun q => if q = 2000 then b else if q = 2001 then tw else if q = 3000 then tf else if q < 2000 then (ad (q - 1000)).1 else (ad (q - 2002)).2
  have aK1 : ∀ i, i < 5 → aK (1000 + i) = (ad i).1 := by
    intro i hi
    show (if 1000 + i = 2000 then b else if 1000 + i = 2001 then tw else if 1000 + i = 3000 then tf else if 1000 + i < 2000 then (ad (1000 + i - 1000)).1 else (ad (1000 + i - 2002)).2) = (ad i).1
    rw [if_neg (by omega), if_neg (by omega), if_neg (by omega), if_pos (by omega), show 1000 + i - 1000 = i by omega]
  have aK2 : ∀ i, i < 5 → aK (2002 + i) = (ad i).2 := by
    intro i hi
    show (if 2002 + i = 2000 then b else if 2002 + i = 2001 then tw else if 2002 + i = 3000 then tf else if 2002 + i < 2000 then (ad (2002 + i - 1000)).1 else (ad (2002 + i - 2002)).2) = (ad i).2
    rw [if_neg (by omega), if_neg (by omega), if_neg (by omega), if_neg (by omega), show 2002 + i - 2002 = i by omega]
  have hXX : jXX s.heap.size L xs sv aK s s.heap := by
    refine ⟨⟨hnw, hao, fun i own k tx hi => ?_⟩, fun i hi => ?_, ?_, hTw, hZw, hZc, hZf aK rfl⟩
    · have hi5 : i < 5 := (List.getElem?_eq_some_iff.mp hi).1
      rw [aK1 i hi5]
      exact vk_R.of (A := #[Value.ref b]) (hts _ (jstr_in i own k tx hi)) ((had i hi5).1 _ hi)
    · rw [aK1 i hi, aK2 i hi]
      obtain ⟨-, g1, g2, g3, g4⟩ := had i hi
      exact ⟨g1, g2, g3, g4⟩
    · obtain ⟨scr, e1, e2, e3, e4, e5⟩ := hXs
      exact ⟨scr, e1, e2, e3, Nat.le_of_eq e4.symm, by rw [e4], e5, hA b hbl⟩
  obtain ⟨n, sh, M, hrun⟩ := hpure L xs sv hL hsv
  have hAn := jp_all (l := l) (jokZ (jK L xs sv) D cA aK) (jokX (sz := s.heap.size) D cA hsv) (jokF (jK L xs sv) D cA aK) (jokP l _ _ _ _) n
  rw [lg_entry_eq]
  have hl := lv_entry ([.ref b]) (n := 4) (Nat.le_of_ble_eq_true rfl)
  have hl' : jp_LR aK _ 4 (jp_ent 4 [.inr (some 2000)]) := jp_ent_LR (ad := aK) (as := [.inr (some 2000)]) (by decide) hl
  have key := hAn p e s m #[Value.ref b] below meth c 200 315 jm_315 [.inr (some 2000)] [] (fun _ _ => 0) aK (some (.inl 1), sh, M) room_1 ⟨rfl, rfl⟩ ⟨by decide, by decide⟩ rfl hx hb hml hown hname hlocks (fun w hw => hts w (jw_in w hw).1) hr hK hXX (fun q hq => ⟨hq, fun i hi => by cases hi⟩) (fun q _ => rfl) 0 _ 0 0 hrun ⟨Nat.zero_le _, Nat.zero_le _⟩ aK s.heap [] _ ⟨⟨fun k q h => (by cases h), ⟨fun i j p q h => (by cases h), fun k q h => (by cases h)⟩, va_S.rf⟩, hl', fun _ _ => rfl, fun _ => rfl, Nat.le_refl _⟩
  refine jW_mono ?_ key
  rintro t ⟨o, h1, h2, ⟨⟨ad', -, ho, -⟩, -⟩, Ls, ⟨f1, f2, f3⟩, hfr⟩
  refine ⟨o, h1, h2, ho, f1, f2, f3.weaken (fun y hy hlt => ?_) (Nat.le_refl _) (Nat.le_refl _)⟩
  rcases hfr y hy with ⟨k, ee, h⟩ | h
  · cases h
  · exact absurd hlt (Nat.not_lt.mpr h)
