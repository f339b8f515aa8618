/-! more fuel, more constants: the same answer; what the constructors make -/
def jkE : jp_Kc := (fun _ => none, fun _ _ => none, fun _ => none)
theorem jp_st_mono {fk : Nat → Nat → Nat} {kc : jp_Kc} {ins : Instr} {a b : Nat} {X Y : jp_X} (h : jp_st fk jkE ins a b X = some Y) : jp_st fk kc ins a b X = some Y := by
  cases ins <;> first | exact h | skip
  case arraylength =>
    simp only [jp_st, jp_lenX, jkE] at h ⊢
    split at h <;> first | exact h | (cases h; done) | skip
    split at h <;> first | exact h | (cases h; done) | skip
  case iaload =>
    simp only [jp_st, jp_xldX, jkE] at h ⊢
    split at h <;> first | exact h | (cases h; done) | skip
    split at h <;> first | exact h | (cases h; done) | skip
  case baload =>
    simp only [jp_st, jp_xldX, jkE] at h ⊢
    split at h <;> first | exact h | (cases h; done) | skip
    split at h <;> first | exact h | (cases h; done) | skip
  case saload =>
    simp only [jp_st, jp_xldX, jkE] at h ⊢
    split at h <;> first | exact h | (cases h; done) | skip
    split at h <;> first | exact h | (cases h; done) | skip
  case getfield i =>
    simp only [jp_st, jp_getX, jkE] at h ⊢
    split at h <;> first | exact h | (cases h; done) | skip
    split at h
    · cases h
    · next h100 => rw [if_neg h100]; exact h
  case getstatic i => cases h
theorem jp_call_mono {Z Z' : jp_P} (hz : Z.1 = Z'.1) {mc ms : Nat} {C C' : jp_K} (hC : ∀ k as sh M r, C k as sh M = some r → C' k as sh M = some r) {a b nc ns : Nat} {X : jp_X} {q : jp_X × Nat × Nat} (h : jp_call Z mc ms C a b X nc ns = some q) : jp_call Z' mc ms C' a b X nc ns = some q := by
  unfold jp_call at h ⊢
  rw [← hz]
  split at h
  · split at h
    · next hc =>
      rw [if_pos hc]
      split at h
      · next e1 => rw [hC _ _ _ _ _ e1]; exact h
      · cases h
    · cases h
  · cases h
set_option maxHeartbeats 2000000 in
theorem jp_go_mono {kc : jp_Kc} {mc ms rt : Nat} {J J' : jp_J} {C C' : jp_K} (hJ : ∀ t X nc ns r, J t X nc ns = some r → J' t X nc ns = some r) (hC : ∀ k as sh M r, C k as sh M = some r → C' k as sh M = some r) : ∀ (ops : List jp_O) (X : jp_X) (nc ns : Nat) (r : jp_R), jp_go (jZ jkE) mc ms rt J C ops X nc ns = some r → jp_go (jZ kc) mc ms rt J' C' ops X nc ns = some r := by
  intro ops
  induction ops with
  | nil => intro X nc ns r h; cases h
  | cons o t ih =>
    obtain ⟨pc, ins, a, b⟩ := o
    intro X nc ns r h
    have hst : ∀ {ins : Instr} {Y : jp_X}, jp_st (jZ jkE).2.1 (jZ jkE).2.2.2.2 ins a b X = some Y → jp_st (jZ kc).2.1 (jZ kc).2.2.2.2 ins a b X = some Y := fun h => jp_st_mono h
    have hca : ∀ {q : jp_X × Nat × Nat}, jp_call (jZ jkE) mc ms C a b X nc ns = some q → jp_call (jZ kc) mc ms C' a b X nc ns = some q := fun h => jp_call_mono (Z := jZ jkE) (Z' := jZ kc) rfl hC h
    cases ins
    case goto off =>
      simp only [jp_go] at h ⊢
      split at h
      · next hj => rw [if_pos hj]; exact hJ _ _ _ _ _ h
      · cases h
    case if_icmp c off =>
      simp only [jp_go] at h ⊢
      split at h
      · split at h
        · next hj =>
          rw [if_pos hj]
          split at h
          · next hc => rw [if_pos hc]; exact hJ _ _ _ _ _ h
          · next hc => rw [if_neg hc]; exact ih _ _ _ _ h
        · cases h
      · cases h
    case ifCond c off =>
      simp only [jp_go] at h ⊢
      split at h
      · split at h
        · next hj =>
          rw [if_pos hj]
          split at h
          · next hc => rw [if_pos hc]; exact hJ _ _ _ _ _ h
          · next hc => rw [if_neg hc]; exact ih _ _ _ _ h
        · cases h
      · cases h
    case ifnull off =>
      simp only [jp_go] at h ⊢
      split at h
      · exact ih _ _ _ _ h
      · split at h
        · next hj => rw [if_pos hj]; exact hJ _ _ _ _ _ h
        · cases h
      · cases h
    case ifnonnull off =>
      simp only [jp_go] at h ⊢
      split at h
      · split at h
        · next hj => rw [if_pos hj]; exact hJ _ _ _ _ _ h
        · cases h
      · cases h
    case tableswitch d lo hi offs =>
      simp only [jp_go] at h ⊢
      split at h
      · split at h
        · next hc =>
          rw [if_pos hc]
          split at h
          · next hj => rw [if_pos hj]; exact hJ _ _ _ _ _ h
          · cases h
        · next hc =>
          rw [if_neg hc]
          split at h
          · split at h
            · next hj => rw [if_pos hj]; exact hJ _ _ _ _ _ h
            · cases h
          · cases h
      · cases h
    case lookupswitch d ps =>
      simp only [jp_go] at h ⊢
      split at h
      · split at h
        · next hj => rw [if_pos hj]; exact hJ _ _ _ _ _ h
        · cases h
      · cases h
    case ireturn => exact h
    case return_ => exact h
    case new i =>
      simp only [jp_go] at h ⊢
      split at h
      · next Y hY =>
        have hY : jp_newX mc ms ((jZ kc).2.2.1 a).length (.inr (.inr (a, (jZ kc).2.2.1 a))) X.1 X.2.1 X.2.2.1 X.2.2.2 nc ns = some Y := hY
        rw [hY]; exact ih _ _ _ _ h
      · cases h
    case newarray at_ =>
      simp only [jp_go] at h ⊢
      split at h
      · split at h
        · next hc =>
          rw [if_pos hc]
          split at h
          · exact ih _ _ _ _ h
          · cases h
        · cases h
      · cases h
    case anewarray i =>
      simp only [jp_go] at h ⊢
      split at h
      · split at h
        · next hc =>
          rw [if_pos hc]
          split at h
          · exact ih _ _ _ _ h
          · cases h
        · cases h
      · cases h
    case invokevirtual i =>
      simp only [jp_go] at h ⊢
      split at h
      · next e1 => rw [hca e1]; exact ih _ _ _ _ h
      · cases h
    case invokestatic i =>
      simp only [jp_go] at h ⊢
      split at h
      · next hc =>
        rw [if_pos hc]
        split at h
        · next e1 => rw [hst e1]; exact ih _ _ _ _ h
        · cases h
      · next hc =>
        rw [if_neg hc]
        split at h
        · next e1 => rw [hca e1]; exact ih _ _ _ _ h
        · cases h
    case invokespecial i =>
      simp only [jp_go] at h ⊢
      split at h
      · next hc =>
        rw [if_pos hc]
        split at h
        · next e1 => rw [hst e1]; exact ih _ _ _ _ h
        · cases h
      · next hc =>
        rw [if_neg hc]
        split at h
        · next e1 => rw [hca e1]; exact ih _ _ _ _ h
        · cases h
    all_goals
      simp only [jp_go] at h ⊢
      split at h
      · next e1 => rw [hst e1]; exact ih _ _ _ _ h
      · cases h
theorem jp_run_mono {kc : jp_Kc} : ∀ (n n' d d' k pc : Nat) (X : jp_X) (nc ns : Nat) (r : jp_R), n ≤ n' → d ≤ d' → jp_run (jZ jkE) n d k pc X nc ns = some r → jp_run (jZ kc) n' d' k pc X nc ns = some r := by
  intro n
  induction n with
  | zero => intro n' d d' k pc X nc ns r _ _ h; cases h
  | succ n ih =>
    intro n' d d' k pc X nc ns r hn hd h
    obtain ⟨n', rfl⟩ : ∃ m, n' = m + 1 := ⟨n' - 1, by omega⟩
    rw [jp_run_succ] at h ⊢
    have e0 : (jZ kc).1 k = (jZ jkE).1 k := rfl
    rw [e0]
    split at h
    · cases h
    · refine jp_go_mono (fun t X nc ns r h1 => ih n' d d' k t X nc ns r (by omega) hd h1) (fun k' as sh M r h1 => ?_) _ _ _ _ _ h
      unfold jp_T at h1 ⊢
      split at h1
      · split at h1
        · cases h1
        · cases h1
      · next h9 =>
        rw [if_neg h9]
        split at h1
        · next d1 mi' e2 =>
          obtain ⟨d2, rfl⟩ : ∃ m, d' = m + 1 := ⟨d' - 1, by omega⟩
          have e3 : (jZ kc).1 k' = some mi' := e2
          rw [e3]
          dsimp only
          split at h1
          · next hl => rw [if_pos hl]; exact ih n' d1 d2 k' 0 _ 0 0 r (by omega) (by omega) h1
          · cases h1
        · cases h1
/-- the memory behind the constructors: what isn't 0 -/
def jmt : List (Nat × List Int32) := [(16, [-1, -1, -1, -1, -1, -1, -1, -1, -1, -1]), (24, [1, 2, 4, 8, 16, 32, 64, 128, 256, 512]), (40, [-1, -1, -1, -1, -1, -1, -1, -1, -1, -1]), (48, [1, 2, 4, 8, 16, 32, 64, 128, 256, 512]), (68, [0, 0, 0, 0, 0, 0, 0, 0, -1]), (104, [0, 0, 0, 0, 0, 0, 0, 0, 0, 0, 0, 0, 0, 0, 0, 0, 0, 0, 0, 0, 0, 0, 0, 0, 0, 0, 0, 0, 0, 0, 0, 0, 0, 0, -1, 0, 0, 0, 0, 0, 0, 0, 0, 0, 0, 0, 0, 0, 0, 0, 0, 0, 0, 0, 0, 0, 0, 0, 0, 0, 0, 0, 0, 0, 0, 0]), (113, [32, 108, 101, 97, 118, 101, 32, 114, 101, 110, 116, 32, 102, 105, 110, 101, 32, 119, 104, 101, 110, 32, 111, 114, 32, 97, 110, 100, 32, 110, 111, 116, 32, 107, 105, 110, 100, 32, 104, 105, 103, 104, 32, 100, 97, 121, 115, 32, 114, 111, 111, 102, 32, 116, 97, 108, 108, 32, 102, 105, 110, 101, 100, 32, 110, 101, 115, 116, 115, 32, 115, 117, 109, 109, 101, 114, 32, 117, 115, 101, 100, 32, 100, 97, 121, 32, 111, 110, 32, 112, 101, 114, 115, 111, 110, 32, 107, 105, 116, 101, 32, 119, 97, 115, 104, 105, 110, 103, 32, 117, 109, 98, 114, 101, 108, 108, 97, 32, 98, 101, 108, 108, 32, 98, 97, 108, 108, 111, 111, 110, 32, 98, 97, 108, 108, 32, 97, 116, 32, 102, 111, 114, 32, 116, 117, 114, 110, 32, 116, 111, 32, 99, 97, 115, 101, 32, 102, 111, 108, 108, 111, 119, 115, 32])]
def jM0 (p i : Nat) : Int32 := match jmt.find? (fun q => q.1 == p) with
  | some q => q.2.getD i 0
  | none => 0
def jln : List Nat := [15, 8, 11, 50, 30, 128, 600, 8, 16, 16, 16, 400, 10, 32, 2, 112, 10, 2, 32, 8, 24, 20, 32, 36, 10, 8, 11, 50, 30, 128, 600, 8, 16, 16, 16, 400, 10, 32, 2, 112, 10, 2, 32, 8, 24, 20, 32, 36, 10, 0, 11, 50, 30, 128, 4, 8, 10, 10, 80, 80, 80, 10, 8, 10, 64, 16, 16, 400, 9, 2, 8, 16, 16, 16, 400, 10, 32, 6, 2, 112, 11, 50, 30, 128, 11, 50, 30, 128, 11, 50, 30, 128, 11, 50, 30, 128, 11, 50, 30, 128, 11, 50, 30, 128, 66, 184, 1104, 184, 10, 10, 10, 600, 400, 164, 2, 48, 48, 48, 48, 1200, 1200, 40, 224, 20, 32, 10, 420, 80, 80, 8, 8, 8, 10, 10, 10, 36, 64, 10, 8, 8, 8, 8, 8, 2300]
def jmq (M : jp_M) (ps : List Nat) : Bool := ps.all (fun p => (List.range (jln.getD p 0)).all (fun i => decide (M p i = jM0 p i)))
def jR1 : Option jp_R := jp_run (jZ jkE) 60 60 111 0 (jp_ent 2 [.inr (some 0)], [], [.inr (.inr (11, jdf 11))], jp_set (fun _ _ => 0) 0 (fun _ => 0)) 0 0
def jM1 : jp_M := (jR1.getD (none, [], fun _ _ => 0)).2.2
def jS1 : jp_S := (jSH 1000).take 104
def jR2 : Option jp_R := jp_run (jZ jkE) 60 60 162 0 (jp_ent 1 [.inr (some 104)], [], jS1 ++ [.inr (.inr (12, jdf 12))], jp_set jM1 104 (fun _ => 0)) 0 0
def jM2 : jp_M := (jR2.getD (none, [], fun _ _ => 0)).2.2
def jp_eqC : jp_C → jp_C → Bool
  | .inl a, .inl b => decide (a = b)
  | .inr (.inl a), .inr (.inl b) => decide (a = b)
  | .inr (.inr a), .inr (.inr b) => decide (a.1 = b.1) && decide (a.2 = b.2)
  | _, _ => false
theorem jp_eqC_ok : ∀ {a b : jp_C}, jp_eqC a b = true → a = b
  | .inl a, .inl b, h => by rw [of_decide_eq_true h]
  | .inr (.inl a), .inr (.inl b), h => by rw [of_decide_eq_true h]
  | .inr (.inr (a1, a2)), .inr (.inr (b1, b2)), h => by
    simp only [jp_eqC, Bool.and_eq_true, decide_eq_true_eq] at h
    rw [h.1, h.2]
  | .inl _, .inr _, h => by cases h
  | .inr (.inl _), .inl _, h => by cases h
  | .inr (.inr _), .inl _, h => by cases h
  | .inr (.inl _), .inr (.inr _), h => by cases h
  | .inr (.inr _), .inr (.inl _), h => by cases h
def jp_eqS : jp_S → jp_S → Bool
  | [], [] => true
  | a :: s, b :: t => jp_eqC a b && jp_eqS s t
  | _, _ => false
theorem jp_eqS_ok : ∀ {s t : jp_S}, jp_eqS s t = true → s = t
  | [], [], _ => rfl
  | a :: s, b :: t, h => by
    simp only [jp_eqS, Bool.and_eq_true] at h
    rw [jp_eqC_ok h.1, jp_eqS_ok h.2]
  | [], _ :: _, h => by cases h
  | _ :: _, [], h => by cases h
def jp_isR (o : Option jp_R) (sh : jp_S) : Bool := match o with
  | some (none, s, _) => jp_eqS s sh
  | _ => false
theorem jp_isR_ok {o : Option jp_R} {sh : jp_S} (h : jp_isR o sh = true) : o = some (none, sh, (o.getD (none, [], fun _ _ => 0)).2.2) := by
  unfold jp_isR at h
  split at h
  · next s M => rw [jp_eqS_ok h]; rfl
  · cases h
set_option maxRecDepth 100000 in
theorem jR1_sh : jp_isR jR1 jS1 = true := by decide +kernel
set_option maxRecDepth 100000 in
theorem jR2_sh : jp_isR jR2 (jSH 1000) = true := by decide +kernel
set_option maxRecDepth 100000 in
theorem jm_a : jmq jM2 [0, 1, 2, 3, 4, 5, 6, 7, 8, 9, 10, 11, 12, 13, 14, 15, 16, 17, 18, 19, 20, 21, 22, 23, 24] = true := by decide +kernel
set_option maxRecDepth 100000 in
theorem jm_b : jmq jM2 [54, 56, 61, 68, 69, 70, 77, 78, 104, 105, 113, 114, 123, 124, 135, 137] = true := by decide +kernel
