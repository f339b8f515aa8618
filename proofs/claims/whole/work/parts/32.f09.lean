/-! SwallowsAirModel.founds(I)I -/
def f_M_founds_10  : Nat → Int32 → Int32 → jp_M → Option (Int32)
  | 0, _, _, _ => none
  | n + 1, l2, l3, M =>
    if jp_c .eq l3 l2 = true then (
    some l2) else (
    (f_M_foundedBy l2 M).bind fun q1 => (
    f_M_founds_10 n (l2 ||| q1) l2 M))
theorem t_M_founds_10 {Ln : Nat} {xs : Nat → Int32} {sv : jp_V} {d : Nat} (hd : 1 ≤ d)  : ∀ (n : Nat) (l2 : Int32) (l3 : Int32) (o1 : Option jp_V) (w : Nat) (M : jp_M) {res : Int32}, f_M_founds_10 n  l2 l3 M = some res → jR (jZ (jK Ln xs sv)) d 284 10 ([some (.inr (some 104)), o1, some (.inl l2), some (.inl l3)], [], jSH w, M) (some (.inl res), jSH w, M) := by
  intro n
  induction n with
  | zero =>
    intro l2 l3 o1 w M res hf
    cases hf
  | succ n ih =>
    intro l2 l3 o1 w M res hf
    rw [f_M_founds_10] at hf
    refine jR_in rfl ⟨rfl, rfl, rfl⟩ rfl ?_
    refine js_iload_n rfl ?_
    refine js_iload_n rfl ?_
    refine js_icmp (tgt := 28) rfl rfl (fun h => ?_) (fun h => ?_)
    · have hf := jif_t hf h
      refine jR_in rfl ⟨rfl, rfl, rfl⟩ rfl ?_
      refine js_iload_n rfl ?_
      obtain rfl := Option.some.inj hf
      exact js_iret rfl rfl
    · have hf := jif_f hf h
      refine js_iload_n rfl ?_
      refine js_istore_n rfl rfl ?_
      refine js_iload_n rfl ?_
      refine js_aload_n rfl ?_
      refine js_iload_n rfl ?_
      obtain ⟨q1, hc_1, hf⟩ := jbind hf
      refine js_c2i rfl rfl ⟨rfl, rfl⟩ rfl rfl (t_M_foundedBy hc_1) (by omega) ?_
      refine js_ior ?_
      refine js_istore_n rfl rfl ?_
      refine js_goto (tgt := 10) rfl rfl ?_
      exact ih _ _ _ _ _ hf
def f_M_founds (a1 : Int32) (M : jp_M) : Option (Int32) :=
  (f_M_foundedBy ((1 : Int32) <<< (a1 &&& 31)) M).bind fun q1 => (
  f_M_founds_10 jFu q1 (-1 : Int32) M)
theorem t_M_founds {Ln : Nat} {xs : Nat → Int32} {sv : jp_V} {a1 : Int32} {w : Nat} {M : jp_M} {res : Int32} (hf : f_M_founds a1 M = some res) : jE (jZ (jK Ln xs sv)) 1 284 [(.inr (some 104)), (.inl a1)] (jSH w) M (some (.inl res), jSH w, M) := by
  unfold f_M_founds at hf
  refine jE_in (L0 := [some (.inr (some 104)), some (.inl a1), none, none]) rfl (Nat.le_of_ble_eq_true rfl) rfl (fun d hd => ?_)
  refine jR_in rfl ⟨rfl, rfl, rfl⟩ rfl ?_
  refine js_aload_n rfl ?_
  refine js_iconst (v := (1 : Int32)) rfl ?_
  refine js_iload_n rfl ?_
  refine js_ishl ?_
  obtain ⟨q1, hc_1, hf⟩ := jbind hf
  refine js_c2i rfl rfl ⟨rfl, rfl⟩ rfl rfl (t_M_foundedBy hc_1) (by omega) ?_
  refine js_istore_n rfl rfl ?_
  refine js_iconst (v := (-1 : Int32)) rfl ?_
  refine js_istore_n rfl rfl ?_
  exact jS_out rfl ⟨rfl, rfl, rfl⟩ rfl (t_M_founds_10 hd jFu _ _ _ _ _ hf)
/-! SwallowsAirModel.nextCase(I)I -/
def f_M_nextCase_32 (c2 : Int32 → Int32 → jp_M → Option (Int32)) (l1 : Int32) (l2 : Int32) (M : jp_M) : Option (Int32) :=
  c2 l1 (l2 + (1 : Int32)) M
theorem t_M_nextCase_32 {Ln : Nat} {xs : Nat → Int32} {sv : jp_V} {d : Nat} (hd : 1 ≤ d) {c2 : Int32 → Int32 → jp_M → Option (Int32)} (hc2 : ∀ (l1 : Int32) (l2 : Int32) (w : Nat) (M : jp_M) (res : Int32), c2 l1 l2 M = some res → jR (jZ (jK Ln xs sv)) d 285 2 ([some (.inr (some 104)), some (.inl l1), some (.inl l2)], [], jSH w, M) (some (.inl res), jSH w, M)) (l1 : Int32) (l2 : Int32) (w : Nat) (M : jp_M) {res : Int32} (hf : f_M_nextCase_32 c2 l1 l2 M = some res) : jR (jZ (jK Ln xs sv)) d 285 32 ([some (.inr (some 104)), some (.inl l1), some (.inl l2)], [], jSH w, M) (some (.inl res), jSH w, M) := by
  unfold f_M_nextCase_32 at hf
  refine jR_in rfl ⟨rfl, rfl, rfl⟩ rfl ?_
  refine js_iinc (v := (1 : Int32)) rfl rfl rfl rfl ?_
  refine js_goto (tgt := 2) rfl rfl ?_
  exact hc2 _ _ _ _ _ hf
def f_M_nextCase_2  : Nat → Int32 → Int32 → jp_M → Option (Int32)
  | 0, _, _, _ => none
  | n + 1, l1, l2, M =>
    if jp_c .ge l2 (16 : Int32) = true then (
    some (-1 : Int32)) else (
    if jp_c .ne (f_M_has l1 l2) 0 = true then (
    f_M_nextCase_32 (f_M_nextCase_2 n ) l1 l2 M) else (
    jg (jp_in l2 32) (
    if jp_c .ne ((M 124 (Int32.toNatClampNeg l2)) &&& (l1 ^^^ (-1 : Int32))) 0 = true then (
    f_M_nextCase_32 (f_M_nextCase_2 n ) l1 l2 M) else (
    some l2))))
theorem t_M_nextCase_2 {Ln : Nat} {xs : Nat → Int32} {sv : jp_V} {d : Nat} (hd : 1 ≤ d)  : ∀ (n : Nat) (l1 : Int32) (l2 : Int32) (w : Nat) (M : jp_M) {res : Int32}, f_M_nextCase_2 n  l1 l2 M = some res → jR (jZ (jK Ln xs sv)) d 285 2 ([some (.inr (some 104)), some (.inl l1), some (.inl l2)], [], jSH w, M) (some (.inl res), jSH w, M) := by
  intro n
  induction n with
  | zero =>
    intro l1 l2 w M res hf
    cases hf
  | succ n ih =>
    intro l1 l2 w M res hf
    rw [f_M_nextCase_2] at hf
    refine jR_in rfl ⟨rfl, rfl, rfl⟩ rfl ?_
    refine js_iload_n rfl ?_
    refine js_bipush (v := (16 : Int32)) rfl ?_
    refine js_icmp (tgt := 38) rfl rfl (fun h => ?_) (fun h => ?_)
    · have hf := jif_t hf h
      refine jR_in rfl ⟨rfl, rfl, rfl⟩ rfl ?_
      refine js_iconst (v := (-1 : Int32)) rfl ?_
      obtain rfl := Option.some.inj hf
      exact js_iret rfl rfl
    · have hf := jif_f hf h
      refine js_aload_n rfl ?_
      refine js_iload_n rfl ?_
      refine js_iload_n rfl ?_
      refine js_c3i rfl rfl ⟨rfl, rfl⟩ rfl rfl (t_M_has rfl) (by omega) ?_
      refine js_ifc (tgt := 32) rfl rfl (fun h => ?_) (fun h => ?_)
      · have hf := jif_t hf h
        exact t_M_nextCase_32 hd (fun l1 l2 w M res hf => ih l1 l2 w M hf) _ _ _ _ hf
      · have hf := jif_f hf h
        refine js_aload_n rfl ?_
        refine js_getr rfl rfl rfl ?_
        refine js_iload_n rfl ?_
        obtain ⟨hb2, hf⟩ := jg_some hf
        refine js_iald rfl hb2 ?_
        refine js_iload_n rfl ?_
        refine js_iconst (v := (-1 : Int32)) rfl ?_
        refine js_ixor ?_
        refine js_iand ?_
        refine js_ifc (tgt := 32) rfl rfl (fun h => ?_) (fun h => ?_)
        · have hf := jif_t hf h
          exact t_M_nextCase_32 hd (fun l1 l2 w M res hf => ih l1 l2 w M hf) _ _ _ _ hf
        · have hf := jif_f hf h
          refine js_iload_n rfl ?_
          obtain rfl := Option.some.inj hf
          exact js_iret rfl rfl
def f_M_nextCase (a1 : Int32) (M : jp_M) : Option (Int32) :=
  f_M_nextCase_2 jFu a1 (0 : Int32) M
theorem t_M_nextCase {Ln : Nat} {xs : Nat → Int32} {sv : jp_V} {a1 : Int32} {w : Nat} {M : jp_M} {res : Int32} (hf : f_M_nextCase a1 M = some res) : jE (jZ (jK Ln xs sv)) 1 285 [(.inr (some 104)), (.inl a1)] (jSH w) M (some (.inl res), jSH w, M) := by
  unfold f_M_nextCase at hf
  refine jE_in (L0 := [some (.inr (some 104)), some (.inl a1), none]) rfl (Nat.le_of_ble_eq_true rfl) rfl (fun d hd => ?_)
  refine jR_in rfl ⟨rfl, rfl, rfl⟩ rfl ?_
  refine js_iconst (v := (0 : Int32)) rfl ?_
  refine js_istore_n rfl rfl ?_
  exact jS_out rfl ⟨rfl, rfl, rfl⟩ rfl (t_M_nextCase_2 hd jFu _ _ _ _ hf)
/-! SwallowsAirModel.placeOf(I)I -/
def f_M_placeOf_38 (c6 : Int32 → Int32 → Int32 → Int32 → jp_M → Option (Int32)) (l1 : Int32) (l2 : Int32) (l3 : Int32) (l4 : Int32) (l5 : Int32) (M : jp_M) : Option (Int32) :=
  c6 l1 (l2 ||| ((1 : Int32) <<< (l5 &&& 31))) l3 (l4 + (1 : Int32)) M
theorem t_M_placeOf_38 {Ln : Nat} {xs : Nat → Int32} {sv : jp_V} {d : Nat} (hd : 2 ≤ d) {c6 : Int32 → Int32 → Int32 → Int32 → jp_M → Option (Int32)} (hc6 : ∀ (l1 : Int32) (l2 : Int32) (l3 : Int32) (l4 : Int32) (o5 : Option jp_V) (w : Nat) (M : jp_M) (res : Int32), c6 l1 l2 l3 l4 M = some res → jR (jZ (jK Ln xs sv)) d 286 7 ([some (.inr (some 104)), some (.inl l1), some (.inl l2), some (.inl l3), some (.inl l4), o5], [], jSH w, M) (some (.inl res), jSH w, M)) (l1 : Int32) (l2 : Int32) (l3 : Int32) (l4 : Int32) (l5 : Int32) (w : Nat) (M : jp_M) {res : Int32} (hf : f_M_placeOf_38 c6 l1 l2 l3 l4 l5 M = some res) : jR (jZ (jK Ln xs sv)) d 286 38 ([some (.inr (some 104)), some (.inl l1), some (.inl l2), some (.inl l3), some (.inl l4), some (.inl l5)], [], jSH w, M) (some (.inl res), jSH w, M) := by
  unfold f_M_placeOf_38 at hf
  refine jR_in rfl ⟨rfl, rfl, rfl⟩ rfl ?_
  refine js_iload_n rfl ?_
  refine js_iconst (v := (1 : Int32)) rfl ?_
  refine js_iload rfl ?_
  refine js_ishl ?_
  refine js_ior ?_
  refine js_istore_n rfl rfl ?_
  refine js_iinc (v := (1 : Int32)) rfl rfl rfl rfl ?_
  refine js_goto (tgt := 7) rfl rfl ?_
  exact hc6 _ _ _ _ _ _ _ _ hf
def f_M_placeOf_7  : Nat → Int32 → Int32 → Int32 → Int32 → jp_M → Option (Int32)
  | 0, _, _, _, _, _ => none
  | n + 1, l1, l2, l3, l4, M =>
    if jp_c .ge l4 (16 : Int32) = true then (
    some l3) else (
    (f_M_nextCase l2 M).bind fun q1 => (
    if jp_c .ne q1 (-1 : Int32) = true then (
    if jp_c .ne q1 l1 = true then (
    f_M_placeOf_38 (f_M_placeOf_7 n ) l1 l2 l3 l4 q1 M) else (
    f_M_placeOf_38 (f_M_placeOf_7 n ) l1 l2 l4 l4 q1 M)) else (
    some (-1 : Int32))))
theorem t_M_placeOf_7 {Ln : Nat} {xs : Nat → Int32} {sv : jp_V} {d : Nat} (hd : 2 ≤ d)  : ∀ (n : Nat) (l1 : Int32) (l2 : Int32) (l3 : Int32) (l4 : Int32) (o5 : Option jp_V) (w : Nat) (M : jp_M) {res : Int32}, f_M_placeOf_7 n  l1 l2 l3 l4 M = some res → jR (jZ (jK Ln xs sv)) d 286 7 ([some (.inr (some 104)), some (.inl l1), some (.inl l2), some (.inl l3), some (.inl l4), o5], [], jSH w, M) (some (.inl res), jSH w, M) := by
  intro n
  induction n with
  | zero =>
    intro l1 l2 l3 l4 o5 w M res hf
    cases hf
  | succ n ih =>
    intro l1 l2 l3 l4 o5 w M res hf
    rw [f_M_placeOf_7] at hf
    refine jR_in rfl ⟨rfl, rfl, rfl⟩ rfl ?_
    refine js_iload rfl ?_
    refine js_bipush (v := (16 : Int32)) rfl ?_
    refine js_icmp (tgt := 51) rfl rfl (fun h => ?_) (fun h => ?_)
    · have hf := jif_t hf h
      refine jR_in rfl ⟨rfl, rfl, rfl⟩ rfl ?_
      refine js_iload_n rfl ?_
      obtain rfl := Option.some.inj hf
      exact js_iret rfl rfl
    · have hf := jif_f hf h
      refine js_aload_n rfl ?_
      refine js_iload_n rfl ?_
      obtain ⟨q1, hc_1, hf⟩ := jbind hf
      refine js_c2i rfl rfl ⟨rfl, rfl⟩ rfl rfl (t_M_nextCase hc_1) (by omega) ?_
      refine js_istore rfl rfl ?_
      refine js_iload rfl ?_
      refine js_iconst (v := (-1 : Int32)) rfl ?_
      refine js_icmp (tgt := 29) rfl rfl (fun h => ?_) (fun h => ?_)
      · have hf := jif_t hf h
        refine jR_in rfl ⟨rfl, rfl, rfl⟩ rfl ?_
        refine js_iload rfl ?_
        refine js_iload_n rfl ?_
        refine js_icmp (tgt := 38) rfl rfl (fun h => ?_) (fun h => ?_)
        · have hf := jif_t hf h
          exact t_M_placeOf_38 hd (fun l1 l2 l3 l4 o5 w M res hf => ih l1 l2 l3 l4 o5 w M hf) _ _ _ _ _ _ _ hf
        · have hf := jif_f hf h
          refine js_iload rfl ?_
          refine js_istore_n rfl rfl ?_
          exact jS_out rfl ⟨rfl, rfl, rfl⟩ rfl (t_M_placeOf_38 hd (fun l1 l2 l3 l4 o5 w M res hf => ih l1 l2 l3 l4 o5 w M hf) _ _ _ _ _ _ _ hf)
      · have hf := jif_f hf h
        refine js_iconst (v := (-1 : Int32)) rfl ?_
        obtain rfl := Option.some.inj hf
        exact js_iret rfl rfl
def f_M_placeOf (a1 : Int32) (M : jp_M) : Option (Int32) :=
  f_M_placeOf_7 jFu a1 (0 : Int32) (-1 : Int32) (0 : Int32) M
theorem t_M_placeOf {Ln : Nat} {xs : Nat → Int32} {sv : jp_V} {a1 : Int32} {w : Nat} {M : jp_M} {res : Int32} (hf : f_M_placeOf a1 M = some res) : jE (jZ (jK Ln xs sv)) 2 286 [(.inr (some 104)), (.inl a1)] (jSH w) M (some (.inl res), jSH w, M) := by
  unfold f_M_placeOf at hf
  refine jE_in (L0 := [some (.inr (some 104)), some (.inl a1), none, none, none, none]) rfl (Nat.le_of_ble_eq_true rfl) rfl (fun d hd => ?_)
  refine jR_in rfl ⟨rfl, rfl, rfl⟩ rfl ?_
  refine js_iconst (v := (0 : Int32)) rfl ?_
  refine js_istore_n rfl rfl ?_
  refine js_iconst (v := (-1 : Int32)) rfl ?_
  refine js_istore_n rfl rfl ?_
  refine js_iconst (v := (0 : Int32)) rfl ?_
  refine js_istore rfl rfl ?_
  exact jS_out rfl ⟨rfl, rfl, rfl⟩ rfl (t_M_placeOf_7 hd jFu _ _ _ _ _ _ _ hf)
/-! SwallowsAirModel.cites(II)I -/
def f_M_cites (a1 : Int32) (a2 : Int32) (M : jp_M) : Option (Int32 × jp_M) :=
  let M1 := jp_set M 104 (upd (M 104) 0 (0 : Int32))
  if jp_c .eq (f_M_isIn a1 (0 : Int32) (15 : Int32)) 0 = true then (
  some ((-1 : Int32), M1)) else (
  if jp_c .ne (f_M_isIn a2 (0 : Int32) (1 : Int32)) 0 = true then (
  if jp_c .ne a2 0 = true then (
  (f_M_placeOf a1 M1).bind fun q4 => (
  some (q4, M1))) else (
  (f_M_founds a1 M1).bind fun q5 => (
  some (q5, M1)))) else (
  some ((-1 : Int32), M1)))
theorem t_M_cites {Ln : Nat} {xs : Nat → Int32} {sv : jp_V} {a1 : Int32} {a2 : Int32} {w : Nat} {M : jp_M} {res : Int32 × jp_M} (hf : f_M_cites a1 a2 M = some res) : jE (jZ (jK Ln xs sv)) 3 287 [(.inr (some 104)), (.inl a1), (.inl a2)] (jSH w) M (some (.inl res.1), jSH w, res.2) := by
  unfold f_M_cites at hf
  refine jE_in (L0 := [some (.inr (some 104)), some (.inl a1), some (.inl a2)]) rfl (Nat.le_of_ble_eq_true rfl) rfl (fun d hd => ?_)
  refine jR_in rfl ⟨rfl, rfl, rfl⟩ rfl ?_
  refine js_aload_n rfl ?_
  refine js_iconst (v := (0 : Int32)) rfl ?_
  refine js_puti rfl rfl (Or.inl rfl) ?_
  refine js_aload_n rfl ?_
  refine js_iload_n rfl ?_
  refine js_iconst (v := (0 : Int32)) rfl ?_
  refine js_bipush (v := (15 : Int32)) rfl ?_
  refine js_c4i rfl rfl ⟨rfl, rfl⟩ rfl rfl (t_M_isIn rfl) (by omega) ?_
  refine js_ifc (tgt := 26) rfl rfl (fun h => ?_) (fun h => ?_)
  · have hf := jif_t hf h
    refine jR_in rfl ⟨rfl, rfl, rfl⟩ rfl ?_
    refine js_iconst (v := (-1 : Int32)) rfl ?_
    obtain rfl := Option.some.inj hf
    exact js_iret rfl rfl
  · have hf := jif_f hf h
    refine js_aload_n rfl ?_
    refine js_iload_n rfl ?_
    refine js_iconst (v := (0 : Int32)) rfl ?_
    refine js_iconst (v := (1 : Int32)) rfl ?_
    refine js_c4i rfl rfl ⟨rfl, rfl⟩ rfl rfl (t_M_isIn rfl) (by omega) ?_
    refine js_ifc (tgt := 28) rfl rfl (fun h => ?_) (fun h => ?_)
    · have hf := jif_t hf h
      refine jR_in rfl ⟨rfl, rfl, rfl⟩ rfl ?_
      refine js_iload_n rfl ?_
      refine js_ifc (tgt := 40) rfl rfl (fun h => ?_) (fun h => ?_)
      · have hf := jif_t hf h
        refine jR_in rfl ⟨rfl, rfl, rfl⟩ rfl ?_
        refine js_aload_n rfl ?_
        refine js_iload_n rfl ?_
        obtain ⟨q4, hc_4, hf⟩ := jbind hf
        refine js_c2i rfl rfl ⟨rfl, rfl⟩ rfl rfl (t_M_placeOf hc_4) (by omega) ?_
        obtain rfl := Option.some.inj hf
        exact js_iret rfl rfl
      · have hf := jif_f hf h
        refine js_aload_n rfl ?_
        refine js_iload_n rfl ?_
        obtain ⟨q5, hc_5, hf⟩ := jbind hf
        refine js_c2i rfl rfl ⟨rfl, rfl⟩ rfl rfl (t_M_founds hc_5) (by omega) ?_
        refine js_goto (tgt := 45) rfl rfl ?_
        refine jR_in rfl ⟨rfl, rfl, rfl⟩ rfl ?_
        obtain rfl := Option.some.inj hf
        exact js_iret rfl rfl
    · have hf := jif_f hf h
      refine js_iconst (v := (-1 : Int32)) rfl ?_
      obtain rfl := Option.some.inj hf
      exact js_iret rfl rfl
/-! SwallowsAirModel.voice(II)Z -/
def f_M_voice (a1 : Int32) (a2 : Int32) (M : jp_M) : Option (Int32 × jp_M) :=
  let M1 := jp_set M 104 (upd (M 104) 0 (0 : Int32))
  if jp_c .eq (f_M_isIn a1 (0 : Int32) (9 : Int32)) 0 = true then (
  some ((0 : Int32), M1)) else (
  if jp_c .ne (f_M_isIn a2 (0 : Int32) (1023 : Int32)) 0 = true then (
  jg (jp_in a1 10) (
  let M4 := jp_set M1 137 (upd (M1 137) (Int32.toNatClampNeg a1) a2)
  some ((1 : Int32), M4))) else (
  some ((0 : Int32), M1)))
theorem t_M_voice {Ln : Nat} {xs : Nat → Int32} {sv : jp_V} {a1 : Int32} {a2 : Int32} {w : Nat} {M : jp_M} {res : Int32 × jp_M} (hf : f_M_voice a1 a2 M = some res) : jE (jZ (jK Ln xs sv)) 1 288 [(.inr (some 104)), (.inl a1), (.inl a2)] (jSH w) M (some (.inl res.1), jSH w, res.2) := by
  unfold f_M_voice at hf
  refine jE_in (L0 := [some (.inr (some 104)), some (.inl a1), some (.inl a2)]) rfl (Nat.le_of_ble_eq_true rfl) rfl (fun d hd => ?_)
  refine jR_in rfl ⟨rfl, rfl, rfl⟩ rfl ?_
  refine js_aload_n rfl ?_
  refine js_iconst (v := (0 : Int32)) rfl ?_
  refine js_puti rfl rfl (Or.inl rfl) ?_
  refine js_aload_n rfl ?_
  refine js_iload_n rfl ?_
  refine js_iconst (v := (0 : Int32)) rfl ?_
  refine js_bipush (v := (9 : Int32)) rfl ?_
  refine js_c4i rfl rfl ⟨rfl, rfl⟩ rfl rfl (t_M_isIn rfl) (by omega) ?_
  refine js_ifc (tgt := 28) rfl rfl (fun h => ?_) (fun h => ?_)
  · have hf := jif_t hf h
    refine jR_in rfl ⟨rfl, rfl, rfl⟩ rfl ?_
    refine js_iconst (v := (0 : Int32)) rfl ?_
    obtain rfl := Option.some.inj hf
    exact js_iret rfl rfl
  · have hf := jif_f hf h
    refine js_aload_n rfl ?_
    refine js_iload_n rfl ?_
    refine js_iconst (v := (0 : Int32)) rfl ?_
    refine js_sipush (v := (1023 : Int32)) rfl ?_
    refine js_c4i rfl rfl ⟨rfl, rfl⟩ rfl rfl (t_M_isIn rfl) (by omega) ?_
    refine js_ifc (tgt := 30) rfl rfl (fun h => ?_) (fun h => ?_)
    · have hf := jif_t hf h
      refine jR_in rfl ⟨rfl, rfl, rfl⟩ rfl ?_
      refine js_aload_n rfl ?_
      refine js_getr rfl rfl rfl ?_
      refine js_iload_n rfl ?_
      refine js_iload_n rfl ?_
      obtain ⟨hb5, hf⟩ := jg_some hf
      refine js_iast rfl hb5 ?_
      refine js_iconst (v := (1 : Int32)) rfl ?_
      obtain rfl := Option.some.inj hf
      exact js_iret rfl rfl
    · have hf := jif_f hf h
      refine js_iconst (v := (0 : Int32)) rfl ?_
      obtain rfl := Option.some.inj hf
      exact js_iret rfl rfl
theorem b_M_voice {a1 : Int32} {a2 : Int32} {M : jp_M} {res : Int32 × jp_M} (hf : f_M_voice a1 a2 M = some res) : res.1 = 0 ∨ res.1 = 1 := by
  unfold f_M_voice at hf
  rcases jif_d hf with ⟨h, hf⟩ | ⟨h, hf⟩
  · obtain rfl := Option.some.inj hf
    exact Or.inl rfl
  · rcases jif_d hf with ⟨h, hf⟩ | ⟨h, hf⟩
    · obtain ⟨hb5, hf⟩ := jg_some hf
      obtain rfl := Option.some.inj hf
      exact Or.inr rfl
    · obtain rfl := Option.some.inj hf
      exact Or.inl rfl
/-! SwallowsAirModel.reachedFrom(I)I -/
def f_M_reachedFrom_28 (c4 : Int32 → Int32 → Int32 → jp_M → Option (Int32)) (l1 : Int32) (l2 : Int32) (l3 : Int32) (M : jp_M) : Option (Int32) :=
  c4 l1 l2 (l3 + (1 : Int32)) M
theorem t_M_reachedFrom_28 {Ln : Nat} {xs : Nat → Int32} {sv : jp_V} {d : Nat} (hd : 1 ≤ d) {c4 : Int32 → Int32 → Int32 → jp_M → Option (Int32)} (hc4 : ∀ (l1 : Int32) (l2 : Int32) (l3 : Int32) (w : Nat) (M : jp_M) (res : Int32), c4 l1 l2 l3 M = some res → jR (jZ (jK Ln xs sv)) d 289 4 ([some (.inr (some 104)), some (.inl l1), some (.inl l2), some (.inl l3)], [], jSH w, M) (some (.inl res), jSH w, M)) (l1 : Int32) (l2 : Int32) (l3 : Int32) (w : Nat) (M : jp_M) {res : Int32} (hf : f_M_reachedFrom_28 c4 l1 l2 l3 M = some res) : jR (jZ (jK Ln xs sv)) d 289 28 ([some (.inr (some 104)), some (.inl l1), some (.inl l2), some (.inl l3)], [], jSH w, M) (some (.inl res), jSH w, M) := by
  unfold f_M_reachedFrom_28 at hf
  refine jR_in rfl ⟨rfl, rfl, rfl⟩ rfl ?_
  refine js_iinc (v := (1 : Int32)) rfl rfl rfl rfl ?_
  refine js_goto (tgt := 4) rfl rfl ?_
  exact hc4 _ _ _ _ _ _ hf
def f_M_reachedFrom_4  : Nat → Int32 → Int32 → Int32 → jp_M → Option (Int32)
  | 0, _, _, _, _ => none
  | n + 1, l1, l2, l3, M =>
    if jp_c .ge l3 (10 : Int32) = true then (
    some l2) else (
    if jp_c .eq (f_M_has l1 l3) 0 = true then (
    f_M_reachedFrom_28 (f_M_reachedFrom_4 n ) l1 l2 l3 M) else (
    jg (jp_in l3 10) (
    f_M_reachedFrom_28 (f_M_reachedFrom_4 n ) l1 (l2 ||| (M 137 (Int32.toNatClampNeg l3))) l3 M)))
theorem t_M_reachedFrom_4 {Ln : Nat} {xs : Nat → Int32} {sv : jp_V} {d : Nat} (hd : 1 ≤ d)  : ∀ (n : Nat) (l1 : Int32) (l2 : Int32) (l3 : Int32) (w : Nat) (M : jp_M) {res : Int32}, f_M_reachedFrom_4 n  l1 l2 l3 M = some res → jR (jZ (jK Ln xs sv)) d 289 4 ([some (.inr (some 104)), some (.inl l1), some (.inl l2), some (.inl l3)], [], jSH w, M) (some (.inl res), jSH w, M) := by
  intro n
  induction n with
  | zero =>
    intro l1 l2 l3 w M res hf
    cases hf
  | succ n ih =>
    intro l1 l2 l3 w M res hf
    rw [f_M_reachedFrom_4] at hf
    refine jR_in rfl ⟨rfl, rfl, rfl⟩ rfl ?_
    refine js_iload_n rfl ?_
    refine js_bipush (v := (10 : Int32)) rfl ?_
    refine js_icmp (tgt := 34) rfl rfl (fun h => ?_) (fun h => ?_)
    · have hf := jif_t hf h
      refine jR_in rfl ⟨rfl, rfl, rfl⟩ rfl ?_
      refine js_iload_n rfl ?_
      obtain rfl := Option.some.inj hf
      exact js_iret rfl rfl
    · have hf := jif_f hf h
      refine js_aload_n rfl ?_
      refine js_iload_n rfl ?_
      refine js_iload_n rfl ?_
      refine js_c3i rfl rfl ⟨rfl, rfl⟩ rfl rfl (t_M_has rfl) (by omega) ?_
      refine js_ifc (tgt := 28) rfl rfl (fun h => ?_) (fun h => ?_)
      · have hf := jif_t hf h
        exact t_M_reachedFrom_28 hd (fun l1 l2 l3 w M res hf => ih l1 l2 l3 w M hf) _ _ _ _ _ hf
      · have hf := jif_f hf h
        refine js_iload_n rfl ?_
        refine js_aload_n rfl ?_
        refine js_getr rfl rfl rfl ?_
        refine js_iload_n rfl ?_
        obtain ⟨hb2, hf⟩ := jg_some hf
        refine js_iald rfl hb2 ?_
        refine js_ior ?_
        refine js_istore_n rfl rfl ?_
        exact jS_out rfl ⟨rfl, rfl, rfl⟩ rfl (t_M_reachedFrom_28 hd (fun l1 l2 l3 w M res hf => ih l1 l2 l3 w M hf) _ _ _ _ _ hf)
def f_M_reachedFrom (a1 : Int32) (M : jp_M) : Option (Int32) :=
  f_M_reachedFrom_4 jFu a1 a1 (0 : Int32) M
theorem t_M_reachedFrom {Ln : Nat} {xs : Nat → Int32} {sv : jp_V} {a1 : Int32} {w : Nat} {M : jp_M} {res : Int32} (hf : f_M_reachedFrom a1 M = some res) : jE (jZ (jK Ln xs sv)) 1 289 [(.inr (some 104)), (.inl a1)] (jSH w) M (some (.inl res), jSH w, M) := by
  unfold f_M_reachedFrom at hf
  refine jE_in (L0 := [some (.inr (some 104)), some (.inl a1), none, none]) rfl (Nat.le_of_ble_eq_true rfl) rfl (fun d hd => ?_)
  refine jR_in rfl ⟨rfl, rfl, rfl⟩ rfl ?_
  refine js_iload_n rfl ?_
  refine js_istore_n rfl rfl ?_
  refine js_iconst (v := (0 : Int32)) rfl ?_
  refine js_istore_n rfl rfl ?_
  exact jS_out rfl ⟨rfl, rfl, rfl⟩ rfl (t_M_reachedFrom_4 hd jFu _ _ _ _ _ hf)
/-! SwallowsAirModel.asked(I)I -/
def f_M_asked_56 (c15 : Int32 → Int32 → Int32 → jp_M → Option (Int32 × jp_M)) (l1 : Int32) (l2 : Int32) (l3 : Int32) (M : jp_M) : Option (Int32 × jp_M) :=
  c15 l1 l2 (l3 + (1 : Int32)) M
theorem t_M_asked_56 {Ln : Nat} {xs : Nat → Int32} {sv : jp_V} {d : Nat} (hd : 2 ≤ d) {c15 : Int32 → Int32 → Int32 → jp_M → Option (Int32 × jp_M)} (hc15 : ∀ (l1 : Int32) (l2 : Int32) (l3 : Int32) (w : Nat) (M : jp_M) (res : Int32 × jp_M), c15 l1 l2 l3 M = some res → jR (jZ (jK Ln xs sv)) d 290 23 ([some (.inr (some 104)), some (.inl l1), some (.inl l2), some (.inl l3)], [], jSH w, M) (some (.inl res.1), jSH w, res.2)) (l1 : Int32) (l2 : Int32) (l3 : Int32) (w : Nat) (M : jp_M) {res : Int32 × jp_M} (hf : f_M_asked_56 c15 l1 l2 l3 M = some res) : jR (jZ (jK Ln xs sv)) d 290 56 ([some (.inr (some 104)), some (.inl l1), some (.inl l2), some (.inl l3)], [], jSH w, M) (some (.inl res.1), jSH w, res.2) := by
  unfold f_M_asked_56 at hf
  refine jR_in rfl ⟨rfl, rfl, rfl⟩ rfl ?_
  refine js_iinc (v := (1 : Int32)) rfl rfl rfl rfl ?_
  refine js_goto (tgt := 23) rfl rfl ?_
  exact hc15 _ _ _ _ _ _ hf
def f_M_asked_23  : Nat → Int32 → Int32 → Int32 → jp_M → Option (Int32 × jp_M)
  | 0, _, _, _, _ => none
  | n + 1, l1, l2, l3, M =>
    if jp_c .ge l3 (1024 : Int32) = true then (
    if jp_c .ne l1 0 = true then (
    some (l2, M)) else (
    (f_M_onesOf l2).bind fun q1 => (
    some (q1, M)))) else (
    (f_M_onesOf l3).bind fun q2 => (
    (f_M_onesOf l2).bind fun q3 => (
    if jp_c .ge q2 q3 = true then (
    f_M_asked_56 (f_M_asked_23 n ) l1 l2 l3 M) else (
    (f_M_reachedFrom l3 M).bind fun q4 => (
    if jp_c .ne q4 (1023 : Int32) = true then (
    f_M_asked_56 (f_M_asked_23 n ) l1 l2 l3 M) else (
    f_M_asked_56 (f_M_asked_23 n ) l1 l3 l3 M))))))
theorem t_M_asked_23 {Ln : Nat} {xs : Nat → Int32} {sv : jp_V} {d : Nat} (hd : 2 ≤ d)  : ∀ (n : Nat) (l1 : Int32) (l2 : Int32) (l3 : Int32) (w : Nat) (M : jp_M) {res : Int32 × jp_M}, f_M_asked_23 n  l1 l2 l3 M = some res → jR (jZ (jK Ln xs sv)) d 290 23 ([some (.inr (some 104)), some (.inl l1), some (.inl l2), some (.inl l3)], [], jSH w, M) (some (.inl res.1), jSH w, res.2) := by
  intro n
  induction n with
  | zero =>
    intro l1 l2 l3 w M res hf
    cases hf
  | succ n ih =>
    intro l1 l2 l3 w M res hf
    rw [f_M_asked_23] at hf
    refine jR_in rfl ⟨rfl, rfl, rfl⟩ rfl ?_
    refine js_iload_n rfl ?_
    refine js_sipush (v := (1024 : Int32)) rfl ?_
    refine js_icmp (tgt := 62) rfl rfl (fun h => ?_) (fun h => ?_)
    · have hf := jif_t hf h
      refine jR_in rfl ⟨rfl, rfl, rfl⟩ rfl ?_
      refine js_iload_n rfl ?_
      refine js_ifc (tgt := 74) rfl rfl (fun h => ?_) (fun h => ?_)
      · have hf := jif_t hf h
        refine jR_in rfl ⟨rfl, rfl, rfl⟩ rfl ?_
        refine js_iload_n rfl ?_
        obtain rfl := Option.some.inj hf
        exact js_iret rfl rfl
      · have hf := jif_f hf h
        refine js_aload_n rfl ?_
        refine js_iload_n rfl ?_
        obtain ⟨q1, hc_1, hf⟩ := jbind hf
        refine js_c2i rfl rfl ⟨rfl, rfl⟩ rfl rfl (t_M_onesOf hc_1) (by omega) ?_
        refine js_goto (tgt := 75) rfl rfl ?_
        refine jR_in rfl ⟨rfl, rfl, rfl⟩ rfl ?_
        obtain rfl := Option.some.inj hf
        exact js_iret rfl rfl
    · have hf := jif_f hf h
      refine js_aload_n rfl ?_
      refine js_iload_n rfl ?_
      obtain ⟨q2, hc_2, hf⟩ := jbind hf
      refine js_c2i rfl rfl ⟨rfl, rfl⟩ rfl rfl (t_M_onesOf hc_2) (by omega) ?_
      refine js_aload_n rfl ?_
      refine js_iload_n rfl ?_
      obtain ⟨q3, hc_3, hf⟩ := jbind hf
      refine js_c2i rfl rfl ⟨rfl, rfl⟩ rfl rfl (t_M_onesOf hc_3) (by omega) ?_
      refine js_icmp (tgt := 56) rfl rfl (fun h => ?_) (fun h => ?_)
      · have hf := jif_t hf h
        exact t_M_asked_56 hd (fun l1 l2 l3 w M res hf => ih l1 l2 l3 w M hf) _ _ _ _ _ hf
      · have hf := jif_f hf h
        refine js_aload_n rfl ?_
        refine js_iload_n rfl ?_
        obtain ⟨q4, hc_4, hf⟩ := jbind hf
        refine js_c2i rfl rfl ⟨rfl, rfl⟩ rfl rfl (t_M_reachedFrom hc_4) (by omega) ?_
        refine js_sipush (v := (1023 : Int32)) rfl ?_
        refine js_icmp (tgt := 56) rfl rfl (fun h => ?_) (fun h => ?_)
        · have hf := jif_t hf h
          exact t_M_asked_56 hd (fun l1 l2 l3 w M res hf => ih l1 l2 l3 w M hf) _ _ _ _ _ hf
        · have hf := jif_f hf h
          refine js_iload_n rfl ?_
          refine js_istore_n rfl rfl ?_
          exact jS_out rfl ⟨rfl, rfl, rfl⟩ rfl (t_M_asked_56 hd (fun l1 l2 l3 w M res hf => ih l1 l2 l3 w M hf) _ _ _ _ _ hf)
def f_M_asked (a1 : Int32) (M : jp_M) : Option (Int32 × jp_M) :=
  let M1 := jp_set M 104 (upd (M 104) 0 (0 : Int32))
  if jp_c .ne (f_M_isIn a1 (0 : Int32) (1 : Int32)) 0 = true then (
  f_M_asked_23 jFu a1 (1023 : Int32) (0 : Int32) M1) else (
  some ((-1 : Int32), M1))
theorem t_M_asked {Ln : Nat} {xs : Nat → Int32} {sv : jp_V} {a1 : Int32} {w : Nat} {M : jp_M} {res : Int32 × jp_M} (hf : f_M_asked a1 M = some res) : jE (jZ (jK Ln xs sv)) 2 290 [(.inr (some 104)), (.inl a1)] (jSH w) M (some (.inl res.1), jSH w, res.2) := by
  unfold f_M_asked at hf
  refine jE_in (L0 := [some (.inr (some 104)), some (.inl a1), none, none]) rfl (Nat.le_of_ble_eq_true rfl) rfl (fun d hd => ?_)
  refine jR_in rfl ⟨rfl, rfl, rfl⟩ rfl ?_
  refine js_aload_n rfl ?_
  refine js_iconst (v := (0 : Int32)) rfl ?_
  refine js_puti rfl rfl (Or.inl rfl) ?_
  refine js_aload_n rfl ?_
  refine js_iload_n rfl ?_
  refine js_iconst (v := (0 : Int32)) rfl ?_
  refine js_iconst (v := (1 : Int32)) rfl ?_
  refine js_c4i rfl rfl ⟨rfl, rfl⟩ rfl rfl (t_M_isIn rfl) (by omega) ?_
  refine js_ifc (tgt := 17) rfl rfl (fun h => ?_) (fun h => ?_)
  · have hf := jif_t hf h
    refine jR_in rfl ⟨rfl, rfl, rfl⟩ rfl ?_
    refine js_sipush (v := (1023 : Int32)) rfl ?_
    refine js_istore_n rfl rfl ?_
    refine js_iconst (v := (0 : Int32)) rfl ?_
    refine js_istore_n rfl rfl ?_
    exact jS_out rfl ⟨rfl, rfl, rfl⟩ rfl (t_M_asked_23 hd jFu _ _ _ _ _ hf)
  · have hf := jif_f hf h
    refine js_iconst (v := (-1 : Int32)) rfl ?_
    obtain rfl := Option.some.inj hf
    exact js_iret rfl rfl
/-! SwallowsAirModel.point(IIII)I -/
def f_M_point (a1 : Int32) (a2 : Int32) (a3 : Int32) (a4 : Int32) (M : jp_M) : Option (Int32 × jp_M) :=
  let M1 := jp_set M 104 (upd (M 104) 0 (0 : Int32))
  if jp_c .ne a1 (-1 : Int32) = true then (
  if jp_c .eq (f_M_isIn a1 (0 : Int32) (999 : Int32)) 0 = true then (
  some ((-1 : Int32), M1)) else (
  if jp_c .eq (f_M_isIn a2 (0 : Int32) (999 : Int32)) 0 = true then (
  some ((-1 : Int32), M1)) else (
  if jp_c .eq (f_M_isIn a3 (0 : Int32) (999 : Int32)) 0 = true then (
  some ((-1 : Int32), M1)) else (
  if jp_c .eq (f_M_isIn a4 (0 : Int32) (9 : Int32)) 0 = true then (
  some ((-1 : Int32), M1)) else (
  if jp_c .ne (M1 104 56) (8 : Int32) = true then (
  jg (jp_in (M1 104 56) 8) (
  let M6 := jp_set M1 138 (upd (M1 138) (Int32.toNatClampNeg (M1 104 56)) a1)
  jg (jp_in (M6 104 56) 8) (
  let M8 := jp_set M6 139 (upd (M6 139) (Int32.toNatClampNeg (M6 104 56)) a2)
  jg (jp_in (M8 104 56) 8) (
  let M10 := jp_set M8 140 (upd (M8 140) (Int32.toNatClampNeg (M8 104 56)) a3)
  jg (jp_in (M10 104 56) 8) (
  let M12 := jp_set M10 141 (upd (M10 141) (Int32.toNatClampNeg (M10 104 56)) a4)
  let M14 := jp_set M12 104 (upd (M12 104) 56 ((M12 104 56) + (1 : Int32)))
  some ((M14 104 56), M14)))))) else (
  some ((-1 : Int32), M1))))))) else (
  let M15 := jp_set M1 104 (upd (M1 104) 56 (0 : Int32))
  some ((0 : Int32), M15))
theorem t_M_point {Ln : Nat} {xs : Nat → Int32} {sv : jp_V} {a1 : Int32} {a2 : Int32} {a3 : Int32} {a4 : Int32} {w : Nat} {M : jp_M} {res : Int32 × jp_M} (hf : f_M_point a1 a2 a3 a4 M = some res) : jE (jZ (jK Ln xs sv)) 1 291 [(.inr (some 104)), (.inl a1), (.inl a2), (.inl a3), (.inl a4)] (jSH w) M (some (.inl res.1), jSH w, res.2) := by
  unfold f_M_point at hf
  refine jE_in (L0 := [some (.inr (some 104)), some (.inl a1), some (.inl a2), some (.inl a3), some (.inl a4)]) rfl (Nat.le_of_ble_eq_true rfl) rfl (fun d hd => ?_)
  refine jR_in rfl ⟨rfl, rfl, rfl⟩ rfl ?_
  refine js_aload_n rfl ?_
  refine js_iconst (v := (0 : Int32)) rfl ?_
  refine js_puti rfl rfl (Or.inl rfl) ?_
  refine js_iload_n rfl ?_
  refine js_iconst (v := (-1 : Int32)) rfl ?_
  refine js_icmp (tgt := 17) rfl rfl (fun h => ?_) (fun h => ?_)
  · have hf := jif_t hf h
    refine jR_in rfl ⟨rfl, rfl, rfl⟩ rfl ?_
    refine js_aload_n rfl ?_
    refine js_iload_n rfl ?_
    refine js_iconst (v := (0 : Int32)) rfl ?_
    refine js_sipush (v := (999 : Int32)) rfl ?_
    refine js_c4i rfl rfl ⟨rfl, rfl⟩ rfl rfl (t_M_isIn rfl) (by omega) ?_
    refine js_ifc (tgt := 74) rfl rfl (fun h => ?_) (fun h => ?_)
    · have hf := jif_t hf h
      refine jR_in rfl ⟨rfl, rfl, rfl⟩ rfl ?_
      refine js_iconst (v := (-1 : Int32)) rfl ?_
      obtain rfl := Option.some.inj hf
      exact js_iret rfl rfl
    · have hf := jif_f hf h
      refine js_aload_n rfl ?_
      refine js_iload_n rfl ?_
      refine js_iconst (v := (0 : Int32)) rfl ?_
      refine js_sipush (v := (999 : Int32)) rfl ?_
      refine js_c4i rfl rfl ⟨rfl, rfl⟩ rfl rfl (t_M_isIn rfl) (by omega) ?_
      refine js_ifc (tgt := 74) rfl rfl (fun h => ?_) (fun h => ?_)
      · have hf := jif_t hf h
        refine jR_in rfl ⟨rfl, rfl, rfl⟩ rfl ?_
        refine js_iconst (v := (-1 : Int32)) rfl ?_
        obtain rfl := Option.some.inj hf
        exact js_iret rfl rfl
      · have hf := jif_f hf h
        refine js_aload_n rfl ?_
        refine js_iload_n rfl ?_
        refine js_iconst (v := (0 : Int32)) rfl ?_
        refine js_sipush (v := (999 : Int32)) rfl ?_
        refine js_c4i rfl rfl ⟨rfl, rfl⟩ rfl rfl (t_M_isIn rfl) (by omega) ?_
        refine js_ifc (tgt := 74) rfl rfl (fun h => ?_) (fun h => ?_)
        · have hf := jif_t hf h
          refine jR_in rfl ⟨rfl, rfl, rfl⟩ rfl ?_
          refine js_iconst (v := (-1 : Int32)) rfl ?_
          obtain rfl := Option.some.inj hf
          exact js_iret rfl rfl
        · have hf := jif_f hf h
          refine js_aload_n rfl ?_
          refine js_iload rfl ?_
          refine js_iconst (v := (0 : Int32)) rfl ?_
          refine js_bipush (v := (9 : Int32)) rfl ?_
          refine js_c4i rfl rfl ⟨rfl, rfl⟩ rfl rfl (t_M_isIn rfl) (by omega) ?_
          refine js_ifc (tgt := 74) rfl rfl (fun h => ?_) (fun h => ?_)
          · have hf := jif_t hf h
            refine jR_in rfl ⟨rfl, rfl, rfl⟩ rfl ?_
            refine js_iconst (v := (-1 : Int32)) rfl ?_
            obtain rfl := Option.some.inj hf
            exact js_iret rfl rfl
          · have hf := jif_f hf h
            refine js_aload_n rfl ?_
            refine js_geti rfl rfl rfl ?_
            refine js_bipush (v := (8 : Int32)) rfl ?_
            refine js_icmp (tgt := 76) rfl rfl (fun h => ?_) (fun h => ?_)
            · have hf := jif_t hf h
              refine jR_in rfl ⟨rfl, rfl, rfl⟩ rfl ?_
              refine js_aload_n rfl ?_
              refine js_getr rfl rfl rfl ?_
              refine js_aload_n rfl ?_
              refine js_geti rfl rfl rfl ?_
              refine js_iload_n rfl ?_
              obtain ⟨hb7, hf⟩ := jg_some hf
              refine js_iast rfl hb7 ?_
              refine js_aload_n rfl ?_
              refine js_getr rfl rfl rfl ?_
              refine js_aload_n rfl ?_
              refine js_geti rfl rfl rfl ?_
              refine js_iload_n rfl ?_
              obtain ⟨hb9, hf⟩ := jg_some hf
              refine js_iast rfl hb9 ?_
              refine js_aload_n rfl ?_
              refine js_getr rfl rfl rfl ?_
              refine js_aload_n rfl ?_
              refine js_geti rfl rfl rfl ?_
              refine js_iload_n rfl ?_
              obtain ⟨hb11, hf⟩ := jg_some hf
              refine js_iast rfl hb11 ?_
              refine js_aload_n rfl ?_
              refine js_getr rfl rfl rfl ?_
              refine js_aload_n rfl ?_
              refine js_geti rfl rfl rfl ?_
              refine js_iload rfl ?_
              obtain ⟨hb13, hf⟩ := jg_some hf
              refine js_iast rfl hb13 ?_
              refine js_aload_n rfl ?_
              refine js_aload_n rfl ?_
              refine js_geti rfl rfl rfl ?_
              refine js_iconst (v := (1 : Int32)) rfl ?_
              refine js_iadd ?_
              refine js_puti rfl rfl (Or.inl rfl) ?_
              refine js_aload_n rfl ?_
              refine js_geti rfl rfl rfl ?_
              obtain rfl := Option.some.inj hf
              exact js_iret rfl rfl
            · have hf := jif_f hf h
              refine js_iconst (v := (-1 : Int32)) rfl ?_
              obtain rfl := Option.some.inj hf
              exact js_iret rfl rfl
  · have hf := jif_f hf h
    refine js_aload_n rfl ?_
    refine js_iconst (v := (0 : Int32)) rfl ?_
    refine js_puti rfl rfl (Or.inl rfl) ?_
    refine js_iconst (v := (0 : Int32)) rfl ?_
    obtain rfl := Option.some.inj hf
    exact js_iret rfl rfl
/-! SwallowsAirModel.arbiter(I)I -/
def f_M_arbiter_121 (c17 : Int32 → Int32 → Int32 → Int32 → jp_M → Option (Int32 × jp_M)) (l1 : Int32) (l2 : Int32) (l3 : Int32) (l4 : Int32) (M : jp_M) : Option (Int32 × jp_M) :=
  c17 l1 l2 l3 (l4 + (1 : Int32)) M
theorem t_M_arbiter_121 {Ln : Nat} {xs : Nat → Int32} {sv : jp_V} {d : Nat} (hd : 1 ≤ d) {c17 : Int32 → Int32 → Int32 → Int32 → jp_M → Option (Int32 × jp_M)} (hc17 : ∀ (l1 : Int32) (l2 : Int32) (l3 : Int32) (l4 : Int32) (o5 : Option jp_V) (w : Nat) (M : jp_M) (res : Int32 × jp_M), c17 l1 l2 l3 l4 M = some res → jR (jZ (jK Ln xs sv)) d 292 24 ([some (.inr (some 104)), some (.inl l1), some (.inl l2), some (.inl l3), some (.inl l4), o5], [], jSH w, M) (some (.inl res.1), jSH w, res.2)) (l1 : Int32) (l2 : Int32) (l3 : Int32) (l4 : Int32) (o5 : Option jp_V) (w : Nat) (M : jp_M) {res : Int32 × jp_M} (hf : f_M_arbiter_121 c17 l1 l2 l3 l4 M = some res) : jR (jZ (jK Ln xs sv)) d 292 121 ([some (.inr (some 104)), some (.inl l1), some (.inl l2), some (.inl l3), some (.inl l4), o5], [], jSH w, M) (some (.inl res.1), jSH w, res.2) := by
  unfold f_M_arbiter_121 at hf
  refine jR_in rfl ⟨rfl, rfl, rfl⟩ rfl ?_
  refine js_iinc (v := (1 : Int32)) rfl rfl rfl rfl ?_
  refine js_goto (tgt := 24) rfl rfl ?_
  exact hc17 _ _ _ _ _ _ _ _ hf
def f_M_arbiter_109 (c17 : Int32 → Int32 → Int32 → Int32 → jp_M → Option (Int32 × jp_M)) (l1 : Int32) (l3 : Int32) (l4 : Int32) (l5 : Int32) (s0 : Int32) (s1 : Int32) (s2 : Int32) (M : jp_M) : Option (Int32 × jp_M) :=
  if jp_c .eq l5 0 = true then (
  f_M_arbiter_121 c17 l1 (s0 + (s1 * s2)) l3 l4 M) else (
  f_M_arbiter_121 c17 l1 (s0 + (s1 * s2)) (l3 + (1 : Int32)) l4 M)
theorem t_M_arbiter_109 {Ln : Nat} {xs : Nat → Int32} {sv : jp_V} {d : Nat} (hd : 1 ≤ d) {c17 : Int32 → Int32 → Int32 → Int32 → jp_M → Option (Int32 × jp_M)} (hc17 : ∀ (l1 : Int32) (l2 : Int32) (l3 : Int32) (l4 : Int32) (o5 : Option jp_V) (w : Nat) (M : jp_M) (res : Int32 × jp_M), c17 l1 l2 l3 l4 M = some res → jR (jZ (jK Ln xs sv)) d 292 24 ([some (.inr (some 104)), some (.inl l1), some (.inl l2), some (.inl l3), some (.inl l4), o5], [], jSH w, M) (some (.inl res.1), jSH w, res.2)) (l1 : Int32) (l3 : Int32) (l4 : Int32) (l5 : Int32) (s0 : Int32) (s1 : Int32) (s2 : Int32) (o2 : Option jp_V) (w : Nat) (M : jp_M) {res : Int32 × jp_M} (hf : f_M_arbiter_109 c17 l1 l3 l4 l5 s0 s1 s2 M = some res) : jR (jZ (jK Ln xs sv)) d 292 109 ([some (.inr (some 104)), some (.inl l1), o2, some (.inl l3), some (.inl l4), some (.inl l5)], [.inl s2, .inl s1, .inl s0], jSH w, M) (some (.inl res.1), jSH w, res.2) := by
  unfold f_M_arbiter_109 at hf
  refine jR_in rfl ⟨rfl, rfl, rfl⟩ rfl ?_
  refine js_imul ?_
  refine js_iadd ?_
  refine js_istore_n rfl rfl ?_
  refine js_iload rfl ?_
  refine js_ifc (tgt := 121) rfl rfl (fun h => ?_) (fun h => ?_)
  · have hf := jif_t hf h
    exact t_M_arbiter_121 hd hc17 _ _ _ _ _ _ _ hf
  · have hf := jif_f hf h
    refine js_iload_n rfl ?_
    refine js_iconst (v := (1 : Int32)) rfl ?_
    refine js_iadd ?_
    refine js_istore_n rfl rfl ?_
    exact jS_out rfl ⟨rfl, rfl, rfl⟩ rfl (t_M_arbiter_121 hd hc17 _ _ _ _ _ _ _ hf)
def f_M_arbiter_77 (c17 : Int32 → Int32 → Int32 → Int32 → jp_M → Option (Int32 × jp_M)) (l1 : Int32) (l2 : Int32) (l3 : Int32) (l4 : Int32) (s0 : Int32) (M : jp_M) : Option (Int32 × jp_M) :=
  jg (jp_in l4 8) (
  if jp_c .eq s0 0 = true then (
  jg (jp_in l4 8) (
  f_M_arbiter_109 c17 l1 l3 l4 s0 l2 (M 141 (Int32.toNatClampNeg l4)) (M 139 (Int32.toNatClampNeg l4)) M)) else (
  jg (jp_in l4 8) (
  f_M_arbiter_109 c17 l1 l3 l4 s0 l2 (M 141 (Int32.toNatClampNeg l4)) (M 138 (Int32.toNatClampNeg l4)) M)))
theorem t_M_arbiter_77 {Ln : Nat} {xs : Nat → Int32} {sv : jp_V} {d : Nat} (hd : 1 ≤ d) {c17 : Int32 → Int32 → Int32 → Int32 → jp_M → Option (Int32 × jp_M)} (hc17 : ∀ (l1 : Int32) (l2 : Int32) (l3 : Int32) (l4 : Int32) (o5 : Option jp_V) (w : Nat) (M : jp_M) (res : Int32 × jp_M), c17 l1 l2 l3 l4 M = some res → jR (jZ (jK Ln xs sv)) d 292 24 ([some (.inr (some 104)), some (.inl l1), some (.inl l2), some (.inl l3), some (.inl l4), o5], [], jSH w, M) (some (.inl res.1), jSH w, res.2)) (l1 : Int32) (l2 : Int32) (l3 : Int32) (l4 : Int32) (s0 : Int32) (o5 : Option jp_V) (w : Nat) (M : jp_M) {res : Int32 × jp_M} (hf : f_M_arbiter_77 c17 l1 l2 l3 l4 s0 M = some res) : jR (jZ (jK Ln xs sv)) d 292 77 ([some (.inr (some 104)), some (.inl l1), some (.inl l2), some (.inl l3), some (.inl l4), o5], [.inl s0], jSH w, M) (some (.inl res.1), jSH w, res.2) := by
  unfold f_M_arbiter_77 at hf
  refine jR_in rfl ⟨rfl, rfl, rfl⟩ rfl ?_
  refine js_istore rfl rfl ?_
  refine js_iload_n rfl ?_
  refine js_aload_n rfl ?_
  refine js_getr rfl rfl rfl ?_
  refine js_iload rfl ?_
  obtain ⟨hb1, hf⟩ := jg_some hf
  refine js_iald rfl hb1 ?_
  refine js_iload rfl ?_
  refine js_ifc (tgt := 102) rfl rfl (fun h => ?_) (fun h => ?_)
  · have hf := jif_t hf h
    refine jR_in rfl ⟨rfl, rfl, rfl⟩ rfl ?_
    refine js_aload_n rfl ?_
    refine js_getr rfl rfl rfl ?_
    refine js_iload rfl ?_
    obtain ⟨hb2, hf⟩ := jg_some hf
    refine js_iald rfl hb2 ?_
    exact jS_out rfl ⟨rfl, rfl, rfl⟩ rfl (t_M_arbiter_109 hd hc17 _ _ _ _ _ _ _ _ _ _ hf)
  · have hf := jif_f hf h
    refine js_aload_n rfl ?_
    refine js_getr rfl rfl rfl ?_
    refine js_iload rfl ?_
    obtain ⟨hb3, hf⟩ := jg_some hf
    refine js_iald rfl hb3 ?_
    refine js_goto (tgt := 109) rfl rfl ?_
    exact t_M_arbiter_109 hd hc17 _ _ _ _ _ _ _ _ _ _ hf
def f_M_arbiter_24  : Nat → Int32 → Int32 → Int32 → Int32 → jp_M → Option (Int32 × jp_M)
  | 0, _, _, _, _, _ => none
  | n + 1, l1, l2, l3, l4, M =>
    if jp_c .ge l4 (M 104 56) = true then (
    if jp_c .ne l1 0 = true then (
    some (l3, M)) else (
    some (l2, M))) else (
    jg (jp_in l4 8) (
    jg (jp_in l4 8) (
    jg (jp_in l4 8) (
    jg (jp_in l4 8) (
    if jp_c .gt (f_M_apart (M 138 (Int32.toNatClampNeg l4)) (M 140 (Int32.toNatClampNeg l4))) (f_M_apart (M 139 (Int32.toNatClampNeg l4)) (M 140 (Int32.toNatClampNeg l4))) = true then (
    f_M_arbiter_77 (f_M_arbiter_24 n ) l1 l2 l3 l4 (0 : Int32) M) else (
    f_M_arbiter_77 (f_M_arbiter_24 n ) l1 l2 l3 l4 (1 : Int32) M))))))
theorem t_M_arbiter_24 {Ln : Nat} {xs : Nat → Int32} {sv : jp_V} {d : Nat} (hd : 1 ≤ d)  : ∀ (n : Nat) (l1 : Int32) (l2 : Int32) (l3 : Int32) (l4 : Int32) (o5 : Option jp_V) (w : Nat) (M : jp_M) {res : Int32 × jp_M}, f_M_arbiter_24 n  l1 l2 l3 l4 M = some res → jR (jZ (jK Ln xs sv)) d 292 24 ([some (.inr (some 104)), some (.inl l1), some (.inl l2), some (.inl l3), some (.inl l4), o5], [], jSH w, M) (some (.inl res.1), jSH w, res.2) := by
  intro n
  induction n with
  | zero =>
    intro l1 l2 l3 l4 o5 w M res hf
    cases hf
  | succ n ih =>
    intro l1 l2 l3 l4 o5 w M res hf
    rw [f_M_arbiter_24] at hf
    refine jR_in rfl ⟨rfl, rfl, rfl⟩ rfl ?_
    refine js_iload rfl ?_
    refine js_aload_n rfl ?_
    refine js_geti rfl rfl rfl ?_
    refine js_icmp (tgt := 127) rfl rfl (fun h => ?_) (fun h => ?_)
    · have hf := jif_t hf h
      refine jR_in rfl ⟨rfl, rfl, rfl⟩ rfl ?_
      refine js_iload_n rfl ?_
      refine js_ifc (tgt := 135) rfl rfl (fun h => ?_) (fun h => ?_)
      · have hf := jif_t hf h
        refine jR_in rfl ⟨rfl, rfl, rfl⟩ rfl ?_
        refine js_iload_n rfl ?_
        obtain rfl := Option.some.inj hf
        exact js_iret rfl rfl
      · have hf := jif_f hf h
        refine js_iload_n rfl ?_
        refine js_goto (tgt := 136) rfl rfl ?_
        refine jR_in rfl ⟨rfl, rfl, rfl⟩ rfl ?_
        obtain rfl := Option.some.inj hf
        exact js_iret rfl rfl
    · have hf := jif_f hf h
      refine js_aload_n rfl ?_
      refine js_aload_n rfl ?_
      refine js_getr rfl rfl rfl ?_
      refine js_iload rfl ?_
      obtain ⟨hb1, hf⟩ := jg_some hf
      refine js_iald rfl hb1 ?_
      refine js_aload_n rfl ?_
      refine js_getr rfl rfl rfl ?_
      refine js_iload rfl ?_
      obtain ⟨hb2, hf⟩ := jg_some hf
      refine js_iald rfl hb2 ?_
      refine js_c3i rfl rfl ⟨rfl, rfl⟩ rfl rfl (t_M_apart rfl) (by omega) ?_
      refine js_aload_n rfl ?_
      refine js_aload_n rfl ?_
      refine js_getr rfl rfl rfl ?_
      refine js_iload rfl ?_
      obtain ⟨hb4, hf⟩ := jg_some hf
      refine js_iald rfl hb4 ?_
      refine js_aload_n rfl ?_
      refine js_getr rfl rfl rfl ?_
      refine js_iload rfl ?_
      obtain ⟨hb5, hf⟩ := jg_some hf
      refine js_iald rfl hb5 ?_
      refine js_c3i rfl rfl ⟨rfl, rfl⟩ rfl rfl (t_M_apart rfl) (by omega) ?_
      refine js_icmp (tgt := 76) rfl rfl (fun h => ?_) (fun h => ?_)
      · have hf := jif_t hf h
        refine jR_in rfl ⟨rfl, rfl, rfl⟩ rfl ?_
        refine js_iconst (v := (0 : Int32)) rfl ?_
        exact jS_out rfl ⟨rfl, rfl, rfl⟩ rfl (t_M_arbiter_77 hd (fun l1 l2 l3 l4 o5 w M res hf => ih l1 l2 l3 l4 o5 w M hf) _ _ _ _ _ _ _ _ hf)
      · have hf := jif_f hf h
        refine js_iconst (v := (1 : Int32)) rfl ?_
        refine js_goto (tgt := 77) rfl rfl ?_
        exact t_M_arbiter_77 hd (fun l1 l2 l3 l4 o5 w M res hf => ih l1 l2 l3 l4 o5 w M hf) _ _ _ _ _ _ _ _ hf
def f_M_arbiter (a1 : Int32) (M : jp_M) : Option (Int32 × jp_M) :=
  let M1 := jp_set M 104 (upd (M 104) 0 (0 : Int32))
  if jp_c .ne (f_M_isIn a1 (0 : Int32) (1 : Int32)) 0 = true then (
  f_M_arbiter_24 jFu a1 (0 : Int32) (0 : Int32) (0 : Int32) M1) else (
  some ((-1 : Int32), M1))
theorem t_M_arbiter {Ln : Nat} {xs : Nat → Int32} {sv : jp_V} {a1 : Int32} {w : Nat} {M : jp_M} {res : Int32 × jp_M} (hf : f_M_arbiter a1 M = some res) : jE (jZ (jK Ln xs sv)) 1 292 [(.inr (some 104)), (.inl a1)] (jSH w) M (some (.inl res.1), jSH w, res.2) := by
  unfold f_M_arbiter at hf
  refine jE_in (L0 := [some (.inr (some 104)), some (.inl a1), none, none, none, none]) rfl (Nat.le_of_ble_eq_true rfl) rfl (fun d hd => ?_)
  refine jR_in rfl ⟨rfl, rfl, rfl⟩ rfl ?_
  refine js_aload_n rfl ?_
  refine js_iconst (v := (0 : Int32)) rfl ?_
  refine js_puti rfl rfl (Or.inl rfl) ?_
  refine js_aload_n rfl ?_
  refine js_iload_n rfl ?_
  refine js_iconst (v := (0 : Int32)) rfl ?_
  refine js_iconst (v := (1 : Int32)) rfl ?_
  refine js_c4i rfl rfl ⟨rfl, rfl⟩ rfl rfl (t_M_isIn rfl) (by omega) ?_
  refine js_ifc (tgt := 17) rfl rfl (fun h => ?_) (fun h => ?_)
  · have hf := jif_t hf h
    refine jR_in rfl ⟨rfl, rfl, rfl⟩ rfl ?_
    refine js_iconst (v := (0 : Int32)) rfl ?_
    refine js_istore_n rfl rfl ?_
    refine js_iconst (v := (0 : Int32)) rfl ?_
    refine js_istore_n rfl rfl ?_
    refine js_iconst (v := (0 : Int32)) rfl ?_
    refine js_istore rfl rfl ?_
    exact jS_out rfl ⟨rfl, rfl, rfl⟩ rfl (t_M_arbiter_24 hd jFu _ _ _ _ _ _ _ hf)
  · have hf := jif_f hf h
    refine js_iconst (v := (-1 : Int32)) rfl ?_
    obtain rfl := Option.some.inj hf
    exact js_iret rfl rfl
/-! SwallowsAirModel.ball(III)I -/
def f_M_ball_51  : Nat → Int32 → Int32 → Int32 → Int32 → Int32 → Int32 → jp_M → Option (Int32 × jp_M)
  | 0, _, _, _, _, _, _, _ => none
  | n + 1, l2, l3, l4, l5, l6, l7, M =>
    if jp_c .le l4 0 = true then (
    if jp_c .ne l3 0 = true then (
    some (l7, M)) else (
    some (l6, M))) else (
    f_M_ball_51 n l2 l3 (l4 + (l5 - l2)) (l5 - l2) (f_M_greater l6 (l4 + (l5 - l2))) (l7 + (1 : Int32)) M)
theorem t_M_ball_51 {Ln : Nat} {xs : Nat → Int32} {sv : jp_V} {d : Nat} (hd : 1 ≤ d)  : ∀ (n : Nat) (l2 : Int32) (l3 : Int32) (l4 : Int32) (l5 : Int32) (l6 : Int32) (l7 : Int32) (o1 : Option jp_V) (w : Nat) (M : jp_M) {res : Int32 × jp_M}, f_M_ball_51 n  l2 l3 l4 l5 l6 l7 M = some res → jR (jZ (jK Ln xs sv)) d 293 51 ([some (.inr (some 104)), o1, some (.inl l2), some (.inl l3), some (.inl l4), some (.inl l5), some (.inl l6), some (.inl l7)], [], jSH w, M) (some (.inl res.1), jSH w, res.2) := by
  intro n
  induction n with
  | zero =>
    intro l2 l3 l4 l5 l6 l7 o1 w M res hf
    cases hf
  | succ n ih =>
    intro l2 l3 l4 l5 l6 l7 o1 w M res hf
    rw [f_M_ball_51] at hf
    refine jR_in rfl ⟨rfl, rfl, rfl⟩ rfl ?_
    refine js_iload rfl ?_
    refine js_ifc (tgt := 88) rfl rfl (fun h => ?_) (fun h => ?_)
    · have hf := jif_t hf h
      refine jR_in rfl ⟨rfl, rfl, rfl⟩ rfl ?_
      refine js_iload_n rfl ?_
      refine js_ifc (tgt := 97) rfl rfl (fun h => ?_) (fun h => ?_)
      · have hf := jif_t hf h
        refine jR_in rfl ⟨rfl, rfl, rfl⟩ rfl ?_
        refine js_iload rfl ?_
        obtain rfl := Option.some.inj hf
        exact js_iret rfl rfl
      · have hf := jif_f hf h
        refine js_iload rfl ?_
        refine js_goto (tgt := 99) rfl rfl ?_
        refine jR_in rfl ⟨rfl, rfl, rfl⟩ rfl ?_
        obtain rfl := Option.some.inj hf
        exact js_iret rfl rfl
    · have hf := jif_f hf h
      refine js_iload rfl ?_
      refine js_iload_n rfl ?_
      refine js_isub ?_
      refine js_istore rfl rfl ?_
      refine js_iload rfl ?_
      refine js_iload rfl ?_
      refine js_iadd ?_
      refine js_istore rfl rfl ?_
      refine js_aload_n rfl ?_
      refine js_iload rfl ?_
      refine js_iload rfl ?_
      refine js_c3i rfl rfl ⟨rfl, rfl⟩ rfl rfl (t_M_greater rfl) (by omega) ?_
      refine js_istore rfl rfl ?_
      refine js_iload rfl ?_
      refine js_iconst (v := (1 : Int32)) rfl ?_
      refine js_iadd ?_
      refine js_istore rfl rfl ?_
      refine js_goto (tgt := 51) rfl rfl ?_
      exact ih _ _ _ _ _ _ _ _ _ hf
def f_M_ball (a1 : Int32) (a2 : Int32) (a3 : Int32) (M : jp_M) : Option (Int32 × jp_M) :=
  let M1 := jp_set M 104 (upd (M 104) 0 (0 : Int32))
  if jp_c .eq (f_M_isIn a1 (1 : Int32) (40 : Int32)) 0 = true then (
  some ((-1 : Int32), M1)) else (
  if jp_c .eq (f_M_isIn a2 (1 : Int32) (9 : Int32)) 0 = true then (
  some ((-1 : Int32), M1)) else (
  if jp_c .ne (f_M_isIn a3 (0 : Int32) (1 : Int32)) 0 = true then (
  f_M_ball_51 jFu a2 a3 a1 a1 a1 (1 : Int32) M1) else (
  some ((-1 : Int32), M1))))
theorem t_M_ball {Ln : Nat} {xs : Nat → Int32} {sv : jp_V} {a1 : Int32} {a2 : Int32} {a3 : Int32} {w : Nat} {M : jp_M} {res : Int32 × jp_M} (hf : f_M_ball a1 a2 a3 M = some res) : jE (jZ (jK Ln xs sv)) 1 293 [(.inr (some 104)), (.inl a1), (.inl a2), (.inl a3)] (jSH w) M (some (.inl res.1), jSH w, res.2) := by
  unfold f_M_ball at hf
  refine jE_in (L0 := [some (.inr (some 104)), some (.inl a1), some (.inl a2), some (.inl a3), none, none, none, none]) rfl (Nat.le_of_ble_eq_true rfl) rfl (fun d hd => ?_)
  refine jR_in rfl ⟨rfl, rfl, rfl⟩ rfl ?_
  refine js_aload_n rfl ?_
  refine js_iconst (v := (0 : Int32)) rfl ?_
  refine js_puti rfl rfl (Or.inl rfl) ?_
  refine js_aload_n rfl ?_
  refine js_iload_n rfl ?_
  refine js_iconst (v := (1 : Int32)) rfl ?_
  refine js_bipush (v := (40 : Int32)) rfl ?_
  refine js_c4i rfl rfl ⟨rfl, rfl⟩ rfl rfl (t_M_isIn rfl) (by omega) ?_
  refine js_ifc (tgt := 37) rfl rfl (fun h => ?_) (fun h => ?_)
  · have hf := jif_t hf h
    refine jR_in rfl ⟨rfl, rfl, rfl⟩ rfl ?_
    refine js_iconst (v := (-1 : Int32)) rfl ?_
    obtain rfl := Option.some.inj hf
    exact js_iret rfl rfl
  · have hf := jif_f hf h
    refine js_aload_n rfl ?_
    refine js_iload_n rfl ?_
    refine js_iconst (v := (1 : Int32)) rfl ?_
    refine js_bipush (v := (9 : Int32)) rfl ?_
    refine js_c4i rfl rfl ⟨rfl, rfl⟩ rfl rfl (t_M_isIn rfl) (by omega) ?_
    refine js_ifc (tgt := 37) rfl rfl (fun h => ?_) (fun h => ?_)
    · have hf := jif_t hf h
      refine jR_in rfl ⟨rfl, rfl, rfl⟩ rfl ?_
      refine js_iconst (v := (-1 : Int32)) rfl ?_
      obtain rfl := Option.some.inj hf
      exact js_iret rfl rfl
    · have hf := jif_f hf h
      refine js_aload_n rfl ?_
      refine js_iload_n rfl ?_
      refine js_iconst (v := (0 : Int32)) rfl ?_
      refine js_iconst (v := (1 : Int32)) rfl ?_
      refine js_c4i rfl rfl ⟨rfl, rfl⟩ rfl rfl (t_M_isIn rfl) (by omega) ?_
      refine js_ifc (tgt := 39) rfl rfl (fun h => ?_) (fun h => ?_)
      · have hf := jif_t hf h
        refine jR_in rfl ⟨rfl, rfl, rfl⟩ rfl ?_
        refine js_iload_n rfl ?_
        refine js_istore rfl rfl ?_
        refine js_iload_n rfl ?_
        refine js_istore rfl rfl ?_
        refine js_iload_n rfl ?_
        refine js_istore rfl rfl ?_
        refine js_iconst (v := (1 : Int32)) rfl ?_
        refine js_istore rfl rfl ?_
        exact jS_out rfl ⟨rfl, rfl, rfl⟩ rfl (t_M_ball_51 hd jFu _ _ _ _ _ _ _ _ _ hf)
      · have hf := jif_f hf h
        refine js_iconst (v := (-1 : Int32)) rfl ?_
        obtain rfl := Option.some.inj hf
        exact js_iret rfl rfl
/-! SwallowsAirModel.findsNimbers()V -/
def f_M_findsNimbers_39  : Nat → (Int32 → jp_M → Option (jp_M)) → Int32 → Int32 → Int32 → jp_M → Option (jp_M)
  | 0, _, _, _, _, _ => none
  | n + 1, c7, l1, l2, l3, M =>
    if jp_c .eq (f_M_has l2 l3) 0 = true then (
    jg (jp_in l1 8) (
    let M2 := jp_set M 142 (upd (M 142) (Int32.toNatClampNeg l1) l3)
    c7 (l1 + (1 : Int32)) M2)) else (
    f_M_findsNimbers_39 n c7 l1 l2 (l3 + (1 : Int32)) M)
theorem t_M_findsNimbers_39 {Ln : Nat} {xs : Nat → Int32} {sv : jp_V} {d : Nat} (hd : 1 ≤ d) {c7 : Int32 → jp_M → Option (jp_M)} (hc7 : ∀ (l1 : Int32) (o2 : Option jp_V) (o3 : Option jp_V) (w : Nat) (M : jp_M) (res : jp_M), c7 l1 M = some res → jR (jZ (jK Ln xs sv)) d 294 9 ([some (.inr (some 104)), some (.inl l1), o2, o3], [], jSH w, M) (none, jSH w, res)) : ∀ (n : Nat) (l1 : Int32) (l2 : Int32) (l3 : Int32) (w : Nat) (M : jp_M) {res : jp_M}, f_M_findsNimbers_39 n c7 l1 l2 l3 M = some res → jR (jZ (jK Ln xs sv)) d 294 39 ([some (.inr (some 104)), some (.inl l1), some (.inl l2), some (.inl l3)], [], jSH w, M) (none, jSH w, res) := by
  intro n
  induction n with
  | zero =>
    intro l1 l2 l3 w M res hf
    cases hf
  | succ n ih =>
    intro l1 l2 l3 w M res hf
    rw [f_M_findsNimbers_39] at hf
    refine jR_in rfl ⟨rfl, rfl, rfl⟩ rfl ?_
    refine js_aload_n rfl ?_
    refine js_iload_n rfl ?_
    refine js_iload_n rfl ?_
    refine js_c3i rfl rfl ⟨rfl, rfl⟩ rfl rfl (t_M_has rfl) (by omega) ?_
    refine js_ifc (tgt := 55) rfl rfl (fun h => ?_) (fun h => ?_)
    · have hf := jif_t hf h
      refine jR_in rfl ⟨rfl, rfl, rfl⟩ rfl ?_
      refine js_aload_n rfl ?_
      refine js_getr rfl rfl rfl ?_
      refine js_iload_n rfl ?_
      refine js_iload_n rfl ?_
      obtain ⟨hb3, hf⟩ := jg_some hf
      refine js_iast rfl hb3 ?_
      refine js_iinc (v := (1 : Int32)) rfl rfl rfl rfl ?_
      refine js_goto (tgt := 9) rfl rfl ?_
      exact hc7 _ _ _ _ _ _ hf
    · have hf := jif_f hf h
      refine js_iload_n rfl ?_
      refine js_iconst (v := (1 : Int32)) rfl ?_
      refine js_iadd ?_
      refine js_istore_n rfl rfl ?_
      refine js_goto (tgt := 39) rfl rfl ?_
      exact ih _ _ _ _ _ hf
def f_M_findsNimbers_9  : Nat → Int32 → jp_M → Option (jp_M)
  | 0, _, _ => none
  | n + 1, l1, M =>
    if jp_c .ge l1 (8 : Int32) = true then (
    some M) else (
    jg (jp_in (l1 - (1 : Int32)) 8) (
    jg (jp_in (l1 / (2 : Int32)) 8) (
    f_M_findsNimbers_39 jFu (f_M_findsNimbers_9 n ) l1 (((1 : Int32) <<< ((M 142 (Int32.toNatClampNeg (l1 - (1 : Int32)))) &&& 31)) ||| ((1 : Int32) <<< ((M 142 (Int32.toNatClampNeg (l1 / (2 : Int32)))) &&& 31))) (0 : Int32) M)))
theorem t_M_findsNimbers_9 {Ln : Nat} {xs : Nat → Int32} {sv : jp_V} {d : Nat} (hd : 1 ≤ d)  : ∀ (n : Nat) (l1 : Int32) (o2 : Option jp_V) (o3 : Option jp_V) (w : Nat) (M : jp_M) {res : jp_M}, f_M_findsNimbers_9 n  l1 M = some res → jR (jZ (jK Ln xs sv)) d 294 9 ([some (.inr (some 104)), some (.inl l1), o2, o3], [], jSH w, M) (none, jSH w, res) := by
  intro n
  induction n with
  | zero =>
    intro l1 o2 o3 w M res hf
    cases hf
  | succ n ih =>
    intro l1 o2 o3 w M res hf
    rw [f_M_findsNimbers_9] at hf
    refine jR_in rfl ⟨rfl, rfl, rfl⟩ rfl ?_
    refine js_iload_n rfl ?_
    refine js_bipush (v := (8 : Int32)) rfl ?_
    refine js_icmp (tgt := 68) rfl rfl (fun h => ?_) (fun h => ?_)
    · have hf := jif_t hf h
      refine jR_in rfl ⟨rfl, rfl, rfl⟩ rfl ?_
      obtain rfl := Option.some.inj hf
      exact js_ret rfl rfl
    · have hf := jif_f hf h
      refine js_iconst (v := (1 : Int32)) rfl ?_
      refine js_aload_n rfl ?_
      refine js_getr rfl rfl rfl ?_
      refine js_iload_n rfl ?_
      refine js_iconst (v := (1 : Int32)) rfl ?_
      refine js_isub ?_
      obtain ⟨hb1, hf⟩ := jg_some hf
      refine js_iald rfl hb1 ?_
      refine js_ishl ?_
      refine js_iconst (v := (1 : Int32)) rfl ?_
      refine js_aload_n rfl ?_
      refine js_getr rfl rfl rfl ?_
      refine js_iload_n rfl ?_
      refine js_iconst (v := (2 : Int32)) rfl ?_
      refine js_idiv (by decide) ?_
      obtain ⟨hb2, hf⟩ := jg_some hf
      refine js_iald rfl hb2 ?_
      refine js_ishl ?_
      refine js_ior ?_
      refine js_istore_n rfl rfl ?_
      refine js_iconst (v := (0 : Int32)) rfl ?_
      refine js_istore_n rfl rfl ?_
      exact jS_out rfl ⟨rfl, rfl, rfl⟩ rfl (t_M_findsNimbers_39 hd (fun l1 o2 o3 w M res hf => ih l1 o2 o3 w M hf) jFu _ _ _ _ _ hf)
def f_M_findsNimbers (M : jp_M) : Option (jp_M) :=
  let M1 := jp_set M 142 (upd (M 142) 0 (0 : Int32))
  f_M_findsNimbers_9 jFu (1 : Int32) M1
theorem t_M_findsNimbers {Ln : Nat} {xs : Nat → Int32} {sv : jp_V} {w : Nat} {M : jp_M} {res : jp_M} (hf : f_M_findsNimbers M = some res) : jE (jZ (jK Ln xs sv)) 1 294 [(.inr (some 104))] (jSH w) M (none, jSH w, res) := by
  unfold f_M_findsNimbers at hf
  refine jE_in (L0 := [some (.inr (some 104)), none, none, none]) rfl (Nat.le_of_ble_eq_true rfl) rfl (fun d hd => ?_)
  refine jR_in rfl ⟨rfl, rfl, rfl⟩ rfl ?_
  refine js_aload_n rfl ?_
  refine js_getr rfl rfl rfl ?_
  refine js_iconst (v := (0 : Int32)) rfl ?_
  refine js_iconst (v := (0 : Int32)) rfl ?_
  refine js_iast rfl (by decide) ?_
  refine js_iconst (v := (1 : Int32)) rfl ?_
  refine js_istore_n rfl rfl ?_
  exact jS_out rfl ⟨rfl, rfl, rfl⟩ rfl (t_M_findsNimbers_9 hd jFu _ _ _ _ _ hf)
/-! SwallowsAirModel.game(I)I -/
def f_M_game_152 (c37 : Int32 → Int32 → Int32 → jp_M → Option (Int32 × jp_M)) (l1 : Int32) (l2 : Int32) (l3 : Int32) (M : jp_M) : Option (Int32 × jp_M) :=
  c37 l1 l2 (l3 + (1 : Int32)) M
theorem t_M_game_152 {Ln : Nat} {xs : Nat → Int32} {sv : jp_V} {d : Nat} (hd : 2 ≤ d) {c37 : Int32 → Int32 → Int32 → jp_M → Option (Int32 × jp_M)} (hc37 : ∀ (l1 : Int32) (l2 : Int32) (l3 : Int32) (o4 : Option jp_V) (o5 : Option jp_V) (w : Nat) (M : jp_M) (res : Int32 × jp_M), c37 l1 l2 l3 M = some res → jR (jZ (jK Ln xs sv)) d 295 58 ([some (.inr (some 104)), some (.inl l1), some (.inl l2), some (.inl l3), o4, o5], [], jSH w, M) (some (.inl res.1), jSH w, res.2)) (l1 : Int32) (l2 : Int32) (l3 : Int32) (o4 : Option jp_V) (o5 : Option jp_V) (w : Nat) (M : jp_M) {res : Int32 × jp_M} (hf : f_M_game_152 c37 l1 l2 l3 M = some res) : jR (jZ (jK Ln xs sv)) d 295 152 ([some (.inr (some 104)), some (.inl l1), some (.inl l2), some (.inl l3), o4, o5], [], jSH w, M) (some (.inl res.1), jSH w, res.2) := by
  unfold f_M_game_152 at hf
  refine jR_in rfl ⟨rfl, rfl, rfl⟩ rfl ?_
  refine js_iinc (v := (1 : Int32)) rfl rfl rfl rfl ?_
  refine js_goto (tgt := 58) rfl rfl ?_
  exact hc37 _ _ _ _ _ _ _ _ hf
def f_M_game_117 (c37 : Int32 → Int32 → Int32 → jp_M → Option (Int32 × jp_M)) (l1 : Int32) (l2 : Int32) (l3 : Int32) (l4 : Int32) (l5 : Int32) (M : jp_M) : Option (Int32 × jp_M) :=
  if jp_c .le l4 0 = true then (
  f_M_game_152 c37 l1 l2 l3 M) else (
  jg (jp_in (l4 / (2 : Int32)) 8) (
  if jp_c .ne (M 142 (Int32.toNatClampNeg (l4 / (2 : Int32)))) l5 = true then (
  f_M_game_152 c37 l1 l2 l3 M) else (
  if jp_c .ne l1 0 = true then (
  some ((l4 - (l4 / (2 : Int32))), M)) else (
  some (l3, M)))))
theorem t_M_game_117 {Ln : Nat} {xs : Nat → Int32} {sv : jp_V} {d : Nat} (hd : 2 ≤ d) {c37 : Int32 → Int32 → Int32 → jp_M → Option (Int32 × jp_M)} (hc37 : ∀ (l1 : Int32) (l2 : Int32) (l3 : Int32) (o4 : Option jp_V) (o5 : Option jp_V) (w : Nat) (M : jp_M) (res : Int32 × jp_M), c37 l1 l2 l3 M = some res → jR (jZ (jK Ln xs sv)) d 295 58 ([some (.inr (some 104)), some (.inl l1), some (.inl l2), some (.inl l3), o4, o5], [], jSH w, M) (some (.inl res.1), jSH w, res.2)) (l1 : Int32) (l2 : Int32) (l3 : Int32) (l4 : Int32) (l5 : Int32) (w : Nat) (M : jp_M) {res : Int32 × jp_M} (hf : f_M_game_117 c37 l1 l2 l3 l4 l5 M = some res) : jR (jZ (jK Ln xs sv)) d 295 117 ([some (.inr (some 104)), some (.inl l1), some (.inl l2), some (.inl l3), some (.inl l4), some (.inl l5)], [], jSH w, M) (some (.inl res.1), jSH w, res.2) := by
  unfold f_M_game_117 at hf
  refine jR_in rfl ⟨rfl, rfl, rfl⟩ rfl ?_
  refine js_iload rfl ?_
  refine js_ifc (tgt := 152) rfl rfl (fun h => ?_) (fun h => ?_)
  · have hf := jif_t hf h
    exact t_M_game_152 hd hc37 _ _ _ _ _ _ _ hf
  · have hf := jif_f hf h
    refine js_aload_n rfl ?_
    refine js_getr rfl rfl rfl ?_
    refine js_iload rfl ?_
    refine js_iconst (v := (2 : Int32)) rfl ?_
    refine js_idiv (by decide) ?_
    obtain ⟨hb1, hf⟩ := jg_some hf
    refine js_iald rfl hb1 ?_
    refine js_iload rfl ?_
    refine js_icmp (tgt := 152) rfl rfl (fun h => ?_) (fun h => ?_)
    · have hf := jif_t hf h
      exact t_M_game_152 hd hc37 _ _ _ _ _ _ _ hf
    · have hf := jif_f hf h
      refine js_iload_n rfl ?_
      refine js_ifc (tgt := 144) rfl rfl (fun h => ?_) (fun h => ?_)
      · have hf := jif_t hf h
        refine jR_in rfl ⟨rfl, rfl, rfl⟩ rfl ?_
        refine js_iload rfl ?_
        refine js_iload rfl ?_
        refine js_iconst (v := (2 : Int32)) rfl ?_
        refine js_idiv (by decide) ?_
        refine js_isub ?_
        obtain rfl := Option.some.inj hf
        exact js_iret rfl rfl
      · have hf := jif_f hf h
        refine js_iload_n rfl ?_
        refine js_goto (tgt := 151) rfl rfl ?_
        refine jR_in rfl ⟨rfl, rfl, rfl⟩ rfl ?_
        obtain rfl := Option.some.inj hf
        exact js_iret rfl rfl
def f_M_game_58  : Nat → Int32 → Int32 → Int32 → jp_M → Option (Int32 × jp_M)
  | 0, _, _, _, _ => none
  | n + 1, l1, l2, l3, M =>
    if jp_c .ge l3 (M 104 6) = true then (
    some ((-1 : Int32), M)) else (
    jg (jp_in ((26 : Int32) + l3) 184) (
    jg (jp_in (M 105 (Int32.toNatClampNeg ((26 : Int32) + l3))) 8) (
    if jp_c .le (M 105 (Int32.toNatClampNeg ((26 : Int32) + l3))) 0 = true then (
    f_M_game_117 (f_M_game_58 n ) l1 l2 l3 (M 105 (Int32.toNatClampNeg ((26 : Int32) + l3))) (l2 ^^^ (M 142 (Int32.toNatClampNeg (M 105 (Int32.toNatClampNeg ((26 : Int32) + l3)))))) M) else (
    jg (jp_in ((M 105 (Int32.toNatClampNeg ((26 : Int32) + l3))) - (1 : Int32)) 8) (
    if jp_c .ne (M 142 (Int32.toNatClampNeg ((M 105 (Int32.toNatClampNeg ((26 : Int32) + l3))) - (1 : Int32)))) (l2 ^^^ (M 142 (Int32.toNatClampNeg (M 105 (Int32.toNatClampNeg ((26 : Int32) + l3)))))) = true then (
    f_M_game_117 (f_M_game_58 n ) l1 l2 l3 (M 105 (Int32.toNatClampNeg ((26 : Int32) + l3))) (l2 ^^^ (M 142 (Int32.toNatClampNeg (M 105 (Int32.toNatClampNeg ((26 : Int32) + l3)))))) M) else (
    if jp_c .ne l1 0 = true then (
    some ((1 : Int32), M)) else (
    some (l3, M))))))))
theorem t_M_game_58 {Ln : Nat} {xs : Nat → Int32} {sv : jp_V} {d : Nat} (hd : 2 ≤ d)  : ∀ (n : Nat) (l1 : Int32) (l2 : Int32) (l3 : Int32) (o4 : Option jp_V) (o5 : Option jp_V) (w : Nat) (M : jp_M) {res : Int32 × jp_M}, f_M_game_58 n  l1 l2 l3 M = some res → jR (jZ (jK Ln xs sv)) d 295 58 ([some (.inr (some 104)), some (.inl l1), some (.inl l2), some (.inl l3), o4, o5], [], jSH w, M) (some (.inl res.1), jSH w, res.2) := by
  intro n
  induction n with
  | zero =>
    intro l1 l2 l3 o4 o5 w M res hf
    cases hf
  | succ n ih =>
    intro l1 l2 l3 o4 o5 w M res hf
    rw [f_M_game_58] at hf
    refine jR_in rfl ⟨rfl, rfl, rfl⟩ rfl ?_
    refine js_iload_n rfl ?_
    refine js_aload_n rfl ?_
    refine js_geti rfl rfl rfl ?_
    refine js_icmp (tgt := 158) rfl rfl (fun h => ?_) (fun h => ?_)
    · have hf := jif_t hf h
      refine jR_in rfl ⟨rfl, rfl, rfl⟩ rfl ?_
      refine js_iconst (v := (-1 : Int32)) rfl ?_
      obtain rfl := Option.some.inj hf
      exact js_iret rfl rfl
    · have hf := jif_f hf h
      refine js_aload_n rfl ?_
      refine js_getr rfl rfl rfl ?_
      refine js_bipush (v := (26 : Int32)) rfl ?_
      refine js_iload_n rfl ?_
      refine js_iadd ?_
      obtain ⟨hb1, hf⟩ := jg_some hf
      refine js_iald rfl hb1 ?_
      refine js_istore rfl rfl ?_
      refine js_iload_n rfl ?_
      refine js_aload_n rfl ?_
      refine js_getr rfl rfl rfl ?_
      refine js_iload rfl ?_
      obtain ⟨hb2, hf⟩ := jg_some hf
      refine js_iald rfl hb2 ?_
      refine js_ixor ?_
      refine js_istore rfl rfl ?_
      refine js_iload rfl ?_
      refine js_ifc (tgt := 117) rfl rfl (fun h => ?_) (fun h => ?_)
      · have hf := jif_t hf h
        exact t_M_game_117 hd (fun l1 l2 l3 o4 o5 w M res hf => ih l1 l2 l3 o4 o5 w M hf) _ _ _ _ _ _ _ hf
      · have hf := jif_f hf h
        refine js_aload_n rfl ?_
        refine js_getr rfl rfl rfl ?_
        refine js_iload rfl ?_
        refine js_iconst (v := (1 : Int32)) rfl ?_
        refine js_isub ?_
        obtain ⟨hb3, hf⟩ := jg_some hf
        refine js_iald rfl hb3 ?_
        refine js_iload rfl ?_
        refine js_icmp (tgt := 117) rfl rfl (fun h => ?_) (fun h => ?_)
        · have hf := jif_t hf h
          exact t_M_game_117 hd (fun l1 l2 l3 o4 o5 w M res hf => ih l1 l2 l3 o4 o5 w M hf) _ _ _ _ _ _ _ hf
        · have hf := jif_f hf h
          refine js_iload_n rfl ?_
          refine js_ifc (tgt := 115) rfl rfl (fun h => ?_) (fun h => ?_)
          · have hf := jif_t hf h
            refine jR_in rfl ⟨rfl, rfl, rfl⟩ rfl ?_
            refine js_iconst (v := (1 : Int32)) rfl ?_
            obtain rfl := Option.some.inj hf
            exact js_iret rfl rfl
          · have hf := jif_f hf h
            refine js_iload_n rfl ?_
            refine js_goto (tgt := 116) rfl rfl ?_
            refine jR_in rfl ⟨rfl, rfl, rfl⟩ rfl ?_
            obtain rfl := Option.some.inj hf
            exact js_iret rfl rfl
def f_M_game_25  : Nat → Int32 → Int32 → Int32 → jp_M → Option (Int32 × jp_M)
  | 0, _, _, _, _ => none
  | n + 1, l1, l2, l3, M =>
    if jp_c .ge l3 (M 104 6) = true then (
    f_M_game_58 jFu l1 l2 (0 : Int32) M) else (
    jg (jp_in ((26 : Int32) + l3) 184) (
    jg (jp_in (M 105 (Int32.toNatClampNeg ((26 : Int32) + l3))) 8) (
    f_M_game_25 n l1 (l2 ^^^ (M 142 (Int32.toNatClampNeg (M 105 (Int32.toNatClampNeg ((26 : Int32) + l3)))))) (l3 + (1 : Int32)) M)))
theorem t_M_game_25 {Ln : Nat} {xs : Nat → Int32} {sv : jp_V} {d : Nat} (hd : 2 ≤ d)  : ∀ (n : Nat) (l1 : Int32) (l2 : Int32) (l3 : Int32) (o4 : Option jp_V) (o5 : Option jp_V) (w : Nat) (M : jp_M) {res : Int32 × jp_M}, f_M_game_25 n  l1 l2 l3 M = some res → jR (jZ (jK Ln xs sv)) d 295 25 ([some (.inr (some 104)), some (.inl l1), some (.inl l2), some (.inl l3), o4, o5], [], jSH w, M) (some (.inl res.1), jSH w, res.2) := by
  intro n
  induction n with
  | zero =>
    intro l1 l2 l3 o4 o5 w M res hf
    cases hf
  | succ n ih =>
    intro l1 l2 l3 o4 o5 w M res hf
    rw [f_M_game_25] at hf
    refine jR_in rfl ⟨rfl, rfl, rfl⟩ rfl ?_
    refine js_iload_n rfl ?_
    refine js_aload_n rfl ?_
    refine js_geti rfl rfl rfl ?_
    refine js_icmp (tgt := 56) rfl rfl (fun h => ?_) (fun h => ?_)
    · have hf := jif_t hf h
      refine jR_in rfl ⟨rfl, rfl, rfl⟩ rfl ?_
      refine js_iconst (v := (0 : Int32)) rfl ?_
      refine js_istore_n rfl rfl ?_
      exact jS_out rfl ⟨rfl, rfl, rfl⟩ rfl (t_M_game_58 hd jFu _ _ _ _ _ _ _ hf)
    · have hf := jif_f hf h
      refine js_iload_n rfl ?_
      refine js_aload_n rfl ?_
      refine js_getr rfl rfl rfl ?_
      refine js_aload_n rfl ?_
      refine js_getr rfl rfl rfl ?_
      refine js_bipush (v := (26 : Int32)) rfl ?_
      refine js_iload_n rfl ?_
      refine js_iadd ?_
      obtain ⟨hb1, hf⟩ := jg_some hf
      refine js_iald rfl hb1 ?_
      obtain ⟨hb2, hf⟩ := jg_some hf
      refine js_iald rfl hb2 ?_
      refine js_ixor ?_
      refine js_istore_n rfl rfl ?_
      refine js_iinc (v := (1 : Int32)) rfl rfl rfl rfl ?_
      refine js_goto (tgt := 25) rfl rfl ?_
      exact ih _ _ _ _ _ _ _ hf
def f_M_game (a1 : Int32) (M : jp_M) : Option (Int32 × jp_M) :=
  let M1 := jp_set M 104 (upd (M 104) 0 (0 : Int32))
  if jp_c .ne (f_M_isIn a1 (0 : Int32) (1 : Int32)) 0 = true then (
  (f_M_findsNimbers M1).bind fun q3 => (
  f_M_game_25 jFu a1 (0 : Int32) (0 : Int32) q3)) else (
  some ((-1 : Int32), M1))
theorem t_M_game {Ln : Nat} {xs : Nat → Int32} {sv : jp_V} {a1 : Int32} {w : Nat} {M : jp_M} {res : Int32 × jp_M} (hf : f_M_game a1 M = some res) : jE (jZ (jK Ln xs sv)) 2 295 [(.inr (some 104)), (.inl a1)] (jSH w) M (some (.inl res.1), jSH w, res.2) := by
  unfold f_M_game at hf
  refine jE_in (L0 := [some (.inr (some 104)), some (.inl a1), none, none, none, none]) rfl (Nat.le_of_ble_eq_true rfl) rfl (fun d hd => ?_)
  refine jR_in rfl ⟨rfl, rfl, rfl⟩ rfl ?_
  refine js_aload_n rfl ?_
  refine js_iconst (v := (0 : Int32)) rfl ?_
  refine js_puti rfl rfl (Or.inl rfl) ?_
  refine js_aload_n rfl ?_
  refine js_iload_n rfl ?_
  refine js_iconst (v := (0 : Int32)) rfl ?_
  refine js_iconst (v := (1 : Int32)) rfl ?_
  refine js_c4i rfl rfl ⟨rfl, rfl⟩ rfl rfl (t_M_isIn rfl) (by omega) ?_
  refine js_ifc (tgt := 17) rfl rfl (fun h => ?_) (fun h => ?_)
  · have hf := jif_t hf h
    refine jR_in rfl ⟨rfl, rfl, rfl⟩ rfl ?_
    refine js_aload_n rfl ?_
    obtain ⟨q3, hc_3, hf⟩ := jbind hf
    refine js_c1v (w := 0) rfl rfl ⟨rfl, rfl⟩ rfl rfl (t_M_findsNimbers hc_3) (by omega) ?_
    refine js_iconst (v := (0 : Int32)) rfl ?_
    refine js_istore_n rfl rfl ?_
    refine js_iconst (v := (0 : Int32)) rfl ?_
    refine js_istore_n rfl rfl ?_
    exact jS_out rfl ⟨rfl, rfl, rfl⟩ rfl (t_M_game_25 hd jFu _ _ _ _ _ _ _ hf)
  · have hf := jif_f hf h
    refine js_iconst (v := (-1 : Int32)) rfl ?_
    obtain rfl := Option.some.inj hf
    exact js_iret rfl rfl
/-! SwallowsAirModel.keeps(I)I -/
def f_M_keeps (a1 : Int32) (M : jp_M) : Option (Int32 × jp_M) :=
  let M1 := jp_set M 104 (upd (M 104) 64 ((M 104 64) + (1 : Int32)))
  if jp_c .ne (M1 104 62) 0 = true then (
  jg (jp_in ((M1 104 64) - (1 : Int32)) 2300) (
  let M2 := jp_set M1 143 (upd (M1 143) (Int32.toNatClampNeg ((M1 104 64) - (1 : Int32))) a1)
  some (a1, M2))) else (
  jg (jp_in ((M1 104 64) - (1 : Int32)) 2300) (
  some ((M1 143 (Int32.toNatClampNeg ((M1 104 64) - (1 : Int32)))), M1)))
theorem t_M_keeps {Ln : Nat} {xs : Nat → Int32} {sv : jp_V} {a1 : Int32} {w : Nat} {M : jp_M} {res : Int32 × jp_M} (hf : f_M_keeps a1 M = some res) : jE (jZ (jK Ln xs sv)) 0 296 [(.inr (some 104)), (.inl a1)] (jSH w) M (some (.inl res.1), jSH w, res.2) := by
  unfold f_M_keeps at hf
  refine jE_in (L0 := [some (.inr (some 104)), some (.inl a1)]) rfl (Nat.le_of_ble_eq_true rfl) rfl (fun d hd => ?_)
  refine jR_in rfl ⟨rfl, rfl, rfl⟩ rfl ?_
  refine js_aload_n rfl ?_
  refine js_aload_n rfl ?_
  refine js_geti rfl rfl rfl ?_
  refine js_iconst (v := (1 : Int32)) rfl ?_
  refine js_iadd ?_
  refine js_puti rfl rfl (Or.inl rfl) ?_
  refine js_aload_n rfl ?_
  refine js_geti rfl rfl rfl ?_
  refine js_ifc (tgt := 29) rfl rfl (fun h => ?_) (fun h => ?_)
  · have hf := jif_t hf h
    refine jR_in rfl ⟨rfl, rfl, rfl⟩ rfl ?_
    refine js_aload_n rfl ?_
    refine js_getr rfl rfl rfl ?_
    refine js_aload_n rfl ?_
    refine js_geti rfl rfl rfl ?_
    refine js_iconst (v := (1 : Int32)) rfl ?_
    refine js_isub ?_
    refine js_iload_n rfl ?_
    obtain ⟨hb3, hf⟩ := jg_some hf
    refine js_iast rfl hb3 ?_
    refine js_iload_n rfl ?_
    obtain rfl := Option.some.inj hf
    exact js_iret rfl rfl
  · have hf := jif_f hf h
    refine js_aload_n rfl ?_
    refine js_getr rfl rfl rfl ?_
    refine js_aload_n rfl ?_
    refine js_geti rfl rfl rfl ?_
    refine js_iconst (v := (1 : Int32)) rfl ?_
    refine js_isub ?_
    obtain ⟨hb4, hf⟩ := jg_some hf
    refine js_iald rfl hb4 ?_
    obtain rfl := Option.some.inj hf
    exact js_iret rfl rfl
/-! SwallowsAirModel.keepsMany()V -/
def f_M_keepsMany (M : jp_M) : Option (jp_M) :=
  (f_M_keeps (M 104 6) M).bind fun q1 => (
  let M2 := jp_set q1.2 104 (upd (q1.2 104) 6 q1.1)
  (f_M_keeps (M2 104 7) M2).bind fun q3 => (
  let M4 := jp_set q3.2 104 (upd (q3.2 104) 7 q3.1)
  (f_M_keeps (M4 104 35) M4).bind fun q5 => (
  let M6 := jp_set q5.2 104 (upd (q5.2 104) 35 q5.1)
  (f_M_keeps (M6 104 37) M6).bind fun q7 => (
  let M8 := jp_set q7.2 104 (upd (q7.2 104) 37 q7.1)
  (f_M_keeps (M8 104 39) M8).bind fun q9 => (
  let M10 := jp_set q9.2 104 (upd (q9.2 104) 39 q9.1)
  (f_M_keeps (M10 104 45) M10).bind fun q11 => (
  let M12 := jp_set q11.2 104 (upd (q11.2 104) 45 q11.1)
  (f_M_keeps (M12 104 49) M12).bind fun q13 => (
  let M14 := jp_set q13.2 104 (upd (q13.2 104) 49 q13.1)
  (f_M_keeps (M14 104 56) M14).bind fun q15 => (
  let M16 := jp_set q15.2 104 (upd (q15.2 104) 56 q15.1)
  some M16))))))))
theorem t_M_keepsMany {Ln : Nat} {xs : Nat → Int32} {sv : jp_V} {w : Nat} {M : jp_M} {res : jp_M} (hf : f_M_keepsMany M = some res) : jE (jZ (jK Ln xs sv)) 1 298 [(.inr (some 104))] (jSH w) M (none, jSH w, res) := by
  unfold f_M_keepsMany at hf
  refine jE_in (L0 := [some (.inr (some 104))]) rfl (Nat.le_of_ble_eq_true rfl) rfl (fun d hd => ?_)
  refine jR_in rfl ⟨rfl, rfl, rfl⟩ rfl ?_
  refine js_aload_n rfl ?_
  refine js_aload_n rfl ?_
  refine js_aload_n rfl ?_
  refine js_geti rfl rfl rfl ?_
  obtain ⟨q1, hc_1, hf⟩ := jbind hf
  refine js_c2i rfl rfl ⟨rfl, rfl⟩ rfl rfl (t_M_keeps hc_1) (by omega) ?_
  refine js_puti rfl rfl (Or.inl rfl) ?_
  refine js_aload_n rfl ?_
  refine js_aload_n rfl ?_
  refine js_aload_n rfl ?_
  refine js_geti rfl rfl rfl ?_
  obtain ⟨q3, hc_3, hf⟩ := jbind hf
  refine js_c2i rfl rfl ⟨rfl, rfl⟩ rfl rfl (t_M_keeps hc_3) (by omega) ?_
  refine js_puti rfl rfl (Or.inl rfl) ?_
  refine js_aload_n rfl ?_
  refine js_aload_n rfl ?_
  refine js_aload_n rfl ?_
  refine js_geti rfl rfl rfl ?_
  obtain ⟨q5, hc_5, hf⟩ := jbind hf
  refine js_c2i rfl rfl ⟨rfl, rfl⟩ rfl rfl (t_M_keeps hc_5) (by omega) ?_
  refine js_puti rfl rfl (Or.inl rfl) ?_
  refine js_aload_n rfl ?_
  refine js_aload_n rfl ?_
  refine js_aload_n rfl ?_
  refine js_geti rfl rfl rfl ?_
  obtain ⟨q7, hc_7, hf⟩ := jbind hf
  refine js_c2i rfl rfl ⟨rfl, rfl⟩ rfl rfl (t_M_keeps hc_7) (by omega) ?_
  refine js_puti rfl rfl (Or.inl rfl) ?_
  refine js_aload_n rfl ?_
  refine js_aload_n rfl ?_
  refine js_aload_n rfl ?_
  refine js_geti rfl rfl rfl ?_
  obtain ⟨q9, hc_9, hf⟩ := jbind hf
  refine js_c2i rfl rfl ⟨rfl, rfl⟩ rfl rfl (t_M_keeps hc_9) (by omega) ?_
  refine js_puti rfl rfl (Or.inl rfl) ?_
  refine js_aload_n rfl ?_
  refine js_aload_n rfl ?_
  refine js_aload_n rfl ?_
  refine js_geti rfl rfl rfl ?_
  obtain ⟨q11, hc_11, hf⟩ := jbind hf
  refine js_c2i rfl rfl ⟨rfl, rfl⟩ rfl rfl (t_M_keeps hc_11) (by omega) ?_
  refine js_puti rfl rfl (Or.inl rfl) ?_
  refine js_aload_n rfl ?_
  refine js_aload_n rfl ?_
  refine js_aload_n rfl ?_
  refine js_geti rfl rfl rfl ?_
  obtain ⟨q13, hc_13, hf⟩ := jbind hf
  refine js_c2i rfl rfl ⟨rfl, rfl⟩ rfl rfl (t_M_keeps hc_13) (by omega) ?_
  refine js_puti rfl rfl (Or.inl rfl) ?_
  refine js_aload_n rfl ?_
  refine js_aload_n rfl ?_
  refine js_aload_n rfl ?_
  refine js_geti rfl rfl rfl ?_
  obtain ⟨q15, hc_15, hf⟩ := jbind hf
  refine js_c2i rfl rfl ⟨rfl, rfl⟩ rfl rfl (t_M_keeps hc_15) (by omega) ?_
  refine js_puti rfl rfl (Or.inl rfl) ?_
  obtain rfl := Option.some.inj hf
  exact js_ret rfl rfl
/-! SwallowsAirModel.keepsTold()V -/
def f_M_keepsTold_314  : Nat → Int32 → jp_M → Option (jp_M)
  | 0, _, _ => none
  | n + 1, l1, M =>
    if jp_c .ge l1 (112 : Int32) = true then (
    some M) else (
    jg (jp_in l1 224) (
    (f_M_keeps (M 122 (Int32.toNatClampNeg l1)) M).bind fun q2 => (
    jg (jp_in l1 224) (
    let M3 := jp_set q2.2 122 (upd (q2.2 122) (Int32.toNatClampNeg l1) q2.1)
    f_M_keepsTold_314 n (l1 + (1 : Int32)) M3))))
theorem t_M_keepsTold_314 {Ln : Nat} {xs : Nat → Int32} {sv : jp_V} {d : Nat} (hd : 1 ≤ d)  : ∀ (n : Nat) (l1 : Int32) (w : Nat) (M : jp_M) {res : jp_M}, f_M_keepsTold_314 n  l1 M = some res → jR (jZ (jK Ln xs sv)) d 299 314 ([some (.inr (some 104)), some (.inl l1)], [], jSH w, M) (none, jSH w, res) := by
  intro n
  induction n with
  | zero =>
    intro l1 w M res hf
    cases hf
  | succ n ih =>
    intro l1 w M res hf
    rw [f_M_keepsTold_314] at hf
    refine jR_in rfl ⟨rfl, rfl, rfl⟩ rfl ?_
    refine js_iload_n rfl ?_
    refine js_bipush (v := (112 : Int32)) rfl ?_
    refine js_icmp (tgt := 342) rfl rfl (fun h => ?_) (fun h => ?_)
    · have hf := jif_t hf h
      refine jR_in rfl ⟨rfl, rfl, rfl⟩ rfl ?_
      obtain rfl := Option.some.inj hf
      exact js_ret rfl rfl
    · have hf := jif_f hf h
      refine js_aload_n rfl ?_
      refine js_getr rfl rfl rfl ?_
      refine js_iload_n rfl ?_
      refine js_aload_n rfl ?_
      refine js_aload_n rfl ?_
      refine js_getr rfl rfl rfl ?_
      refine js_iload_n rfl ?_
      obtain ⟨hb1, hf⟩ := jg_some hf
      refine js_iald rfl hb1 ?_
      obtain ⟨q2, hc_2, hf⟩ := jbind hf
      refine js_c2i rfl rfl ⟨rfl, rfl⟩ rfl rfl (t_M_keeps hc_2) (by omega) ?_
      obtain ⟨hb4, hf⟩ := jg_some hf
      refine js_iast rfl hb4 ?_
      refine js_iinc (v := (1 : Int32)) rfl rfl rfl rfl ?_
      refine js_goto (tgt := 314) rfl rfl ?_
      exact ih _ _ _ hf
def f_M_keepsTold_284  : Nat → Int32 → jp_M → Option (jp_M)
  | 0, _, _ => none
  | n + 1, l1, M =>
    if jp_c .ge l1 (36 : Int32) = true then (
    f_M_keepsTold_314 jFu (0 : Int32) M) else (
    jg (jp_in l1 36) (
    (f_M_keeps (M 135 (Int32.toNatClampNeg l1)) M).bind fun q2 => (
    jg (jp_in l1 36) (
    let M3 := jp_set q2.2 135 (upd (q2.2 135) (Int32.toNatClampNeg l1) q2.1)
    f_M_keepsTold_284 n (l1 + (1 : Int32)) M3))))
theorem t_M_keepsTold_284 {Ln : Nat} {xs : Nat → Int32} {sv : jp_V} {d : Nat} (hd : 1 ≤ d)  : ∀ (n : Nat) (l1 : Int32) (w : Nat) (M : jp_M) {res : jp_M}, f_M_keepsTold_284 n  l1 M = some res → jR (jZ (jK Ln xs sv)) d 299 284 ([some (.inr (some 104)), some (.inl l1)], [], jSH w, M) (none, jSH w, res) := by
  intro n
  induction n with
  | zero =>
    intro l1 w M res hf
    cases hf
  | succ n ih =>
    intro l1 w M res hf
    rw [f_M_keepsTold_284] at hf
    refine jR_in rfl ⟨rfl, rfl, rfl⟩ rfl ?_
    refine js_iload_n rfl ?_
    refine js_bipush (v := (36 : Int32)) rfl ?_
    refine js_icmp (tgt := 312) rfl rfl (fun h => ?_) (fun h => ?_)
    · have hf := jif_t hf h
      refine jR_in rfl ⟨rfl, rfl, rfl⟩ rfl ?_
      refine js_iconst (v := (0 : Int32)) rfl ?_
      refine js_istore_n rfl rfl ?_
      exact jS_out rfl ⟨rfl, rfl, rfl⟩ rfl (t_M_keepsTold_314 hd jFu _ _ _ hf)
    · have hf := jif_f hf h
      refine js_aload_n rfl ?_
      refine js_getr rfl rfl rfl ?_
      refine js_iload_n rfl ?_
      refine js_aload_n rfl ?_
      refine js_aload_n rfl ?_
      refine js_getr rfl rfl rfl ?_
      refine js_iload_n rfl ?_
      obtain ⟨hb1, hf⟩ := jg_some hf
      refine js_iald rfl hb1 ?_
      obtain ⟨q2, hc_2, hf⟩ := jbind hf
      refine js_c2i rfl rfl ⟨rfl, rfl⟩ rfl rfl (t_M_keeps hc_2) (by omega) ?_
      obtain ⟨hb4, hf⟩ := jg_some hf
      refine js_iast rfl hb4 ?_
      refine js_iinc (v := (1 : Int32)) rfl rfl rfl rfl ?_
      refine js_goto (tgt := 284) rfl rfl ?_
      exact ih _ _ _ hf
def f_M_keepsTold_254  : Nat → Int32 → jp_M → Option (jp_M)
  | 0, _, _ => none
  | n + 1, l1, M =>
    if jp_c .ge l1 (16 : Int32) = true then (
    f_M_keepsTold_284 jFu (0 : Int32) M) else (
    jg (jp_in l1 32) (
    (f_M_keeps (M 124 (Int32.toNatClampNeg l1)) M).bind fun q2 => (
    jg (jp_in l1 32) (
    let M3 := jp_set q2.2 124 (upd (q2.2 124) (Int32.toNatClampNeg l1) q2.1)
    f_M_keepsTold_254 n (l1 + (1 : Int32)) M3))))
theorem t_M_keepsTold_254 {Ln : Nat} {xs : Nat → Int32} {sv : jp_V} {d : Nat} (hd : 1 ≤ d)  : ∀ (n : Nat) (l1 : Int32) (w : Nat) (M : jp_M) {res : jp_M}, f_M_keepsTold_254 n  l1 M = some res → jR (jZ (jK Ln xs sv)) d 299 254 ([some (.inr (some 104)), some (.inl l1)], [], jSH w, M) (none, jSH w, res) := by
  intro n
  induction n with
  | zero =>
    intro l1 w M res hf
    cases hf
  | succ n ih =>
    intro l1 w M res hf
    rw [f_M_keepsTold_254] at hf
    refine jR_in rfl ⟨rfl, rfl, rfl⟩ rfl ?_
    refine js_iload_n rfl ?_
    refine js_bipush (v := (16 : Int32)) rfl ?_
    refine js_icmp (tgt := 282) rfl rfl (fun h => ?_) (fun h => ?_)
    · have hf := jif_t hf h
      refine jR_in rfl ⟨rfl, rfl, rfl⟩ rfl ?_
      refine js_iconst (v := (0 : Int32)) rfl ?_
      refine js_istore_n rfl rfl ?_
      exact jS_out rfl ⟨rfl, rfl, rfl⟩ rfl (t_M_keepsTold_284 hd jFu _ _ _ hf)
    · have hf := jif_f hf h
      refine js_aload_n rfl ?_
      refine js_getr rfl rfl rfl ?_
      refine js_iload_n rfl ?_
      refine js_aload_n rfl ?_
      refine js_aload_n rfl ?_
      refine js_getr rfl rfl rfl ?_
      refine js_iload_n rfl ?_
      obtain ⟨hb1, hf⟩ := jg_some hf
      refine js_iald rfl hb1 ?_
      obtain ⟨q2, hc_2, hf⟩ := jbind hf
      refine js_c2i rfl rfl ⟨rfl, rfl⟩ rfl rfl (t_M_keeps hc_2) (by omega) ?_
      obtain ⟨hb4, hf⟩ := jg_some hf
      refine js_iast rfl hb4 ?_
      refine js_iinc (v := (1 : Int32)) rfl rfl rfl rfl ?_
      refine js_goto (tgt := 254) rfl rfl ?_
      exact ih _ _ _ hf
def f_M_keepsTold_128  : Nat → Int32 → jp_M → Option (jp_M)
  | 0, _, _ => none
  | n + 1, l1, M =>
    if jp_c .ge l1 (8 : Int32) = true then (
    f_M_keepsTold_254 jFu (0 : Int32) M) else (
    jg (jp_in l1 8) (
    (f_M_keeps (M 129 (Int32.toNatClampNeg l1)) M).bind fun q2 => (
    jg (jp_in l1 8) (
    let M3 := jp_set q2.2 129 (upd (q2.2 129) (Int32.toNatClampNeg l1) q2.1)
    jg (jp_in l1 8) (
    (f_M_keeps (M3 130 (Int32.toNatClampNeg l1)) M3).bind fun q6 => (
    jg (jp_in l1 8) (
    let M7 := jp_set q6.2 130 (upd (q6.2 130) (Int32.toNatClampNeg l1) q6.1)
    jg (jp_in l1 8) (
    (f_M_keeps (M7 131 (Int32.toNatClampNeg l1)) M7).bind fun q10 => (
    jg (jp_in l1 8) (
    let M11 := jp_set q10.2 131 (upd (q10.2 131) (Int32.toNatClampNeg l1) q10.1)
    jg (jp_in l1 8) (
    (f_M_keeps (M11 138 (Int32.toNatClampNeg l1)) M11).bind fun q14 => (
    jg (jp_in l1 8) (
    let M15 := jp_set q14.2 138 (upd (q14.2 138) (Int32.toNatClampNeg l1) q14.1)
    jg (jp_in l1 8) (
    (f_M_keeps (M15 139 (Int32.toNatClampNeg l1)) M15).bind fun q18 => (
    jg (jp_in l1 8) (
    let M19 := jp_set q18.2 139 (upd (q18.2 139) (Int32.toNatClampNeg l1) q18.1)
    jg (jp_in l1 8) (
    (f_M_keeps (M19 140 (Int32.toNatClampNeg l1)) M19).bind fun q22 => (
    jg (jp_in l1 8) (
    let M23 := jp_set q22.2 140 (upd (q22.2 140) (Int32.toNatClampNeg l1) q22.1)
    jg (jp_in l1 8) (
    (f_M_keeps (M23 141 (Int32.toNatClampNeg l1)) M23).bind fun q26 => (
    jg (jp_in l1 8) (
    let M27 := jp_set q26.2 141 (upd (q26.2 141) (Int32.toNatClampNeg l1) q26.1)
    f_M_keepsTold_128 n (l1 + (1 : Int32)) M27))))))))))))))))))))))
theorem t_M_keepsTold_128 {Ln : Nat} {xs : Nat → Int32} {sv : jp_V} {d : Nat} (hd : 1 ≤ d)  : ∀ (n : Nat) (l1 : Int32) (w : Nat) (M : jp_M) {res : jp_M}, f_M_keepsTold_128 n  l1 M = some res → jR (jZ (jK Ln xs sv)) d 299 128 ([some (.inr (some 104)), some (.inl l1)], [], jSH w, M) (none, jSH w, res) := by
  intro n
  induction n with
  | zero =>
    intro l1 w M res hf
    cases hf
  | succ n ih =>
    intro l1 w M res hf
    rw [f_M_keepsTold_128] at hf
    refine jR_in rfl ⟨rfl, rfl, rfl⟩ rfl ?_
    refine js_iload_n rfl ?_
    refine js_bipush (v := (8 : Int32)) rfl ?_
    refine js_icmp (tgt := 252) rfl rfl (fun h => ?_) (fun h => ?_)
    · have hf := jif_t hf h
      refine jR_in rfl ⟨rfl, rfl, rfl⟩ rfl ?_
      refine js_iconst (v := (0 : Int32)) rfl ?_
      refine js_istore_n rfl rfl ?_
      exact jS_out rfl ⟨rfl, rfl, rfl⟩ rfl (t_M_keepsTold_254 hd jFu _ _ _ hf)
    · have hf := jif_f hf h
      refine js_aload_n rfl ?_
      refine js_getr rfl rfl rfl ?_
      refine js_iload_n rfl ?_
      refine js_aload_n rfl ?_
      refine js_aload_n rfl ?_
      refine js_getr rfl rfl rfl ?_
      refine js_iload_n rfl ?_
      obtain ⟨hb1, hf⟩ := jg_some hf
      refine js_iald rfl hb1 ?_
      obtain ⟨q2, hc_2, hf⟩ := jbind hf
      refine js_c2i rfl rfl ⟨rfl, rfl⟩ rfl rfl (t_M_keeps hc_2) (by omega) ?_
      obtain ⟨hb4, hf⟩ := jg_some hf
      refine js_iast rfl hb4 ?_
      refine js_aload_n rfl ?_
      refine js_getr rfl rfl rfl ?_
      refine js_iload_n rfl ?_
      refine js_aload_n rfl ?_
      refine js_aload_n rfl ?_
      refine js_getr rfl rfl rfl ?_
      refine js_iload_n rfl ?_
      obtain ⟨hb5, hf⟩ := jg_some hf
      refine js_iald rfl hb5 ?_
      obtain ⟨q6, hc_6, hf⟩ := jbind hf
      refine js_c2i rfl rfl ⟨rfl, rfl⟩ rfl rfl (t_M_keeps hc_6) (by omega) ?_
      obtain ⟨hb8, hf⟩ := jg_some hf
      refine js_iast rfl hb8 ?_
      refine js_aload_n rfl ?_
      refine js_getr rfl rfl rfl ?_
      refine js_iload_n rfl ?_
      refine js_aload_n rfl ?_
      refine js_aload_n rfl ?_
      refine js_getr rfl rfl rfl ?_
      refine js_iload_n rfl ?_
      obtain ⟨hb9, hf⟩ := jg_some hf
      refine js_iald rfl hb9 ?_
      obtain ⟨q10, hc_10, hf⟩ := jbind hf
      refine js_c2i rfl rfl ⟨rfl, rfl⟩ rfl rfl (t_M_keeps hc_10) (by omega) ?_
      obtain ⟨hb12, hf⟩ := jg_some hf
      refine js_iast rfl hb12 ?_
      refine js_aload_n rfl ?_
      refine js_getr rfl rfl rfl ?_
      refine js_iload_n rfl ?_
      refine js_aload_n rfl ?_
      refine js_aload_n rfl ?_
      refine js_getr rfl rfl rfl ?_
      refine js_iload_n rfl ?_
      obtain ⟨hb13, hf⟩ := jg_some hf
      refine js_iald rfl hb13 ?_
      obtain ⟨q14, hc_14, hf⟩ := jbind hf
      refine js_c2i rfl rfl ⟨rfl, rfl⟩ rfl rfl (t_M_keeps hc_14) (by omega) ?_
      obtain ⟨hb16, hf⟩ := jg_some hf
      refine js_iast rfl hb16 ?_
      refine js_aload_n rfl ?_
      refine js_getr rfl rfl rfl ?_
      refine js_iload_n rfl ?_
      refine js_aload_n rfl ?_
      refine js_aload_n rfl ?_
      refine js_getr rfl rfl rfl ?_
      refine js_iload_n rfl ?_
      obtain ⟨hb17, hf⟩ := jg_some hf
      refine js_iald rfl hb17 ?_
      obtain ⟨q18, hc_18, hf⟩ := jbind hf
      refine js_c2i rfl rfl ⟨rfl, rfl⟩ rfl rfl (t_M_keeps hc_18) (by omega) ?_
      obtain ⟨hb20, hf⟩ := jg_some hf
      refine js_iast rfl hb20 ?_
      refine js_aload_n rfl ?_
      refine js_getr rfl rfl rfl ?_
      refine js_iload_n rfl ?_
      refine js_aload_n rfl ?_
      refine js_aload_n rfl ?_
      refine js_getr rfl rfl rfl ?_
      refine js_iload_n rfl ?_
      obtain ⟨hb21, hf⟩ := jg_some hf
      refine js_iald rfl hb21 ?_
      obtain ⟨q22, hc_22, hf⟩ := jbind hf
      refine js_c2i rfl rfl ⟨rfl, rfl⟩ rfl rfl (t_M_keeps hc_22) (by omega) ?_
      obtain ⟨hb24, hf⟩ := jg_some hf
      refine js_iast rfl hb24 ?_
      refine js_aload_n rfl ?_
      refine js_getr rfl rfl rfl ?_
      refine js_iload_n rfl ?_
      refine js_aload_n rfl ?_
      refine js_aload_n rfl ?_
      refine js_getr rfl rfl rfl ?_
      refine js_iload_n rfl ?_
      obtain ⟨hb25, hf⟩ := jg_some hf
      refine js_iald rfl hb25 ?_
      obtain ⟨q26, hc_26, hf⟩ := jbind hf
      refine js_c2i rfl rfl ⟨rfl, rfl⟩ rfl rfl (t_M_keeps hc_26) (by omega) ?_
      obtain ⟨hb28, hf⟩ := jg_some hf
      refine js_iast rfl hb28 ?_
      refine js_iinc (v := (1 : Int32)) rfl rfl rfl rfl ?_
      refine js_goto (tgt := 128) rfl rfl ?_
      exact ih _ _ _ hf
def f_M_keepsTold_2  : Nat → Int32 → jp_M → Option (jp_M)
  | 0, _, _ => none
  | n + 1, l1, M =>
    if jp_c .ge l1 (10 : Int32) = true then (
    f_M_keepsTold_128 jFu (0 : Int32) M) else (
    jg (jp_in l1 10) (
    (f_M_keeps (M 108 (Int32.toNatClampNeg l1)) M).bind fun q2 => (
    jg (jp_in l1 10) (
    let M3 := jp_set q2.2 108 (upd (q2.2 108) (Int32.toNatClampNeg l1) q2.1)
    jg (jp_in l1 10) (
    (f_M_keeps (M3 109 (Int32.toNatClampNeg l1)) M3).bind fun q6 => (
    jg (jp_in l1 10) (
    let M7 := jp_set q6.2 109 (upd (q6.2 109) (Int32.toNatClampNeg l1) q6.1)
    jg (jp_in l1 10) (
    (f_M_keeps (M7 110 (Int32.toNatClampNeg l1)) M7).bind fun q10 => (
    jg (jp_in l1 10) (
    let M11 := jp_set q10.2 110 (upd (q10.2 110) (Int32.toNatClampNeg l1) q10.1)
    jg (jp_in l1 20) (
    (f_M_keeps (M11 123 (Int32.toNatClampNeg l1)) M11).bind fun q14 => (
    jg (jp_in l1 20) (
    let M15 := jp_set q14.2 123 (upd (q14.2 123) (Int32.toNatClampNeg l1) q14.1)
    jg (jp_in l1 10) (
    (f_M_keeps (M15 132 (Int32.toNatClampNeg l1)) M15).bind fun q18 => (
    jg (jp_in l1 10) (
    let M19 := jp_set q18.2 132 (upd (q18.2 132) (Int32.toNatClampNeg l1) q18.1)
    jg (jp_in l1 10) (
    (f_M_keeps (M19 133 (Int32.toNatClampNeg l1)) M19).bind fun q22 => (
    jg (jp_in l1 10) (
    let M23 := jp_set q22.2 133 (upd (q22.2 133) (Int32.toNatClampNeg l1) q22.1)
    jg (jp_in l1 10) (
    (f_M_keeps (M23 137 (Int32.toNatClampNeg l1)) M23).bind fun q26 => (
    jg (jp_in l1 10) (
    let M27 := jp_set q26.2 137 (upd (q26.2 137) (Int32.toNatClampNeg l1) q26.1)
    f_M_keepsTold_2 n (l1 + (1 : Int32)) M27))))))))))))))))))))))
theorem t_M_keepsTold_2 {Ln : Nat} {xs : Nat → Int32} {sv : jp_V} {d : Nat} (hd : 1 ≤ d)  : ∀ (n : Nat) (l1 : Int32) (w : Nat) (M : jp_M) {res : jp_M}, f_M_keepsTold_2 n  l1 M = some res → jR (jZ (jK Ln xs sv)) d 299 2 ([some (.inr (some 104)), some (.inl l1)], [], jSH w, M) (none, jSH w, res) := by
  intro n
  induction n with
  | zero =>
    intro l1 w M res hf
    cases hf
  | succ n ih =>
    intro l1 w M res hf
    rw [f_M_keepsTold_2] at hf
    refine jR_in rfl ⟨rfl, rfl, rfl⟩ rfl ?_
    refine js_iload_n rfl ?_
    refine js_bipush (v := (10 : Int32)) rfl ?_
    refine js_icmp (tgt := 126) rfl rfl (fun h => ?_) (fun h => ?_)
    · have hf := jif_t hf h
      refine jR_in rfl ⟨rfl, rfl, rfl⟩ rfl ?_
      refine js_iconst (v := (0 : Int32)) rfl ?_
      refine js_istore_n rfl rfl ?_
      exact jS_out rfl ⟨rfl, rfl, rfl⟩ rfl (t_M_keepsTold_128 hd jFu _ _ _ hf)
    · have hf := jif_f hf h
      refine js_aload_n rfl ?_
      refine js_getr rfl rfl rfl ?_
      refine js_iload_n rfl ?_
      refine js_aload_n rfl ?_
      refine js_aload_n rfl ?_
      refine js_getr rfl rfl rfl ?_
      refine js_iload_n rfl ?_
      obtain ⟨hb1, hf⟩ := jg_some hf
      refine js_iald rfl hb1 ?_
      obtain ⟨q2, hc_2, hf⟩ := jbind hf
      refine js_c2i rfl rfl ⟨rfl, rfl⟩ rfl rfl (t_M_keeps hc_2) (by omega) ?_
      obtain ⟨hb4, hf⟩ := jg_some hf
      refine js_iast rfl hb4 ?_
      refine js_aload_n rfl ?_
      refine js_getr rfl rfl rfl ?_
      refine js_iload_n rfl ?_
      refine js_aload_n rfl ?_
      refine js_aload_n rfl ?_
      refine js_getr rfl rfl rfl ?_
      refine js_iload_n rfl ?_
      obtain ⟨hb5, hf⟩ := jg_some hf
      refine js_iald rfl hb5 ?_
      obtain ⟨q6, hc_6, hf⟩ := jbind hf
      refine js_c2i rfl rfl ⟨rfl, rfl⟩ rfl rfl (t_M_keeps hc_6) (by omega) ?_
      obtain ⟨hb8, hf⟩ := jg_some hf
      refine js_iast rfl hb8 ?_
      refine js_aload_n rfl ?_
      refine js_getr rfl rfl rfl ?_
      refine js_iload_n rfl ?_
      refine js_aload_n rfl ?_
      refine js_aload_n rfl ?_
      refine js_getr rfl rfl rfl ?_
      refine js_iload_n rfl ?_
      obtain ⟨hb9, hf⟩ := jg_some hf
      refine js_iald rfl hb9 ?_
      obtain ⟨q10, hc_10, hf⟩ := jbind hf
      refine js_c2i rfl rfl ⟨rfl, rfl⟩ rfl rfl (t_M_keeps hc_10) (by omega) ?_
      obtain ⟨hb12, hf⟩ := jg_some hf
      refine js_iast rfl hb12 ?_
      refine js_aload_n rfl ?_
      refine js_getr rfl rfl rfl ?_
      refine js_iload_n rfl ?_
      refine js_aload_n rfl ?_
      refine js_aload_n rfl ?_
      refine js_getr rfl rfl rfl ?_
      refine js_iload_n rfl ?_
      obtain ⟨hb13, hf⟩ := jg_some hf
      refine js_iald rfl hb13 ?_
      obtain ⟨q14, hc_14, hf⟩ := jbind hf
      refine js_c2i rfl rfl ⟨rfl, rfl⟩ rfl rfl (t_M_keeps hc_14) (by omega) ?_
      obtain ⟨hb16, hf⟩ := jg_some hf
      refine js_iast rfl hb16 ?_
      refine js_aload_n rfl ?_
      refine js_getr rfl rfl rfl ?_
      refine js_iload_n rfl ?_
      refine js_aload_n rfl ?_
      refine js_aload_n rfl ?_
      refine js_getr rfl rfl rfl ?_
      refine js_iload_n rfl ?_
      obtain ⟨hb17, hf⟩ := jg_some hf
      refine js_iald rfl hb17 ?_
      obtain ⟨q18, hc_18, hf⟩ := jbind hf
      refine js_c2i rfl rfl ⟨rfl, rfl⟩ rfl rfl (t_M_keeps hc_18) (by omega) ?_
      obtain ⟨hb20, hf⟩ := jg_some hf
      refine js_iast rfl hb20 ?_
      refine js_aload_n rfl ?_
      refine js_getr rfl rfl rfl ?_
      refine js_iload_n rfl ?_
      refine js_aload_n rfl ?_
      refine js_aload_n rfl ?_
      refine js_getr rfl rfl rfl ?_
      refine js_iload_n rfl ?_
      obtain ⟨hb21, hf⟩ := jg_some hf
      refine js_iald rfl hb21 ?_
      obtain ⟨q22, hc_22, hf⟩ := jbind hf
      refine js_c2i rfl rfl ⟨rfl, rfl⟩ rfl rfl (t_M_keeps hc_22) (by omega) ?_
      obtain ⟨hb24, hf⟩ := jg_some hf
      refine js_iast rfl hb24 ?_
      refine js_aload_n rfl ?_
      refine js_getr rfl rfl rfl ?_
      refine js_iload_n rfl ?_
      refine js_aload_n rfl ?_
      refine js_aload_n rfl ?_
      refine js_getr rfl rfl rfl ?_
      refine js_iload_n rfl ?_
      obtain ⟨hb25, hf⟩ := jg_some hf
      refine js_iald rfl hb25 ?_
      obtain ⟨q26, hc_26, hf⟩ := jbind hf
      refine js_c2i rfl rfl ⟨rfl, rfl⟩ rfl rfl (t_M_keeps hc_26) (by omega) ?_
      obtain ⟨hb28, hf⟩ := jg_some hf
      refine js_iast rfl hb28 ?_
      refine js_iinc (v := (1 : Int32)) rfl rfl rfl rfl ?_
      refine js_goto (tgt := 2) rfl rfl ?_
      exact ih _ _ _ hf
def f_M_keepsTold (M : jp_M) : Option (jp_M) :=
  f_M_keepsTold_2 jFu (0 : Int32) M
theorem t_M_keepsTold {Ln : Nat} {xs : Nat → Int32} {sv : jp_V} {w : Nat} {M : jp_M} {res : jp_M} (hf : f_M_keepsTold M = some res) : jE (jZ (jK Ln xs sv)) 1 299 [(.inr (some 104))] (jSH w) M (none, jSH w, res) := by
  unfold f_M_keepsTold at hf
  refine jE_in (L0 := [some (.inr (some 104)), none]) rfl (Nat.le_of_ble_eq_true rfl) rfl (fun d hd => ?_)
  refine jR_in rfl ⟨rfl, rfl, rfl⟩ rfl ?_
  refine js_iconst (v := (0 : Int32)) rfl ?_
  refine js_istore_n rfl rfl ?_
  exact jS_out rfl ⟨rfl, rfl, rfl⟩ rfl (t_M_keepsTold_2 hd jFu _ _ _ hf)
/-! SwallowsAirModel.keepsLaw()V -/
def f_M_keepsLaw_96  : Nat → Int32 → jp_M → Option (jp_M)
  | 0, _, _ => none
  | n + 1, l1, M =>
    if jp_c .ge l1 (400 : Int32) = true then (
    some M) else (
    jg (jp_in l1 1200) (
    (f_M_keeps (M 119 (Int32.toNatClampNeg l1)) M).bind fun q2 => (
    jg (jp_in l1 1200) (
    let M3 := jp_set q2.2 119 (upd (q2.2 119) (Int32.toNatClampNeg l1) q2.1)
    jg (jp_in l1 1200) (
    (f_M_keeps (M3 120 (Int32.toNatClampNeg l1)) M3).bind fun q6 => (
    jg (jp_in l1 1200) (
    let M7 := jp_set q6.2 120 (upd (q6.2 120) (Int32.toNatClampNeg l1) q6.1)
    f_M_keepsLaw_96 n (l1 + (1 : Int32)) M7)))))))
theorem t_M_keepsLaw_96 {Ln : Nat} {xs : Nat → Int32} {sv : jp_V} {d : Nat} (hd : 1 ≤ d)  : ∀ (n : Nat) (l1 : Int32) (w : Nat) (M : jp_M) {res : jp_M}, f_M_keepsLaw_96 n  l1 M = some res → jR (jZ (jK Ln xs sv)) d 297 96 ([some (.inr (some 104)), some (.inl l1)], [], jSH w, M) (none, jSH w, res) := by
  intro n
  induction n with
  | zero =>
    intro l1 w M res hf
    cases hf
  | succ n ih =>
    intro l1 w M res hf
    rw [f_M_keepsLaw_96] at hf
    refine jR_in rfl ⟨rfl, rfl, rfl⟩ rfl ?_
    refine js_iload_n rfl ?_
    refine js_sipush (v := (400 : Int32)) rfl ?_
    refine js_icmp (tgt := 141) rfl rfl (fun h => ?_) (fun h => ?_)
    · have hf := jif_t hf h
      refine jR_in rfl ⟨rfl, rfl, rfl⟩ rfl ?_
      obtain rfl := Option.some.inj hf
      exact js_ret rfl rfl
    · have hf := jif_f hf h
      refine js_aload_n rfl ?_
      refine js_getr rfl rfl rfl ?_
      refine js_iload_n rfl ?_
      refine js_aload_n rfl ?_
      refine js_aload_n rfl ?_
      refine js_getr rfl rfl rfl ?_
      refine js_iload_n rfl ?_
      obtain ⟨hb1, hf⟩ := jg_some hf
      refine js_iald rfl hb1 ?_
      obtain ⟨q2, hc_2, hf⟩ := jbind hf
      refine js_c2i rfl rfl ⟨rfl, rfl⟩ rfl rfl (t_M_keeps hc_2) (by omega) ?_
      obtain ⟨hb4, hf⟩ := jg_some hf
      refine js_iast rfl hb4 ?_
      refine js_aload_n rfl ?_
      refine js_getr rfl rfl rfl ?_
      refine js_iload_n rfl ?_
      refine js_aload_n rfl ?_
      refine js_aload_n rfl ?_
      refine js_getr rfl rfl rfl ?_
      refine js_iload_n rfl ?_
      obtain ⟨hb5, hf⟩ := jg_some hf
      refine js_iald rfl hb5 ?_
      obtain ⟨q6, hc_6, hf⟩ := jbind hf
      refine js_c2i rfl rfl ⟨rfl, rfl⟩ rfl rfl (t_M_keeps hc_6) (by omega) ?_
      obtain ⟨hb8, hf⟩ := jg_some hf
      refine js_iast rfl hb8 ?_
      refine js_iinc (v := (1 : Int32)) rfl rfl rfl rfl ?_
      refine js_goto (tgt := 96) rfl rfl ?_
      exact ih _ _ _ hf
def f_M_keepsLaw_18  : Nat → Int32 → jp_M → Option (jp_M)
  | 0, _, _ => none
  | n + 1, l1, M =>
    if jp_c .ge l1 (16 : Int32) = true then (
    f_M_keepsLaw_96 jFu (0 : Int32) M) else (
    jg (jp_in l1 48) (
    (f_M_keeps (M 115 (Int32.toNatClampNeg l1)) M).bind fun q2 => (
    jg (jp_in l1 48) (
    let M3 := jp_set q2.2 115 (upd (q2.2 115) (Int32.toNatClampNeg l1) q2.1)
    jg (jp_in l1 48) (
    (f_M_keeps (M3 116 (Int32.toNatClampNeg l1)) M3).bind fun q6 => (
    jg (jp_in l1 48) (
    let M7 := jp_set q6.2 116 (upd (q6.2 116) (Int32.toNatClampNeg l1) q6.1)
    jg (jp_in l1 48) (
    (f_M_keeps (M7 117 (Int32.toNatClampNeg l1)) M7).bind fun q10 => (
    jg (jp_in l1 48) (
    let M11 := jp_set q10.2 117 (upd (q10.2 117) (Int32.toNatClampNeg l1) q10.1)
    jg (jp_in l1 48) (
    (f_M_keeps (M11 118 (Int32.toNatClampNeg l1)) M11).bind fun q14 => (
    jg (jp_in l1 48) (
    let M15 := jp_set q14.2 118 (upd (q14.2 118) (Int32.toNatClampNeg l1) q14.1)
    f_M_keepsLaw_18 n (l1 + (1 : Int32)) M15)))))))))))))
theorem t_M_keepsLaw_18 {Ln : Nat} {xs : Nat → Int32} {sv : jp_V} {d : Nat} (hd : 1 ≤ d)  : ∀ (n : Nat) (l1 : Int32) (w : Nat) (M : jp_M) {res : jp_M}, f_M_keepsLaw_18 n  l1 M = some res → jR (jZ (jK Ln xs sv)) d 297 18 ([some (.inr (some 104)), some (.inl l1)], [], jSH w, M) (none, jSH w, res) := by
  intro n
  induction n with
  | zero =>
    intro l1 w M res hf
    cases hf
  | succ n ih =>
    intro l1 w M res hf
    rw [f_M_keepsLaw_18] at hf
    refine jR_in rfl ⟨rfl, rfl, rfl⟩ rfl ?_
    refine js_iload_n rfl ?_
    refine js_bipush (v := (16 : Int32)) rfl ?_
    refine js_icmp (tgt := 94) rfl rfl (fun h => ?_) (fun h => ?_)
    · have hf := jif_t hf h
      refine jR_in rfl ⟨rfl, rfl, rfl⟩ rfl ?_
      refine js_iconst (v := (0 : Int32)) rfl ?_
      refine js_istore_n rfl rfl ?_
      exact jS_out rfl ⟨rfl, rfl, rfl⟩ rfl (t_M_keepsLaw_96 hd jFu _ _ _ hf)
    · have hf := jif_f hf h
      refine js_aload_n rfl ?_
      refine js_getr rfl rfl rfl ?_
      refine js_iload_n rfl ?_
      refine js_aload_n rfl ?_
      refine js_aload_n rfl ?_
      refine js_getr rfl rfl rfl ?_
      refine js_iload_n rfl ?_
      obtain ⟨hb1, hf⟩ := jg_some hf
      refine js_iald rfl hb1 ?_
      obtain ⟨q2, hc_2, hf⟩ := jbind hf
      refine js_c2i rfl rfl ⟨rfl, rfl⟩ rfl rfl (t_M_keeps hc_2) (by omega) ?_
      obtain ⟨hb4, hf⟩ := jg_some hf
      refine js_iast rfl hb4 ?_
      refine js_aload_n rfl ?_
      refine js_getr rfl rfl rfl ?_
      refine js_iload_n rfl ?_
      refine js_aload_n rfl ?_
      refine js_aload_n rfl ?_
      refine js_getr rfl rfl rfl ?_
      refine js_iload_n rfl ?_
      obtain ⟨hb5, hf⟩ := jg_some hf
      refine js_iald rfl hb5 ?_
      obtain ⟨q6, hc_6, hf⟩ := jbind hf
      refine js_c2i rfl rfl ⟨rfl, rfl⟩ rfl rfl (t_M_keeps hc_6) (by omega) ?_
      obtain ⟨hb8, hf⟩ := jg_some hf
      refine js_iast rfl hb8 ?_
      refine js_aload_n rfl ?_
      refine js_getr rfl rfl rfl ?_
      refine js_iload_n rfl ?_
      refine js_aload_n rfl ?_
      refine js_aload_n rfl ?_
      refine js_getr rfl rfl rfl ?_
      refine js_iload_n rfl ?_
      obtain ⟨hb9, hf⟩ := jg_some hf
      refine js_iald rfl hb9 ?_
      obtain ⟨q10, hc_10, hf⟩ := jbind hf
      refine js_c2i rfl rfl ⟨rfl, rfl⟩ rfl rfl (t_M_keeps hc_10) (by omega) ?_
      obtain ⟨hb12, hf⟩ := jg_some hf
      refine js_iast rfl hb12 ?_
      refine js_aload_n rfl ?_
      refine js_getr rfl rfl rfl ?_
      refine js_iload_n rfl ?_
      refine js_aload_n rfl ?_
      refine js_aload_n rfl ?_
      refine js_getr rfl rfl rfl ?_
      refine js_iload_n rfl ?_
      obtain ⟨hb13, hf⟩ := jg_some hf
      refine js_iald rfl hb13 ?_
      obtain ⟨q14, hc_14, hf⟩ := jbind hf
      refine js_c2i rfl rfl ⟨rfl, rfl⟩ rfl rfl (t_M_keeps hc_14) (by omega) ?_
      obtain ⟨hb16, hf⟩ := jg_some hf
      refine js_iast rfl hb16 ?_
      refine js_iinc (v := (1 : Int32)) rfl rfl rfl rfl ?_
      refine js_goto (tgt := 18) rfl rfl ?_
      exact ih _ _ _ hf
def f_M_keepsLaw (M : jp_M) : Option (jp_M) :=
  (f_M_keeps (M 114 0) M).bind fun q1 => (
  let M2 := jp_set q1.2 114 (upd (q1.2 114) 0 q1.1)
  f_M_keepsLaw_18 jFu (0 : Int32) M2)
theorem t_M_keepsLaw {Ln : Nat} {xs : Nat → Int32} {sv : jp_V} {w : Nat} {M : jp_M} {res : jp_M} (hf : f_M_keepsLaw M = some res) : jE (jZ (jK Ln xs sv)) 1 297 [(.inr (some 104))] (jSH w) M (none, jSH w, res) := by
  unfold f_M_keepsLaw at hf
  refine jE_in (L0 := [some (.inr (some 104)), none]) rfl (Nat.le_of_ble_eq_true rfl) rfl (fun d hd => ?_)
  refine jR_in rfl ⟨rfl, rfl, rfl⟩ rfl ?_
  refine js_aload_n rfl ?_
  refine js_getr rfl rfl rfl ?_
  refine js_iconst (v := (0 : Int32)) rfl ?_
  refine js_aload_n rfl ?_
  refine js_aload_n rfl ?_
  refine js_getr rfl rfl rfl ?_
  refine js_iconst (v := (0 : Int32)) rfl ?_
  refine js_iald rfl (by decide) ?_
  obtain ⟨q1, hc_1, hf⟩ := jbind hf
  refine js_c2i rfl rfl ⟨rfl, rfl⟩ rfl rfl (t_M_keeps hc_1) (by omega) ?_
  refine js_iast rfl (by decide) ?_
  refine js_iconst (v := (0 : Int32)) rfl ?_
  refine js_istore_n rfl rfl ?_
  exact jS_out rfl ⟨rfl, rfl, rfl⟩ rfl (t_M_keepsLaw_18 hd jFu _ _ _ hf)
/-! SwallowsAirModel.image(Z)Z -/
def f_M_image_74  : Nat → Int32 → Int32 → jp_M → Option (Int32 × jp_M)
  | 0, _, _, _ => none
  | n + 1, l1, l2, M =>
    if jp_c .ge l2 (600 : Int32) = true then (
    (f_M_keepsLaw M).bind fun q1 => (
    if jp_c .ne l1 0 = true then (
    some ((1 : Int32), q1)) else (
    let M2 := jp_set q1 104 (upd (q1 104) 3 (0 : Int32))
    some ((1 : Int32), M2)))) else (
    jg (jp_in l2 600) (
    (f_M_keeps (M 111 (Int32.toNatClampNeg l2)) M).bind fun q4 => (
    jg (jp_in l2 600) (
    let M5 := jp_set q4.2 111 (upd (q4.2 111) (Int32.toNatClampNeg l2) q4.1)
    f_M_image_74 n l1 (l2 + (1 : Int32)) M5))))
theorem t_M_image_74 {Ln : Nat} {xs : Nat → Int32} {sv : jp_V} {d : Nat} (hd : 2 ≤ d)  : ∀ (n : Nat) (l1 : Int32) (l2 : Int32) (w : Nat) (M : jp_M) {res : Int32 × jp_M}, f_M_image_74 n  l1 l2 M = some res → jR (jZ (jK Ln xs sv)) d 300 74 ([some (.inr (some 104)), some (.inl l1), some (.inl l2)], [], jSH w, M) (some (.inl res.1), jSH w, res.2) := by
  intro n
  induction n with
  | zero =>
    intro l1 l2 w M res hf
    cases hf
  | succ n ih =>
    intro l1 l2 w M res hf
    rw [f_M_image_74] at hf
    refine jR_in rfl ⟨rfl, rfl, rfl⟩ rfl ?_
    refine js_iload_n rfl ?_
    refine js_sipush (v := (600 : Int32)) rfl ?_
    refine js_icmp (tgt := 103) rfl rfl (fun h => ?_) (fun h => ?_)
    · have hf := jif_t hf h
      refine jR_in rfl ⟨rfl, rfl, rfl⟩ rfl ?_
      refine js_aload_n rfl ?_
      obtain ⟨q1, hc_1, hf⟩ := jbind hf
      refine js_c1v (w := 0) rfl rfl ⟨rfl, rfl⟩ rfl rfl (t_M_keepsLaw hc_1) (by omega) ?_
      refine js_iload_n rfl ?_
      refine js_ifc (tgt := 116) rfl rfl (fun h => ?_) (fun h => ?_)
      · have hf := jif_t hf h
        refine jR_in rfl ⟨rfl, rfl, rfl⟩ rfl ?_
        refine js_iconst (v := (1 : Int32)) rfl ?_
        obtain rfl := Option.some.inj hf
        exact js_iret rfl rfl
      · have hf := jif_f hf h
        refine js_aload_n rfl ?_
        refine js_iconst (v := (0 : Int32)) rfl ?_
        refine js_puti rfl rfl (Or.inl rfl) ?_
        refine js_iconst (v := (1 : Int32)) rfl ?_
        obtain rfl := Option.some.inj hf
        exact js_iret rfl rfl
    · have hf := jif_f hf h
      refine js_aload_n rfl ?_
      refine js_getr rfl rfl rfl ?_
      refine js_iload_n rfl ?_
      refine js_aload_n rfl ?_
      refine js_aload_n rfl ?_
      refine js_getr rfl rfl rfl ?_
      refine js_iload_n rfl ?_
      obtain ⟨hb3, hf⟩ := jg_some hf
      refine js_iald rfl hb3 ?_
      obtain ⟨q4, hc_4, hf⟩ := jbind hf
      refine js_c2i rfl rfl ⟨rfl, rfl⟩ rfl rfl (t_M_keeps hc_4) (by omega) ?_
      obtain ⟨hb6, hf⟩ := jg_some hf
      refine js_iast rfl hb6 ?_
      refine js_iinc (v := (1 : Int32)) rfl rfl rfl rfl ?_
      refine js_goto (tgt := 74) rfl rfl ?_
      exact ih _ _ _ _ hf
theorem b_M_image_74  : ∀ (n : Nat) (l1 : Int32) (l2 : Int32) (M : jp_M) {res : Int32 × jp_M}, f_M_image_74 n  l1 l2 M = some res → (res.1 = 0 ∨ res.1 = 1) := by
  intro n
  induction n with
  | zero =>
    intro l1 l2 M res hf
    cases hf
  | succ n ih =>
    intro l1 l2 M res hf
    rw [f_M_image_74] at hf
    rcases jif_d hf with ⟨h, hf⟩ | ⟨h, hf⟩
    · obtain ⟨q1, hc_1, hf⟩ := jbind hf
      rcases jif_d hf with ⟨h, hf⟩ | ⟨h, hf⟩
      · obtain rfl := Option.some.inj hf
        exact Or.inr rfl
      · obtain rfl := Option.some.inj hf
        exact Or.inr rfl
    · obtain ⟨hb3, hf⟩ := jg_some hf
      obtain ⟨q4, hc_4, hf⟩ := jbind hf
      obtain ⟨hb6, hf⟩ := jg_some hf
      exact ih _ _ _ hf
def f_M_image_35  : Nat → Int32 → Int32 → jp_M → Option (Int32 × jp_M)
  | 0, _, _, _ => none
  | n + 1, l1, l2, M =>
    if jp_c .ge l2 (184 : Int32) = true then (
    (f_M_keepsMany M).bind fun q1 => (
    (f_M_keepsTold q1).bind fun q2 => (
    f_M_image_74 jFu l1 (0 : Int32) q2))) else (
    jg (jp_in l2 184) (
    (f_M_keeps (M 105 (Int32.toNatClampNeg l2)) M).bind fun q4 => (
    jg (jp_in l2 184) (
    let M5 := jp_set q4.2 105 (upd (q4.2 105) (Int32.toNatClampNeg l2) q4.1)
    f_M_image_35 n l1 (l2 + (1 : Int32)) M5))))
theorem t_M_image_35 {Ln : Nat} {xs : Nat → Int32} {sv : jp_V} {d : Nat} (hd : 2 ≤ d)  : ∀ (n : Nat) (l1 : Int32) (l2 : Int32) (w : Nat) (M : jp_M) {res : Int32 × jp_M}, f_M_image_35 n  l1 l2 M = some res → jR (jZ (jK Ln xs sv)) d 300 35 ([some (.inr (some 104)), some (.inl l1), some (.inl l2)], [], jSH w, M) (some (.inl res.1), jSH w, res.2) := by
  intro n
  induction n with
  | zero =>
    intro l1 l2 w M res hf
    cases hf
  | succ n ih =>
    intro l1 l2 w M res hf
    rw [f_M_image_35] at hf
    refine jR_in rfl ⟨rfl, rfl, rfl⟩ rfl ?_
    refine js_iload_n rfl ?_
    refine js_sipush (v := (184 : Int32)) rfl ?_
    refine js_icmp (tgt := 64) rfl rfl (fun h => ?_) (fun h => ?_)
    · have hf := jif_t hf h
      refine jR_in rfl ⟨rfl, rfl, rfl⟩ rfl ?_
      refine js_aload_n rfl ?_
      obtain ⟨q1, hc_1, hf⟩ := jbind hf
      refine js_c1v (w := 0) rfl rfl ⟨rfl, rfl⟩ rfl rfl (t_M_keepsMany hc_1) (by omega) ?_
      refine js_aload_n rfl ?_
      obtain ⟨q2, hc_2, hf⟩ := jbind hf
      refine js_c1v (w := 0) rfl rfl ⟨rfl, rfl⟩ rfl rfl (t_M_keepsTold hc_2) (by omega) ?_
      refine js_iconst (v := (0 : Int32)) rfl ?_
      refine js_istore_n rfl rfl ?_
      exact jS_out rfl ⟨rfl, rfl, rfl⟩ rfl (t_M_image_74 hd jFu _ _ _ _ hf)
    · have hf := jif_f hf h
      refine js_aload_n rfl ?_
      refine js_getr rfl rfl rfl ?_
      refine js_iload_n rfl ?_
      refine js_aload_n rfl ?_
      refine js_aload_n rfl ?_
      refine js_getr rfl rfl rfl ?_
      refine js_iload_n rfl ?_
      obtain ⟨hb3, hf⟩ := jg_some hf
      refine js_iald rfl hb3 ?_
      obtain ⟨q4, hc_4, hf⟩ := jbind hf
      refine js_c2i rfl rfl ⟨rfl, rfl⟩ rfl rfl (t_M_keeps hc_4) (by omega) ?_
      obtain ⟨hb6, hf⟩ := jg_some hf
      refine js_iast rfl hb6 ?_
      refine js_iinc (v := (1 : Int32)) rfl rfl rfl rfl ?_
      refine js_goto (tgt := 35) rfl rfl ?_
      exact ih _ _ _ _ hf
theorem b_M_image_35  : ∀ (n : Nat) (l1 : Int32) (l2 : Int32) (M : jp_M) {res : Int32 × jp_M}, f_M_image_35 n  l1 l2 M = some res → (res.1 = 0 ∨ res.1 = 1) := by
  intro n
  induction n with
  | zero =>
    intro l1 l2 M res hf
    cases hf
  | succ n ih =>
    intro l1 l2 M res hf
    rw [f_M_image_35] at hf
    rcases jif_d hf with ⟨h, hf⟩ | ⟨h, hf⟩
    · obtain ⟨q1, hc_1, hf⟩ := jbind hf
      obtain ⟨q2, hc_2, hf⟩ := jbind hf
      exact b_M_image_74 jFu _ _ _ hf
    · obtain ⟨hb3, hf⟩ := jg_some hf
      obtain ⟨q4, hc_4, hf⟩ := jbind hf
      obtain ⟨hb6, hf⟩ := jg_some hf
      exact ih _ _ _ hf
def f_M_image_18  (l1 : Int32) (M : jp_M) : Option (Int32 × jp_M) :=
  jg (l1 = 0 ∨ l1 = 1) (
  let M2 := jp_set M 104 (upd (M 104) 62 l1)
  let M3 := jp_set M2 104 (upd (M2 104) 63 (1 : Int32))
  let M4 := jp_set M3 104 (upd (M3 104) 64 (0 : Int32))
  f_M_image_35 jFu l1 (0 : Int32) M4)
theorem t_M_image_18 {Ln : Nat} {xs : Nat → Int32} {sv : jp_V} {d : Nat} (hd : 2 ≤ d)  (l1 : Int32) (o2 : Option jp_V) (w : Nat) (M : jp_M) {res : Int32 × jp_M} (hf : f_M_image_18  l1 M = some res) : jR (jZ (jK Ln xs sv)) d 300 18 ([some (.inr (some 104)), some (.inl l1), o2], [], jSH w, M) (some (.inl res.1), jSH w, res.2) := by
  unfold f_M_image_18 at hf
  refine jR_in rfl ⟨rfl, rfl, rfl⟩ rfl ?_
  refine js_aload_n rfl ?_
  refine js_iload_n rfl ?_
  obtain ⟨hb1, hf⟩ := jg_some hf
  refine js_puti rfl rfl (Or.inr ⟨rfl, hb1⟩) ?_
  refine js_aload_n rfl ?_
  refine js_iconst (v := (1 : Int32)) rfl ?_
  refine js_puti rfl rfl (Or.inr ⟨rfl, Or.inr rfl⟩) ?_
  refine js_aload_n rfl ?_
  refine js_iconst (v := (0 : Int32)) rfl ?_
  refine js_puti rfl rfl (Or.inl rfl) ?_
  refine js_iconst (v := (0 : Int32)) rfl ?_
  refine js_istore_n rfl rfl ?_
  exact jS_out rfl ⟨rfl, rfl, rfl⟩ rfl (t_M_image_35 hd jFu _ _ _ _ hf)
theorem b_M_image_18  (l1 : Int32) (M : jp_M) {res : Int32 × jp_M} (hf : f_M_image_18  l1 M = some res) : res.1 = 0 ∨ res.1 = 1 := by
  unfold f_M_image_18 at hf
  obtain ⟨hb1, hf⟩ := jg_some hf
  exact b_M_image_35 jFu _ _ _ hf
def f_M_image (a1 : Int32) (M : jp_M) : Option (Int32 × jp_M) :=
  let M1 := jp_set M 104 (upd (M 104) 0 (0 : Int32))
  if jp_c .ne a1 0 = true then (
  f_M_image_18 a1 M1) else (
  if jp_c .ne (M1 104 63) 0 = true then (
  f_M_image_18 a1 M1) else (
  some ((0 : Int32), M1)))
theorem t_M_image {Ln : Nat} {xs : Nat → Int32} {sv : jp_V} {a1 : Int32} {w : Nat} {M : jp_M} {res : Int32 × jp_M} (hf : f_M_image a1 M = some res) : jE (jZ (jK Ln xs sv)) 2 300 [(.inr (some 104)), (.inl a1)] (jSH w) M (some (.inl res.1), jSH w, res.2) := by
  unfold f_M_image at hf
  refine jE_in (L0 := [some (.inr (some 104)), some (.inl a1), none]) rfl (Nat.le_of_ble_eq_true rfl) rfl (fun d hd => ?_)
  refine jR_in rfl ⟨rfl, rfl, rfl⟩ rfl ?_
  refine js_aload_n rfl ?_
  refine js_iconst (v := (0 : Int32)) rfl ?_
  refine js_puti rfl rfl (Or.inl rfl) ?_
  refine js_iload_n rfl ?_
  refine js_ifc (tgt := 18) rfl rfl (fun h => ?_) (fun h => ?_)
  · have hf := jif_t hf h
    exact t_M_image_18 hd _ _ _ _ hf
  · have hf := jif_f hf h
    refine js_aload_n rfl ?_
    refine js_geti rfl rfl rfl ?_
    refine js_ifc (tgt := 18) rfl rfl (fun h => ?_) (fun h => ?_)
    · have hf := jif_t hf h
      exact t_M_image_18 hd _ _ _ _ hf
    · have hf := jif_f hf h
      refine js_iconst (v := (0 : Int32)) rfl ?_
      obtain rfl := Option.some.inj hf
      exact js_iret rfl rfl
theorem b_M_image {a1 : Int32} {M : jp_M} {res : Int32 × jp_M} (hf : f_M_image a1 M = some res) : res.1 = 0 ∨ res.1 = 1 := by
  unfold f_M_image at hf
  rcases jif_d hf with ⟨h, hf⟩ | ⟨h, hf⟩
  · exact b_M_image_18 _ _ hf
  · rcases jif_d hf with ⟨h, hf⟩ | ⟨h, hf⟩
    · exact b_M_image_18 _ _ hf
    · obtain rfl := Option.some.inj hf
      exact Or.inl rfl
/-! SwallowsAirModel.look(I)I -/
def f_M_look (a1 : Int32) (M : jp_M) : Option (Int32 × jp_M) :=
  let M1 := jp_set M 104 (upd (M 104) 0 (0 : Int32))
  if jp_c .ne a1 0 = true then (
  if jp_c .ne a1 (1 : Int32) = true then (
  if jp_c .ne a1 (2 : Int32) = true then (
  if jp_c .ne a1 (3 : Int32) = true then (
  if jp_c .ne a1 (4 : Int32) = true then (
  if jp_c .ne a1 (5 : Int32) = true then (
  if jp_c .ne a1 (6 : Int32) = true then (
  if jp_c .ne a1 (7 : Int32) = true then (
  if jp_c .ne a1 (8 : Int32) = true then (
  if jp_c .ne a1 (9 : Int32) = true then (
  if jp_c .ne a1 (10 : Int32) = true then (
  if jp_c .ne a1 (11 : Int32) = true then (
  if jp_c .ne a1 (12 : Int32) = true then (
  if jp_c .ne a1 (13 : Int32) = true then (
  some ((-1 : Int32), M1)) else (
  some ((M1 104 3), M1))) else (
  some ((M1 104 39), M1))) else (
  some ((M1 104 37), M1))) else (
  some ((M1 104 35), M1))) else (
  some ((M1 114 0), M1))) else (
  some ((M1 105 1), M1))) else (
  some ((M1 105 2), M1))) else (
  some ((M1 105 0), M1))) else (
  if jp_c .eq (f_M_isSummer M1) 0 = true then (
  some ((0 : Int32), M1)) else (
  some ((1 : Int32), M1)))) else (
  some ((M1 105 3), M1))) else (
  (f_M_usedCells M1).bind fun q3 => (
  some (q3, M1)))) else (
  some ((M1 105 5), M1))) else (
  some ((M1 104 7), M1))) else (
  some ((M1 104 6), M1))
theorem t_M_look {Ln : Nat} {xs : Nat → Int32} {sv : jp_V} {a1 : Int32} {w : Nat} {M : jp_M} {res : Int32 × jp_M} (hf : f_M_look a1 M = some res) : jE (jZ (jK Ln xs sv)) 2 301 [(.inr (some 104)), (.inl a1)] (jSH w) M (some (.inl res.1), jSH w, res.2) := by
  unfold f_M_look at hf
  refine jE_in (L0 := [some (.inr (some 104)), some (.inl a1)]) rfl (Nat.le_of_ble_eq_true rfl) rfl (fun d hd => ?_)
  refine jR_in rfl ⟨rfl, rfl, rfl⟩ rfl ?_
  refine js_aload_n rfl ?_
  refine js_iconst (v := (0 : Int32)) rfl ?_
  refine js_puti rfl rfl (Or.inl rfl) ?_
  refine js_iload_n rfl ?_
  refine js_ifc (tgt := 14) rfl rfl (fun h => ?_) (fun h => ?_)
  · have hf := jif_t hf h
    refine jR_in rfl ⟨rfl, rfl, rfl⟩ rfl ?_
    refine js_iload_n rfl ?_
    refine js_iconst (v := (1 : Int32)) rfl ?_
    refine js_icmp (tgt := 24) rfl rfl (fun h => ?_) (fun h => ?_)
    · have hf := jif_t hf h
      refine jR_in rfl ⟨rfl, rfl, rfl⟩ rfl ?_
      refine js_iload_n rfl ?_
      refine js_iconst (v := (2 : Int32)) rfl ?_
      refine js_icmp (tgt := 36) rfl rfl (fun h => ?_) (fun h => ?_)
      · have hf := jif_t hf h
        refine jR_in rfl ⟨rfl, rfl, rfl⟩ rfl ?_
        refine js_iload_n rfl ?_
        refine js_iconst (v := (3 : Int32)) rfl ?_
        refine js_icmp (tgt := 46) rfl rfl (fun h => ?_) (fun h => ?_)
        · have hf := jif_t hf h
          refine jR_in rfl ⟨rfl, rfl, rfl⟩ rfl ?_
          refine js_iload_n rfl ?_
          refine js_iconst (v := (4 : Int32)) rfl ?_
          refine js_icmp (tgt := 58) rfl rfl (fun h => ?_) (fun h => ?_)
          · have hf := jif_t hf h
            refine jR_in rfl ⟨rfl, rfl, rfl⟩ rfl ?_
            refine js_iload_n rfl ?_
            refine js_iconst (v := (5 : Int32)) rfl ?_
            refine js_icmp (tgt := 76) rfl rfl (fun h => ?_) (fun h => ?_)
            · have hf := jif_t hf h
              refine jR_in rfl ⟨rfl, rfl, rfl⟩ rfl ?_
              refine js_iload_n rfl ?_
              refine js_bipush (v := (6 : Int32)) rfl ?_
              refine js_icmp (tgt := 89) rfl rfl (fun h => ?_) (fun h => ?_)
              · have hf := jif_t hf h
                refine jR_in rfl ⟨rfl, rfl, rfl⟩ rfl ?_
                refine js_iload_n rfl ?_
                refine js_bipush (v := (7 : Int32)) rfl ?_
                refine js_icmp (tgt := 102) rfl rfl (fun h => ?_) (fun h => ?_)
                · have hf := jif_t hf h
                  refine jR_in rfl ⟨rfl, rfl, rfl⟩ rfl ?_
                  refine js_iload_n rfl ?_
                  refine js_bipush (v := (8 : Int32)) rfl ?_
                  refine js_icmp (tgt := 115) rfl rfl (fun h => ?_) (fun h => ?_)
                  · have hf := jif_t hf h
                    refine jR_in rfl ⟨rfl, rfl, rfl⟩ rfl ?_
                    refine js_iload_n rfl ?_
                    refine js_bipush (v := (9 : Int32)) rfl ?_
                    refine js_icmp (tgt := 128) rfl rfl (fun h => ?_) (fun h => ?_)
                    · have hf := jif_t hf h
                      refine jR_in rfl ⟨rfl, rfl, rfl⟩ rfl ?_
                      refine js_iload_n rfl ?_
                      refine js_bipush (v := (10 : Int32)) rfl ?_
                      refine js_icmp (tgt := 139) rfl rfl (fun h => ?_) (fun h => ?_)
                      · have hf := jif_t hf h
                        refine jR_in rfl ⟨rfl, rfl, rfl⟩ rfl ?_
                        refine js_iload_n rfl ?_
                        refine js_bipush (v := (11 : Int32)) rfl ?_
                        refine js_icmp (tgt := 150) rfl rfl (fun h => ?_) (fun h => ?_)
                        · have hf := jif_t hf h
                          refine jR_in rfl ⟨rfl, rfl, rfl⟩ rfl ?_
                          refine js_iload_n rfl ?_
                          refine js_bipush (v := (12 : Int32)) rfl ?_
                          refine js_icmp (tgt := 161) rfl rfl (fun h => ?_) (fun h => ?_)
                          · have hf := jif_t hf h
                            refine jR_in rfl ⟨rfl, rfl, rfl⟩ rfl ?_
                            refine js_iload_n rfl ?_
                            refine js_bipush (v := (13 : Int32)) rfl ?_
                            refine js_icmp (tgt := 174) rfl rfl (fun h => ?_) (fun h => ?_)
                            · have hf := jif_t hf h
                              refine jR_in rfl ⟨rfl, rfl, rfl⟩ rfl ?_
                              refine js_iconst (v := (-1 : Int32)) rfl ?_
                              obtain rfl := Option.some.inj hf
                              exact js_iret rfl rfl
                            · have hf := jif_f hf h
                              refine js_aload_n rfl ?_
                              refine js_geti rfl rfl rfl ?_
                              refine js_goto (tgt := 175) rfl rfl ?_
                              refine jR_in rfl ⟨rfl, rfl, rfl⟩ rfl ?_
                              obtain rfl := Option.some.inj hf
                              exact js_iret rfl rfl
                          · have hf := jif_f hf h
                            refine js_aload_n rfl ?_
                            refine js_geti rfl rfl rfl ?_
                            obtain rfl := Option.some.inj hf
                            exact js_iret rfl rfl
                        · have hf := jif_f hf h
                          refine js_aload_n rfl ?_
                          refine js_geti rfl rfl rfl ?_
                          obtain rfl := Option.some.inj hf
                          exact js_iret rfl rfl
                      · have hf := jif_f hf h
                        refine js_aload_n rfl ?_
                        refine js_geti rfl rfl rfl ?_
                        obtain rfl := Option.some.inj hf
                        exact js_iret rfl rfl
                    · have hf := jif_f hf h
                      refine js_aload_n rfl ?_
                      refine js_getr rfl rfl rfl ?_
                      refine js_iconst (v := (0 : Int32)) rfl ?_
                      refine js_iald rfl (by decide) ?_
                      obtain rfl := Option.some.inj hf
                      exact js_iret rfl rfl
                  · have hf := jif_f hf h
                    refine js_aload_n rfl ?_
                    refine js_getr rfl rfl rfl ?_
                    refine js_iconst (v := (1 : Int32)) rfl ?_
                    refine js_iald rfl (by decide) ?_
                    obtain rfl := Option.some.inj hf
                    exact js_iret rfl rfl
                · have hf := jif_f hf h
                  refine js_aload_n rfl ?_
                  refine js_getr rfl rfl rfl ?_
                  refine js_iconst (v := (2 : Int32)) rfl ?_
                  refine js_iald rfl (by decide) ?_
                  obtain rfl := Option.some.inj hf
                  exact js_iret rfl rfl
              · have hf := jif_f hf h
                refine js_aload_n rfl ?_
                refine js_getr rfl rfl rfl ?_
                refine js_iconst (v := (0 : Int32)) rfl ?_
                refine js_iald rfl (by decide) ?_
                obtain rfl := Option.some.inj hf
                exact js_iret rfl rfl
            · have hf := jif_f hf h
              refine js_aload_n rfl ?_
              refine js_c1i rfl rfl ⟨rfl, rfl⟩ rfl rfl (t_M_isSummer rfl) (by omega) ?_
              refine js_ifc (tgt := 74) rfl rfl (fun h => ?_) (fun h => ?_)
              · have hf := jif_t hf h
                refine jR_in rfl ⟨rfl, rfl, rfl⟩ rfl ?_
                refine js_iconst (v := (0 : Int32)) rfl ?_
                obtain rfl := Option.some.inj hf
                exact js_iret rfl rfl
              · have hf := jif_f hf h
                refine js_iconst (v := (1 : Int32)) rfl ?_
                refine js_goto (tgt := 75) rfl rfl ?_
                refine jR_in rfl ⟨rfl, rfl, rfl⟩ rfl ?_
                obtain rfl := Option.some.inj hf
                exact js_iret rfl rfl
          · have hf := jif_f hf h
            refine js_aload_n rfl ?_
            refine js_getr rfl rfl rfl ?_
            refine js_iconst (v := (3 : Int32)) rfl ?_
            refine js_iald rfl (by decide) ?_
            obtain rfl := Option.some.inj hf
            exact js_iret rfl rfl
        · have hf := jif_f hf h
          refine js_aload_n rfl ?_
          obtain ⟨q3, hc_3, hf⟩ := jbind hf
          refine js_c1i rfl rfl ⟨rfl, rfl⟩ rfl rfl (t_M_usedCells hc_3) (by omega) ?_
          obtain rfl := Option.some.inj hf
          exact js_iret rfl rfl
      · have hf := jif_f hf h
        refine js_aload_n rfl ?_
        refine js_getr rfl rfl rfl ?_
        refine js_iconst (v := (5 : Int32)) rfl ?_
        refine js_iald rfl (by decide) ?_
        obtain rfl := Option.some.inj hf
        exact js_iret rfl rfl
    · have hf := jif_f hf h
      refine js_aload_n rfl ?_
      refine js_geti rfl rfl rfl ?_
      obtain rfl := Option.some.inj hf
      exact js_iret rfl rfl
  · have hf := jif_f hf h
    refine js_aload_n rfl ?_
    refine js_geti rfl rfl rfl ?_
    obtain rfl := Option.some.inj hf
    exact js_iret rfl rfl
