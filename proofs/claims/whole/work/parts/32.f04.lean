/-! SwallowsAir$ToldThought.leastWays()I -/
def f_TT_leastWays_62 (c11 : Int32 → jp_M → Option (Int32 × jp_M)) (c20 : Int32 → Int32 → Int32 → Int32 → jp_M → Option (Int32 × jp_M)) (l2 : Int32) (l3 : Int32) (l4 : Int32) (l5 : Int32) (M : jp_M) : Option (Int32 × jp_M) :=
  c20 l2 l3 l4 (l5 + (1 : Int32)) M
theorem t_TT_leastWays_62 {Ln : Nat} {xs : Nat → Int32} {sv : jp_V} {d : Nat} (hd : 2 ≤ d) {c11 : Int32 → jp_M → Option (Int32 × jp_M)} (hc11 : ∀ (l2 : Int32) (o1 : Option jp_V) (o3 : Option jp_V) (o4 : Option jp_V) (o5 : Option jp_V) (w : Nat) (M : jp_M) (res : Int32 × jp_M), c11 l2 M = some res → jR (jZ (jK Ln xs sv)) d 85 14 ([some (.inr (some 61)), o1, some (.inl l2), o3, o4, o5], [], jSH w, M) (some (.inl res.1), jSH w, res.2)) {c20 : Int32 → Int32 → Int32 → Int32 → jp_M → Option (Int32 × jp_M)} (hc20 : ∀ (l2 : Int32) (l3 : Int32) (l4 : Int32) (l5 : Int32) (o1 : Option jp_V) (w : Nat) (M : jp_M) (res : Int32 × jp_M), c20 l2 l3 l4 l5 M = some res → jR (jZ (jK Ln xs sv)) d 85 31 ([some (.inr (some 61)), o1, some (.inl l2), some (.inl l3), some (.inl l4), some (.inl l5)], [], jSH w, M) (some (.inl res.1), jSH w, res.2)) (l2 : Int32) (l3 : Int32) (l4 : Int32) (l5 : Int32) (o1 : Option jp_V) (w : Nat) (M : jp_M) {res : Int32 × jp_M} (hf : f_TT_leastWays_62 c11 c20 l2 l3 l4 l5 M = some res) : jR (jZ (jK Ln xs sv)) d 85 62 ([some (.inr (some 61)), o1, some (.inl l2), some (.inl l3), some (.inl l4), some (.inl l5)], [], jSH w, M) (some (.inl res.1), jSH w, res.2) := by
  unfold f_TT_leastWays_62 at hf
  refine jR_in rfl ⟨rfl, rfl, rfl⟩ rfl ?_
  refine js_iinc (v := (1 : Int32)) rfl rfl rfl rfl ?_
  refine js_goto (tgt := 31) rfl rfl ?_
  exact hc20 _ _ _ _ _ _ _ _ hf
def f_TT_leastWays_31  : Nat → (Int32 → jp_M → Option (Int32 × jp_M)) → Int32 → Int32 → Int32 → Int32 → jp_M → Option (Int32 × jp_M)
  | 0, _, _, _, _, _, _ => none
  | n + 1, c11, l2, l3, l4, l5, M =>
    if jp_c .ge l5 (6 : Int32) = true then (
    jg (jp_in l2 64) (
    let M1 := jp_set M 64 (upd (M 64) (Int32.toNatClampNeg l2) l4)
    c11 (l2 + (-1 : Int32)) M1)) else (
    if jp_c .ne ((l2 >>> (l5 &&& 31)) &&& (1 : Int32)) 0 = true then (
    f_TT_leastWays_62 c11 (f_TT_leastWays_31 n c11) l2 l3 l4 l5 M) else (
    (f_TT_costOf l3 l5 l2 M).bind fun q3 => (
    f_TT_leastWays_62 c11 (f_TT_leastWays_31 n c11) l2 l3 (jp_min l4 q3) l5 M)))
theorem t_TT_leastWays_31 {Ln : Nat} {xs : Nat → Int32} {sv : jp_V} {d : Nat} (hd : 2 ≤ d) {c11 : Int32 → jp_M → Option (Int32 × jp_M)} (hc11 : ∀ (l2 : Int32) (o1 : Option jp_V) (o3 : Option jp_V) (o4 : Option jp_V) (o5 : Option jp_V) (w : Nat) (M : jp_M) (res : Int32 × jp_M), c11 l2 M = some res → jR (jZ (jK Ln xs sv)) d 85 14 ([some (.inr (some 61)), o1, some (.inl l2), o3, o4, o5], [], jSH w, M) (some (.inl res.1), jSH w, res.2)) : ∀ (n : Nat) (l2 : Int32) (l3 : Int32) (l4 : Int32) (l5 : Int32) (o1 : Option jp_V) (w : Nat) (M : jp_M) {res : Int32 × jp_M}, f_TT_leastWays_31 n c11 l2 l3 l4 l5 M = some res → jR (jZ (jK Ln xs sv)) d 85 31 ([some (.inr (some 61)), o1, some (.inl l2), some (.inl l3), some (.inl l4), some (.inl l5)], [], jSH w, M) (some (.inl res.1), jSH w, res.2) := by
  intro n
  induction n with
  | zero =>
    intro l2 l3 l4 l5 o1 w M res hf
    cases hf
  | succ n ih =>
    intro l2 l3 l4 l5 o1 w M res hf
    rw [f_TT_leastWays_31] at hf
    refine jR_in rfl ⟨rfl, rfl, rfl⟩ rfl ?_
    refine js_iload rfl ?_
    refine js_bipush (v := (6 : Int32)) rfl ?_
    refine js_icmp (tgt := 68) rfl rfl (fun h => ?_) (fun h => ?_)
    · have hf := jif_t hf h
      refine jR_in rfl ⟨rfl, rfl, rfl⟩ rfl ?_
      refine js_aload_n rfl ?_
      refine js_getr rfl rfl rfl ?_
      refine js_iload_n rfl ?_
      refine js_iload rfl ?_
      obtain ⟨hb2, hf⟩ := jg_some hf
      refine js_iast rfl hb2 ?_
      refine js_iinc (v := (-1 : Int32)) rfl rfl rfl rfl ?_
      refine js_goto (tgt := 14) rfl rfl ?_
      exact hc11 _ _ _ _ _ _ _ _ hf
    · have hf := jif_f hf h
      refine js_iload_n rfl ?_
      refine js_iload rfl ?_
      refine js_ishr ?_
      refine js_iconst (v := (1 : Int32)) rfl ?_
      refine js_iand ?_
      refine js_ifc (tgt := 62) rfl rfl (fun h => ?_) (fun h => ?_)
      · have hf := jif_t hf h
        exact t_TT_leastWays_62 hd hc11 (fun l2 l3 l4 l5 o1 w M res hf => ih l2 l3 l4 l5 o1 w M hf) _ _ _ _ _ _ _ hf
      · have hf := jif_f hf h
        refine js_iload rfl ?_
        refine js_aload_n rfl ?_
        refine js_iload_n rfl ?_
        refine js_iload rfl ?_
        refine js_iload_n rfl ?_
        obtain ⟨q3, hc_3, hf⟩ := jbind hf
        refine js_c4i rfl rfl ⟨rfl, rfl⟩ rfl rfl (t_TT_costOf hc_3) (by omega) ?_
        refine js_min rfl ?_
        refine js_istore rfl rfl ?_
        exact jS_out rfl ⟨rfl, rfl, rfl⟩ rfl (t_TT_leastWays_62 hd hc11 (fun l2 l3 l4 l5 o1 w M res hf => ih l2 l3 l4 l5 o1 w M hf) _ _ _ _ _ _ _ hf)
def f_TT_leastWays_14  : Nat → Int32 → jp_M → Option (Int32 × jp_M)
  | 0, _, _ => none
  | n + 1, l2, M =>
    if jp_c .lt l2 0 = true then (
    some ((M 64 0), M)) else (
    f_TT_leastWays_31 jFu (f_TT_leastWays_14 n ) l2 (f_JI_bitCount l2) (594 : Int32) (0 : Int32) M)
theorem t_TT_leastWays_14 {Ln : Nat} {xs : Nat → Int32} {sv : jp_V} {d : Nat} (hd : 2 ≤ d)  : ∀ (n : Nat) (l2 : Int32) (o1 : Option jp_V) (o3 : Option jp_V) (o4 : Option jp_V) (o5 : Option jp_V) (w : Nat) (M : jp_M) {res : Int32 × jp_M}, f_TT_leastWays_14 n  l2 M = some res → jR (jZ (jK Ln xs sv)) d 85 14 ([some (.inr (some 61)), o1, some (.inl l2), o3, o4, o5], [], jSH w, M) (some (.inl res.1), jSH w, res.2) := by
  intro n
  induction n with
  | zero =>
    intro l2 o1 o3 o4 o5 w M res hf
    cases hf
  | succ n ih =>
    intro l2 o1 o3 o4 o5 w M res hf
    rw [f_TT_leastWays_14] at hf
    refine jR_in rfl ⟨rfl, rfl, rfl⟩ rfl ?_
    refine js_iload_n rfl ?_
    refine js_ifc (tgt := 82) rfl rfl (fun h => ?_) (fun h => ?_)
    · have hf := jif_t hf h
      refine jR_in rfl ⟨rfl, rfl, rfl⟩ rfl ?_
      refine js_aload_n rfl ?_
      refine js_getr rfl rfl rfl ?_
      refine js_iconst (v := (0 : Int32)) rfl ?_
      refine js_iald rfl (by decide) ?_
      obtain rfl := Option.some.inj hf
      exact js_iret rfl rfl
    · have hf := jif_f hf h
      refine js_iload_n rfl ?_
      refine js_c1i rfl rfl ⟨rfl, rfl⟩ rfl rfl (t_JI_bitCount rfl) (by omega) ?_
      refine js_istore_n rfl rfl ?_
      refine js_sipush (v := (594 : Int32)) rfl ?_
      refine js_istore rfl rfl ?_
      refine js_iconst (v := (0 : Int32)) rfl ?_
      refine js_istore rfl rfl ?_
      exact jS_out rfl ⟨rfl, rfl, rfl⟩ rfl (t_TT_leastWays_31 hd (fun l2 o1 o3 o4 o5 w M res hf => ih l2 o1 o3 o4 o5 w M hf) jFu _ _ _ _ _ _ _ hf)
def f_TT_leastWays (M : jp_M) : Option (Int32 × jp_M) :=
  let M1 := jp_set M 64 (upd (M 64) 63 (0 : Int32))
  f_TT_leastWays_14 jFu ((63 : Int32) - (1 : Int32)) M1
theorem t_TT_leastWays {Ln : Nat} {xs : Nat → Int32} {sv : jp_V} {w : Nat} {M : jp_M} {res : Int32 × jp_M} (hf : f_TT_leastWays M = some res) : jE (jZ (jK Ln xs sv)) 2 85 [(.inr (some 61))] (jSH w) M (some (.inl res.1), jSH w, res.2) := by
  unfold f_TT_leastWays at hf
  refine jE_in (L0 := [some (.inr (some 61)), none, none, none, none, none]) rfl (Nat.le_of_ble_eq_true rfl) rfl (fun d hd => ?_)
  refine jR_in rfl ⟨rfl, rfl, rfl⟩ rfl ?_
  refine js_bipush (v := (63 : Int32)) rfl ?_
  refine js_istore_n rfl rfl ?_
  refine js_aload_n rfl ?_
  refine js_getr rfl rfl rfl ?_
  refine js_iload_n rfl ?_
  refine js_iconst (v := (0 : Int32)) rfl ?_
  refine js_iast rfl (by decide) ?_
  refine js_iload_n rfl ?_
  refine js_iconst (v := (1 : Int32)) rfl ?_
  refine js_isub ?_
  refine js_istore_n rfl rfl ?_
  exact jS_out rfl ⟨rfl, rfl, rfl⟩ rfl (t_TT_leastWays_14 hd jFu _ _ _ _ _ _ _ hf)
/-! SwallowsAir$ToldThought.eaveOf(I)I -/
def f_TT_eaveOf_65 (c9 : Int32 → Int32 → Int32 → Int32 → jp_M → Option (Int32 × jp_M)) (c16 : Int32 → Int32 → Int32 → Int32 → Int32 → jp_M → Option (Int32 × jp_M)) (l1 : Int32) (l2 : Int32) (l3 : Int32) (l4 : Int32) (l5 : Int32) (M : jp_M) : Option (Int32 × jp_M) :=
  c16 l1 l2 l3 l4 (l5 + (1 : Int32)) M
theorem t_TT_eaveOf_65 {Ln : Nat} {xs : Nat → Int32} {sv : jp_V} {d : Nat} (hd : 3 ≤ d) {c9 : Int32 → Int32 → Int32 → Int32 → jp_M → Option (Int32 × jp_M)} (hc9 : ∀ (l1 : Int32) (l2 : Int32) (l3 : Int32) (l4 : Int32) (o5 : Option jp_V) (w : Nat) (M : jp_M) (res : Int32 × jp_M), c9 l1 l2 l3 l4 M = some res → jR (jZ (jK Ln xs sv)) d 87 12 ([some (.inr (some 61)), some (.inl l1), some (.inl l2), some (.inl l3), some (.inl l4), o5], [], jSH w, M) (some (.inl res.1), jSH w, res.2)) {c16 : Int32 → Int32 → Int32 → Int32 → Int32 → jp_M → Option (Int32 × jp_M)} (hc16 : ∀ (l1 : Int32) (l2 : Int32) (l3 : Int32) (l4 : Int32) (l5 : Int32) (w : Nat) (M : jp_M) (res : Int32 × jp_M), c16 l1 l2 l3 l4 l5 M = some res → jR (jZ (jK Ln xs sv)) d 87 23 ([some (.inr (some 61)), some (.inl l1), some (.inl l2), some (.inl l3), some (.inl l4), some (.inl l5)], [], jSH w, M) (some (.inl res.1), jSH w, res.2)) (l1 : Int32) (l2 : Int32) (l3 : Int32) (l4 : Int32) (l5 : Int32) (w : Nat) (M : jp_M) {res : Int32 × jp_M} (hf : f_TT_eaveOf_65 c9 c16 l1 l2 l3 l4 l5 M = some res) : jR (jZ (jK Ln xs sv)) d 87 65 ([some (.inr (some 61)), some (.inl l1), some (.inl l2), some (.inl l3), some (.inl l4), some (.inl l5)], [], jSH w, M) (some (.inl res.1), jSH w, res.2) := by
  unfold f_TT_eaveOf_65 at hf
  refine jR_in rfl ⟨rfl, rfl, rfl⟩ rfl ?_
  refine js_iinc (v := (1 : Int32)) rfl rfl rfl rfl ?_
  refine js_goto (tgt := 23) rfl rfl ?_
  exact hc16 _ _ _ _ _ _ _ _ hf
def f_TT_eaveOf_71 (c9 : Int32 → Int32 → Int32 → Int32 → jp_M → Option (Int32 × jp_M)) (l1 : Int32) (l2 : Int32) (l3 : Int32) (l4 : Int32) (M : jp_M) : Option (Int32 × jp_M) :=
  c9 l1 (l2 ||| ((1 : Int32) <<< ((jp_max (0 : Int32) l3) &&& 31))) l3 (l4 + (1 : Int32)) M
theorem t_TT_eaveOf_71 {Ln : Nat} {xs : Nat → Int32} {sv : jp_V} {d : Nat} (hd : 3 ≤ d) {c9 : Int32 → Int32 → Int32 → Int32 → jp_M → Option (Int32 × jp_M)} (hc9 : ∀ (l1 : Int32) (l2 : Int32) (l3 : Int32) (l4 : Int32) (o5 : Option jp_V) (w : Nat) (M : jp_M) (res : Int32 × jp_M), c9 l1 l2 l3 l4 M = some res → jR (jZ (jK Ln xs sv)) d 87 12 ([some (.inr (some 61)), some (.inl l1), some (.inl l2), some (.inl l3), some (.inl l4), o5], [], jSH w, M) (some (.inl res.1), jSH w, res.2)) (l1 : Int32) (l2 : Int32) (l3 : Int32) (l4 : Int32) (o5 : Option jp_V) (w : Nat) (M : jp_M) {res : Int32 × jp_M} (hf : f_TT_eaveOf_71 c9 l1 l2 l3 l4 M = some res) : jR (jZ (jK Ln xs sv)) d 87 71 ([some (.inr (some 61)), some (.inl l1), some (.inl l2), some (.inl l3), some (.inl l4), o5], [], jSH w, M) (some (.inl res.1), jSH w, res.2) := by
  unfold f_TT_eaveOf_71 at hf
  refine jR_in rfl ⟨rfl, rfl, rfl⟩ rfl ?_
  refine js_iload_n rfl ?_
  refine js_iconst (v := (1 : Int32)) rfl ?_
  refine js_iconst (v := (0 : Int32)) rfl ?_
  refine js_iload_n rfl ?_
  refine js_max rfl ?_
  refine js_ishl ?_
  refine js_ior ?_
  refine js_istore_n rfl rfl ?_
  refine js_iinc (v := (1 : Int32)) rfl rfl rfl rfl ?_
  refine js_goto (tgt := 12) rfl rfl ?_
  exact hc9 _ _ _ _ _ _ _ _ hf
def f_TT_eaveOf_23  : Nat → (Int32 → Int32 → Int32 → Int32 → jp_M → Option (Int32 × jp_M)) → Int32 → Int32 → Int32 → Int32 → Int32 → jp_M → Option (Int32 × jp_M)
  | 0, _, _, _, _, _, _, _ => none
  | n + 1, c9, l1, l2, l3, l4, l5, M =>
    if jp_c .ge l5 (6 : Int32) = true then (
    f_TT_eaveOf_71 c9 l1 l2 l3 l4 M) else (
    if jp_c .ne l3 (-1 : Int32) = true then (
    f_TT_eaveOf_71 c9 l1 l2 l3 l4 M) else (
    if jp_c .ne ((l2 >>> (l5 &&& 31)) &&& (1 : Int32)) 0 = true then (
    f_TT_eaveOf_65 c9 (f_TT_eaveOf_23 n c9) l1 l2 l3 l4 l5 M) else (
    (f_TT_costOf l4 l5 l2 M).bind fun q1 => (
    jg (jp_in l2 64) (
    if jp_c .ne q1 (M 64 (Int32.toNatClampNeg l2)) = true then (
    f_TT_eaveOf_65 c9 (f_TT_eaveOf_23 n c9) l1 l2 l3 l4 l5 M) else (
    f_TT_eaveOf_65 c9 (f_TT_eaveOf_23 n c9) l1 l2 l5 l4 l5 M))))))
theorem t_TT_eaveOf_23 {Ln : Nat} {xs : Nat → Int32} {sv : jp_V} {d : Nat} (hd : 3 ≤ d) {c9 : Int32 → Int32 → Int32 → Int32 → jp_M → Option (Int32 × jp_M)} (hc9 : ∀ (l1 : Int32) (l2 : Int32) (l3 : Int32) (l4 : Int32) (o5 : Option jp_V) (w : Nat) (M : jp_M) (res : Int32 × jp_M), c9 l1 l2 l3 l4 M = some res → jR (jZ (jK Ln xs sv)) d 87 12 ([some (.inr (some 61)), some (.inl l1), some (.inl l2), some (.inl l3), some (.inl l4), o5], [], jSH w, M) (some (.inl res.1), jSH w, res.2)) : ∀ (n : Nat) (l1 : Int32) (l2 : Int32) (l3 : Int32) (l4 : Int32) (l5 : Int32) (w : Nat) (M : jp_M) {res : Int32 × jp_M}, f_TT_eaveOf_23 n c9 l1 l2 l3 l4 l5 M = some res → jR (jZ (jK Ln xs sv)) d 87 23 ([some (.inr (some 61)), some (.inl l1), some (.inl l2), some (.inl l3), some (.inl l4), some (.inl l5)], [], jSH w, M) (some (.inl res.1), jSH w, res.2) := by
  intro n
  induction n with
  | zero =>
    intro l1 l2 l3 l4 l5 w M res hf
    cases hf
  | succ n ih =>
    intro l1 l2 l3 l4 l5 w M res hf
    rw [f_TT_eaveOf_23] at hf
    refine jR_in rfl ⟨rfl, rfl, rfl⟩ rfl ?_
    refine js_iload rfl ?_
    refine js_bipush (v := (6 : Int32)) rfl ?_
    refine js_icmp (tgt := 71) rfl rfl (fun h => ?_) (fun h => ?_)
    · have hf := jif_t hf h
      exact t_TT_eaveOf_71 hd hc9 _ _ _ _ _ _ _ hf
    · have hf := jif_f hf h
      refine js_iload_n rfl ?_
      refine js_iconst (v := (-1 : Int32)) rfl ?_
      refine js_icmp (tgt := 71) rfl rfl (fun h => ?_) (fun h => ?_)
      · have hf := jif_t hf h
        exact t_TT_eaveOf_71 hd hc9 _ _ _ _ _ _ _ hf
      · have hf := jif_f hf h
        refine js_iload_n rfl ?_
        refine js_iload rfl ?_
        refine js_ishr ?_
        refine js_iconst (v := (1 : Int32)) rfl ?_
        refine js_iand ?_
        refine js_ifc (tgt := 65) rfl rfl (fun h => ?_) (fun h => ?_)
        · have hf := jif_t hf h
          exact t_TT_eaveOf_65 hd hc9 (fun l1 l2 l3 l4 l5 w M res hf => ih l1 l2 l3 l4 l5 w M hf) _ _ _ _ _ _ _ hf
        · have hf := jif_f hf h
          refine js_aload_n rfl ?_
          refine js_iload rfl ?_
          refine js_iload rfl ?_
          refine js_iload_n rfl ?_
          obtain ⟨q1, hc_1, hf⟩ := jbind hf
          refine js_c4i rfl rfl ⟨rfl, rfl⟩ rfl rfl (t_TT_costOf hc_1) (by omega) ?_
          refine js_aload_n rfl ?_
          refine js_getr rfl rfl rfl ?_
          refine js_iload_n rfl ?_
          obtain ⟨hb2, hf⟩ := jg_some hf
          refine js_iald rfl hb2 ?_
          refine js_icmp (tgt := 65) rfl rfl (fun h => ?_) (fun h => ?_)
          · have hf := jif_t hf h
            exact t_TT_eaveOf_65 hd hc9 (fun l1 l2 l3 l4 l5 w M res hf => ih l1 l2 l3 l4 l5 w M hf) _ _ _ _ _ _ _ hf
          · have hf := jif_f hf h
            refine js_iload rfl ?_
            refine js_istore_n rfl rfl ?_
            exact jS_out rfl ⟨rfl, rfl, rfl⟩ rfl (t_TT_eaveOf_65 hd hc9 (fun l1 l2 l3 l4 l5 w M res hf => ih l1 l2 l3 l4 l5 w M hf) _ _ _ _ _ _ _ hf)
def f_TT_eaveOf_12  : Nat → Int32 → Int32 → Int32 → Int32 → jp_M → Option (Int32 × jp_M)
  | 0, _, _, _, _, _ => none
  | n + 1, l1, l2, l3, l4, M =>
    if jp_c .gt l4 l1 = true then (
    some (l3, M)) else (
    f_TT_eaveOf_23 jFu (f_TT_eaveOf_12 n ) l1 l2 (-1 : Int32) l4 (0 : Int32) M)
theorem t_TT_eaveOf_12 {Ln : Nat} {xs : Nat → Int32} {sv : jp_V} {d : Nat} (hd : 3 ≤ d)  : ∀ (n : Nat) (l1 : Int32) (l2 : Int32) (l3 : Int32) (l4 : Int32) (o5 : Option jp_V) (w : Nat) (M : jp_M) {res : Int32 × jp_M}, f_TT_eaveOf_12 n  l1 l2 l3 l4 M = some res → jR (jZ (jK Ln xs sv)) d 87 12 ([some (.inr (some 61)), some (.inl l1), some (.inl l2), some (.inl l3), some (.inl l4), o5], [], jSH w, M) (some (.inl res.1), jSH w, res.2) := by
  intro n
  induction n with
  | zero =>
    intro l1 l2 l3 l4 o5 w M res hf
    cases hf
  | succ n ih =>
    intro l1 l2 l3 l4 o5 w M res hf
    rw [f_TT_eaveOf_12] at hf
    refine jR_in rfl ⟨rfl, rfl, rfl⟩ rfl ?_
    refine js_iload rfl ?_
    refine js_iload_n rfl ?_
    refine js_icmp (tgt := 87) rfl rfl (fun h => ?_) (fun h => ?_)
    · have hf := jif_t hf h
      refine jR_in rfl ⟨rfl, rfl, rfl⟩ rfl ?_
      refine js_iload_n rfl ?_
      obtain rfl := Option.some.inj hf
      exact js_iret rfl rfl
    · have hf := jif_f hf h
      refine js_iconst (v := (-1 : Int32)) rfl ?_
      refine js_istore_n rfl rfl ?_
      refine js_iconst (v := (0 : Int32)) rfl ?_
      refine js_istore rfl rfl ?_
      exact jS_out rfl ⟨rfl, rfl, rfl⟩ rfl (t_TT_eaveOf_23 hd (fun l1 l2 l3 l4 o5 w M res hf => ih l1 l2 l3 l4 o5 w M hf) jFu _ _ _ _ _ _ _ hf)
def f_TT_eaveOf (a1 : Int32) (M : jp_M) : Option (Int32 × jp_M) :=
  (f_TT_leastWays M).bind fun q1 => (
  f_TT_eaveOf_12 jFu a1 (0 : Int32) (-1 : Int32) (0 : Int32) (q1.2))
theorem t_TT_eaveOf {Ln : Nat} {xs : Nat → Int32} {sv : jp_V} {a1 : Int32} {w : Nat} {M : jp_M} {res : Int32 × jp_M} (hf : f_TT_eaveOf a1 M = some res) : jE (jZ (jK Ln xs sv)) 3 87 [(.inr (some 61)), (.inl a1)] (jSH w) M (some (.inl res.1), jSH w, res.2) := by
  unfold f_TT_eaveOf at hf
  refine jE_in (L0 := [some (.inr (some 61)), some (.inl a1), none, none, none, none]) rfl (Nat.le_of_ble_eq_true rfl) rfl (fun d hd => ?_)
  refine jR_in rfl ⟨rfl, rfl, rfl⟩ rfl ?_
  refine js_aload_n rfl ?_
  obtain ⟨q1, hc_1, hf⟩ := jbind hf
  refine js_c1i rfl rfl ⟨rfl, rfl⟩ rfl rfl (t_TT_leastWays hc_1) (by omega) ?_
  refine js_pop ?_
  refine js_iconst (v := (0 : Int32)) rfl ?_
  refine js_istore_n rfl rfl ?_
  refine js_iconst (v := (-1 : Int32)) rfl ?_
  refine js_istore_n rfl rfl ?_
  refine js_iconst (v := (0 : Int32)) rfl ?_
  refine js_istore rfl rfl ?_
  exact jS_out rfl ⟨rfl, rfl, rfl⟩ rfl (t_TT_eaveOf_12 hd jFu _ _ _ _ _ _ _ hf)
/-! SwallowsAir.eaves(I)I -/
def f_C_eaves (a1 : Int32) (M : jp_M) : Option (Int32 × jp_M) :=
  if jp_c .ne a1 0 = true then (
  if jp_c .lt a1 (10 : Int32) = true then (
  some ((-1 : Int32), M)) else (
  if jp_c .ge a1 (16 : Int32) = true then (
  some ((-1 : Int32), M)) else (
  (f_TT_eaveOf (a1 - (10 : Int32)) M).bind fun q1 => (
  some (q1.1, q1.2))))) else (
  (f_TT_leastWays M).bind fun q2 => (
  some (q2.1, q2.2)))
theorem t_C_eaves {Ln : Nat} {xs : Nat → Int32} {sv : jp_V} {a1 : Int32} {w : Nat} {M : jp_M} {res : Int32 × jp_M} (hf : f_C_eaves a1 M = some res) : jE (jZ (jK Ln xs sv)) 4 139 [(.inr (some 0)), (.inl a1)] (jSH w) M (some (.inl res.1), jSH w, res.2) := by
  unfold f_C_eaves at hf
  refine jE_in (L0 := [some (.inr (some 0)), some (.inl a1)]) rfl (Nat.le_of_ble_eq_true rfl) rfl (fun d hd => ?_)
  refine jR_in rfl ⟨rfl, rfl, rfl⟩ rfl ?_
  refine js_iload_n rfl ?_
  refine js_ifc (tgt := 12) rfl rfl (fun h => ?_) (fun h => ?_)
  · have hf := jif_t hf h
    refine jR_in rfl ⟨rfl, rfl, rfl⟩ rfl ?_
    refine js_iload_n rfl ?_
    refine js_bipush (v := (10 : Int32)) rfl ?_
    refine js_icmp (tgt := 36) rfl rfl (fun h => ?_) (fun h => ?_)
    · have hf := jif_t hf h
      refine jR_in rfl ⟨rfl, rfl, rfl⟩ rfl ?_
      refine js_iconst (v := (-1 : Int32)) rfl ?_
      obtain rfl := Option.some.inj hf
      exact js_iret rfl rfl
    · have hf := jif_f hf h
      refine js_iload_n rfl ?_
      refine js_bipush (v := (16 : Int32)) rfl ?_
      refine js_icmp (tgt := 36) rfl rfl (fun h => ?_) (fun h => ?_)
      · have hf := jif_t hf h
        refine jR_in rfl ⟨rfl, rfl, rfl⟩ rfl ?_
        refine js_iconst (v := (-1 : Int32)) rfl ?_
        obtain rfl := Option.some.inj hf
        exact js_iret rfl rfl
      · have hf := jif_f hf h
        refine js_aload_n rfl ?_
        refine js_getr rfl rfl rfl ?_
        refine js_iload_n rfl ?_
        refine js_bipush (v := (10 : Int32)) rfl ?_
        refine js_isub ?_
        obtain ⟨q1, hc_1, hf⟩ := jbind hf
        refine js_c2i rfl rfl ⟨rfl, rfl⟩ rfl rfl (t_TT_eaveOf hc_1) (by omega) ?_
        obtain rfl := Option.some.inj hf
        exact js_iret rfl rfl
  · have hf := jif_f hf h
    refine js_aload_n rfl ?_
    refine js_getr rfl rfl rfl ?_
    obtain ⟨q2, hc_2, hf⟩ := jbind hf
    refine js_c1i rfl rfl ⟨rfl, rfl⟩ rfl rfl (t_TT_leastWays hc_2) (by omega) ?_
    obtain rfl := Option.some.inj hf
    exact js_iret rfl rfl
/-! SwallowsAir$ToldThought.learnsCites()V -/
def f_TT_learnsCites_109 (c19 : Int32 → jp_M → Option (jp_M)) (l1 : Int32) (M : jp_M) : Option (jp_M) :=
  c19 (l1 + (1 : Int32)) M
theorem t_TT_learnsCites_109 {Ln : Nat} {xs : Nat → Int32} {sv : jp_V} {d : Nat} (hd : 1 ≤ d) {c19 : Int32 → jp_M → Option (jp_M)} (hc19 : ∀ (l1 : Int32) (o2 : Option jp_V) (o3 : Option jp_V) (w : Nat) (M : jp_M) (res : jp_M), c19 l1 M = some res → jR (jZ (jK Ln xs sv)) d 91 30 ([some (.inr (some 61)), some (.inl l1), o2, o3], [], jSH w, M) (none, jSH w, res)) (l1 : Int32) (o2 : Option jp_V) (o3 : Option jp_V) (w : Nat) (M : jp_M) {res : jp_M} (hf : f_TT_learnsCites_109 c19 l1 M = some res) : jR (jZ (jK Ln xs sv)) d 91 109 ([some (.inr (some 61)), some (.inl l1), o2, o3], [], jSH w, M) (none, jSH w, res) := by
  unfold f_TT_learnsCites_109 at hf
  refine jR_in rfl ⟨rfl, rfl, rfl⟩ rfl ?_
  refine js_iinc (v := (1 : Int32)) rfl rfl rfl rfl ?_
  refine js_goto (tgt := 30) rfl rfl ?_
  exact hc19 _ _ _ _ _ _ hf
def f_TT_learnsCites_30  : Nat → Int32 → jp_M → Option (jp_M)
  | 0, _, _ => none
  | n + 1, l1, M =>
    if jp_c .ge l1 (M 17 0) = true then (
    some M) else (
    jg (jp_in ((2 : Int32) * l1) 32) (
    jg (jp_in (((2 : Int32) * l1) + (1 : Int32)) 32) (
    if jp_c .eq (f_C_within (M 18 (Int32.toNatClampNeg ((2 : Int32) * l1))) (15 : Int32)) 0 = true then (
    f_TT_learnsCites_109 (f_TT_learnsCites_30 n ) l1 M) else (
    if jp_c .eq (f_C_within (M 18 (Int32.toNatClampNeg (((2 : Int32) * l1) + (1 : Int32)))) (15 : Int32)) 0 = true then (
    f_TT_learnsCites_109 (f_TT_learnsCites_30 n ) l1 M) else (
    jg (jp_in (M 18 (Int32.toNatClampNeg (((2 : Int32) * l1) + (1 : Int32)))) 16) (
    jg (jp_in (M 18 (Int32.toNatClampNeg (((2 : Int32) * l1) + (1 : Int32)))) 16) (
    let M6 := jp_set M 65 (upd (M 65) (Int32.toNatClampNeg (M 18 (Int32.toNatClampNeg (((2 : Int32) * l1) + (1 : Int32))))) ((M 65 (Int32.toNatClampNeg (M 18 (Int32.toNatClampNeg (((2 : Int32) * l1) + (1 : Int32)))))) ||| ((1 : Int32) <<< ((M 18 (Int32.toNatClampNeg ((2 : Int32) * l1))) &&& 31))))
    jg (jp_in (M 18 (Int32.toNatClampNeg ((2 : Int32) * l1))) 16) (
    jg (jp_in (M 18 (Int32.toNatClampNeg ((2 : Int32) * l1))) 16) (
    let M9 := jp_set M6 66 (upd (M6 66) (Int32.toNatClampNeg (M 18 (Int32.toNatClampNeg ((2 : Int32) * l1)))) ((M6 66 (Int32.toNatClampNeg (M 18 (Int32.toNatClampNeg ((2 : Int32) * l1))))) ||| ((1 : Int32) <<< ((M 18 (Int32.toNatClampNeg (((2 : Int32) * l1) + (1 : Int32)))) &&& 31))))
    f_TT_learnsCites_109 (f_TT_learnsCites_30 n ) l1 M9)))))))))
theorem t_TT_learnsCites_30 {Ln : Nat} {xs : Nat → Int32} {sv : jp_V} {d : Nat} (hd : 1 ≤ d)  : ∀ (n : Nat) (l1 : Int32) (o2 : Option jp_V) (o3 : Option jp_V) (w : Nat) (M : jp_M) {res : jp_M}, f_TT_learnsCites_30 n  l1 M = some res → jR (jZ (jK Ln xs sv)) d 91 30 ([some (.inr (some 61)), some (.inl l1), o2, o3], [], jSH w, M) (none, jSH w, res) := by
  intro n
  induction n with
  | zero =>
    intro l1 o2 o3 w M res hf
    cases hf
  | succ n ih =>
    intro l1 o2 o3 w M res hf
    rw [f_TT_learnsCites_30] at hf
    refine jR_in rfl ⟨rfl, rfl, rfl⟩ rfl ?_
    refine js_iload_n rfl ?_
    refine js_aload_n rfl ?_
    refine js_getr rfl rfl rfl ?_
    refine js_geti rfl rfl rfl ?_
    refine js_icmp (tgt := 115) rfl rfl (fun h => ?_) (fun h => ?_)
    · have hf := jif_t hf h
      refine jR_in rfl ⟨rfl, rfl, rfl⟩ rfl ?_
      obtain rfl := Option.some.inj hf
      exact js_ret rfl rfl
    · have hf := jif_f hf h
      refine js_aload_n rfl ?_
      refine js_getr rfl rfl rfl ?_
      refine js_getr rfl rfl rfl ?_
      refine js_iconst (v := (2 : Int32)) rfl ?_
      refine js_iload_n rfl ?_
      refine js_imul ?_
      obtain ⟨hb1, hf⟩ := jg_some hf
      refine js_iald rfl hb1 ?_
      refine js_istore_n rfl rfl ?_
      refine js_aload_n rfl ?_
      refine js_getr rfl rfl rfl ?_
      refine js_getr rfl rfl rfl ?_
      refine js_iconst (v := (2 : Int32)) rfl ?_
      refine js_iload_n rfl ?_
      refine js_imul ?_
      refine js_iconst (v := (1 : Int32)) rfl ?_
      refine js_iadd ?_
      obtain ⟨hb2, hf⟩ := jg_some hf
      refine js_iald rfl hb2 ?_
      refine js_istore_n rfl rfl ?_
      refine js_iload_n rfl ?_
      refine js_bipush (v := (15 : Int32)) rfl ?_
      refine js_c2i rfl rfl ⟨rfl, rfl⟩ rfl rfl (t_C_within rfl) (by omega) ?_
      refine js_ifc (tgt := 109) rfl rfl (fun h => ?_) (fun h => ?_)
      · have hf := jif_t hf h
        exact t_TT_learnsCites_109 hd (fun l1 o2 o3 w M res hf => ih l1 o2 o3 w M hf) _ _ _ _ _ hf
      · have hf := jif_f hf h
        refine js_iload_n rfl ?_
        refine js_bipush (v := (15 : Int32)) rfl ?_
        refine js_c2i rfl rfl ⟨rfl, rfl⟩ rfl rfl (t_C_within rfl) (by omega) ?_
        refine js_ifc (tgt := 109) rfl rfl (fun h => ?_) (fun h => ?_)
        · have hf := jif_t hf h
          exact t_TT_learnsCites_109 hd (fun l1 o2 o3 w M res hf => ih l1 o2 o3 w M hf) _ _ _ _ _ hf
        · have hf := jif_f hf h
          refine js_aload_n rfl ?_
          refine js_getr rfl rfl rfl ?_
          refine js_iload_n rfl ?_
          refine js_dup2 ?_
          obtain ⟨hb5, hf⟩ := jg_some hf
          refine js_iald rfl hb5 ?_
          refine js_iconst (v := (1 : Int32)) rfl ?_
          refine js_iload_n rfl ?_
          refine js_ishl ?_
          refine js_ior ?_
          obtain ⟨hb7, hf⟩ := jg_some hf
          refine js_iast rfl hb7 ?_
          refine js_aload_n rfl ?_
          refine js_getr rfl rfl rfl ?_
          refine js_iload_n rfl ?_
          refine js_dup2 ?_
          obtain ⟨hb8, hf⟩ := jg_some hf
          refine js_iald rfl hb8 ?_
          refine js_iconst (v := (1 : Int32)) rfl ?_
          refine js_iload_n rfl ?_
          refine js_ishl ?_
          refine js_ior ?_
          obtain ⟨hb10, hf⟩ := jg_some hf
          refine js_iast rfl hb10 ?_
          exact jS_out rfl ⟨rfl, rfl, rfl⟩ rfl (t_TT_learnsCites_109 hd (fun l1 o2 o3 w M res hf => ih l1 o2 o3 w M hf) _ _ _ _ _ hf)
def f_TT_learnsCites_2  : Nat → Int32 → jp_M → Option (jp_M)
  | 0, _, _ => none
  | n + 1, l1, M =>
    if jp_c .ge l1 (16 : Int32) = true then (
    f_TT_learnsCites_30 jFu (0 : Int32) M) else (
    jg (jp_in l1 16) (
    let M1 := jp_set M 65 (upd (M 65) (Int32.toNatClampNeg l1) (0 : Int32))
    jg (jp_in l1 16) (
    let M3 := jp_set M1 66 (upd (M1 66) (Int32.toNatClampNeg l1) (0 : Int32))
    f_TT_learnsCites_2 n (l1 + (1 : Int32)) M3)))
theorem t_TT_learnsCites_2 {Ln : Nat} {xs : Nat → Int32} {sv : jp_V} {d : Nat} (hd : 1 ≤ d)  : ∀ (n : Nat) (l1 : Int32) (o2 : Option jp_V) (o3 : Option jp_V) (w : Nat) (M : jp_M) {res : jp_M}, f_TT_learnsCites_2 n  l1 M = some res → jR (jZ (jK Ln xs sv)) d 91 2 ([some (.inr (some 61)), some (.inl l1), o2, o3], [], jSH w, M) (none, jSH w, res) := by
  intro n
  induction n with
  | zero =>
    intro l1 o2 o3 w M res hf
    cases hf
  | succ n ih =>
    intro l1 o2 o3 w M res hf
    rw [f_TT_learnsCites_2] at hf
    refine jR_in rfl ⟨rfl, rfl, rfl⟩ rfl ?_
    refine js_iload_n rfl ?_
    refine js_bipush (v := (16 : Int32)) rfl ?_
    refine js_icmp (tgt := 28) rfl rfl (fun h => ?_) (fun h => ?_)
    · have hf := jif_t hf h
      refine jR_in rfl ⟨rfl, rfl, rfl⟩ rfl ?_
      refine js_iconst (v := (0 : Int32)) rfl ?_
      refine js_istore_n rfl rfl ?_
      exact jS_out rfl ⟨rfl, rfl, rfl⟩ rfl (t_TT_learnsCites_30 hd jFu _ _ _ _ _ hf)
    · have hf := jif_f hf h
      refine js_aload_n rfl ?_
      refine js_getr rfl rfl rfl ?_
      refine js_iload_n rfl ?_
      refine js_iconst (v := (0 : Int32)) rfl ?_
      obtain ⟨hb2, hf⟩ := jg_some hf
      refine js_iast rfl hb2 ?_
      refine js_aload_n rfl ?_
      refine js_getr rfl rfl rfl ?_
      refine js_iload_n rfl ?_
      refine js_iconst (v := (0 : Int32)) rfl ?_
      obtain ⟨hb4, hf⟩ := jg_some hf
      refine js_iast rfl hb4 ?_
      refine js_iinc (v := (1 : Int32)) rfl rfl rfl rfl ?_
      refine js_goto (tgt := 2) rfl rfl ?_
      exact ih _ _ _ _ _ hf
def f_TT_learnsCites (M : jp_M) : Option (jp_M) :=
  f_TT_learnsCites_2 jFu (0 : Int32) M
theorem t_TT_learnsCites {Ln : Nat} {xs : Nat → Int32} {sv : jp_V} {w : Nat} {M : jp_M} {res : jp_M} (hf : f_TT_learnsCites M = some res) : jE (jZ (jK Ln xs sv)) 1 91 [(.inr (some 61))] (jSH w) M (none, jSH w, res) := by
  unfold f_TT_learnsCites at hf
  refine jE_in (L0 := [some (.inr (some 61)), none, none, none]) rfl (Nat.le_of_ble_eq_true rfl) rfl (fun d hd => ?_)
  refine jR_in rfl ⟨rfl, rfl, rfl⟩ rfl ?_
  refine js_iconst (v := (0 : Int32)) rfl ?_
  refine js_istore_n rfl rfl ?_
  exact jS_out rfl ⟨rfl, rfl, rfl⟩ rfl (t_TT_learnsCites_2 hd jFu _ _ _ _ _ hf)
/-! SwallowsAir$ToldThought.leastReady(I)I -/
def f_TT_leastReady_31 (c2 : Int32 → Int32 → jp_M → Option (Int32)) (l1 : Int32) (l2 : Int32) (M : jp_M) : Option (Int32) :=
  c2 l1 (l2 + (1 : Int32)) M
theorem t_TT_leastReady_31 {Ln : Nat} {xs : Nat → Int32} {sv : jp_V} {d : Nat} (hd : 0 ≤ d) {c2 : Int32 → Int32 → jp_M → Option (Int32)} (hc2 : ∀ (l1 : Int32) (l2 : Int32) (w : Nat) (M : jp_M) (res : Int32), c2 l1 l2 M = some res → jR (jZ (jK Ln xs sv)) d 94 2 ([some (.inr (some 61)), some (.inl l1), some (.inl l2)], [], jSH w, M) (some (.inl res), jSH w, M)) (l1 : Int32) (l2 : Int32) (w : Nat) (M : jp_M) {res : Int32} (hf : f_TT_leastReady_31 c2 l1 l2 M = some res) : jR (jZ (jK Ln xs sv)) d 94 31 ([some (.inr (some 61)), some (.inl l1), some (.inl l2)], [], jSH w, M) (some (.inl res), jSH w, M) := by
  unfold f_TT_leastReady_31 at hf
  refine jR_in rfl ⟨rfl, rfl, rfl⟩ rfl ?_
  refine js_iinc (v := (1 : Int32)) rfl rfl rfl rfl ?_
  refine js_goto (tgt := 2) rfl rfl ?_
  exact hc2 _ _ _ _ _ hf
def f_TT_leastReady_2  : Nat → Int32 → Int32 → jp_M → Option (Int32)
  | 0, _, _, _ => none
  | n + 1, l1, l2, M =>
    if jp_c .ge l2 (16 : Int32) = true then (
    some (-1 : Int32)) else (
    if jp_c .ne ((l1 >>> (l2 &&& 31)) &&& (1 : Int32)) 0 = true then (
    f_TT_leastReady_31 (f_TT_leastReady_2 n ) l1 l2 M) else (
    jg (jp_in l2 16) (
    if jp_c .ne ((M 66 (Int32.toNatClampNeg l2)) &&& (l1 ^^^ (-1 : Int32))) 0 = true then (
    f_TT_leastReady_31 (f_TT_leastReady_2 n ) l1 l2 M) else (
    some l2))))
theorem t_TT_leastReady_2 {Ln : Nat} {xs : Nat → Int32} {sv : jp_V} {d : Nat} (hd : 0 ≤ d)  : ∀ (n : Nat) (l1 : Int32) (l2 : Int32) (w : Nat) (M : jp_M) {res : Int32}, f_TT_leastReady_2 n  l1 l2 M = some res → jR (jZ (jK Ln xs sv)) d 94 2 ([some (.inr (some 61)), some (.inl l1), some (.inl l2)], [], jSH w, M) (some (.inl res), jSH w, M) := by
  intro n
  induction n with
  | zero =>
    intro l1 l2 w M res hf
    cases hf
  | succ n ih =>
    intro l1 l2 w M res hf
    rw [f_TT_leastReady_2] at hf
    refine jR_in rfl ⟨rfl, rfl, rfl⟩ rfl ?_
    refine js_iload_n rfl ?_
    refine js_bipush (v := (16 : Int32)) rfl ?_
    refine js_icmp (tgt := 37) rfl rfl (fun h => ?_) (fun h => ?_)
    · have hf := jif_t hf h
      refine jR_in rfl ⟨rfl, rfl, rfl⟩ rfl ?_
      refine js_iconst (v := (-1 : Int32)) rfl ?_
      obtain rfl := Option.some.inj hf
      exact js_iret rfl rfl
    · have hf := jif_f hf h
      refine js_iload_n rfl ?_
      refine js_iload_n rfl ?_
      refine js_ishr ?_
      refine js_iconst (v := (1 : Int32)) rfl ?_
      refine js_iand ?_
      refine js_ifc (tgt := 31) rfl rfl (fun h => ?_) (fun h => ?_)
      · have hf := jif_t hf h
        exact t_TT_leastReady_31 hd (fun l1 l2 w M res hf => ih l1 l2 w M hf) _ _ _ _ hf
      · have hf := jif_f hf h
        refine js_aload_n rfl ?_
        refine js_getr rfl rfl rfl ?_
        refine js_iload_n rfl ?_
        obtain ⟨hb1, hf⟩ := jg_some hf
        refine js_iald rfl hb1 ?_
        refine js_iload_n rfl ?_
        refine js_iconst (v := (-1 : Int32)) rfl ?_
        refine js_ixor ?_
        refine js_iand ?_
        refine js_ifc (tgt := 31) rfl rfl (fun h => ?_) (fun h => ?_)
        · have hf := jif_t hf h
          exact t_TT_leastReady_31 hd (fun l1 l2 w M res hf => ih l1 l2 w M hf) _ _ _ _ hf
        · have hf := jif_f hf h
          refine js_iload_n rfl ?_
          obtain rfl := Option.some.inj hf
          exact js_iret rfl rfl
def f_TT_leastReady (a1 : Int32) (M : jp_M) : Option (Int32) :=
  f_TT_leastReady_2 jFu a1 (0 : Int32) M
theorem t_TT_leastReady {Ln : Nat} {xs : Nat → Int32} {sv : jp_V} {a1 : Int32} {w : Nat} {M : jp_M} {res : Int32} (hf : f_TT_leastReady a1 M = some res) : jE (jZ (jK Ln xs sv)) 0 94 [(.inr (some 61)), (.inl a1)] (jSH w) M (some (.inl res), jSH w, M) := by
  unfold f_TT_leastReady at hf
  refine jE_in (L0 := [some (.inr (some 61)), some (.inl a1), none]) rfl (Nat.le_of_ble_eq_true rfl) rfl (fun d hd => ?_)
  refine jR_in rfl ⟨rfl, rfl, rfl⟩ rfl ?_
  refine js_iconst (v := (0 : Int32)) rfl ?_
  refine js_istore_n rfl rfl ?_
  exact jS_out rfl ⟨rfl, rfl, rfl⟩ rfl (t_TT_leastReady_2 hd jFu _ _ _ _ hf)
/-! SwallowsAir$ToldThought.placeOf(I)I -/
def f_TT_placeOf_42 (c8 : Int32 → Int32 → Int32 → Int32 → jp_M → Option (Int32 × jp_M)) (l1 : Int32) (l2 : Int32) (l3 : Int32) (l4 : Int32) (l5 : Int32) (M : jp_M) : Option (Int32 × jp_M) :=
  c8 l1 (l2 ||| ((1 : Int32) <<< (l5 &&& 31))) l3 (l4 + (1 : Int32)) M
theorem t_TT_placeOf_42 {Ln : Nat} {xs : Nat → Int32} {sv : jp_V} {d : Nat} (hd : 2 ≤ d) {c8 : Int32 → Int32 → Int32 → Int32 → jp_M → Option (Int32 × jp_M)} (hc8 : ∀ (l1 : Int32) (l2 : Int32) (l3 : Int32) (l4 : Int32) (o5 : Option jp_V) (w : Nat) (M : jp_M) (res : Int32 × jp_M), c8 l1 l2 l3 l4 M = some res → jR (jZ (jK Ln xs sv)) d 93 11 ([some (.inr (some 61)), some (.inl l1), some (.inl l2), some (.inl l3), some (.inl l4), o5], [], jSH w, M) (some (.inl res.1), jSH w, res.2)) (l1 : Int32) (l2 : Int32) (l3 : Int32) (l4 : Int32) (l5 : Int32) (w : Nat) (M : jp_M) {res : Int32 × jp_M} (hf : f_TT_placeOf_42 c8 l1 l2 l3 l4 l5 M = some res) : jR (jZ (jK Ln xs sv)) d 93 42 ([some (.inr (some 61)), some (.inl l1), some (.inl l2), some (.inl l3), some (.inl l4), some (.inl l5)], [], jSH w, M) (some (.inl res.1), jSH w, res.2) := by
  unfold f_TT_placeOf_42 at hf
  refine jR_in rfl ⟨rfl, rfl, rfl⟩ rfl ?_
  refine js_iload_n rfl ?_
  refine js_iconst (v := (1 : Int32)) rfl ?_
  refine js_iload rfl ?_
  refine js_ishl ?_
  refine js_ior ?_
  refine js_istore_n rfl rfl ?_
  refine js_iinc (v := (1 : Int32)) rfl rfl rfl rfl ?_
  refine js_goto (tgt := 11) rfl rfl ?_
  exact hc8 _ _ _ _ _ _ _ _ hf
def f_TT_placeOf_11  : Nat → Int32 → Int32 → Int32 → Int32 → jp_M → Option (Int32 × jp_M)
  | 0, _, _, _, _, _ => none
  | n + 1, l1, l2, l3, l4, M =>
    if jp_c .ge l4 (16 : Int32) = true then (
    some (l3, M)) else (
    (f_TT_leastReady l2 M).bind fun q1 => (
    if jp_c .ne q1 (-1 : Int32) = true then (
    if jp_c .ne q1 l1 = true then (
    f_TT_placeOf_42 (f_TT_placeOf_11 n ) l1 l2 l3 l4 q1 M) else (
    f_TT_placeOf_42 (f_TT_placeOf_11 n ) l1 l2 l4 l4 q1 M)) else (
    some ((-1 : Int32), M))))
theorem t_TT_placeOf_11 {Ln : Nat} {xs : Nat → Int32} {sv : jp_V} {d : Nat} (hd : 2 ≤ d)  : ∀ (n : Nat) (l1 : Int32) (l2 : Int32) (l3 : Int32) (l4 : Int32) (o5 : Option jp_V) (w : Nat) (M : jp_M) {res : Int32 × jp_M}, f_TT_placeOf_11 n  l1 l2 l3 l4 M = some res → jR (jZ (jK Ln xs sv)) d 93 11 ([some (.inr (some 61)), some (.inl l1), some (.inl l2), some (.inl l3), some (.inl l4), o5], [], jSH w, M) (some (.inl res.1), jSH w, res.2) := by
  intro n
  induction n with
  | zero =>
    intro l1 l2 l3 l4 o5 w M res hf
    cases hf
  | succ n ih =>
    intro l1 l2 l3 l4 o5 w M res hf
    rw [f_TT_placeOf_11] at hf
    refine jR_in rfl ⟨rfl, rfl, rfl⟩ rfl ?_
    refine js_iload rfl ?_
    refine js_bipush (v := (16 : Int32)) rfl ?_
    refine js_icmp (tgt := 55) rfl rfl (fun h => ?_) (fun h => ?_)
    · have hf := jif_t hf h
      refine jR_in rfl ⟨rfl, rfl, rfl⟩ rfl ?_
      refine js_iload_n rfl ?_
      obtain rfl := Option.some.inj hf
      exact js_iret rfl rfl
    · have hf := jif_f hf h
      refine js_aload_n rfl ?_
      refine js_iload_n rfl ?_
      obtain ⟨q1, hc_1, hf⟩ := jbind hf
      refine js_c2i rfl rfl ⟨rfl, rfl⟩ rfl rfl (t_TT_leastReady hc_1) (by omega) ?_
      refine js_istore rfl rfl ?_
      refine js_iload rfl ?_
      refine js_iconst (v := (-1 : Int32)) rfl ?_
      refine js_icmp (tgt := 33) rfl rfl (fun h => ?_) (fun h => ?_)
      · have hf := jif_t hf h
        refine jR_in rfl ⟨rfl, rfl, rfl⟩ rfl ?_
        refine js_iload rfl ?_
        refine js_iload_n rfl ?_
        refine js_icmp (tgt := 42) rfl rfl (fun h => ?_) (fun h => ?_)
        · have hf := jif_t hf h
          exact t_TT_placeOf_42 hd (fun l1 l2 l3 l4 o5 w M res hf => ih l1 l2 l3 l4 o5 w M hf) _ _ _ _ _ _ _ hf
        · have hf := jif_f hf h
          refine js_iload rfl ?_
          refine js_istore_n rfl rfl ?_
          exact jS_out rfl ⟨rfl, rfl, rfl⟩ rfl (t_TT_placeOf_42 hd (fun l1 l2 l3 l4 o5 w M res hf => ih l1 l2 l3 l4 o5 w M hf) _ _ _ _ _ _ _ hf)
      · have hf := jif_f hf h
        refine js_iconst (v := (-1 : Int32)) rfl ?_
        obtain rfl := Option.some.inj hf
        exact js_iret rfl rfl
def f_TT_placeOf (a1 : Int32) (M : jp_M) : Option (Int32 × jp_M) :=
  (f_TT_learnsCites M).bind fun q1 => (
  f_TT_placeOf_11 jFu a1 (0 : Int32) (-1 : Int32) (0 : Int32) q1)
theorem t_TT_placeOf {Ln : Nat} {xs : Nat → Int32} {sv : jp_V} {a1 : Int32} {w : Nat} {M : jp_M} {res : Int32 × jp_M} (hf : f_TT_placeOf a1 M = some res) : jE (jZ (jK Ln xs sv)) 2 93 [(.inr (some 61)), (.inl a1)] (jSH w) M (some (.inl res.1), jSH w, res.2) := by
  unfold f_TT_placeOf at hf
  refine jE_in (L0 := [some (.inr (some 61)), some (.inl a1), none, none, none, none]) rfl (Nat.le_of_ble_eq_true rfl) rfl (fun d hd => ?_)
  refine jR_in rfl ⟨rfl, rfl, rfl⟩ rfl ?_
  refine js_aload_n rfl ?_
  obtain ⟨q1, hc_1, hf⟩ := jbind hf
  refine js_c1v (w := 0) rfl rfl ⟨rfl, rfl⟩ rfl rfl (t_TT_learnsCites hc_1) (by omega) ?_
  refine js_iconst (v := (0 : Int32)) rfl ?_
  refine js_istore_n rfl rfl ?_
  refine js_iconst (v := (-1 : Int32)) rfl ?_
  refine js_istore_n rfl rfl ?_
  refine js_iconst (v := (0 : Int32)) rfl ?_
  refine js_istore rfl rfl ?_
  exact jS_out rfl ⟨rfl, rfl, rfl⟩ rfl (t_TT_placeOf_11 hd jFu _ _ _ _ _ _ _ hf)
/-! SwallowsAir$ToldThought.founds(I)I -/
def f_TT_founds_49 (c9 : Int32 → Int32 → jp_M → Option (Int32 × jp_M)) (c14 : Int32 → Int32 → Int32 → jp_M → Option (Int32 × jp_M)) (l2 : Int32) (l3 : Int32) (l4 : Int32) (M : jp_M) : Option (Int32 × jp_M) :=
  c14 l2 l3 (l4 + (1 : Int32)) M
theorem t_TT_founds_49 {Ln : Nat} {xs : Nat → Int32} {sv : jp_V} {d : Nat} (hd : 2 ≤ d) {c9 : Int32 → Int32 → jp_M → Option (Int32 × jp_M)} (hc9 : ∀ (l2 : Int32) (l3 : Int32) (o1 : Option jp_V) (o4 : Option jp_V) (w : Nat) (M : jp_M) (res : Int32 × jp_M), c9 l2 l3 M = some res → jR (jZ (jK Ln xs sv)) d 92 13 ([some (.inr (some 61)), o1, some (.inl l2), some (.inl l3), o4], [], jSH w, M) (some (.inl res.1), jSH w, res.2)) {c14 : Int32 → Int32 → Int32 → jp_M → Option (Int32 × jp_M)} (hc14 : ∀ (l2 : Int32) (l3 : Int32) (l4 : Int32) (o1 : Option jp_V) (w : Nat) (M : jp_M) (res : Int32 × jp_M), c14 l2 l3 l4 M = some res → jR (jZ (jK Ln xs sv)) d 92 22 ([some (.inr (some 61)), o1, some (.inl l2), some (.inl l3), some (.inl l4)], [], jSH w, M) (some (.inl res.1), jSH w, res.2)) (l2 : Int32) (l3 : Int32) (l4 : Int32) (o1 : Option jp_V) (w : Nat) (M : jp_M) {res : Int32 × jp_M} (hf : f_TT_founds_49 c9 c14 l2 l3 l4 M = some res) : jR (jZ (jK Ln xs sv)) d 92 49 ([some (.inr (some 61)), o1, some (.inl l2), some (.inl l3), some (.inl l4)], [], jSH w, M) (some (.inl res.1), jSH w, res.2) := by
  unfold f_TT_founds_49 at hf
  refine jR_in rfl ⟨rfl, rfl, rfl⟩ rfl ?_
  refine js_iinc (v := (1 : Int32)) rfl rfl rfl rfl ?_
  refine js_goto (tgt := 22) rfl rfl ?_
  exact hc14 _ _ _ _ _ _ _ hf
def f_TT_founds_22  : Nat → (Int32 → Int32 → jp_M → Option (Int32 × jp_M)) → Int32 → Int32 → Int32 → jp_M → Option (Int32 × jp_M)
  | 0, _, _, _, _, _ => none
  | n + 1, c9, l2, l3, l4, M =>
    if jp_c .ge l4 (16 : Int32) = true then (
    c9 l2 (l3 + (1 : Int32)) M) else (
    if jp_c .ne ((l2 >>> (l4 &&& 31)) &&& (1 : Int32)) (1 : Int32) = true then (
    f_TT_founds_49 c9 (f_TT_founds_22 n c9) l2 l3 l4 M) else (
    jg (jp_in l4 16) (
    f_TT_founds_49 c9 (f_TT_founds_22 n c9) (l2 ||| (M 65 (Int32.toNatClampNeg l4))) l3 l4 M)))
theorem t_TT_founds_22 {Ln : Nat} {xs : Nat → Int32} {sv : jp_V} {d : Nat} (hd : 2 ≤ d) {c9 : Int32 → Int32 → jp_M → Option (Int32 × jp_M)} (hc9 : ∀ (l2 : Int32) (l3 : Int32) (o1 : Option jp_V) (o4 : Option jp_V) (w : Nat) (M : jp_M) (res : Int32 × jp_M), c9 l2 l3 M = some res → jR (jZ (jK Ln xs sv)) d 92 13 ([some (.inr (some 61)), o1, some (.inl l2), some (.inl l3), o4], [], jSH w, M) (some (.inl res.1), jSH w, res.2)) : ∀ (n : Nat) (l2 : Int32) (l3 : Int32) (l4 : Int32) (o1 : Option jp_V) (w : Nat) (M : jp_M) {res : Int32 × jp_M}, f_TT_founds_22 n c9 l2 l3 l4 M = some res → jR (jZ (jK Ln xs sv)) d 92 22 ([some (.inr (some 61)), o1, some (.inl l2), some (.inl l3), some (.inl l4)], [], jSH w, M) (some (.inl res.1), jSH w, res.2) := by
  intro n
  induction n with
  | zero =>
    intro l2 l3 l4 o1 w M res hf
    cases hf
  | succ n ih =>
    intro l2 l3 l4 o1 w M res hf
    rw [f_TT_founds_22] at hf
    refine jR_in rfl ⟨rfl, rfl, rfl⟩ rfl ?_
    refine js_iload rfl ?_
    refine js_bipush (v := (16 : Int32)) rfl ?_
    refine js_icmp (tgt := 55) rfl rfl (fun h => ?_) (fun h => ?_)
    · have hf := jif_t hf h
      refine jR_in rfl ⟨rfl, rfl, rfl⟩ rfl ?_
      refine js_iinc (v := (1 : Int32)) rfl rfl rfl rfl ?_
      refine js_goto (tgt := 13) rfl rfl ?_
      exact hc9 _ _ _ _ _ _ _ hf
    · have hf := jif_f hf h
      refine js_iload_n rfl ?_
      refine js_iload rfl ?_
      refine js_ishr ?_
      refine js_iconst (v := (1 : Int32)) rfl ?_
      refine js_iand ?_
      refine js_iconst (v := (1 : Int32)) rfl ?_
      refine js_icmp (tgt := 49) rfl rfl (fun h => ?_) (fun h => ?_)
      · have hf := jif_t hf h
        exact t_TT_founds_49 hd hc9 (fun l2 l3 l4 o1 w M res hf => ih l2 l3 l4 o1 w M hf) _ _ _ _ _ _ hf
      · have hf := jif_f hf h
        refine js_iload_n rfl ?_
        refine js_aload_n rfl ?_
        refine js_getr rfl rfl rfl ?_
        refine js_iload rfl ?_
        obtain ⟨hb1, hf⟩ := jg_some hf
        refine js_iald rfl hb1 ?_
        refine js_ior ?_
        refine js_istore_n rfl rfl ?_
        exact jS_out rfl ⟨rfl, rfl, rfl⟩ rfl (t_TT_founds_49 hd hc9 (fun l2 l3 l4 o1 w M res hf => ih l2 l3 l4 o1 w M hf) _ _ _ _ _ _ hf)
def f_TT_founds_13  : Nat → Int32 → Int32 → jp_M → Option (Int32 × jp_M)
  | 0, _, _, _ => none
  | n + 1, l2, l3, M =>
    if jp_c .ge l3 (16 : Int32) = true then (
    some (l2, M)) else (
    f_TT_founds_22 jFu (f_TT_founds_13 n ) l2 l3 (0 : Int32) M)
theorem t_TT_founds_13 {Ln : Nat} {xs : Nat → Int32} {sv : jp_V} {d : Nat} (hd : 2 ≤ d)  : ∀ (n : Nat) (l2 : Int32) (l3 : Int32) (o1 : Option jp_V) (o4 : Option jp_V) (w : Nat) (M : jp_M) {res : Int32 × jp_M}, f_TT_founds_13 n  l2 l3 M = some res → jR (jZ (jK Ln xs sv)) d 92 13 ([some (.inr (some 61)), o1, some (.inl l2), some (.inl l3), o4], [], jSH w, M) (some (.inl res.1), jSH w, res.2) := by
  intro n
  induction n with
  | zero =>
    intro l2 l3 o1 o4 w M res hf
    cases hf
  | succ n ih =>
    intro l2 l3 o1 o4 w M res hf
    rw [f_TT_founds_13] at hf
    refine jR_in rfl ⟨rfl, rfl, rfl⟩ rfl ?_
    refine js_iload_n rfl ?_
    refine js_bipush (v := (16 : Int32)) rfl ?_
    refine js_icmp (tgt := 61) rfl rfl (fun h => ?_) (fun h => ?_)
    · have hf := jif_t hf h
      refine jR_in rfl ⟨rfl, rfl, rfl⟩ rfl ?_
      refine js_iload_n rfl ?_
      obtain rfl := Option.some.inj hf
      exact js_iret rfl rfl
    · have hf := jif_f hf h
      refine js_iconst (v := (0 : Int32)) rfl ?_
      refine js_istore rfl rfl ?_
      exact jS_out rfl ⟨rfl, rfl, rfl⟩ rfl (t_TT_founds_22 hd (fun l2 l3 o1 o4 w M res hf => ih l2 l3 o1 o4 w M hf) jFu _ _ _ _ _ _ hf)
def f_TT_founds (a1 : Int32) (M : jp_M) : Option (Int32 × jp_M) :=
  (f_TT_learnsCites M).bind fun q1 => (
  jg (jp_in a1 16) (
  f_TT_founds_13 jFu (q1 65 (Int32.toNatClampNeg a1)) (0 : Int32) q1))
theorem t_TT_founds {Ln : Nat} {xs : Nat → Int32} {sv : jp_V} {a1 : Int32} {w : Nat} {M : jp_M} {res : Int32 × jp_M} (hf : f_TT_founds a1 M = some res) : jE (jZ (jK Ln xs sv)) 2 92 [(.inr (some 61)), (.inl a1)] (jSH w) M (some (.inl res.1), jSH w, res.2) := by
  unfold f_TT_founds at hf
  refine jE_in (L0 := [some (.inr (some 61)), some (.inl a1), none, none, none]) rfl (Nat.le_of_ble_eq_true rfl) rfl (fun d hd => ?_)
  refine jR_in rfl ⟨rfl, rfl, rfl⟩ rfl ?_
  refine js_aload_n rfl ?_
  obtain ⟨q1, hc_1, hf⟩ := jbind hf
  refine js_c1v (w := 0) rfl rfl ⟨rfl, rfl⟩ rfl rfl (t_TT_learnsCites hc_1) (by omega) ?_
  refine js_aload_n rfl ?_
  refine js_getr rfl rfl rfl ?_
  refine js_iload_n rfl ?_
  obtain ⟨hb2, hf⟩ := jg_some hf
  refine js_iald rfl hb2 ?_
  refine js_istore_n rfl rfl ?_
  refine js_iconst (v := (0 : Int32)) rfl ?_
  refine js_istore_n rfl rfl ?_
  exact jS_out rfl ⟨rfl, rfl, rfl⟩ rfl (t_TT_founds_13 hd jFu _ _ _ _ _ _ hf)
/-! SwallowsAir.cites(II)I -/
def f_C_cites (a1 : Int32) (a2 : Int32) (M : jp_M) : Option (Int32 × jp_M) :=
  if jp_c .ne (f_C_within a1 (15 : Int32)) 0 = true then (
  if a2 = (0 : Int32) then (
  (f_TT_founds a1 M).bind fun q2 => (
  some (q2.1, q2.2))) else if a2 = (1 : Int32) then (
  (f_TT_placeOf a1 M).bind fun q3 => (
  some (q3.1, q3.2))) else (
  some ((-1 : Int32), M))) else (
  some ((-1 : Int32), M))
theorem t_C_cites {Ln : Nat} {xs : Nat → Int32} {sv : jp_V} {a1 : Int32} {a2 : Int32} {w : Nat} {M : jp_M} {res : Int32 × jp_M} (hf : f_C_cites a1 a2 M = some res) : jE (jZ (jK Ln xs sv)) 3 140 [(.inr (some 0)), (.inl a1), (.inl a2)] (jSH w) M (some (.inl res.1), jSH w, res.2) := by
  unfold f_C_cites at hf
  refine jE_in (L0 := [some (.inr (some 0)), some (.inl a1), some (.inl a2)]) rfl (Nat.le_of_ble_eq_true rfl) rfl (fun d hd => ?_)
  refine jR_in rfl ⟨rfl, rfl, rfl⟩ rfl ?_
  refine js_iload_n rfl ?_
  refine js_bipush (v := (15 : Int32)) rfl ?_
  refine js_c2i rfl rfl ⟨rfl, rfl⟩ rfl rfl (t_C_within rfl) (by omega) ?_
  refine js_ifc (tgt := 11) rfl rfl (fun h => ?_) (fun h => ?_)
  · have hf := jif_t hf h
    refine jR_in rfl ⟨rfl, rfl, rfl⟩ rfl ?_
    refine js_iload_n rfl ?_
    rcases jif_d hf with ⟨hk, hf⟩ | ⟨hk0, hf⟩
    · refine js_look (off := 28) (tgt := 40) rfl (by rw [hk]; rfl) rfl rfl ?_
      refine jR_in rfl ⟨rfl, rfl, rfl⟩ rfl ?_
      refine js_aload_n rfl ?_
      refine js_getr rfl rfl rfl ?_
      refine js_iload_n rfl ?_
      obtain ⟨q2, hc_2, hf⟩ := jbind hf
      refine js_c2i rfl rfl ⟨rfl, rfl⟩ rfl rfl (t_TT_founds hc_2) (by omega) ?_
      obtain rfl := Option.some.inj hf
      exact js_iret rfl rfl
    · rcases jif_d hf with ⟨hk, hf⟩ | ⟨hk1, hf⟩
      · refine js_look (off := 37) (tgt := 49) rfl (by rw [hk]; rfl) rfl rfl ?_
        refine jR_in rfl ⟨rfl, rfl, rfl⟩ rfl ?_
        refine js_aload_n rfl ?_
        refine js_getr rfl rfl rfl ?_
        refine js_iload_n rfl ?_
        obtain ⟨q3, hc_3, hf⟩ := jbind hf
        refine js_c2i rfl rfl ⟨rfl, rfl⟩ rfl rfl (t_TT_placeOf hc_3) (by omega) ?_
        obtain rfl := Option.some.inj hf
        exact js_iret rfl rfl
      · refine js_look (off := 46) (tgt := 58) rfl (jsw_8 hk0 hk1) rfl rfl ?_
        refine jR_in rfl ⟨rfl, rfl, rfl⟩ rfl ?_
        refine js_iconst (v := (-1 : Int32)) rfl ?_
        obtain rfl := Option.some.inj hf
        exact js_iret rfl rfl
  · have hf := jif_f hf h
    refine js_iconst (v := (-1 : Int32)) rfl ?_
    obtain rfl := Option.some.inj hf
    exact js_iret rfl rfl
/-! SwallowsAir.voice(II)Z -/
def f_C_voice (a1 : Int32) (a2 : Int32) (M : jp_M) : Option (Int32 × jp_M) :=
  if jp_c .eq (f_C_within a1 (9 : Int32)) 0 = true then (
  some ((0 : Int32), M)) else (
  if jp_c .ne (f_C_within a2 (1023 : Int32)) 0 = true then (
  jg (jp_in a1 10) (
  let M3 := jp_set M 24 (upd (M 24) (Int32.toNatClampNeg a1) (a2 ||| ((1 : Int32) <<< (a1 &&& 31))))
  some ((1 : Int32), M3))) else (
  some ((0 : Int32), M)))
theorem t_C_voice {Ln : Nat} {xs : Nat → Int32} {sv : jp_V} {a1 : Int32} {a2 : Int32} {w : Nat} {M : jp_M} {res : Int32 × jp_M} (hf : f_C_voice a1 a2 M = some res) : jE (jZ (jK Ln xs sv)) 1 141 [(.inr (some 0)), (.inl a1), (.inl a2)] (jSH w) M (some (.inl res.1), jSH w, res.2) := by
  unfold f_C_voice at hf
  refine jE_in (L0 := [some (.inr (some 0)), some (.inl a1), some (.inl a2)]) rfl (Nat.le_of_ble_eq_true rfl) rfl (fun d hd => ?_)
  refine jR_in rfl ⟨rfl, rfl, rfl⟩ rfl ?_
  refine js_iload_n rfl ?_
  refine js_bipush (v := (9 : Int32)) rfl ?_
  refine js_c2i rfl rfl ⟨rfl, rfl⟩ rfl rfl (t_C_within rfl) (by omega) ?_
  refine js_ifc (tgt := 19) rfl rfl (fun h => ?_) (fun h => ?_)
  · have hf := jif_t hf h
    refine jR_in rfl ⟨rfl, rfl, rfl⟩ rfl ?_
    refine js_iconst (v := (0 : Int32)) rfl ?_
    obtain rfl := Option.some.inj hf
    exact js_iret rfl rfl
  · have hf := jif_f hf h
    refine js_iload_n rfl ?_
    refine js_sipush (v := (1023 : Int32)) rfl ?_
    refine js_c2i rfl rfl ⟨rfl, rfl⟩ rfl rfl (t_C_within rfl) (by omega) ?_
    refine js_ifc (tgt := 21) rfl rfl (fun h => ?_) (fun h => ?_)
    · have hf := jif_t hf h
      refine jR_in rfl ⟨rfl, rfl, rfl⟩ rfl ?_
      refine js_aload_n rfl ?_
      refine js_getr rfl rfl rfl ?_
      refine js_getr rfl rfl rfl ?_
      refine js_getr rfl rfl rfl ?_
      refine js_iload_n rfl ?_
      refine js_iload_n rfl ?_
      refine js_iconst (v := (1 : Int32)) rfl ?_
      refine js_iload_n rfl ?_
      refine js_ishl ?_
      refine js_ior ?_
      obtain ⟨hb4, hf⟩ := jg_some hf
      refine js_iast rfl hb4 ?_
      refine js_iconst (v := (1 : Int32)) rfl ?_
      obtain rfl := Option.some.inj hf
      exact js_iret rfl rfl
    · have hf := jif_f hf h
      refine js_iconst (v := (0 : Int32)) rfl ?_
      obtain rfl := Option.some.inj hf
      exact js_iret rfl rfl
theorem b_C_voice {a1 : Int32} {a2 : Int32} {M : jp_M} {res : Int32 × jp_M} (hf : f_C_voice a1 a2 M = some res) : res.1 = 0 ∨ res.1 = 1 := by
  unfold f_C_voice at hf
  rcases jif_d hf with ⟨h, hf⟩ | ⟨h, hf⟩
  · obtain rfl := Option.some.inj hf
    exact Or.inl rfl
  · rcases jif_d hf with ⟨h, hf⟩ | ⟨h, hf⟩
    · obtain ⟨hb4, hf⟩ := jg_some hf
      obtain rfl := Option.some.inj hf
      exact Or.inr rfl
    · obtain rfl := Option.some.inj hf
      exact Or.inl rfl
/-! SwallowsAir$ToldThought.reachedFrom(I)I -/
def f_TT_reachedFrom_31 (c4 : Int32 → Int32 → Int32 → jp_M → Option (Int32)) (l1 : Int32) (l2 : Int32) (l3 : Int32) (M : jp_M) : Option (Int32) :=
  c4 l1 l2 (l3 + (1 : Int32)) M
theorem t_TT_reachedFrom_31 {Ln : Nat} {xs : Nat → Int32} {sv : jp_V} {d : Nat} (hd : 0 ≤ d) {c4 : Int32 → Int32 → Int32 → jp_M → Option (Int32)} (hc4 : ∀ (l1 : Int32) (l2 : Int32) (l3 : Int32) (w : Nat) (M : jp_M) (res : Int32), c4 l1 l2 l3 M = some res → jR (jZ (jK Ln xs sv)) d 89 4 ([some (.inr (some 61)), some (.inl l1), some (.inl l2), some (.inl l3)], [], jSH w, M) (some (.inl res), jSH w, M)) (l1 : Int32) (l2 : Int32) (l3 : Int32) (w : Nat) (M : jp_M) {res : Int32} (hf : f_TT_reachedFrom_31 c4 l1 l2 l3 M = some res) : jR (jZ (jK Ln xs sv)) d 89 31 ([some (.inr (some 61)), some (.inl l1), some (.inl l2), some (.inl l3)], [], jSH w, M) (some (.inl res), jSH w, M) := by
  unfold f_TT_reachedFrom_31 at hf
  refine jR_in rfl ⟨rfl, rfl, rfl⟩ rfl ?_
  refine js_iinc (v := (1 : Int32)) rfl rfl rfl rfl ?_
  refine js_goto (tgt := 4) rfl rfl ?_
  exact hc4 _ _ _ _ _ _ hf
def f_TT_reachedFrom_4  : Nat → Int32 → Int32 → Int32 → jp_M → Option (Int32)
  | 0, _, _, _, _ => none
  | n + 1, l1, l2, l3, M =>
    if jp_c .ge l3 (10 : Int32) = true then (
    some l2) else (
    if jp_c .ne ((l1 >>> (l3 &&& 31)) &&& (1 : Int32)) (1 : Int32) = true then (
    f_TT_reachedFrom_31 (f_TT_reachedFrom_4 n ) l1 l2 l3 M) else (
    jg (jp_in l3 10) (
    f_TT_reachedFrom_31 (f_TT_reachedFrom_4 n ) l1 (l2 ||| (M 24 (Int32.toNatClampNeg l3))) l3 M)))
theorem t_TT_reachedFrom_4 {Ln : Nat} {xs : Nat → Int32} {sv : jp_V} {d : Nat} (hd : 0 ≤ d)  : ∀ (n : Nat) (l1 : Int32) (l2 : Int32) (l3 : Int32) (w : Nat) (M : jp_M) {res : Int32}, f_TT_reachedFrom_4 n  l1 l2 l3 M = some res → jR (jZ (jK Ln xs sv)) d 89 4 ([some (.inr (some 61)), some (.inl l1), some (.inl l2), some (.inl l3)], [], jSH w, M) (some (.inl res), jSH w, M) := by
  intro n
  induction n with
  | zero =>
    intro l1 l2 l3 w M res hf
    cases hf
  | succ n ih =>
    intro l1 l2 l3 w M res hf
    rw [f_TT_reachedFrom_4] at hf
    refine jR_in rfl ⟨rfl, rfl, rfl⟩ rfl ?_
    refine js_iload_n rfl ?_
    refine js_bipush (v := (10 : Int32)) rfl ?_
    refine js_icmp (tgt := 37) rfl rfl (fun h => ?_) (fun h => ?_)
    · have hf := jif_t hf h
      refine jR_in rfl ⟨rfl, rfl, rfl⟩ rfl ?_
      refine js_iload_n rfl ?_
      obtain rfl := Option.some.inj hf
      exact js_iret rfl rfl
    · have hf := jif_f hf h
      refine js_iload_n rfl ?_
      refine js_iload_n rfl ?_
      refine js_ishr ?_
      refine js_iconst (v := (1 : Int32)) rfl ?_
      refine js_iand ?_
      refine js_iconst (v := (1 : Int32)) rfl ?_
      refine js_icmp (tgt := 31) rfl rfl (fun h => ?_) (fun h => ?_)
      · have hf := jif_t hf h
        exact t_TT_reachedFrom_31 hd (fun l1 l2 l3 w M res hf => ih l1 l2 l3 w M hf) _ _ _ _ _ hf
      · have hf := jif_f hf h
        refine js_iload_n rfl ?_
        refine js_aload_n rfl ?_
        refine js_getr rfl rfl rfl ?_
        refine js_getr rfl rfl rfl ?_
        refine js_iload_n rfl ?_
        obtain ⟨hb1, hf⟩ := jg_some hf
        refine js_iald rfl hb1 ?_
        refine js_ior ?_
        refine js_istore_n rfl rfl ?_
        exact jS_out rfl ⟨rfl, rfl, rfl⟩ rfl (t_TT_reachedFrom_31 hd (fun l1 l2 l3 w M res hf => ih l1 l2 l3 w M hf) _ _ _ _ _ hf)
def f_TT_reachedFrom (a1 : Int32) (M : jp_M) : Option (Int32) :=
  f_TT_reachedFrom_4 jFu a1 (0 : Int32) (0 : Int32) M
theorem t_TT_reachedFrom {Ln : Nat} {xs : Nat → Int32} {sv : jp_V} {a1 : Int32} {w : Nat} {M : jp_M} {res : Int32} (hf : f_TT_reachedFrom a1 M = some res) : jE (jZ (jK Ln xs sv)) 0 89 [(.inr (some 61)), (.inl a1)] (jSH w) M (some (.inl res), jSH w, M) := by
  unfold f_TT_reachedFrom at hf
  refine jE_in (L0 := [some (.inr (some 61)), some (.inl a1), none, none]) rfl (Nat.le_of_ble_eq_true rfl) rfl (fun d hd => ?_)
  refine jR_in rfl ⟨rfl, rfl, rfl⟩ rfl ?_
  refine js_iconst (v := (0 : Int32)) rfl ?_
  refine js_istore_n rfl rfl ?_
  refine js_iconst (v := (0 : Int32)) rfl ?_
  refine js_istore_n rfl rfl ?_
  exact jS_out rfl ⟨rfl, rfl, rfl⟩ rfl (t_TT_reachedFrom_4 hd jFu _ _ _ _ _ hf)
/-! SwallowsAir$ToldThought.choosesCallers()V -/
def f_TT_choosesCallers_54 (c10 : Int32 → Int32 → jp_M → Option (jp_M)) (l1 : Int32) (l2 : Int32) (M : jp_M) : Option (jp_M) :=
  c10 l1 (l2 + (1 : Int32)) M
theorem t_TT_choosesCallers_54 {Ln : Nat} {xs : Nat → Int32} {sv : jp_V} {d : Nat} (hd : 1 ≤ d) {c10 : Int32 → Int32 → jp_M → Option (jp_M)} (hc10 : ∀ (l1 : Int32) (l2 : Int32) (o3 : Option jp_V) (w : Nat) (M : jp_M) (res : jp_M), c10 l1 l2 M = some res → jR (jZ (jK Ln xs sv)) d 88 17 ([some (.inr (some 61)), some (.inl l1), some (.inl l2), o3], [], jSH w, M) (none, jSH w, res)) (l1 : Int32) (l2 : Int32) (o3 : Option jp_V) (w : Nat) (M : jp_M) {res : jp_M} (hf : f_TT_choosesCallers_54 c10 l1 l2 M = some res) : jR (jZ (jK Ln xs sv)) d 88 54 ([some (.inr (some 61)), some (.inl l1), some (.inl l2), o3], [], jSH w, M) (none, jSH w, res) := by
  unfold f_TT_choosesCallers_54 at hf
  refine jR_in rfl ⟨rfl, rfl, rfl⟩ rfl ?_
  refine js_iinc (v := (1 : Int32)) rfl rfl rfl rfl ?_
  refine js_goto (tgt := 17) rfl rfl ?_
  exact hc10 _ _ _ _ _ _ hf
def f_TT_choosesCallers_17  : Nat → Int32 → Int32 → jp_M → Option (jp_M)
  | 0, _, _, _ => none
  | n + 1, l1, l2, M =>
    if jp_c .gt l2 l1 = true then (
    some M) else (
    if jp_c .ge (f_JI_bitCount l2) (M 61 7) = true then (
    f_TT_choosesCallers_54 (f_TT_choosesCallers_17 n ) l1 l2 M) else (
    (f_TT_reachedFrom l2 M).bind fun q2 => (
    if jp_c .ne q2 l1 = true then (
    f_TT_choosesCallers_54 (f_TT_choosesCallers_17 n ) l1 l2 M) else (
    let M3 := jp_set M 61 (upd (M 61) 7 (f_JI_bitCount l2))
    let M4 := jp_set M3 61 (upd (M3 61) 8 l2)
    f_TT_choosesCallers_54 (f_TT_choosesCallers_17 n ) l1 l2 M4))))
theorem t_TT_choosesCallers_17 {Ln : Nat} {xs : Nat → Int32} {sv : jp_V} {d : Nat} (hd : 1 ≤ d)  : ∀ (n : Nat) (l1 : Int32) (l2 : Int32) (o3 : Option jp_V) (w : Nat) (M : jp_M) {res : jp_M}, f_TT_choosesCallers_17 n  l1 l2 M = some res → jR (jZ (jK Ln xs sv)) d 88 17 ([some (.inr (some 61)), some (.inl l1), some (.inl l2), o3], [], jSH w, M) (none, jSH w, res) := by
  intro n
  induction n with
  | zero =>
    intro l1 l2 o3 w M res hf
    cases hf
  | succ n ih =>
    intro l1 l2 o3 w M res hf
    rw [f_TT_choosesCallers_17] at hf
    refine jR_in rfl ⟨rfl, rfl, rfl⟩ rfl ?_
    refine js_iload_n rfl ?_
    refine js_iload_n rfl ?_
    refine js_icmp (tgt := 60) rfl rfl (fun h => ?_) (fun h => ?_)
    · have hf := jif_t hf h
      refine jR_in rfl ⟨rfl, rfl, rfl⟩ rfl ?_
      obtain rfl := Option.some.inj hf
      exact js_ret rfl rfl
    · have hf := jif_f hf h
      refine js_iload_n rfl ?_
      refine js_c1i rfl rfl ⟨rfl, rfl⟩ rfl rfl (t_JI_bitCount rfl) (by omega) ?_
      refine js_istore_n rfl rfl ?_
      refine js_iload_n rfl ?_
      refine js_aload_n rfl ?_
      refine js_geti rfl rfl rfl ?_
      refine js_icmp (tgt := 54) rfl rfl (fun h => ?_) (fun h => ?_)
      · have hf := jif_t hf h
        exact t_TT_choosesCallers_54 hd (fun l1 l2 o3 w M res hf => ih l1 l2 o3 w M hf) _ _ _ _ _ hf
      · have hf := jif_f hf h
        refine js_aload_n rfl ?_
        refine js_iload_n rfl ?_
        obtain ⟨q2, hc_2, hf⟩ := jbind hf
        refine js_c2i rfl rfl ⟨rfl, rfl⟩ rfl rfl (t_TT_reachedFrom hc_2) (by omega) ?_
        refine js_iload_n rfl ?_
        refine js_icmp (tgt := 54) rfl rfl (fun h => ?_) (fun h => ?_)
        · have hf := jif_t hf h
          exact t_TT_choosesCallers_54 hd (fun l1 l2 o3 w M res hf => ih l1 l2 o3 w M hf) _ _ _ _ _ hf
        · have hf := jif_f hf h
          refine js_aload_n rfl ?_
          refine js_iload_n rfl ?_
          refine js_puti rfl rfl (Or.inl rfl) ?_
          refine js_aload_n rfl ?_
          refine js_iload_n rfl ?_
          refine js_puti rfl rfl (Or.inl rfl) ?_
          exact jS_out rfl ⟨rfl, rfl, rfl⟩ rfl (t_TT_choosesCallers_54 hd (fun l1 l2 o3 w M res hf => ih l1 l2 o3 w M hf) _ _ _ _ _ hf)
def f_TT_choosesCallers (M : jp_M) : Option (jp_M) :=
  let M1 := jp_set M 61 (upd (M 61) 7 (11 : Int32))
  let M2 := jp_set M1 61 (upd (M1 61) 8 (1023 : Int32))
  f_TT_choosesCallers_17 jFu (1023 : Int32) (1 : Int32) M2
theorem t_TT_choosesCallers {Ln : Nat} {xs : Nat → Int32} {sv : jp_V} {w : Nat} {M : jp_M} {res : jp_M} (hf : f_TT_choosesCallers M = some res) : jE (jZ (jK Ln xs sv)) 1 88 [(.inr (some 61))] (jSH w) M (none, jSH w, res) := by
  unfold f_TT_choosesCallers at hf
  refine jE_in (L0 := [some (.inr (some 61)), none, none, none]) rfl (Nat.le_of_ble_eq_true rfl) rfl (fun d hd => ?_)
  refine jR_in rfl ⟨rfl, rfl, rfl⟩ rfl ?_
  refine js_sipush (v := (1023 : Int32)) rfl ?_
  refine js_istore_n rfl rfl ?_
  refine js_aload_n rfl ?_
  refine js_bipush (v := (11 : Int32)) rfl ?_
  refine js_puti rfl rfl (Or.inl rfl) ?_
  refine js_aload_n rfl ?_
  refine js_iload_n rfl ?_
  refine js_puti rfl rfl (Or.inl rfl) ?_
  refine js_iconst (v := (1 : Int32)) rfl ?_
  refine js_istore_n rfl rfl ?_
  exact jS_out rfl ⟨rfl, rfl, rfl⟩ rfl (t_TT_choosesCallers_17 hd jFu _ _ _ _ _ hf)
/-! SwallowsAir.asked(I)I -/
def f_C_asked (a1 : Int32) (M : jp_M) : Option (Int32 × jp_M) :=
  if jp_c .ne (f_C_within a1 (1 : Int32)) 0 = true then (
  (f_TT_choosesCallers M).bind fun q2 => (
  if jp_c .ne a1 0 = true then (
  some ((q2 61 8), q2)) else (
  some ((q2 61 7), q2)))) else (
  some ((-1 : Int32), M))
theorem t_C_asked {Ln : Nat} {xs : Nat → Int32} {sv : jp_V} {a1 : Int32} {w : Nat} {M : jp_M} {res : Int32 × jp_M} (hf : f_C_asked a1 M = some res) : jE (jZ (jK Ln xs sv)) 2 142 [(.inr (some 0)), (.inl a1)] (jSH w) M (some (.inl res.1), jSH w, res.2) := by
  unfold f_C_asked at hf
  refine jE_in (L0 := [some (.inr (some 0)), some (.inl a1)]) rfl (Nat.le_of_ble_eq_true rfl) rfl (fun d hd => ?_)
  refine jR_in rfl ⟨rfl, rfl, rfl⟩ rfl ?_
  refine js_iload_n rfl ?_
  refine js_iconst (v := (1 : Int32)) rfl ?_
  refine js_c2i rfl rfl ⟨rfl, rfl⟩ rfl rfl (t_C_within rfl) (by omega) ?_
  refine js_ifc (tgt := 10) rfl rfl (fun h => ?_) (fun h => ?_)
  · have hf := jif_t hf h
    refine jR_in rfl ⟨rfl, rfl, rfl⟩ rfl ?_
    refine js_aload_n rfl ?_
    refine js_getr rfl rfl rfl ?_
    obtain ⟨q2, hc_2, hf⟩ := jbind hf
    refine js_c1v (w := 0) rfl rfl ⟨rfl, rfl⟩ rfl rfl (t_TT_choosesCallers hc_2) (by omega) ?_
    refine js_iload_n rfl ?_
    refine js_ifc (tgt := 31) rfl rfl (fun h => ?_) (fun h => ?_)
    · have hf := jif_t hf h
      refine jR_in rfl ⟨rfl, rfl, rfl⟩ rfl ?_
      refine js_aload_n rfl ?_
      refine js_getr rfl rfl rfl ?_
      refine js_geti rfl rfl rfl ?_
      obtain rfl := Option.some.inj hf
      exact js_iret rfl rfl
    · have hf := jif_f hf h
      refine js_aload_n rfl ?_
      refine js_getr rfl rfl rfl ?_
      refine js_geti rfl rfl rfl ?_
      refine js_goto (tgt := 38) rfl rfl ?_
      refine jR_in rfl ⟨rfl, rfl, rfl⟩ rfl ?_
      obtain rfl := Option.some.inj hf
      exact js_iret rfl rfl
  · have hf := jif_f hf h
    refine js_iconst (v := (-1 : Int32)) rfl ?_
    obtain rfl := Option.some.inj hf
    exact js_iret rfl rfl
/-! SwallowsAir$AirThought.freeFromGround(I)I -/
def f_T_freeFromGround (a1 : Int32) (M : jp_M) : Option (Int32 × jp_M) :=
  (f_T_learnsFree M).bind fun q1 => (
  (f_T_runUp a1 (0 : Int32) q1).bind fun q2 => (
  some (q2, q1)))
theorem t_T_freeFromGround {Ln : Nat} {xs : Nat → Int32} {sv : jp_V} {a1 : Int32} {w : Nat} {M : jp_M} {res : Int32 × jp_M} (hf : f_T_freeFromGround a1 M = some res) : jE (jZ (jK Ln xs sv)) 3 15 [(.inr (some 56)), (.inl a1)] (jSH w) M (some (.inl res.1), jSH w, res.2) := by
  unfold f_T_freeFromGround at hf
  refine jE_in (L0 := [some (.inr (some 56)), some (.inl a1)]) rfl (Nat.le_of_ble_eq_true rfl) rfl (fun d hd => ?_)
  refine jR_in rfl ⟨rfl, rfl, rfl⟩ rfl ?_
  refine js_aload_n rfl ?_
  obtain ⟨q1, hc_1, hf⟩ := jbind hf
  refine js_c1v (w := 0) rfl rfl ⟨rfl, rfl⟩ rfl rfl (t_T_learnsFree hc_1) (by omega) ?_
  refine js_aload_n rfl ?_
  refine js_iload_n rfl ?_
  refine js_iconst (v := (0 : Int32)) rfl ?_
  obtain ⟨q2, hc_2, hf⟩ := jbind hf
  refine js_c3i rfl rfl ⟨rfl, rfl⟩ rfl rfl (t_T_runUp hc_2) (by omega) ?_
  obtain rfl := Option.some.inj hf
  exact js_iret rfl rfl
/-! SwallowsAir.upright(II)I -/
def f_C_upright (a1 : Int32) (a2 : Int32) (M : jp_M) : Option (Int32 × jp_M) :=
  if jp_c .eq (f_W_hasPerson a1 M) 0 = true then (
  some ((-1 : Int32), M)) else (
  if jp_c .ne (f_C_within a2 (1 : Int32)) 0 = true then (
  jg (jp_in (((5 : Int32) * a1) + (2 : Int32)) 50) (
  (f_T_freeFromGround (M 3 (Int32.toNatClampNeg (((5 : Int32) * a1) + (2 : Int32)))) M).bind fun q4 => (
  if jp_c .ne a2 0 = true then (
  jg (jp_in (((5 : Int32) * a1) + (0 : Int32)) 50) (
  jg (jp_in (((5 : Int32) * a1) + (3 : Int32)) 50) (
  if jp_c .gt (jp_max (0 : Int32) ((q4.2 3 (Int32.toNatClampNeg (((5 : Int32) * a1) + (0 : Int32)))) - (q4.2 3 (Int32.toNatClampNeg (((5 : Int32) * a1) + (3 : Int32)))))) q4.1 = true then (
  some ((0 : Int32), q4.2)) else (
  some ((1 : Int32), q4.2))))) else (
  some (q4.1, q4.2))))) else (
  some ((-1 : Int32), M)))
theorem t_C_upright {Ln : Nat} {xs : Nat → Int32} {sv : jp_V} {a1 : Int32} {a2 : Int32} {w : Nat} {M : jp_M} {res : Int32 × jp_M} (hf : f_C_upright a1 a2 M = some res) : jE (jZ (jK Ln xs sv)) 4 143 [(.inr (some 0)), (.inl a1), (.inl a2)] (jSH w) M (some (.inl res.1), jSH w, res.2) := by
  unfold f_C_upright at hf
  refine jE_in (L0 := [some (.inr (some 0)), some (.inl a1), some (.inl a2), none, none, none]) rfl (Nat.le_of_ble_eq_true rfl) rfl (fun d hd => ?_)
  refine jR_in rfl ⟨rfl, rfl, rfl⟩ rfl ?_
  refine js_aload_n rfl ?_
  refine js_getr rfl rfl rfl ?_
  refine js_getr rfl rfl rfl ?_
  refine js_astore_n rfl rfl ?_
  refine js_aload_n rfl ?_
  refine js_iload_n rfl ?_
  refine js_c2i rfl rfl ⟨rfl, rfl⟩ rfl rfl (t_W_hasPerson rfl) (by omega) ?_
  refine js_ifc (tgt := 24) rfl rfl (fun h => ?_) (fun h => ?_)
  · have hf := jif_t hf h
    refine jR_in rfl ⟨rfl, rfl, rfl⟩ rfl ?_
    refine js_iconst (v := (-1 : Int32)) rfl ?_
    obtain rfl := Option.some.inj hf
    exact js_iret rfl rfl
  · have hf := jif_f hf h
    refine js_iload_n rfl ?_
    refine js_iconst (v := (1 : Int32)) rfl ?_
    refine js_c2i rfl rfl ⟨rfl, rfl⟩ rfl rfl (t_C_within rfl) (by omega) ?_
    refine js_ifc (tgt := 26) rfl rfl (fun h => ?_) (fun h => ?_)
    · have hf := jif_t hf h
      refine jR_in rfl ⟨rfl, rfl, rfl⟩ rfl ?_
      refine js_iconst (v := (5 : Int32)) rfl ?_
      refine js_iload_n rfl ?_
      refine js_imul ?_
      refine js_istore rfl rfl ?_
      refine js_aload_n rfl ?_
      refine js_getr rfl rfl rfl ?_
      refine js_aload_n rfl ?_
      refine js_getr rfl rfl rfl ?_
      refine js_iload rfl ?_
      refine js_iconst (v := (2 : Int32)) rfl ?_
      refine js_iadd ?_
      obtain ⟨hb3, hf⟩ := jg_some hf
      refine js_iald rfl hb3 ?_
      obtain ⟨q4, hc_4, hf⟩ := jbind hf
      refine js_c2i rfl rfl ⟨rfl, rfl⟩ rfl rfl (t_T_freeFromGround hc_4) (by omega) ?_
      refine js_istore rfl rfl ?_
      refine js_iload_n rfl ?_
      refine js_ifc (tgt := 56) rfl rfl (fun h => ?_) (fun h => ?_)
      · have hf := jif_t hf h
        refine jR_in rfl ⟨rfl, rfl, rfl⟩ rfl ?_
        refine js_iconst (v := (0 : Int32)) rfl ?_
        refine js_aload_n rfl ?_
        refine js_getr rfl rfl rfl ?_
        refine js_iload rfl ?_
        refine js_iconst (v := (0 : Int32)) rfl ?_
        refine js_iadd ?_
        obtain ⟨hb5, hf⟩ := jg_some hf
        refine js_iald rfl hb5 ?_
        refine js_aload_n rfl ?_
        refine js_getr rfl rfl rfl ?_
        refine js_iload rfl ?_
        refine js_iconst (v := (3 : Int32)) rfl ?_
        refine js_iadd ?_
        obtain ⟨hb6, hf⟩ := jg_some hf
        refine js_iald rfl hb6 ?_
        refine js_isub ?_
        refine js_max rfl ?_
        refine js_iload rfl ?_
        refine js_icmp (tgt := 88) rfl rfl (fun h => ?_) (fun h => ?_)
        · have hf := jif_t hf h
          refine jR_in rfl ⟨rfl, rfl, rfl⟩ rfl ?_
          refine js_iconst (v := (0 : Int32)) rfl ?_
          obtain rfl := Option.some.inj hf
          exact js_iret rfl rfl
        · have hf := jif_f hf h
          refine js_iconst (v := (1 : Int32)) rfl ?_
          refine js_goto (tgt := 89) rfl rfl ?_
          refine jR_in rfl ⟨rfl, rfl, rfl⟩ rfl ?_
          obtain rfl := Option.some.inj hf
          exact js_iret rfl rfl
      · have hf := jif_f hf h
        refine js_iload rfl ?_
        obtain rfl := Option.some.inj hf
        exact js_iret rfl rfl
    · have hf := jif_f hf h
      refine js_iconst (v := (-1 : Int32)) rfl ?_
      obtain rfl := Option.some.inj hf
      exact js_iret rfl rfl
/-! SwallowsAir.point(IIII)I -/
def f_C_point (a1 : Int32) (a2 : Int32) (a3 : Int32) (a4 : Int32) (M : jp_M) : Option (Int32 × jp_M) :=
  if jp_c .ne a1 (-1 : Int32) = true then (
  if jp_c .ge (M 19 2) (8 : Int32) = true then (
  some ((-1 : Int32), M)) else (
  if jp_c .eq (f_C_within a1 (999 : Int32)) 0 = true then (
  some ((-1 : Int32), M)) else (
  if jp_c .eq (f_C_within a2 (999 : Int32)) 0 = true then (
  some ((-1 : Int32), M)) else (
  if jp_c .eq (f_C_within a3 (999 : Int32)) 0 = true then (
  some ((-1 : Int32), M)) else (
  if jp_c .ne (f_C_within a4 (9 : Int32)) 0 = true then (
  jg (jp_in ((4 : Int32) * (M 19 2)) 32) (
  let M5 := jp_set M 22 (upd (M 22) (Int32.toNatClampNeg ((4 : Int32) * (M 19 2))) a1)
  jg (jp_in (((4 : Int32) * (M 19 2)) + (1 : Int32)) 32) (
  let M7 := jp_set M5 22 (upd (M5 22) (Int32.toNatClampNeg (((4 : Int32) * (M 19 2)) + (1 : Int32))) a2)
  jg (jp_in (((4 : Int32) * (M 19 2)) + (2 : Int32)) 32) (
  let M9 := jp_set M7 22 (upd (M7 22) (Int32.toNatClampNeg (((4 : Int32) * (M 19 2)) + (2 : Int32))) a3)
  jg (jp_in (((4 : Int32) * (M 19 2)) + (3 : Int32)) 32) (
  let M11 := jp_set M9 22 (upd (M9 22) (Int32.toNatClampNeg (((4 : Int32) * (M 19 2)) + (3 : Int32))) a4)
  let M13 := jp_set M11 19 (upd (M11 19) 2 ((M11 19 2) + (1 : Int32)))
  some ((M13 19 2), M13)))))) else (
  some ((-1 : Int32), M))))))) else (
  let M14 := jp_set M 19 (upd (M 19) 2 (0 : Int32))
  some ((0 : Int32), M14))
theorem t_C_point {Ln : Nat} {xs : Nat → Int32} {sv : jp_V} {a1 : Int32} {a2 : Int32} {a3 : Int32} {a4 : Int32} {w : Nat} {M : jp_M} {res : Int32 × jp_M} (hf : f_C_point a1 a2 a3 a4 M = some res) : jE (jZ (jK Ln xs sv)) 1 144 [(.inr (some 0)), (.inl a1), (.inl a2), (.inl a3), (.inl a4)] (jSH w) M (some (.inl res.1), jSH w, res.2) := by
  unfold f_C_point at hf
  refine jE_in (L0 := [some (.inr (some 0)), some (.inl a1), some (.inl a2), some (.inl a3), some (.inl a4), none, none]) rfl (Nat.le_of_ble_eq_true rfl) rfl (fun d hd => ?_)
  refine jR_in rfl ⟨rfl, rfl, rfl⟩ rfl ?_
  refine js_aload_n rfl ?_
  refine js_getr rfl rfl rfl ?_
  refine js_getr rfl rfl rfl ?_
  refine js_astore rfl rfl ?_
  refine js_iload_n rfl ?_
  refine js_iconst (v := (-1 : Int32)) rfl ?_
  refine js_icmp (tgt := 22) rfl rfl (fun h => ?_) (fun h => ?_)
  · have hf := jif_t hf h
    refine jR_in rfl ⟨rfl, rfl, rfl⟩ rfl ?_
    refine js_aload rfl ?_
    refine js_geti rfl rfl rfl ?_
    refine js_bipush (v := (8 : Int32)) rfl ?_
    refine js_icmp (tgt := 72) rfl rfl (fun h => ?_) (fun h => ?_)
    · have hf := jif_t hf h
      refine jR_in rfl ⟨rfl, rfl, rfl⟩ rfl ?_
      refine js_iconst (v := (-1 : Int32)) rfl ?_
      obtain rfl := Option.some.inj hf
      exact js_iret rfl rfl
    · have hf := jif_f hf h
      refine js_iload_n rfl ?_
      refine js_sipush (v := (999 : Int32)) rfl ?_
      refine js_c2i rfl rfl ⟨rfl, rfl⟩ rfl rfl (t_C_within rfl) (by omega) ?_
      refine js_ifc (tgt := 72) rfl rfl (fun h => ?_) (fun h => ?_)
      · have hf := jif_t hf h
        refine jR_in rfl ⟨rfl, rfl, rfl⟩ rfl ?_
        refine js_iconst (v := (-1 : Int32)) rfl ?_
        obtain rfl := Option.some.inj hf
        exact js_iret rfl rfl
      · have hf := jif_f hf h
        refine js_iload_n rfl ?_
        refine js_sipush (v := (999 : Int32)) rfl ?_
        refine js_c2i rfl rfl ⟨rfl, rfl⟩ rfl rfl (t_C_within rfl) (by omega) ?_
        refine js_ifc (tgt := 72) rfl rfl (fun h => ?_) (fun h => ?_)
        · have hf := jif_t hf h
          refine jR_in rfl ⟨rfl, rfl, rfl⟩ rfl ?_
          refine js_iconst (v := (-1 : Int32)) rfl ?_
          obtain rfl := Option.some.inj hf
          exact js_iret rfl rfl
        · have hf := jif_f hf h
          refine js_iload_n rfl ?_
          refine js_sipush (v := (999 : Int32)) rfl ?_
          refine js_c2i rfl rfl ⟨rfl, rfl⟩ rfl rfl (t_C_within rfl) (by omega) ?_
          refine js_ifc (tgt := 72) rfl rfl (fun h => ?_) (fun h => ?_)
          · have hf := jif_t hf h
            refine jR_in rfl ⟨rfl, rfl, rfl⟩ rfl ?_
            refine js_iconst (v := (-1 : Int32)) rfl ?_
            obtain rfl := Option.some.inj hf
            exact js_iret rfl rfl
          · have hf := jif_f hf h
            refine js_iload rfl ?_
            refine js_bipush (v := (9 : Int32)) rfl ?_
            refine js_c2i rfl rfl ⟨rfl, rfl⟩ rfl rfl (t_C_within rfl) (by omega) ?_
            refine js_ifc (tgt := 74) rfl rfl (fun h => ?_) (fun h => ?_)
            · have hf := jif_t hf h
              refine jR_in rfl ⟨rfl, rfl, rfl⟩ rfl ?_
              refine js_iconst (v := (4 : Int32)) rfl ?_
              refine js_aload rfl ?_
              refine js_geti rfl rfl rfl ?_
              refine js_imul ?_
              refine js_istore rfl rfl ?_
              refine js_aload rfl ?_
              refine js_getr rfl rfl rfl ?_
              refine js_iload rfl ?_
              refine js_iload_n rfl ?_
              obtain ⟨hb6, hf⟩ := jg_some hf
              refine js_iast rfl hb6 ?_
              refine js_aload rfl ?_
              refine js_getr rfl rfl rfl ?_
              refine js_iload rfl ?_
              refine js_iconst (v := (1 : Int32)) rfl ?_
              refine js_iadd ?_
              refine js_iload_n rfl ?_
              obtain ⟨hb8, hf⟩ := jg_some hf
              refine js_iast rfl hb8 ?_
              refine js_aload rfl ?_
              refine js_getr rfl rfl rfl ?_
              refine js_iload rfl ?_
              refine js_iconst (v := (2 : Int32)) rfl ?_
              refine js_iadd ?_
              refine js_iload_n rfl ?_
              obtain ⟨hb10, hf⟩ := jg_some hf
              refine js_iast rfl hb10 ?_
              refine js_aload rfl ?_
              refine js_getr rfl rfl rfl ?_
              refine js_iload rfl ?_
              refine js_iconst (v := (3 : Int32)) rfl ?_
              refine js_iadd ?_
              refine js_iload rfl ?_
              obtain ⟨hb12, hf⟩ := jg_some hf
              refine js_iast rfl hb12 ?_
              refine js_aload rfl ?_
              refine js_dup ?_
              refine js_geti rfl rfl rfl ?_
              refine js_iconst (v := (1 : Int32)) rfl ?_
              refine js_iadd ?_
              refine js_puti rfl rfl (Or.inl rfl) ?_
              refine js_aload rfl ?_
              refine js_geti rfl rfl rfl ?_
              obtain rfl := Option.some.inj hf
              exact js_iret rfl rfl
            · have hf := jif_f hf h
              refine js_iconst (v := (-1 : Int32)) rfl ?_
              obtain rfl := Option.some.inj hf
              exact js_iret rfl rfl
  · have hf := jif_f hf h
    refine js_aload rfl ?_
    refine js_iconst (v := (0 : Int32)) rfl ?_
    refine js_puti rfl rfl (Or.inl rfl) ?_
    refine js_iconst (v := (0 : Int32)) rfl ?_
    obtain rfl := Option.some.inj hf
    exact js_iret rfl rfl
/-! SwallowsAir$ToldThought.arbitrates()V -/
def f_TT_arbitrates_130 (c8 : Int32 → jp_M → Option (jp_M)) (l1 : Int32) (s1 : Int32) (s2 : Int32) (M : jp_M) : Option (jp_M) :=
  let M1 := jp_set M 61 (upd (M 61) 9 (s1 + s2))
  c8 (l1 + (4 : Int32)) M1
theorem t_TT_arbitrates_130 {Ln : Nat} {xs : Nat → Int32} {sv : jp_V} {d : Nat} (hd : 0 ≤ d) {c8 : Int32 → jp_M → Option (jp_M)} (hc8 : ∀ (l1 : Int32) (o2 : Option jp_V) (o3 : Option jp_V) (o4 : Option jp_V) (o5 : Option jp_V) (w : Nat) (M : jp_M) (res : jp_M), c8 l1 M = some res → jR (jZ (jK Ln xs sv)) d 90 12 ([some (.inr (some 61)), some (.inl l1), o2, o3, o4, o5], [], jSH w, M) (none, jSH w, res)) (l1 : Int32) (s1 : Int32) (s2 : Int32) (o2 : Option jp_V) (o3 : Option jp_V) (o4 : Option jp_V) (o5 : Option jp_V) (w : Nat) (M : jp_M) {res : jp_M} (hf : f_TT_arbitrates_130 c8 l1 s1 s2 M = some res) : jR (jZ (jK Ln xs sv)) d 90 130 ([some (.inr (some 61)), some (.inl l1), o2, o3, o4, o5], [.inl s2, .inl s1, (.inr (some 61))], jSH w, M) (none, jSH w, res) := by
  unfold f_TT_arbitrates_130 at hf
  refine jR_in rfl ⟨rfl, rfl, rfl⟩ rfl ?_
  refine js_iadd ?_
  refine js_puti rfl rfl (Or.inl rfl) ?_
  refine js_iinc (v := (4 : Int32)) rfl rfl rfl rfl ?_
  refine js_goto (tgt := 12) rfl rfl ?_
  exact hc8 _ _ _ _ _ _ _ _ hf
def f_TT_arbitrates_110 (c8 : Int32 → jp_M → Option (jp_M)) (l1 : Int32) (l5 : Int32) (s1 : Int32) (s2 : Int32) (s3 : Int32) (M : jp_M) : Option (jp_M) :=
  let M1 := jp_set M 61 (upd (M 61) 7 (s1 + (s2 * s3)))
  if jp_c .eq l5 0 = true then (
  f_TT_arbitrates_130 c8 l1 (M1 61 9) (0 : Int32) M1) else (
  f_TT_arbitrates_130 c8 l1 (M1 61 9) (1 : Int32) M1)
theorem t_TT_arbitrates_110 {Ln : Nat} {xs : Nat → Int32} {sv : jp_V} {d : Nat} (hd : 0 ≤ d) {c8 : Int32 → jp_M → Option (jp_M)} (hc8 : ∀ (l1 : Int32) (o2 : Option jp_V) (o3 : Option jp_V) (o4 : Option jp_V) (o5 : Option jp_V) (w : Nat) (M : jp_M) (res : jp_M), c8 l1 M = some res → jR (jZ (jK Ln xs sv)) d 90 12 ([some (.inr (some 61)), some (.inl l1), o2, o3, o4, o5], [], jSH w, M) (none, jSH w, res)) (l1 : Int32) (l5 : Int32) (s1 : Int32) (s2 : Int32) (s3 : Int32) (o2 : Option jp_V) (o3 : Option jp_V) (o4 : Option jp_V) (w : Nat) (M : jp_M) {res : jp_M} (hf : f_TT_arbitrates_110 c8 l1 l5 s1 s2 s3 M = some res) : jR (jZ (jK Ln xs sv)) d 90 110 ([some (.inr (some 61)), some (.inl l1), o2, o3, o4, some (.inl l5)], [.inl s3, .inl s2, .inl s1, (.inr (some 61))], jSH w, M) (none, jSH w, res) := by
  unfold f_TT_arbitrates_110 at hf
  refine jR_in rfl ⟨rfl, rfl, rfl⟩ rfl ?_
  refine js_imul ?_
  refine js_iadd ?_
  refine js_puti rfl rfl (Or.inl rfl) ?_
  refine js_aload_n rfl ?_
  refine js_dup ?_
  refine js_geti rfl rfl rfl ?_
  refine js_iload rfl ?_
  refine js_ifc (tgt := 129) rfl rfl (fun h => ?_) (fun h => ?_)
  · have hf := jif_t hf h
    refine jR_in rfl ⟨rfl, rfl, rfl⟩ rfl ?_
    refine js_iconst (v := (0 : Int32)) rfl ?_
    exact jS_out rfl ⟨rfl, rfl, rfl⟩ rfl (t_TT_arbitrates_130 hd hc8 _ _ _ _ _ _ _ _ _ hf)
  · have hf := jif_f hf h
    refine js_iconst (v := (1 : Int32)) rfl ?_
    refine js_goto (tgt := 130) rfl rfl ?_
    exact t_TT_arbitrates_130 hd hc8 _ _ _ _ _ _ _ _ _ hf
def f_TT_arbitrates_82 (c8 : Int32 → jp_M → Option (jp_M)) (l1 : Int32) (l2 : Int32) (l3 : Int32) (s0 : Int32) (M : jp_M) : Option (jp_M) :=
  jg (jp_in (l1 + (3 : Int32)) 32) (
  if jp_c .eq s0 0 = true then (
  f_TT_arbitrates_110 c8 l1 s0 (M 61 7) (M 22 (Int32.toNatClampNeg (l1 + (3 : Int32)))) l3 M) else (
  f_TT_arbitrates_110 c8 l1 s0 (M 61 7) (M 22 (Int32.toNatClampNeg (l1 + (3 : Int32)))) l2 M))
theorem t_TT_arbitrates_82 {Ln : Nat} {xs : Nat → Int32} {sv : jp_V} {d : Nat} (hd : 0 ≤ d) {c8 : Int32 → jp_M → Option (jp_M)} (hc8 : ∀ (l1 : Int32) (o2 : Option jp_V) (o3 : Option jp_V) (o4 : Option jp_V) (o5 : Option jp_V) (w : Nat) (M : jp_M) (res : jp_M), c8 l1 M = some res → jR (jZ (jK Ln xs sv)) d 90 12 ([some (.inr (some 61)), some (.inl l1), o2, o3, o4, o5], [], jSH w, M) (none, jSH w, res)) (l1 : Int32) (l2 : Int32) (l3 : Int32) (s0 : Int32) (o4 : Option jp_V) (o5 : Option jp_V) (w : Nat) (M : jp_M) {res : jp_M} (hf : f_TT_arbitrates_82 c8 l1 l2 l3 s0 M = some res) : jR (jZ (jK Ln xs sv)) d 90 82 ([some (.inr (some 61)), some (.inl l1), some (.inl l2), some (.inl l3), o4, o5], [.inl s0], jSH w, M) (none, jSH w, res) := by
  unfold f_TT_arbitrates_82 at hf
  refine jR_in rfl ⟨rfl, rfl, rfl⟩ rfl ?_
  refine js_istore rfl rfl ?_
  refine js_aload_n rfl ?_
  refine js_dup ?_
  refine js_geti rfl rfl rfl ?_
  refine js_aload_n rfl ?_
  refine js_getr rfl rfl rfl ?_
  refine js_getr rfl rfl rfl ?_
  refine js_iload_n rfl ?_
  refine js_iconst (v := (3 : Int32)) rfl ?_
  refine js_iadd ?_
  obtain ⟨hb1, hf⟩ := jg_some hf
  refine js_iald rfl hb1 ?_
  refine js_iload rfl ?_
  refine js_ifc (tgt := 109) rfl rfl (fun h => ?_) (fun h => ?_)
  · have hf := jif_t hf h
    refine jR_in rfl ⟨rfl, rfl, rfl⟩ rfl ?_
    refine js_iload_n rfl ?_
    exact jS_out rfl ⟨rfl, rfl, rfl⟩ rfl (t_TT_arbitrates_110 hd hc8 _ _ _ _ _ _ _ _ _ _ hf)
  · have hf := jif_f hf h
    refine js_iload_n rfl ?_
    refine js_goto (tgt := 110) rfl rfl ?_
    exact t_TT_arbitrates_110 hd hc8 _ _ _ _ _ _ _ _ _ _ hf
def f_TT_arbitrates_12  : Nat → Int32 → jp_M → Option (jp_M)
  | 0, _, _ => none
  | n + 1, l1, M =>
    if jp_c .ge l1 ((4 : Int32) * (M 19 2)) = true then (
    some M) else (
    jg (jp_in l1 32) (
    jg (jp_in (l1 + (1 : Int32)) 32) (
    jg (jp_in (l1 + (2 : Int32)) 32) (
    if jp_c .gt (jp_abs ((M 22 (Int32.toNatClampNeg l1)) - (M 22 (Int32.toNatClampNeg (l1 + (2 : Int32)))))) (jp_abs ((M 22 (Int32.toNatClampNeg (l1 + (1 : Int32)))) - (M 22 (Int32.toNatClampNeg (l1 + (2 : Int32)))))) = true then (
    f_TT_arbitrates_82 (f_TT_arbitrates_12 n ) l1 (M 22 (Int32.toNatClampNeg l1)) (M 22 (Int32.toNatClampNeg (l1 + (1 : Int32)))) (0 : Int32) M) else (
    f_TT_arbitrates_82 (f_TT_arbitrates_12 n ) l1 (M 22 (Int32.toNatClampNeg l1)) (M 22 (Int32.toNatClampNeg (l1 + (1 : Int32)))) (1 : Int32) M)))))
theorem t_TT_arbitrates_12 {Ln : Nat} {xs : Nat → Int32} {sv : jp_V} {d : Nat} (hd : 0 ≤ d)  : ∀ (n : Nat) (l1 : Int32) (o2 : Option jp_V) (o3 : Option jp_V) (o4 : Option jp_V) (o5 : Option jp_V) (w : Nat) (M : jp_M) {res : jp_M}, f_TT_arbitrates_12 n  l1 M = some res → jR (jZ (jK Ln xs sv)) d 90 12 ([some (.inr (some 61)), some (.inl l1), o2, o3, o4, o5], [], jSH w, M) (none, jSH w, res) := by
  intro n
  induction n with
  | zero =>
    intro l1 o2 o3 o4 o5 w M res hf
    cases hf
  | succ n ih =>
    intro l1 o2 o3 o4 o5 w M res hf
    rw [f_TT_arbitrates_12] at hf
    refine jR_in rfl ⟨rfl, rfl, rfl⟩ rfl ?_
    refine js_iload_n rfl ?_
    refine js_iconst (v := (4 : Int32)) rfl ?_
    refine js_aload_n rfl ?_
    refine js_getr rfl rfl rfl ?_
    refine js_geti rfl rfl rfl ?_
    refine js_imul ?_
    refine js_icmp (tgt := 140) rfl rfl (fun h => ?_) (fun h => ?_)
    · have hf := jif_t hf h
      refine jR_in rfl ⟨rfl, rfl, rfl⟩ rfl ?_
      obtain rfl := Option.some.inj hf
      exact js_ret rfl rfl
    · have hf := jif_f hf h
      refine js_aload_n rfl ?_
      refine js_getr rfl rfl rfl ?_
      refine js_getr rfl rfl rfl ?_
      refine js_iload_n rfl ?_
      obtain ⟨hb1, hf⟩ := jg_some hf
      refine js_iald rfl hb1 ?_
      refine js_istore_n rfl rfl ?_
      refine js_aload_n rfl ?_
      refine js_getr rfl rfl rfl ?_
      refine js_getr rfl rfl rfl ?_
      refine js_iload_n rfl ?_
      refine js_iconst (v := (1 : Int32)) rfl ?_
      refine js_iadd ?_
      obtain ⟨hb2, hf⟩ := jg_some hf
      refine js_iald rfl hb2 ?_
      refine js_istore_n rfl rfl ?_
      refine js_aload_n rfl ?_
      refine js_getr rfl rfl rfl ?_
      refine js_getr rfl rfl rfl ?_
      refine js_iload_n rfl ?_
      refine js_iconst (v := (2 : Int32)) rfl ?_
      refine js_iadd ?_
      obtain ⟨hb3, hf⟩ := jg_some hf
      refine js_iald rfl hb3 ?_
      refine js_istore rfl rfl ?_
      refine js_iload_n rfl ?_
      refine js_iload rfl ?_
      refine js_isub ?_
      refine js_abs rfl ?_
      refine js_iload_n rfl ?_
      refine js_iload rfl ?_
      refine js_isub ?_
      refine js_abs rfl ?_
      refine js_icmp (tgt := 81) rfl rfl (fun h => ?_) (fun h => ?_)
      · have hf := jif_t hf h
        refine jR_in rfl ⟨rfl, rfl, rfl⟩ rfl ?_
        refine js_iconst (v := (0 : Int32)) rfl ?_
        exact jS_out rfl ⟨rfl, rfl, rfl⟩ rfl (t_TT_arbitrates_82 hd (fun l1 o2 o3 o4 o5 w M res hf => ih l1 o2 o3 o4 o5 w M hf) _ _ _ _ _ _ _ _ hf)
      · have hf := jif_f hf h
        refine js_iconst (v := (1 : Int32)) rfl ?_
        refine js_goto (tgt := 82) rfl rfl ?_
        exact t_TT_arbitrates_82 hd (fun l1 o2 o3 o4 o5 w M res hf => ih l1 o2 o3 o4 o5 w M hf) _ _ _ _ _ _ _ _ hf
def f_TT_arbitrates (M : jp_M) : Option (jp_M) :=
  let M1 := jp_set M 61 (upd (M 61) 7 (0 : Int32))
  let M2 := jp_set M1 61 (upd (M1 61) 9 (0 : Int32))
  f_TT_arbitrates_12 jFu (0 : Int32) M2
theorem t_TT_arbitrates {Ln : Nat} {xs : Nat → Int32} {sv : jp_V} {w : Nat} {M : jp_M} {res : jp_M} (hf : f_TT_arbitrates M = some res) : jE (jZ (jK Ln xs sv)) 0 90 [(.inr (some 61))] (jSH w) M (none, jSH w, res) := by
  unfold f_TT_arbitrates at hf
  refine jE_in (L0 := [some (.inr (some 61)), none, none, none, none, none]) rfl (Nat.le_of_ble_eq_true rfl) rfl (fun d hd => ?_)
  refine jR_in rfl ⟨rfl, rfl, rfl⟩ rfl ?_
  refine js_aload_n rfl ?_
  refine js_iconst (v := (0 : Int32)) rfl ?_
  refine js_puti rfl rfl (Or.inl rfl) ?_
  refine js_aload_n rfl ?_
  refine js_iconst (v := (0 : Int32)) rfl ?_
  refine js_puti rfl rfl (Or.inl rfl) ?_
  refine js_iconst (v := (0 : Int32)) rfl ?_
  refine js_istore_n rfl rfl ?_
  exact jS_out rfl ⟨rfl, rfl, rfl⟩ rfl (t_TT_arbitrates_12 hd jFu _ _ _ _ _ _ _ hf)
/-! SwallowsAir.arbiter(I)I -/
def f_C_arbiter (a1 : Int32) (M : jp_M) : Option (Int32 × jp_M) :=
  if jp_c .ne (f_C_within a1 (1 : Int32)) 0 = true then (
  (f_TT_arbitrates M).bind fun q2 => (
  if jp_c .ne a1 0 = true then (
  some ((q2 61 9), q2)) else (
  some ((q2 61 7), q2)))) else (
  some ((-1 : Int32), M))
theorem t_C_arbiter {Ln : Nat} {xs : Nat → Int32} {sv : jp_V} {a1 : Int32} {w : Nat} {M : jp_M} {res : Int32 × jp_M} (hf : f_C_arbiter a1 M = some res) : jE (jZ (jK Ln xs sv)) 1 145 [(.inr (some 0)), (.inl a1)] (jSH w) M (some (.inl res.1), jSH w, res.2) := by
  unfold f_C_arbiter at hf
  refine jE_in (L0 := [some (.inr (some 0)), some (.inl a1)]) rfl (Nat.le_of_ble_eq_true rfl) rfl (fun d hd => ?_)
  refine jR_in rfl ⟨rfl, rfl, rfl⟩ rfl ?_
  refine js_iload_n rfl ?_
  refine js_iconst (v := (1 : Int32)) rfl ?_
  refine js_c2i rfl rfl ⟨rfl, rfl⟩ rfl rfl (t_C_within rfl) (by omega) ?_
  refine js_ifc (tgt := 10) rfl rfl (fun h => ?_) (fun h => ?_)
  · have hf := jif_t hf h
    refine jR_in rfl ⟨rfl, rfl, rfl⟩ rfl ?_
    refine js_aload_n rfl ?_
    refine js_getr rfl rfl rfl ?_
    obtain ⟨q2, hc_2, hf⟩ := jbind hf
    refine js_c1v (w := 0) rfl rfl ⟨rfl, rfl⟩ rfl rfl (t_TT_arbitrates hc_2) (by omega) ?_
    refine js_iload_n rfl ?_
    refine js_ifc (tgt := 31) rfl rfl (fun h => ?_) (fun h => ?_)
    · have hf := jif_t hf h
      refine jR_in rfl ⟨rfl, rfl, rfl⟩ rfl ?_
      refine js_aload_n rfl ?_
      refine js_getr rfl rfl rfl ?_
      refine js_geti rfl rfl rfl ?_
      obtain rfl := Option.some.inj hf
      exact js_iret rfl rfl
    · have hf := jif_f hf h
      refine js_aload_n rfl ?_
      refine js_getr rfl rfl rfl ?_
      refine js_geti rfl rfl rfl ?_
      refine js_goto (tgt := 38) rfl rfl ?_
      refine jR_in rfl ⟨rfl, rfl, rfl⟩ rfl ?_
      obtain rfl := Option.some.inj hf
      exact js_iret rfl rfl
  · have hf := jif_f hf h
    refine js_iconst (v := (-1 : Int32)) rfl ?_
    obtain rfl := Option.some.inj hf
    exact js_iret rfl rfl
/-! SwallowsAir.ball(III)I -/
def f_C_ball_90  (l3 : Int32) (l5 : Int32) (l7 : Int32) : Option (Int32) :=
  if jp_c .ne l3 0 = true then (
  some l7) else (
  some l5)
theorem t_C_ball_90 {Ln : Nat} {xs : Nat → Int32} {sv : jp_V} {d : Nat} (hd : 1 ≤ d)  (l3 : Int32) (l5 : Int32) (l7 : Int32) (o0 : Option jp_V) (o1 : Option jp_V) (o2 : Option jp_V) (o4 : Option jp_V) (o6 : Option jp_V) (o8 : Option jp_V) (w : Nat) (M : jp_M) {res : Int32} (hf : f_C_ball_90  l3 l5 l7 = some res) : jR (jZ (jK Ln xs sv)) d 146 90 ([o0, o1, o2, some (.inl l3), o4, some (.inl l5), o6, some (.inl l7), o8], [], jSH w, M) (some (.inl res), jSH w, M) := by
  unfold f_C_ball_90 at hf
  refine jR_in rfl ⟨rfl, rfl, rfl⟩ rfl ?_
  refine js_iload_n rfl ?_
  refine js_ifc (tgt := 99) rfl rfl (fun h => ?_) (fun h => ?_)
  · have hf := jif_t hf h
    refine jR_in rfl ⟨rfl, rfl, rfl⟩ rfl ?_
    refine js_iload rfl ?_
    obtain rfl := Option.some.inj hf
    exact js_iret rfl rfl
  · have hf := jif_f hf h
    refine js_iload rfl ?_
    refine js_goto (tgt := 101) rfl rfl ?_
    refine jR_in rfl ⟨rfl, rfl, rfl⟩ rfl ?_
    obtain rfl := Option.some.inj hf
    exact js_iret rfl rfl
def f_C_ball_47  : Nat → Int32 → Int32 → Int32 → Int32 → Int32 → Int32 → Int32 → Option (Int32)
  | 0, _, _, _, _, _, _, _ => none
  | n + 1, l2, l3, l4, l5, l6, l7, l8 =>
    if jp_c .ge l8 (100 : Int32) = true then (
    f_C_ball_90 l3 l5 l7) else (
    if jp_c .le l4 0 = true then (
    f_C_ball_90 l3 l5 l7) else (
    f_C_ball_47 n l2 l3 (l4 + (l6 - l2)) (jp_max l5 (l4 + (l6 - l2))) (l6 - l2) (l7 + (1 : Int32)) (l8 + (1 : Int32))))
theorem t_C_ball_47 {Ln : Nat} {xs : Nat → Int32} {sv : jp_V} {d : Nat} (hd : 1 ≤ d)  : ∀ (n : Nat) (l2 : Int32) (l3 : Int32) (l4 : Int32) (l5 : Int32) (l6 : Int32) (l7 : Int32) (l8 : Int32) (o0 : Option jp_V) (o1 : Option jp_V) (w : Nat) (M : jp_M) {res : Int32}, f_C_ball_47 n  l2 l3 l4 l5 l6 l7 l8 = some res → jR (jZ (jK Ln xs sv)) d 146 47 ([o0, o1, some (.inl l2), some (.inl l3), some (.inl l4), some (.inl l5), some (.inl l6), some (.inl l7), some (.inl l8)], [], jSH w, M) (some (.inl res), jSH w, M) := by
  intro n
  induction n with
  | zero =>
    intro l2 l3 l4 l5 l6 l7 l8 o0 o1 w M res hf
    cases hf
  | succ n ih =>
    intro l2 l3 l4 l5 l6 l7 l8 o0 o1 w M res hf
    rw [f_C_ball_47] at hf
    refine jR_in rfl ⟨rfl, rfl, rfl⟩ rfl ?_
    refine js_iload rfl ?_
    refine js_bipush (v := (100 : Int32)) rfl ?_
    refine js_icmp (tgt := 90) rfl rfl (fun h => ?_) (fun h => ?_)
    · have hf := jif_t hf h
      exact t_C_ball_90 hd _ _ _ _ _ _ _ _ _ _ _ hf
    · have hf := jif_f hf h
      refine js_iload rfl ?_
      refine js_ifc (tgt := 90) rfl rfl (fun h => ?_) (fun h => ?_)
      · have hf := jif_t hf h
        exact t_C_ball_90 hd _ _ _ _ _ _ _ _ _ _ _ hf
      · have hf := jif_f hf h
        refine js_iload rfl ?_
        refine js_iload_n rfl ?_
        refine js_isub ?_
        refine js_istore rfl rfl ?_
        refine js_iload rfl ?_
        refine js_iload rfl ?_
        refine js_iadd ?_
        refine js_istore rfl rfl ?_
        refine js_iload rfl ?_
        refine js_iload rfl ?_
        refine js_max rfl ?_
        refine js_istore rfl rfl ?_
        refine js_iinc (v := (1 : Int32)) rfl rfl rfl rfl ?_
        refine js_iinc (v := (1 : Int32)) rfl rfl rfl rfl ?_
        refine js_goto (tgt := 47) rfl rfl ?_
        exact ih _ _ _ _ _ _ _ _ _ _ _ hf
def f_C_ball (a1 : Int32) (a2 : Int32) (a3 : Int32) : Option (Int32) :=
  if jp_c .lt a1 (1 : Int32) = true then (
  some (-1 : Int32)) else (
  if jp_c .gt a1 (40 : Int32) = true then (
  some (-1 : Int32)) else (
  if jp_c .lt a2 (1 : Int32) = true then (
  some (-1 : Int32)) else (
  if jp_c .gt a2 (9 : Int32) = true then (
  some (-1 : Int32)) else (
  if jp_c .ne (f_C_within a3 (1 : Int32)) 0 = true then (
  f_C_ball_47 jFu a2 a3 a1 a1 a1 (1 : Int32) (0 : Int32)) else (
  some (-1 : Int32))))))
theorem t_C_ball {Ln : Nat} {xs : Nat → Int32} {sv : jp_V} {a1 : Int32} {a2 : Int32} {a3 : Int32} {w : Nat} {M : jp_M} {res : Int32} (hf : f_C_ball a1 a2 a3 = some res) : jE (jZ (jK Ln xs sv)) 1 146 [(.inr (some 0)), (.inl a1), (.inl a2), (.inl a3)] (jSH w) M (some (.inl res), jSH w, M) := by
  unfold f_C_ball at hf
  refine jE_in (L0 := [some (.inr (some 0)), some (.inl a1), some (.inl a2), some (.inl a3), none, none, none, none, none]) rfl (Nat.le_of_ble_eq_true rfl) rfl (fun d hd => ?_)
  refine jR_in rfl ⟨rfl, rfl, rfl⟩ rfl ?_
  refine js_iload_n rfl ?_
  refine js_iconst (v := (1 : Int32)) rfl ?_
  refine js_icmp (tgt := 30) rfl rfl (fun h => ?_) (fun h => ?_)
  · have hf := jif_t hf h
    refine jR_in rfl ⟨rfl, rfl, rfl⟩ rfl ?_
    refine js_iconst (v := (-1 : Int32)) rfl ?_
    obtain rfl := Option.some.inj hf
    exact js_iret rfl rfl
  · have hf := jif_f hf h
    refine js_iload_n rfl ?_
    refine js_bipush (v := (40 : Int32)) rfl ?_
    refine js_icmp (tgt := 30) rfl rfl (fun h => ?_) (fun h => ?_)
    · have hf := jif_t hf h
      refine jR_in rfl ⟨rfl, rfl, rfl⟩ rfl ?_
      refine js_iconst (v := (-1 : Int32)) rfl ?_
      obtain rfl := Option.some.inj hf
      exact js_iret rfl rfl
    · have hf := jif_f hf h
      refine js_iload_n rfl ?_
      refine js_iconst (v := (1 : Int32)) rfl ?_
      refine js_icmp (tgt := 30) rfl rfl (fun h => ?_) (fun h => ?_)
      · have hf := jif_t hf h
        refine jR_in rfl ⟨rfl, rfl, rfl⟩ rfl ?_
        refine js_iconst (v := (-1 : Int32)) rfl ?_
        obtain rfl := Option.some.inj hf
        exact js_iret rfl rfl
      · have hf := jif_f hf h
        refine js_iload_n rfl ?_
        refine js_bipush (v := (9 : Int32)) rfl ?_
        refine js_icmp (tgt := 30) rfl rfl (fun h => ?_) (fun h => ?_)
        · have hf := jif_t hf h
          refine jR_in rfl ⟨rfl, rfl, rfl⟩ rfl ?_
          refine js_iconst (v := (-1 : Int32)) rfl ?_
          obtain rfl := Option.some.inj hf
          exact js_iret rfl rfl
        · have hf := jif_f hf h
          refine js_iload_n rfl ?_
          refine js_iconst (v := (1 : Int32)) rfl ?_
          refine js_c2i rfl rfl ⟨rfl, rfl⟩ rfl rfl (t_C_within rfl) (by omega) ?_
          refine js_ifc (tgt := 32) rfl rfl (fun h => ?_) (fun h => ?_)
          · have hf := jif_t hf h
            refine jR_in rfl ⟨rfl, rfl, rfl⟩ rfl ?_
            refine js_iload_n rfl ?_
            refine js_istore rfl rfl ?_
            refine js_iload_n rfl ?_
            refine js_istore rfl rfl ?_
            refine js_iload_n rfl ?_
            refine js_istore rfl rfl ?_
            refine js_iconst (v := (1 : Int32)) rfl ?_
            refine js_istore rfl rfl ?_
            refine js_iconst (v := (0 : Int32)) rfl ?_
            refine js_istore rfl rfl ?_
            exact jS_out rfl ⟨rfl, rfl, rfl⟩ rfl (t_C_ball_47 hd jFu _ _ _ _ _ _ _ _ _ _ _ hf)
          · have hf := jif_f hf h
            refine js_iconst (v := (-1 : Int32)) rfl ?_
            obtain rfl := Option.some.inj hf
            exact js_iret rfl rfl
/-! SwallowsAir$AirThought.stoopsOf(I)I -/
def f_T_stoopsOf (a1 : Int32) (M : jp_M) : Option (Int32) :=
  jg (jp_in (((5 : Int32) * a1) + (3 : Int32)) 50) (
  some (M 3 (Int32.toNatClampNeg (((5 : Int32) * a1) + (3 : Int32)))))
theorem t_T_stoopsOf {Ln : Nat} {xs : Nat → Int32} {sv : jp_V} {a1 : Int32} {w : Nat} {M : jp_M} {res : Int32} (hf : f_T_stoopsOf a1 M = some res) : jE (jZ (jK Ln xs sv)) 0 17 [(.inr (some 56)), (.inl a1)] (jSH w) M (some (.inl res), jSH w, M) := by
  unfold f_T_stoopsOf at hf
  refine jE_in (L0 := [some (.inr (some 56)), some (.inl a1)]) rfl (Nat.le_of_ble_eq_true rfl) rfl (fun d hd => ?_)
  refine jR_in rfl ⟨rfl, rfl, rfl⟩ rfl ?_
  refine js_aload_n rfl ?_
  refine js_getr rfl rfl rfl ?_
  refine js_getr rfl rfl rfl ?_
  refine js_iconst (v := (5 : Int32)) rfl ?_
  refine js_iload_n rfl ?_
  refine js_imul ?_
  refine js_iconst (v := (3 : Int32)) rfl ?_
  refine js_iadd ?_
  obtain ⟨hb1, hf⟩ := jg_some hf
  refine js_iald rfl hb1 ?_
  obtain rfl := Option.some.inj hf
  exact js_iret rfl rfl
/-! SwallowsAir$AirThought.worth(I)I -/
def f_T_worth (a0 : Int32) : Option (Int32) :=
  if jp_c .eq (f_C_within a0 ((8 : Int32) - (1 : Int32))) 0 = true then (
  some (0 : Int32)) else (
  jg (jp_in a0 8) (
  some (jcon 2001 (Int32.toNatClampNeg a0))))
theorem t_T_worth {Ln : Nat} {xs : Nat → Int32} {sv : jp_V} {a0 : Int32} {w : Nat} {M : jp_M} {res : Int32} (hf : f_T_worth a0 = some res) : jE (jZ (jK Ln xs sv)) 1 18 [(.inl a0)] (jSH w) M (some (.inl res), jSH w, M) := by
  unfold f_T_worth at hf
  refine jE_in (L0 := [some (.inl a0)]) rfl (Nat.le_of_ble_eq_true rfl) rfl (fun d hd => ?_)
  refine jR_in rfl ⟨rfl, rfl, rfl⟩ rfl ?_
  refine js_iload_n rfl ?_
  refine js_gets rfl ?_
  refine js_alenK (v := (8 : Int32)) rfl rfl rfl ?_
  refine js_iconst (v := (1 : Int32)) rfl ?_
  refine js_isub ?_
  refine js_c2i rfl rfl ⟨rfl, rfl⟩ rfl rfl (t_C_within rfl) (by omega) ?_
  refine js_ifc (tgt := 21) rfl rfl (fun h => ?_) (fun h => ?_)
  · have hf := jif_t hf h
    refine jR_in rfl ⟨rfl, rfl, rfl⟩ rfl ?_
    refine js_iconst (v := (0 : Int32)) rfl ?_
    obtain rfl := Option.some.inj hf
    exact js_iret rfl rfl
  · have hf := jif_f hf h
    refine js_gets rfl ?_
    refine js_iload_n rfl ?_
    obtain ⟨hb2, hf⟩ := jg_some hf
    refine js_ialdK rfl rfl hb2 ?_
    refine js_goto (tgt := 22) rfl rfl ?_
    refine jR_in rfl ⟨rfl, rfl, rfl⟩ rfl ?_
    obtain rfl := Option.some.inj hf
    exact js_iret rfl rfl
/-! SwallowsAir$AirThought.gameMove(I)I -/
def f_T_gameMove_125 (c20 : Int32 → Int32 → Int32 → jp_M → Option (Int32)) (l1 : Int32) (l2 : Int32) (l3 : Int32) (M : jp_M) : Option (Int32) :=
  c20 l1 l2 (l3 + (1 : Int32)) M
theorem t_T_gameMove_125 {Ln : Nat} {xs : Nat → Int32} {sv : jp_V} {d : Nat} (hd : 2 ≤ d) {c20 : Int32 → Int32 → Int32 → jp_M → Option (Int32)} (hc20 : ∀ (l1 : Int32) (l2 : Int32) (l3 : Int32) (o4 : Option jp_V) (o5 : Option jp_V) (w : Nat) (M : jp_M) (res : Int32), c20 l1 l2 l3 M = some res → jR (jZ (jK Ln xs sv)) d 16 34 ([some (.inr (some 56)), some (.inl l1), some (.inl l2), some (.inl l3), o4, o5], [], jSH w, M) (some (.inl res), jSH w, M)) (l1 : Int32) (l2 : Int32) (l3 : Int32) (o4 : Option jp_V) (o5 : Option jp_V) (w : Nat) (M : jp_M) {res : Int32} (hf : f_T_gameMove_125 c20 l1 l2 l3 M = some res) : jR (jZ (jK Ln xs sv)) d 16 125 ([some (.inr (some 56)), some (.inl l1), some (.inl l2), some (.inl l3), o4, o5], [], jSH w, M) (some (.inl res), jSH w, M) := by
  unfold f_T_gameMove_125 at hf
  refine jR_in rfl ⟨rfl, rfl, rfl⟩ rfl ?_
  refine js_iinc (v := (1 : Int32)) rfl rfl rfl rfl ?_
  refine js_goto (tgt := 34) rfl rfl ?_
  exact hc20 _ _ _ _ _ _ _ _ hf
def f_T_gameMove_92 (c20 : Int32 → Int32 → Int32 → jp_M → Option (Int32)) (l1 : Int32) (l2 : Int32) (l3 : Int32) (l4 : Int32) (l5 : Int32) (M : jp_M) : Option (Int32) :=
  if jp_c .le l4 0 = true then (
  f_T_gameMove_125 c20 l1 l2 l3 M) else (
  (f_T_worth (l4 / (2 : Int32))).bind fun q1 => (
  if jp_c .ne q1 l5 = true then (
  f_T_gameMove_125 c20 l1 l2 l3 M) else (
  if jp_c .ne l1 0 = true then (
  some (l4 - (l4 / (2 : Int32)))) else (
  some l3))))
theorem t_T_gameMove_92 {Ln : Nat} {xs : Nat → Int32} {sv : jp_V} {d : Nat} (hd : 2 ≤ d) {c20 : Int32 → Int32 → Int32 → jp_M → Option (Int32)} (hc20 : ∀ (l1 : Int32) (l2 : Int32) (l3 : Int32) (o4 : Option jp_V) (o5 : Option jp_V) (w : Nat) (M : jp_M) (res : Int32), c20 l1 l2 l3 M = some res → jR (jZ (jK Ln xs sv)) d 16 34 ([some (.inr (some 56)), some (.inl l1), some (.inl l2), some (.inl l3), o4, o5], [], jSH w, M) (some (.inl res), jSH w, M)) (l1 : Int32) (l2 : Int32) (l3 : Int32) (l4 : Int32) (l5 : Int32) (w : Nat) (M : jp_M) {res : Int32} (hf : f_T_gameMove_92 c20 l1 l2 l3 l4 l5 M = some res) : jR (jZ (jK Ln xs sv)) d 16 92 ([some (.inr (some 56)), some (.inl l1), some (.inl l2), some (.inl l3), some (.inl l4), some (.inl l5)], [], jSH w, M) (some (.inl res), jSH w, M) := by
  unfold f_T_gameMove_92 at hf
  refine jR_in rfl ⟨rfl, rfl, rfl⟩ rfl ?_
  refine js_iload rfl ?_
  refine js_ifc (tgt := 125) rfl rfl (fun h => ?_) (fun h => ?_)
  · have hf := jif_t hf h
    exact t_T_gameMove_125 hd hc20 _ _ _ _ _ _ _ hf
  · have hf := jif_f hf h
    refine js_iload rfl ?_
    refine js_iconst (v := (2 : Int32)) rfl ?_
    refine js_idiv (by decide) ?_
    obtain ⟨q1, hc_1, hf⟩ := jbind hf
    refine js_c1i rfl rfl ⟨rfl, rfl⟩ rfl rfl (t_T_worth hc_1) (by omega) ?_
    refine js_iload rfl ?_
    refine js_icmp (tgt := 125) rfl rfl (fun h => ?_) (fun h => ?_)
    · have hf := jif_t hf h
      exact t_T_gameMove_125 hd hc20 _ _ _ _ _ _ _ hf
    · have hf := jif_f hf h
      refine js_iload_n rfl ?_
      refine js_ifc (tgt := 117) rfl rfl (fun h => ?_) (fun h => ?_)
      · have hf := jif_t hf h
        refine jR_in rfl ⟨rfl, rfl, rfl⟩ rfl ?_
        refine js_iload rfl ?_
        refine js_iload rfl ?_
        refine js_iconst (v := (2 : Int32)) rfl ?_
        refine js_idiv (by decide) ?_
        refine js_isub ?_
        obtain rfl := Option.some.inj hf
        exact js_iret rfl rfl
      · have hf := jif_f hf h
        refine js_iload_n rfl ?_
        refine js_goto (tgt := 124) rfl rfl ?_
        refine jR_in rfl ⟨rfl, rfl, rfl⟩ rfl ?_
        obtain rfl := Option.some.inj hf
        exact js_iret rfl rfl
def f_T_gameMove_34  : Nat → Int32 → Int32 → Int32 → jp_M → Option (Int32)
  | 0, _, _, _, _ => none
  | n + 1, l1, l2, l3, M =>
    if jp_c .ge l3 (M 2 4) = true then (
    some (-1 : Int32)) else (
    if jp_c .eq l2 0 = true then (
    some (-1 : Int32)) else (
    (f_T_stoopsOf l3 M).bind fun q1 => (
    (f_T_worth q1).bind fun q2 => (
    if jp_c .le q1 0 = true then (
    f_T_gameMove_92 (f_T_gameMove_34 n ) l1 l2 l3 q1 (l2 ^^^ q2) M) else (
    (f_T_worth (q1 - (1 : Int32))).bind fun q3 => (
    if jp_c .ne q3 (l2 ^^^ q2) = true then (
    f_T_gameMove_92 (f_T_gameMove_34 n ) l1 l2 l3 q1 (l2 ^^^ q2) M) else (
    if jp_c .ne l1 0 = true then (
    some (1 : Int32)) else (
    some l3))))))))
theorem t_T_gameMove_34 {Ln : Nat} {xs : Nat → Int32} {sv : jp_V} {d : Nat} (hd : 2 ≤ d)  : ∀ (n : Nat) (l1 : Int32) (l2 : Int32) (l3 : Int32) (o4 : Option jp_V) (o5 : Option jp_V) (w : Nat) (M : jp_M) {res : Int32}, f_T_gameMove_34 n  l1 l2 l3 M = some res → jR (jZ (jK Ln xs sv)) d 16 34 ([some (.inr (some 56)), some (.inl l1), some (.inl l2), some (.inl l3), o4, o5], [], jSH w, M) (some (.inl res), jSH w, M) := by
  intro n
  induction n with
  | zero =>
    intro l1 l2 l3 o4 o5 w M res hf
    cases hf
  | succ n ih =>
    intro l1 l2 l3 o4 o5 w M res hf
    rw [f_T_gameMove_34] at hf
    refine jR_in rfl ⟨rfl, rfl, rfl⟩ rfl ?_
    refine js_iload_n rfl ?_
    refine js_aload_n rfl ?_
    refine js_getr rfl rfl rfl ?_
    refine js_geti rfl rfl rfl ?_
    refine js_icmp (tgt := 131) rfl rfl (fun h => ?_) (fun h => ?_)
    · have hf := jif_t hf h
      refine jR_in rfl ⟨rfl, rfl, rfl⟩ rfl ?_
      refine js_iconst (v := (-1 : Int32)) rfl ?_
      obtain rfl := Option.some.inj hf
      exact js_iret rfl rfl
    · have hf := jif_f hf h
      refine js_iload_n rfl ?_
      refine js_ifc (tgt := 131) rfl rfl (fun h => ?_) (fun h => ?_)
      · have hf := jif_t hf h
        refine jR_in rfl ⟨rfl, rfl, rfl⟩ rfl ?_
        refine js_iconst (v := (-1 : Int32)) rfl ?_
        obtain rfl := Option.some.inj hf
        exact js_iret rfl rfl
      · have hf := jif_f hf h
        refine js_aload_n rfl ?_
        refine js_iload_n rfl ?_
        obtain ⟨q1, hc_1, hf⟩ := jbind hf
        refine js_c2i rfl rfl ⟨rfl, rfl⟩ rfl rfl (t_T_stoopsOf hc_1) (by omega) ?_
        refine js_istore rfl rfl ?_
        refine js_iload_n rfl ?_
        refine js_iload rfl ?_
        obtain ⟨q2, hc_2, hf⟩ := jbind hf
        refine js_c1i rfl rfl ⟨rfl, rfl⟩ rfl rfl (t_T_worth hc_2) (by omega) ?_
        refine js_ixor ?_
        refine js_istore rfl rfl ?_
        refine js_iload rfl ?_
        refine js_ifc (tgt := 92) rfl rfl (fun h => ?_) (fun h => ?_)
        · have hf := jif_t hf h
          exact t_T_gameMove_92 hd (fun l1 l2 l3 o4 o5 w M res hf => ih l1 l2 l3 o4 o5 w M hf) _ _ _ _ _ _ _ hf
        · have hf := jif_f hf h
          refine js_iload rfl ?_
          refine js_iconst (v := (1 : Int32)) rfl ?_
          refine js_isub ?_
          obtain ⟨q3, hc_3, hf⟩ := jbind hf
          refine js_c1i rfl rfl ⟨rfl, rfl⟩ rfl rfl (t_T_worth hc_3) (by omega) ?_
          refine js_iload rfl ?_
          refine js_icmp (tgt := 92) rfl rfl (fun h => ?_) (fun h => ?_)
          · have hf := jif_t hf h
            exact t_T_gameMove_92 hd (fun l1 l2 l3 o4 o5 w M res hf => ih l1 l2 l3 o4 o5 w M hf) _ _ _ _ _ _ _ hf
          · have hf := jif_f hf h
            refine js_iload_n rfl ?_
            refine js_ifc (tgt := 90) rfl rfl (fun h => ?_) (fun h => ?_)
            · have hf := jif_t hf h
              refine jR_in rfl ⟨rfl, rfl, rfl⟩ rfl ?_
              refine js_iconst (v := (1 : Int32)) rfl ?_
              obtain rfl := Option.some.inj hf
              exact js_iret rfl rfl
            · have hf := jif_f hf h
              refine js_iload_n rfl ?_
              refine js_goto (tgt := 91) rfl rfl ?_
              refine jR_in rfl ⟨rfl, rfl, rfl⟩ rfl ?_
              obtain rfl := Option.some.inj hf
              exact js_iret rfl rfl
def f_T_gameMove_4  : Nat → Int32 → Int32 → Int32 → jp_M → Option (Int32)
  | 0, _, _, _, _ => none
  | n + 1, l1, l2, l3, M =>
    if jp_c .ge l3 (M 2 4) = true then (
    f_T_gameMove_34 jFu l1 l2 (0 : Int32) M) else (
    (f_T_stoopsOf l3 M).bind fun q1 => (
    (f_T_worth q1).bind fun q2 => (
    f_T_gameMove_4 n l1 (l2 ^^^ q2) (l3 + (1 : Int32)) M)))
theorem t_T_gameMove_4 {Ln : Nat} {xs : Nat → Int32} {sv : jp_V} {d : Nat} (hd : 2 ≤ d)  : ∀ (n : Nat) (l1 : Int32) (l2 : Int32) (l3 : Int32) (o4 : Option jp_V) (o5 : Option jp_V) (w : Nat) (M : jp_M) {res : Int32}, f_T_gameMove_4 n  l1 l2 l3 M = some res → jR (jZ (jK Ln xs sv)) d 16 4 ([some (.inr (some 56)), some (.inl l1), some (.inl l2), some (.inl l3), o4, o5], [], jSH w, M) (some (.inl res), jSH w, M) := by
  intro n
  induction n with
  | zero =>
    intro l1 l2 l3 o4 o5 w M res hf
    cases hf
  | succ n ih =>
    intro l1 l2 l3 o4 o5 w M res hf
    rw [f_T_gameMove_4] at hf
    refine jR_in rfl ⟨rfl, rfl, rfl⟩ rfl ?_
    refine js_iload_n rfl ?_
    refine js_aload_n rfl ?_
    refine js_getr rfl rfl rfl ?_
    refine js_geti rfl rfl rfl ?_
    refine js_icmp (tgt := 32) rfl rfl (fun h => ?_) (fun h => ?_)
    · have hf := jif_t hf h
      refine jR_in rfl ⟨rfl, rfl, rfl⟩ rfl ?_
      refine js_iconst (v := (0 : Int32)) rfl ?_
      refine js_istore_n rfl rfl ?_
      exact jS_out rfl ⟨rfl, rfl, rfl⟩ rfl (t_T_gameMove_34 hd jFu _ _ _ _ _ _ _ hf)
    · have hf := jif_f hf h
      refine js_iload_n rfl ?_
      refine js_aload_n rfl ?_
      refine js_iload_n rfl ?_
      obtain ⟨q1, hc_1, hf⟩ := jbind hf
      refine js_c2i rfl rfl ⟨rfl, rfl⟩ rfl rfl (t_T_stoopsOf hc_1) (by omega) ?_
      obtain ⟨q2, hc_2, hf⟩ := jbind hf
      refine js_c1i rfl rfl ⟨rfl, rfl⟩ rfl rfl (t_T_worth hc_2) (by omega) ?_
      refine js_ixor ?_
      refine js_istore_n rfl rfl ?_
      refine js_iinc (v := (1 : Int32)) rfl rfl rfl rfl ?_
      refine js_goto (tgt := 4) rfl rfl ?_
      exact ih _ _ _ _ _ _ _ hf
def f_T_gameMove (a1 : Int32) (M : jp_M) : Option (Int32) :=
  f_T_gameMove_4 jFu a1 (0 : Int32) (0 : Int32) M
theorem t_T_gameMove {Ln : Nat} {xs : Nat → Int32} {sv : jp_V} {a1 : Int32} {w : Nat} {M : jp_M} {res : Int32} (hf : f_T_gameMove a1 M = some res) : jE (jZ (jK Ln xs sv)) 2 16 [(.inr (some 56)), (.inl a1)] (jSH w) M (some (.inl res), jSH w, M) := by
  unfold f_T_gameMove at hf
  refine jE_in (L0 := [some (.inr (some 56)), some (.inl a1), none, none, none, none]) rfl (Nat.le_of_ble_eq_true rfl) rfl (fun d hd => ?_)
  refine jR_in rfl ⟨rfl, rfl, rfl⟩ rfl ?_
  refine js_iconst (v := (0 : Int32)) rfl ?_
  refine js_istore_n rfl rfl ?_
  refine js_iconst (v := (0 : Int32)) rfl ?_
  refine js_istore_n rfl rfl ?_
  exact jS_out rfl ⟨rfl, rfl, rfl⟩ rfl (t_T_gameMove_4 hd jFu _ _ _ _ _ _ _ hf)
/-! SwallowsAir.game(I)I -/
def f_C_game (a1 : Int32) (M : jp_M) : Option (Int32) :=
  if jp_c .ne (f_C_within a1 (1 : Int32)) 0 = true then (
  (f_T_gameMove a1 M).bind fun q2 => (
  some q2)) else (
  some (-1 : Int32))
theorem t_C_game {Ln : Nat} {xs : Nat → Int32} {sv : jp_V} {a1 : Int32} {w : Nat} {M : jp_M} {res : Int32} (hf : f_C_game a1 M = some res) : jE (jZ (jK Ln xs sv)) 3 147 [(.inr (some 0)), (.inl a1)] (jSH w) M (some (.inl res), jSH w, M) := by
  unfold f_C_game at hf
  refine jE_in (L0 := [some (.inr (some 0)), some (.inl a1)]) rfl (Nat.le_of_ble_eq_true rfl) rfl (fun d hd => ?_)
  refine jR_in rfl ⟨rfl, rfl, rfl⟩ rfl ?_
  refine js_iload_n rfl ?_
  refine js_iconst (v := (1 : Int32)) rfl ?_
  refine js_c2i rfl rfl ⟨rfl, rfl⟩ rfl rfl (t_C_within rfl) (by omega) ?_
  refine js_ifc (tgt := 10) rfl rfl (fun h => ?_) (fun h => ?_)
  · have hf := jif_t hf h
    refine jR_in rfl ⟨rfl, rfl, rfl⟩ rfl ?_
    refine js_aload_n rfl ?_
    refine js_getr rfl rfl rfl ?_
    refine js_iload_n rfl ?_
    obtain ⟨q2, hc_2, hf⟩ := jbind hf
    refine js_c2i rfl rfl ⟨rfl, rfl⟩ rfl rfl (t_T_gameMove hc_2) (by omega) ?_
    obtain rfl := Option.some.inj hf
    exact js_iret rfl rfl
  · have hf := jif_f hf h
    refine js_iconst (v := (-1 : Int32)) rfl ?_
    obtain rfl := Option.some.inj hf
    exact js_iret rfl rfl
/-! SwallowsAir$AirThought.leapWays(I)I -/
def f_T_leapWays_40 (c10 : Int32 → Int32 → Int32 → Int32 → Int32 → jp_M → Option (Int32 × jp_M)) (l1 : Int32) (l2 : Int32) (l4 : Int32) (l5 : Int32) (s0 : Int32) (M : jp_M) : Option (Int32 × jp_M) :=
  c10 l1 l4 l2 s0 (l5 + (1 : Int32)) M
theorem t_T_leapWays_40 {Ln : Nat} {xs : Nat → Int32} {sv : jp_V} {d : Nat} (hd : 3 ≤ d) {c10 : Int32 → Int32 → Int32 → Int32 → Int32 → jp_M → Option (Int32 × jp_M)} (hc10 : ∀ (l1 : Int32) (l2 : Int32) (l3 : Int32) (l4 : Int32) (l5 : Int32) (o6 : Option jp_V) (w : Nat) (M : jp_M) (res : Int32 × jp_M), c10 l1 l2 l3 l4 l5 M = some res → jR (jZ (jK Ln xs sv)) d 19 14 ([some (.inr (some 56)), some (.inl l1), some (.inl l2), some (.inl l3), some (.inl l4), some (.inl l5), o6], [], jSH w, M) (some (.inl res.1), jSH w, res.2)) (l1 : Int32) (l2 : Int32) (l4 : Int32) (l5 : Int32) (s0 : Int32) (o3 : Option jp_V) (o6 : Option jp_V) (w : Nat) (M : jp_M) {res : Int32 × jp_M} (hf : f_T_leapWays_40 c10 l1 l2 l4 l5 s0 M = some res) : jR (jZ (jK Ln xs sv)) d 19 40 ([some (.inr (some 56)), some (.inl l1), some (.inl l2), o3, some (.inl l4), some (.inl l5), o6], [.inl s0], jSH w, M) (some (.inl res.1), jSH w, res.2) := by
  unfold f_T_leapWays_40 at hf
  refine jR_in rfl ⟨rfl, rfl, rfl⟩ rfl ?_
  refine js_istore rfl rfl ?_
  refine js_iload_n rfl ?_
  refine js_istore_n rfl rfl ?_
  refine js_iload rfl ?_
  refine js_istore_n rfl rfl ?_
  refine js_iload rfl ?_
  refine js_istore rfl rfl ?_
  refine js_iinc (v := (1 : Int32)) rfl rfl rfl rfl ?_
  refine js_goto (tgt := 14) rfl rfl ?_
  exact hc10 _ _ _ _ _ _ _ _ _ hf
def f_T_leapWays_14  : Nat → Int32 → Int32 → Int32 → Int32 → Int32 → jp_M → Option (Int32 × jp_M)
  | 0, _, _, _, _, _, _ => none
  | n + 1, l1, l2, l3, l4, l5, M =>
    if jp_c .gt l5 l1 = true then (
    some (l4, M)) else (
    (f_T_isFree l5 (0 : Int32) M).bind fun q1 => (
    if jp_c .eq q1 0 = true then (
    f_T_leapWays_40 (f_T_leapWays_14 n ) l1 l2 l4 l5 (0 : Int32) M) else (
    f_T_leapWays_40 (f_T_leapWays_14 n ) l1 l2 l4 l5 ((l4 + l2) + l3) M)))
theorem t_T_leapWays_14 {Ln : Nat} {xs : Nat → Int32} {sv : jp_V} {d : Nat} (hd : 3 ≤ d)  : ∀ (n : Nat) (l1 : Int32) (l2 : Int32) (l3 : Int32) (l4 : Int32) (l5 : Int32) (o6 : Option jp_V) (w : Nat) (M : jp_M) {res : Int32 × jp_M}, f_T_leapWays_14 n  l1 l2 l3 l4 l5 M = some res → jR (jZ (jK Ln xs sv)) d 19 14 ([some (.inr (some 56)), some (.inl l1), some (.inl l2), some (.inl l3), some (.inl l4), some (.inl l5), o6], [], jSH w, M) (some (.inl res.1), jSH w, res.2) := by
  intro n
  induction n with
  | zero =>
    intro l1 l2 l3 l4 l5 o6 w M res hf
    cases hf
  | succ n ih =>
    intro l1 l2 l3 l4 l5 o6 w M res hf
    rw [f_T_leapWays_14] at hf
    refine jR_in rfl ⟨rfl, rfl, rfl⟩ rfl ?_
    refine js_iload rfl ?_
    refine js_iload_n rfl ?_
    refine js_icmp (tgt := 57) rfl rfl (fun h => ?_) (fun h => ?_)
    · have hf := jif_t hf h
      refine jR_in rfl ⟨rfl, rfl, rfl⟩ rfl ?_
      refine js_iload rfl ?_
      obtain rfl := Option.some.inj hf
      exact js_iret rfl rfl
    · have hf := jif_f hf h
      refine js_aload_n rfl ?_
      refine js_iload rfl ?_
      refine js_iconst (v := (0 : Int32)) rfl ?_
      obtain ⟨q1, hc_1, hf⟩ := jbind hf
      refine js_c3i rfl rfl ⟨rfl, rfl⟩ rfl rfl (t_T_isFree hc_1) (by omega) ?_
      refine js_ifc (tgt := 39) rfl rfl (fun h => ?_) (fun h => ?_)
      · have hf := jif_t hf h
        refine jR_in rfl ⟨rfl, rfl, rfl⟩ rfl ?_
        refine js_iconst (v := (0 : Int32)) rfl ?_
        exact jS_out rfl ⟨rfl, rfl, rfl⟩ rfl (t_T_leapWays_40 hd (fun l1 l2 l3 l4 l5 o6 w M res hf => ih l1 l2 l3 l4 l5 o6 w M hf) _ _ _ _ _ _ _ _ _ hf)
      · have hf := jif_f hf h
        refine js_iload rfl ?_
        refine js_iload_n rfl ?_
        refine js_iadd ?_
        refine js_iload_n rfl ?_
        refine js_iadd ?_
        refine js_goto (tgt := 40) rfl rfl ?_
        exact t_T_leapWays_40 hd (fun l1 l2 l3 l4 l5 o6 w M res hf => ih l1 l2 l3 l4 l5 o6 w M hf) _ _ _ _ _ _ _ _ _ hf
def f_T_leapWays (a1 : Int32) (M : jp_M) : Option (Int32 × jp_M) :=
  (f_T_learnsFree M).bind fun q1 => (
  f_T_leapWays_14 jFu a1 (0 : Int32) (0 : Int32) (1 : Int32) (1 : Int32) q1)
theorem t_T_leapWays {Ln : Nat} {xs : Nat → Int32} {sv : jp_V} {a1 : Int32} {w : Nat} {M : jp_M} {res : Int32 × jp_M} (hf : f_T_leapWays a1 M = some res) : jE (jZ (jK Ln xs sv)) 3 19 [(.inr (some 56)), (.inl a1)] (jSH w) M (some (.inl res.1), jSH w, res.2) := by
  unfold f_T_leapWays at hf
  refine jE_in (L0 := [some (.inr (some 56)), some (.inl a1), none, none, none, none, none]) rfl (Nat.le_of_ble_eq_true rfl) rfl (fun d hd => ?_)
  refine jR_in rfl ⟨rfl, rfl, rfl⟩ rfl ?_
  refine js_aload_n rfl ?_
  obtain ⟨q1, hc_1, hf⟩ := jbind hf
  refine js_c1v (w := 0) rfl rfl ⟨rfl, rfl⟩ rfl rfl (t_T_learnsFree hc_1) (by omega) ?_
  refine js_iconst (v := (0 : Int32)) rfl ?_
  refine js_istore_n rfl rfl ?_
  refine js_iconst (v := (0 : Int32)) rfl ?_
  refine js_istore_n rfl rfl ?_
  refine js_iconst (v := (1 : Int32)) rfl ?_
  refine js_istore rfl rfl ?_
  refine js_iconst (v := (1 : Int32)) rfl ?_
  refine js_istore rfl rfl ?_
  exact jS_out rfl ⟨rfl, rfl, rfl⟩ rfl (t_T_leapWays_14 hd jFu _ _ _ _ _ _ _ _ hf)
/-! SwallowsAir.leaps(I)I -/
def f_C_leaps (a1 : Int32) (M : jp_M) : Option (Int32 × jp_M) :=
  if jp_c .lt a1 (1 : Int32) = true then (
  some ((-1 : Int32), M)) else (
  if jp_c .lt a1 (10 : Int32) = true then (
  (f_T_leapWays a1 M).bind fun q1 => (
  some (q1.1, q1.2))) else (
  some ((-1 : Int32), M)))
theorem t_C_leaps {Ln : Nat} {xs : Nat → Int32} {sv : jp_V} {a1 : Int32} {w : Nat} {M : jp_M} {res : Int32 × jp_M} (hf : f_C_leaps a1 M = some res) : jE (jZ (jK Ln xs sv)) 4 148 [(.inr (some 0)), (.inl a1)] (jSH w) M (some (.inl res.1), jSH w, res.2) := by
  unfold f_C_leaps at hf
  refine jE_in (L0 := [some (.inr (some 0)), some (.inl a1)]) rfl (Nat.le_of_ble_eq_true rfl) rfl (fun d hd => ?_)
  refine jR_in rfl ⟨rfl, rfl, rfl⟩ rfl ?_
  refine js_iload_n rfl ?_
  refine js_iconst (v := (1 : Int32)) rfl ?_
  refine js_icmp (tgt := 11) rfl rfl (fun h => ?_) (fun h => ?_)
  · have hf := jif_t hf h
    refine jR_in rfl ⟨rfl, rfl, rfl⟩ rfl ?_
    refine js_iconst (v := (-1 : Int32)) rfl ?_
    obtain rfl := Option.some.inj hf
    exact js_iret rfl rfl
  · have hf := jif_f hf h
    refine js_iload_n rfl ?_
    refine js_bipush (v := (10 : Int32)) rfl ?_
    refine js_icmp (tgt := 13) rfl rfl (fun h => ?_) (fun h => ?_)
    · have hf := jif_t hf h
      refine jR_in rfl ⟨rfl, rfl, rfl⟩ rfl ?_
      refine js_aload_n rfl ?_
      refine js_getr rfl rfl rfl ?_
      refine js_iload_n rfl ?_
      obtain ⟨q1, hc_1, hf⟩ := jbind hf
      refine js_c2i rfl rfl ⟨rfl, rfl⟩ rfl rfl (t_T_leapWays hc_1) (by omega) ?_
      obtain rfl := Option.some.inj hf
      exact js_iret rfl rfl
    · have hf := jif_f hf h
      refine js_iconst (v := (-1 : Int32)) rfl ?_
      obtain rfl := Option.some.inj hf
      exact js_iret rfl rfl
/-! SwallowsAir$World.becomes(LSwallowsAir$World;)V -/
def f_W_becomes_8 (M : jp_M) : jp_M :=
  let M1 := jp_set M 2 (upd (M 2) 0 (M 80 0))
  let M2 := jp_set M1 2 (upd (M1 2) 1 (M1 80 1))
  let M3 := jp_set M2 2 (upd (M2 2) 2 (M2 80 2))
  let M4 := jp_set M3 2 (upd (M3 2) 3 (M3 80 3))
  let M5 := jp_set M4 2 (upd (M4 2) 4 (M4 80 4))
  let M6 := jp_set M5 2 (upd (M5 2) 5 (M5 80 5))
  let M7 := jp_set M6 2 (upd (M6 2) 6 (M6 80 6))
  let M8 := jp_set M7 2 (upd (M7 2) 7 (M7 80 7))
  let M9 := jp_set M8 3 (va_cpy (M8 81) (M8 3) 0 0 50)
  let M10 := jp_set M9 4 (va_cpy (M9 82) (M9 4) 0 0 30)
  let M11 := jp_set M10 5 (va_cpy (M10 83) (M10 5) 0 0 128)
  M11
theorem t_W_becomes_8 {Ln : Nat} {xs : Nat → Int32} {sv : jp_V} {w : Nat} {M : jp_M} {res : jp_M} (hf : f_W_becomes_8 M = res) : jE (jZ (jK Ln xs sv)) 0 96 [(.inr (some 2)), (.inr (some 80))] (jSH w) M (none, jSH w, res) := by
  unfold f_W_becomes_8 at hf
  refine jE_in (L0 := [some (.inr (some 2)), some (.inr (some 80))]) rfl (Nat.le_of_ble_eq_true rfl) rfl (fun d hd => ?_)
  refine jR_in rfl ⟨rfl, rfl, rfl⟩ rfl ?_
  refine js_aload_n rfl ?_
  refine js_ifnonnull (tgt := 5) rfl rfl ?_
  refine jR_in rfl ⟨rfl, rfl, rfl⟩ rfl ?_
  refine js_aload_n rfl ?_
  refine js_aload_n rfl ?_
  refine js_geti rfl rfl rfl ?_
  refine js_puti rfl rfl (Or.inl rfl) ?_
  refine js_aload_n rfl ?_
  refine js_aload_n rfl ?_
  refine js_geti rfl rfl rfl ?_
  refine js_puti rfl rfl (Or.inl rfl) ?_
  refine js_aload_n rfl ?_
  refine js_aload_n rfl ?_
  refine js_geti rfl rfl rfl ?_
  refine js_puti rfl rfl (Or.inl rfl) ?_
  refine js_aload_n rfl ?_
  refine js_aload_n rfl ?_
  refine js_geti rfl rfl rfl ?_
  refine js_puti rfl rfl (Or.inl rfl) ?_
  refine js_aload_n rfl ?_
  refine js_aload_n rfl ?_
  refine js_geti rfl rfl rfl ?_
  refine js_puti rfl rfl (Or.inl rfl) ?_
  refine js_aload_n rfl ?_
  refine js_aload_n rfl ?_
  refine js_geti rfl rfl rfl ?_
  refine js_puti rfl rfl (Or.inl rfl) ?_
  refine js_aload_n rfl ?_
  refine js_aload_n rfl ?_
  refine js_geti rfl rfl rfl ?_
  refine js_puti rfl rfl (Or.inl rfl) ?_
  refine js_aload_n rfl ?_
  refine js_aload_n rfl ?_
  refine js_geti rfl rfl rfl ?_
  refine js_puti rfl rfl (Or.inl rfl) ?_
  refine js_aload_n rfl ?_
  refine js_getr rfl rfl rfl ?_
  refine js_iconst (v := (0 : Int32)) rfl ?_
  refine js_aload_n rfl ?_
  refine js_getr rfl rfl rfl ?_
  refine js_iconst (v := (0 : Int32)) rfl ?_
  refine js_aload_n rfl ?_
  refine js_getr rfl rfl rfl ?_
  refine js_alen (v := (50 : Int32)) rfl rfl rfl ?_
  refine js_copy rfl rfl rfl (by decide) (by decide) rfl ?_
  refine js_aload_n rfl ?_
  refine js_getr rfl rfl rfl ?_
  refine js_iconst (v := (0 : Int32)) rfl ?_
  refine js_aload_n rfl ?_
  refine js_getr rfl rfl rfl ?_
  refine js_iconst (v := (0 : Int32)) rfl ?_
  refine js_aload_n rfl ?_
  refine js_getr rfl rfl rfl ?_
  refine js_alen (v := (30 : Int32)) rfl rfl rfl ?_
  refine js_copy rfl rfl rfl (by decide) (by decide) rfl ?_
  refine js_aload_n rfl ?_
  refine js_getr rfl rfl rfl ?_
  refine js_iconst (v := (0 : Int32)) rfl ?_
  refine js_aload_n rfl ?_
  refine js_getr rfl rfl rfl ?_
  refine js_iconst (v := (0 : Int32)) rfl ?_
  refine js_aload_n rfl ?_
  refine js_getr rfl rfl rfl ?_
  refine js_alen (v := (128 : Int32)) rfl rfl rfl ?_
  refine js_copy rfl rfl rfl (by decide) (by decide) rfl ?_
  subst hf
  exact js_ret rfl rfl
/-! SwallowsAir$World.becomes(LSwallowsAir$World;)V -/
def f_W_becomes_9 (M : jp_M) : jp_M :=
  let M1 := jp_set M 2 (upd (M 2) 0 (M 84 0))
  let M2 := jp_set M1 2 (upd (M1 2) 1 (M1 84 1))
  let M3 := jp_set M2 2 (upd (M2 2) 2 (M2 84 2))
  let M4 := jp_set M3 2 (upd (M3 2) 3 (M3 84 3))
  let M5 := jp_set M4 2 (upd (M4 2) 4 (M4 84 4))
  let M6 := jp_set M5 2 (upd (M5 2) 5 (M5 84 5))
  let M7 := jp_set M6 2 (upd (M6 2) 6 (M6 84 6))
  let M8 := jp_set M7 2 (upd (M7 2) 7 (M7 84 7))
  let M9 := jp_set M8 3 (va_cpy (M8 85) (M8 3) 0 0 50)
  let M10 := jp_set M9 4 (va_cpy (M9 86) (M9 4) 0 0 30)
  let M11 := jp_set M10 5 (va_cpy (M10 87) (M10 5) 0 0 128)
  M11
theorem t_W_becomes_9 {Ln : Nat} {xs : Nat → Int32} {sv : jp_V} {w : Nat} {M : jp_M} {res : jp_M} (hf : f_W_becomes_9 M = res) : jE (jZ (jK Ln xs sv)) 0 96 [(.inr (some 2)), (.inr (some 84))] (jSH w) M (none, jSH w, res) := by
  unfold f_W_becomes_9 at hf
  refine jE_in (L0 := [some (.inr (some 2)), some (.inr (some 84))]) rfl (Nat.le_of_ble_eq_true rfl) rfl (fun d hd => ?_)
  refine jR_in rfl ⟨rfl, rfl, rfl⟩ rfl ?_
  refine js_aload_n rfl ?_
  refine js_ifnonnull (tgt := 5) rfl rfl ?_
  refine jR_in rfl ⟨rfl, rfl, rfl⟩ rfl ?_
  refine js_aload_n rfl ?_
  refine js_aload_n rfl ?_
  refine js_geti rfl rfl rfl ?_
  refine js_puti rfl rfl (Or.inl rfl) ?_
  refine js_aload_n rfl ?_
  refine js_aload_n rfl ?_
  refine js_geti rfl rfl rfl ?_
  refine js_puti rfl rfl (Or.inl rfl) ?_
  refine js_aload_n rfl ?_
  refine js_aload_n rfl ?_
  refine js_geti rfl rfl rfl ?_
  refine js_puti rfl rfl (Or.inl rfl) ?_
  refine js_aload_n rfl ?_
  refine js_aload_n rfl ?_
  refine js_geti rfl rfl rfl ?_
  refine js_puti rfl rfl (Or.inl rfl) ?_
  refine js_aload_n rfl ?_
  refine js_aload_n rfl ?_
  refine js_geti rfl rfl rfl ?_
  refine js_puti rfl rfl (Or.inl rfl) ?_
  refine js_aload_n rfl ?_
  refine js_aload_n rfl ?_
  refine js_geti rfl rfl rfl ?_
  refine js_puti rfl rfl (Or.inl rfl) ?_
  refine js_aload_n rfl ?_
  refine js_aload_n rfl ?_
  refine js_geti rfl rfl rfl ?_
  refine js_puti rfl rfl (Or.inl rfl) ?_
  refine js_aload_n rfl ?_
  refine js_aload_n rfl ?_
  refine js_geti rfl rfl rfl ?_
  refine js_puti rfl rfl (Or.inl rfl) ?_
  refine js_aload_n rfl ?_
  refine js_getr rfl rfl rfl ?_
  refine js_iconst (v := (0 : Int32)) rfl ?_
  refine js_aload_n rfl ?_
  refine js_getr rfl rfl rfl ?_
  refine js_iconst (v := (0 : Int32)) rfl ?_
  refine js_aload_n rfl ?_
  refine js_getr rfl rfl rfl ?_
  refine js_alen (v := (50 : Int32)) rfl rfl rfl ?_
  refine js_copy rfl rfl rfl (by decide) (by decide) rfl ?_
  refine js_aload_n rfl ?_
  refine js_getr rfl rfl rfl ?_
  refine js_iconst (v := (0 : Int32)) rfl ?_
  refine js_aload_n rfl ?_
  refine js_getr rfl rfl rfl ?_
  refine js_iconst (v := (0 : Int32)) rfl ?_
  refine js_aload_n rfl ?_
  refine js_getr rfl rfl rfl ?_
  refine js_alen (v := (30 : Int32)) rfl rfl rfl ?_
  refine js_copy rfl rfl rfl (by decide) (by decide) rfl ?_
  refine js_aload_n rfl ?_
  refine js_getr rfl rfl rfl ?_
  refine js_iconst (v := (0 : Int32)) rfl ?_
  refine js_aload_n rfl ?_
  refine js_getr rfl rfl rfl ?_
  refine js_iconst (v := (0 : Int32)) rfl ?_
  refine js_aload_n rfl ?_
  refine js_getr rfl rfl rfl ?_
  refine js_alen (v := (128 : Int32)) rfl rfl rfl ?_
  refine js_copy rfl rfl rfl (by decide) (by decide) rfl ?_
  subst hf
  exact js_ret rfl rfl
/-! SwallowsAir$World.becomes(LSwallowsAir$World;)V -/
def f_W_becomes_10 (M : jp_M) : jp_M :=
  let M1 := jp_set M 2 (upd (M 2) 0 (M 88 0))
  let M2 := jp_set M1 2 (upd (M1 2) 1 (M1 88 1))
  let M3 := jp_set M2 2 (upd (M2 2) 2 (M2 88 2))
  let M4 := jp_set M3 2 (upd (M3 2) 3 (M3 88 3))
  let M5 := jp_set M4 2 (upd (M4 2) 4 (M4 88 4))
  let M6 := jp_set M5 2 (upd (M5 2) 5 (M5 88 5))
  let M7 := jp_set M6 2 (upd (M6 2) 6 (M6 88 6))
  let M8 := jp_set M7 2 (upd (M7 2) 7 (M7 88 7))
  let M9 := jp_set M8 3 (va_cpy (M8 89) (M8 3) 0 0 50)
  let M10 := jp_set M9 4 (va_cpy (M9 90) (M9 4) 0 0 30)
  let M11 := jp_set M10 5 (va_cpy (M10 91) (M10 5) 0 0 128)
  M11
theorem t_W_becomes_10 {Ln : Nat} {xs : Nat → Int32} {sv : jp_V} {w : Nat} {M : jp_M} {res : jp_M} (hf : f_W_becomes_10 M = res) : jE (jZ (jK Ln xs sv)) 0 96 [(.inr (some 2)), (.inr (some 88))] (jSH w) M (none, jSH w, res) := by
  unfold f_W_becomes_10 at hf
  refine jE_in (L0 := [some (.inr (some 2)), some (.inr (some 88))]) rfl (Nat.le_of_ble_eq_true rfl) rfl (fun d hd => ?_)
  refine jR_in rfl ⟨rfl, rfl, rfl⟩ rfl ?_
  refine js_aload_n rfl ?_
  refine js_ifnonnull (tgt := 5) rfl rfl ?_
  refine jR_in rfl ⟨rfl, rfl, rfl⟩ rfl ?_
  refine js_aload_n rfl ?_
  refine js_aload_n rfl ?_
  refine js_geti rfl rfl rfl ?_
  refine js_puti rfl rfl (Or.inl rfl) ?_
  refine js_aload_n rfl ?_
  refine js_aload_n rfl ?_
  refine js_geti rfl rfl rfl ?_
  refine js_puti rfl rfl (Or.inl rfl) ?_
  refine js_aload_n rfl ?_
  refine js_aload_n rfl ?_
  refine js_geti rfl rfl rfl ?_
  refine js_puti rfl rfl (Or.inl rfl) ?_
  refine js_aload_n rfl ?_
  refine js_aload_n rfl ?_
  refine js_geti rfl rfl rfl ?_
  refine js_puti rfl rfl (Or.inl rfl) ?_
  refine js_aload_n rfl ?_
  refine js_aload_n rfl ?_
  refine js_geti rfl rfl rfl ?_
  refine js_puti rfl rfl (Or.inl rfl) ?_
  refine js_aload_n rfl ?_
  refine js_aload_n rfl ?_
  refine js_geti rfl rfl rfl ?_
  refine js_puti rfl rfl (Or.inl rfl) ?_
  refine js_aload_n rfl ?_
  refine js_aload_n rfl ?_
  refine js_geti rfl rfl rfl ?_
  refine js_puti rfl rfl (Or.inl rfl) ?_
  refine js_aload_n rfl ?_
  refine js_aload_n rfl ?_
  refine js_geti rfl rfl rfl ?_
  refine js_puti rfl rfl (Or.inl rfl) ?_
  refine js_aload_n rfl ?_
  refine js_getr rfl rfl rfl ?_
  refine js_iconst (v := (0 : Int32)) rfl ?_
  refine js_aload_n rfl ?_
  refine js_getr rfl rfl rfl ?_
  refine js_iconst (v := (0 : Int32)) rfl ?_
  refine js_aload_n rfl ?_
  refine js_getr rfl rfl rfl ?_
  refine js_alen (v := (50 : Int32)) rfl rfl rfl ?_
  refine js_copy rfl rfl rfl (by decide) (by decide) rfl ?_
  refine js_aload_n rfl ?_
  refine js_getr rfl rfl rfl ?_
  refine js_iconst (v := (0 : Int32)) rfl ?_
  refine js_aload_n rfl ?_
  refine js_getr rfl rfl rfl ?_
  refine js_iconst (v := (0 : Int32)) rfl ?_
  refine js_aload_n rfl ?_
  refine js_getr rfl rfl rfl ?_
  refine js_alen (v := (30 : Int32)) rfl rfl rfl ?_
  refine js_copy rfl rfl rfl (by decide) (by decide) rfl ?_
  refine js_aload_n rfl ?_
  refine js_getr rfl rfl rfl ?_
  refine js_iconst (v := (0 : Int32)) rfl ?_
  refine js_aload_n rfl ?_
  refine js_getr rfl rfl rfl ?_
  refine js_iconst (v := (0 : Int32)) rfl ?_
  refine js_aload_n rfl ?_
  refine js_getr rfl rfl rfl ?_
  refine js_alen (v := (128 : Int32)) rfl rfl rfl ?_
  refine js_copy rfl rfl rfl (by decide) (by decide) rfl ?_
  subst hf
  exact js_ret rfl rfl
/-! SwallowsAir$World.becomes(LSwallowsAir$World;)V -/
def f_W_becomes_11 (M : jp_M) : jp_M :=
  let M1 := jp_set M 2 (upd (M 2) 0 (M 92 0))
  let M2 := jp_set M1 2 (upd (M1 2) 1 (M1 92 1))
  let M3 := jp_set M2 2 (upd (M2 2) 2 (M2 92 2))
  let M4 := jp_set M3 2 (upd (M3 2) 3 (M3 92 3))
  let M5 := jp_set M4 2 (upd (M4 2) 4 (M4 92 4))
  let M6 := jp_set M5 2 (upd (M5 2) 5 (M5 92 5))
  let M7 := jp_set M6 2 (upd (M6 2) 6 (M6 92 6))
  let M8 := jp_set M7 2 (upd (M7 2) 7 (M7 92 7))
  let M9 := jp_set M8 3 (va_cpy (M8 93) (M8 3) 0 0 50)
  let M10 := jp_set M9 4 (va_cpy (M9 94) (M9 4) 0 0 30)
  let M11 := jp_set M10 5 (va_cpy (M10 95) (M10 5) 0 0 128)
  M11
theorem t_W_becomes_11 {Ln : Nat} {xs : Nat → Int32} {sv : jp_V} {w : Nat} {M : jp_M} {res : jp_M} (hf : f_W_becomes_11 M = res) : jE (jZ (jK Ln xs sv)) 0 96 [(.inr (some 2)), (.inr (some 92))] (jSH w) M (none, jSH w, res) := by
  unfold f_W_becomes_11 at hf
  refine jE_in (L0 := [some (.inr (some 2)), some (.inr (some 92))]) rfl (Nat.le_of_ble_eq_true rfl) rfl (fun d hd => ?_)
  refine jR_in rfl ⟨rfl, rfl, rfl⟩ rfl ?_
  refine js_aload_n rfl ?_
  refine js_ifnonnull (tgt := 5) rfl rfl ?_
  refine jR_in rfl ⟨rfl, rfl, rfl⟩ rfl ?_
  refine js_aload_n rfl ?_
  refine js_aload_n rfl ?_
  refine js_geti rfl rfl rfl ?_
  refine js_puti rfl rfl (Or.inl rfl) ?_
  refine js_aload_n rfl ?_
  refine js_aload_n rfl ?_
  refine js_geti rfl rfl rfl ?_
  refine js_puti rfl rfl (Or.inl rfl) ?_
  refine js_aload_n rfl ?_
  refine js_aload_n rfl ?_
  refine js_geti rfl rfl rfl ?_
  refine js_puti rfl rfl (Or.inl rfl) ?_
  refine js_aload_n rfl ?_
  refine js_aload_n rfl ?_
  refine js_geti rfl rfl rfl ?_
  refine js_puti rfl rfl (Or.inl rfl) ?_
  refine js_aload_n rfl ?_
  refine js_aload_n rfl ?_
  refine js_geti rfl rfl rfl ?_
  refine js_puti rfl rfl (Or.inl rfl) ?_
  refine js_aload_n rfl ?_
  refine js_aload_n rfl ?_
  refine js_geti rfl rfl rfl ?_
  refine js_puti rfl rfl (Or.inl rfl) ?_
  refine js_aload_n rfl ?_
  refine js_aload_n rfl ?_
  refine js_geti rfl rfl rfl ?_
  refine js_puti rfl rfl (Or.inl rfl) ?_
  refine js_aload_n rfl ?_
  refine js_aload_n rfl ?_
  refine js_geti rfl rfl rfl ?_
  refine js_puti rfl rfl (Or.inl rfl) ?_
  refine js_aload_n rfl ?_
  refine js_getr rfl rfl rfl ?_
  refine js_iconst (v := (0 : Int32)) rfl ?_
  refine js_aload_n rfl ?_
  refine js_getr rfl rfl rfl ?_
  refine js_iconst (v := (0 : Int32)) rfl ?_
  refine js_aload_n rfl ?_
  refine js_getr rfl rfl rfl ?_
  refine js_alen (v := (50 : Int32)) rfl rfl rfl ?_
  refine js_copy rfl rfl rfl (by decide) (by decide) rfl ?_
  refine js_aload_n rfl ?_
  refine js_getr rfl rfl rfl ?_
  refine js_iconst (v := (0 : Int32)) rfl ?_
  refine js_aload_n rfl ?_
  refine js_getr rfl rfl rfl ?_
  refine js_iconst (v := (0 : Int32)) rfl ?_
  refine js_aload_n rfl ?_
  refine js_getr rfl rfl rfl ?_
  refine js_alen (v := (30 : Int32)) rfl rfl rfl ?_
  refine js_copy rfl rfl rfl (by decide) (by decide) rfl ?_
  refine js_aload_n rfl ?_
  refine js_getr rfl rfl rfl ?_
  refine js_iconst (v := (0 : Int32)) rfl ?_
  refine js_aload_n rfl ?_
  refine js_getr rfl rfl rfl ?_
  refine js_iconst (v := (0 : Int32)) rfl ?_
  refine js_aload_n rfl ?_
  refine js_getr rfl rfl rfl ?_
  refine js_alen (v := (128 : Int32)) rfl rfl rfl ?_
  refine js_copy rfl rfl rfl (by decide) (by decide) rfl ?_
  subst hf
  exact js_ret rfl rfl
/-! SwallowsAir$World.becomes(LSwallowsAir$World;)V -/
def f_W_becomes_12 (M : jp_M) : jp_M :=
  let M1 := jp_set M 2 (upd (M 2) 0 (M 96 0))
  let M2 := jp_set M1 2 (upd (M1 2) 1 (M1 96 1))
  let M3 := jp_set M2 2 (upd (M2 2) 2 (M2 96 2))
  let M4 := jp_set M3 2 (upd (M3 2) 3 (M3 96 3))
  let M5 := jp_set M4 2 (upd (M4 2) 4 (M4 96 4))
  let M6 := jp_set M5 2 (upd (M5 2) 5 (M5 96 5))
  let M7 := jp_set M6 2 (upd (M6 2) 6 (M6 96 6))
  let M8 := jp_set M7 2 (upd (M7 2) 7 (M7 96 7))
  let M9 := jp_set M8 3 (va_cpy (M8 97) (M8 3) 0 0 50)
  let M10 := jp_set M9 4 (va_cpy (M9 98) (M9 4) 0 0 30)
  let M11 := jp_set M10 5 (va_cpy (M10 99) (M10 5) 0 0 128)
  M11
theorem t_W_becomes_12 {Ln : Nat} {xs : Nat → Int32} {sv : jp_V} {w : Nat} {M : jp_M} {res : jp_M} (hf : f_W_becomes_12 M = res) : jE (jZ (jK Ln xs sv)) 0 96 [(.inr (some 2)), (.inr (some 96))] (jSH w) M (none, jSH w, res) := by
  unfold f_W_becomes_12 at hf
  refine jE_in (L0 := [some (.inr (some 2)), some (.inr (some 96))]) rfl (Nat.le_of_ble_eq_true rfl) rfl (fun d hd => ?_)
  refine jR_in rfl ⟨rfl, rfl, rfl⟩ rfl ?_
  refine js_aload_n rfl ?_
  refine js_ifnonnull (tgt := 5) rfl rfl ?_
  refine jR_in rfl ⟨rfl, rfl, rfl⟩ rfl ?_
  refine js_aload_n rfl ?_
  refine js_aload_n rfl ?_
  refine js_geti rfl rfl rfl ?_
  refine js_puti rfl rfl (Or.inl rfl) ?_
  refine js_aload_n rfl ?_
  refine js_aload_n rfl ?_
  refine js_geti rfl rfl rfl ?_
  refine js_puti rfl rfl (Or.inl rfl) ?_
  refine js_aload_n rfl ?_
  refine js_aload_n rfl ?_
  refine js_geti rfl rfl rfl ?_
  refine js_puti rfl rfl (Or.inl rfl) ?_
  refine js_aload_n rfl ?_
  refine js_aload_n rfl ?_
  refine js_geti rfl rfl rfl ?_
  refine js_puti rfl rfl (Or.inl rfl) ?_
  refine js_aload_n rfl ?_
  refine js_aload_n rfl ?_
  refine js_geti rfl rfl rfl ?_
  refine js_puti rfl rfl (Or.inl rfl) ?_
  refine js_aload_n rfl ?_
  refine js_aload_n rfl ?_
  refine js_geti rfl rfl rfl ?_
  refine js_puti rfl rfl (Or.inl rfl) ?_
  refine js_aload_n rfl ?_
  refine js_aload_n rfl ?_
  refine js_geti rfl rfl rfl ?_
  refine js_puti rfl rfl (Or.inl rfl) ?_
  refine js_aload_n rfl ?_
  refine js_aload_n rfl ?_
  refine js_geti rfl rfl rfl ?_
  refine js_puti rfl rfl (Or.inl rfl) ?_
  refine js_aload_n rfl ?_
  refine js_getr rfl rfl rfl ?_
  refine js_iconst (v := (0 : Int32)) rfl ?_
  refine js_aload_n rfl ?_
  refine js_getr rfl rfl rfl ?_
  refine js_iconst (v := (0 : Int32)) rfl ?_
  refine js_aload_n rfl ?_
  refine js_getr rfl rfl rfl ?_
  refine js_alen (v := (50 : Int32)) rfl rfl rfl ?_
  refine js_copy rfl rfl rfl (by decide) (by decide) rfl ?_
  refine js_aload_n rfl ?_
  refine js_getr rfl rfl rfl ?_
  refine js_iconst (v := (0 : Int32)) rfl ?_
  refine js_aload_n rfl ?_
  refine js_getr rfl rfl rfl ?_
  refine js_iconst (v := (0 : Int32)) rfl ?_
  refine js_aload_n rfl ?_
  refine js_getr rfl rfl rfl ?_
  refine js_alen (v := (30 : Int32)) rfl rfl rfl ?_
  refine js_copy rfl rfl rfl (by decide) (by decide) rfl ?_
  refine js_aload_n rfl ?_
  refine js_getr rfl rfl rfl ?_
  refine js_iconst (v := (0 : Int32)) rfl ?_
  refine js_aload_n rfl ?_
  refine js_getr rfl rfl rfl ?_
  refine js_iconst (v := (0 : Int32)) rfl ?_
  refine js_aload_n rfl ?_
  refine js_getr rfl rfl rfl ?_
  refine js_alen (v := (128 : Int32)) rfl rfl rfl ?_
  refine js_copy rfl rfl rfl (by decide) (by decide) rfl ?_
  subst hf
  exact js_ret rfl rfl
/-! SwallowsAir$World.becomes(LSwallowsAir$World;)V -/
def f_W_becomes_13 (M : jp_M) : jp_M :=
  let M1 := jp_set M 2 (upd (M 2) 0 (M 100 0))
  let M2 := jp_set M1 2 (upd (M1 2) 1 (M1 100 1))
  let M3 := jp_set M2 2 (upd (M2 2) 2 (M2 100 2))
  let M4 := jp_set M3 2 (upd (M3 2) 3 (M3 100 3))
  let M5 := jp_set M4 2 (upd (M4 2) 4 (M4 100 4))
  let M6 := jp_set M5 2 (upd (M5 2) 5 (M5 100 5))
  let M7 := jp_set M6 2 (upd (M6 2) 6 (M6 100 6))
  let M8 := jp_set M7 2 (upd (M7 2) 7 (M7 100 7))
  let M9 := jp_set M8 3 (va_cpy (M8 101) (M8 3) 0 0 50)
  let M10 := jp_set M9 4 (va_cpy (M9 102) (M9 4) 0 0 30)
  let M11 := jp_set M10 5 (va_cpy (M10 103) (M10 5) 0 0 128)
  M11
theorem t_W_becomes_13 {Ln : Nat} {xs : Nat → Int32} {sv : jp_V} {w : Nat} {M : jp_M} {res : jp_M} (hf : f_W_becomes_13 M = res) : jE (jZ (jK Ln xs sv)) 0 96 [(.inr (some 2)), (.inr (some 100))] (jSH w) M (none, jSH w, res) := by
  unfold f_W_becomes_13 at hf
  refine jE_in (L0 := [some (.inr (some 2)), some (.inr (some 100))]) rfl (Nat.le_of_ble_eq_true rfl) rfl (fun d hd => ?_)
  refine jR_in rfl ⟨rfl, rfl, rfl⟩ rfl ?_
  refine js_aload_n rfl ?_
  refine js_ifnonnull (tgt := 5) rfl rfl ?_
  refine jR_in rfl ⟨rfl, rfl, rfl⟩ rfl ?_
  refine js_aload_n rfl ?_
  refine js_aload_n rfl ?_
  refine js_geti rfl rfl rfl ?_
  refine js_puti rfl rfl (Or.inl rfl) ?_
  refine js_aload_n rfl ?_
  refine js_aload_n rfl ?_
  refine js_geti rfl rfl rfl ?_
  refine js_puti rfl rfl (Or.inl rfl) ?_
  refine js_aload_n rfl ?_
  refine js_aload_n rfl ?_
  refine js_geti rfl rfl rfl ?_
  refine js_puti rfl rfl (Or.inl rfl) ?_
  refine js_aload_n rfl ?_
  refine js_aload_n rfl ?_
  refine js_geti rfl rfl rfl ?_
  refine js_puti rfl rfl (Or.inl rfl) ?_
  refine js_aload_n rfl ?_
  refine js_aload_n rfl ?_
  refine js_geti rfl rfl rfl ?_
  refine js_puti rfl rfl (Or.inl rfl) ?_
  refine js_aload_n rfl ?_
  refine js_aload_n rfl ?_
  refine js_geti rfl rfl rfl ?_
  refine js_puti rfl rfl (Or.inl rfl) ?_
  refine js_aload_n rfl ?_
  refine js_aload_n rfl ?_
  refine js_geti rfl rfl rfl ?_
  refine js_puti rfl rfl (Or.inl rfl) ?_
  refine js_aload_n rfl ?_
  refine js_aload_n rfl ?_
  refine js_geti rfl rfl rfl ?_
  refine js_puti rfl rfl (Or.inl rfl) ?_
  refine js_aload_n rfl ?_
  refine js_getr rfl rfl rfl ?_
  refine js_iconst (v := (0 : Int32)) rfl ?_
  refine js_aload_n rfl ?_
  refine js_getr rfl rfl rfl ?_
  refine js_iconst (v := (0 : Int32)) rfl ?_
  refine js_aload_n rfl ?_
  refine js_getr rfl rfl rfl ?_
  refine js_alen (v := (50 : Int32)) rfl rfl rfl ?_
  refine js_copy rfl rfl rfl (by decide) (by decide) rfl ?_
  refine js_aload_n rfl ?_
  refine js_getr rfl rfl rfl ?_
  refine js_iconst (v := (0 : Int32)) rfl ?_
  refine js_aload_n rfl ?_
  refine js_getr rfl rfl rfl ?_
  refine js_iconst (v := (0 : Int32)) rfl ?_
  refine js_aload_n rfl ?_
  refine js_getr rfl rfl rfl ?_
  refine js_alen (v := (30 : Int32)) rfl rfl rfl ?_
  refine js_copy rfl rfl rfl (by decide) (by decide) rfl ?_
  refine js_aload_n rfl ?_
  refine js_getr rfl rfl rfl ?_
  refine js_iconst (v := (0 : Int32)) rfl ?_
  refine js_aload_n rfl ?_
  refine js_getr rfl rfl rfl ?_
  refine js_iconst (v := (0 : Int32)) rfl ?_
  refine js_aload_n rfl ?_
  refine js_getr rfl rfl rfl ?_
  refine js_alen (v := (128 : Int32)) rfl rfl rfl ?_
  refine js_copy rfl rfl rfl (by decide) (by decide) rfl ?_
  subst hf
  exact js_ret rfl rfl
/-! SwallowsAir.undo()Z -/
def f_C_undo (M : jp_M) : Option (Int32 × jp_M) :=
  if jp_c .gt (M 0 4) 0 = true then (
  jg (jp_in (M 0 5) 6) (
  if (M 0 5) = (0 : Int32) then (
  let q2 := f_W_becomes_8 M
  let M3 := jp_set q2 0 (upd (q2 0) 5 ((((q2 0 5) + (6 : Int32)) - (1 : Int32)) % (6 : Int32)))
  let M4 := jp_set M3 0 (upd (M3 0) 4 ((M3 0 4) - (1 : Int32)))
  some ((1 : Int32), M4)) else if (M 0 5) = (1 : Int32) then (
  let q5 := f_W_becomes_9 M
  let M6 := jp_set q5 0 (upd (q5 0) 5 ((((q5 0 5) + (6 : Int32)) - (1 : Int32)) % (6 : Int32)))
  let M7 := jp_set M6 0 (upd (M6 0) 4 ((M6 0 4) - (1 : Int32)))
  some ((1 : Int32), M7)) else if (M 0 5) = (2 : Int32) then (
  let q8 := f_W_becomes_10 M
  let M9 := jp_set q8 0 (upd (q8 0) 5 ((((q8 0 5) + (6 : Int32)) - (1 : Int32)) % (6 : Int32)))
  let M10 := jp_set M9 0 (upd (M9 0) 4 ((M9 0 4) - (1 : Int32)))
  some ((1 : Int32), M10)) else if (M 0 5) = (3 : Int32) then (
  let q11 := f_W_becomes_11 M
  let M12 := jp_set q11 0 (upd (q11 0) 5 ((((q11 0 5) + (6 : Int32)) - (1 : Int32)) % (6 : Int32)))
  let M13 := jp_set M12 0 (upd (M12 0) 4 ((M12 0 4) - (1 : Int32)))
  some ((1 : Int32), M13)) else if (M 0 5) = (4 : Int32) then (
  let q14 := f_W_becomes_12 M
  let M15 := jp_set q14 0 (upd (q14 0) 5 ((((q14 0 5) + (6 : Int32)) - (1 : Int32)) % (6 : Int32)))
  let M16 := jp_set M15 0 (upd (M15 0) 4 ((M15 0 4) - (1 : Int32)))
  some ((1 : Int32), M16)) else if (M 0 5) = (5 : Int32) then (
  let q17 := f_W_becomes_13 M
  let M18 := jp_set q17 0 (upd (q17 0) 5 ((((q17 0 5) + (6 : Int32)) - (1 : Int32)) % (6 : Int32)))
  let M19 := jp_set M18 0 (upd (M18 0) 4 ((M18 0 4) - (1 : Int32)))
  some ((1 : Int32), M19)) else none)) else (
  some ((0 : Int32), M))
theorem t_C_undo {Ln : Nat} {xs : Nat → Int32} {sv : jp_V} {w : Nat} {M : jp_M} {res : Int32 × jp_M} (hf : f_C_undo M = some res) : jE (jZ (jK Ln xs sv)) 1 149 [(.inr (some 0))] (jSH w) M (some (.inl res.1), jSH w, res.2) := by
  unfold f_C_undo at hf
  refine jE_in (L0 := [some (.inr (some 0))]) rfl (Nat.le_of_ble_eq_true rfl) rfl (fun d hd => ?_)
  refine jR_in rfl ⟨rfl, rfl, rfl⟩ rfl ?_
  refine js_aload_n rfl ?_
  refine js_geti rfl rfl rfl ?_
  refine js_ifc (tgt := 9) rfl rfl (fun h => ?_) (fun h => ?_)
  · have hf := jif_t hf h
    refine jR_in rfl ⟨rfl, rfl, rfl⟩ rfl ?_
    refine js_aload_n rfl ?_
    refine js_getr rfl rfl rfl ?_
    refine js_getr rfl rfl rfl ?_
    refine js_aload_n rfl ?_
    refine js_getr rfl rfl rfl ?_
    refine js_aload_n rfl ?_
    refine js_geti rfl rfl rfl ?_
    obtain ⟨hb1, hf⟩ := jg_some hf
    rcases jif_d hf with ⟨hk, hf⟩ | ⟨hk, hf⟩
    · refine js_aald (o := some 80) rfl hb1 (by rw [hk]; rfl) ?_
      refine js_c2v (w := 0) rfl rfl ⟨rfl, rfl⟩ rfl rfl (t_W_becomes_8 rfl) (by omega) ?_
      refine js_aload_n rfl ?_
      refine js_aload_n rfl ?_
      refine js_geti rfl rfl rfl ?_
      refine js_bipush (v := (6 : Int32)) rfl ?_
      refine js_iadd ?_
      refine js_iconst (v := (1 : Int32)) rfl ?_
      refine js_isub ?_
      refine js_bipush (v := (6 : Int32)) rfl ?_
      refine js_irem (by decide) ?_
      refine js_puti rfl rfl (Or.inl rfl) ?_
      refine js_aload_n rfl ?_
      refine js_dup ?_
      refine js_geti rfl rfl rfl ?_
      refine js_iconst (v := (1 : Int32)) rfl ?_
      refine js_isub ?_
      refine js_puti rfl rfl (Or.inl rfl) ?_
      refine js_iconst (v := (1 : Int32)) rfl ?_
      obtain rfl := Option.some.inj hf
      exact js_iret rfl rfl
    · rcases jif_d hf with ⟨hk, hf⟩ | ⟨hk, hf⟩
      · refine js_aald (o := some 84) rfl hb1 (by rw [hk]; rfl) ?_
        refine js_c2v (w := 0) rfl rfl ⟨rfl, rfl⟩ rfl rfl (t_W_becomes_9 rfl) (by omega) ?_
        refine js_aload_n rfl ?_
        refine js_aload_n rfl ?_
        refine js_geti rfl rfl rfl ?_
        refine js_bipush (v := (6 : Int32)) rfl ?_
        refine js_iadd ?_
        refine js_iconst (v := (1 : Int32)) rfl ?_
        refine js_isub ?_
        refine js_bipush (v := (6 : Int32)) rfl ?_
        refine js_irem (by decide) ?_
        refine js_puti rfl rfl (Or.inl rfl) ?_
        refine js_aload_n rfl ?_
        refine js_dup ?_
        refine js_geti rfl rfl rfl ?_
        refine js_iconst (v := (1 : Int32)) rfl ?_
        refine js_isub ?_
        refine js_puti rfl rfl (Or.inl rfl) ?_
        refine js_iconst (v := (1 : Int32)) rfl ?_
        obtain rfl := Option.some.inj hf
        exact js_iret rfl rfl
      · rcases jif_d hf with ⟨hk, hf⟩ | ⟨hk, hf⟩
        · refine js_aald (o := some 88) rfl hb1 (by rw [hk]; rfl) ?_
          refine js_c2v (w := 0) rfl rfl ⟨rfl, rfl⟩ rfl rfl (t_W_becomes_10 rfl) (by omega) ?_
          refine js_aload_n rfl ?_
          refine js_aload_n rfl ?_
          refine js_geti rfl rfl rfl ?_
          refine js_bipush (v := (6 : Int32)) rfl ?_
          refine js_iadd ?_
          refine js_iconst (v := (1 : Int32)) rfl ?_
          refine js_isub ?_
          refine js_bipush (v := (6 : Int32)) rfl ?_
          refine js_irem (by decide) ?_
          refine js_puti rfl rfl (Or.inl rfl) ?_
          refine js_aload_n rfl ?_
          refine js_dup ?_
          refine js_geti rfl rfl rfl ?_
          refine js_iconst (v := (1 : Int32)) rfl ?_
          refine js_isub ?_
          refine js_puti rfl rfl (Or.inl rfl) ?_
          refine js_iconst (v := (1 : Int32)) rfl ?_
          obtain rfl := Option.some.inj hf
          exact js_iret rfl rfl
        · rcases jif_d hf with ⟨hk, hf⟩ | ⟨hk, hf⟩
          · refine js_aald (o := some 92) rfl hb1 (by rw [hk]; rfl) ?_
            refine js_c2v (w := 0) rfl rfl ⟨rfl, rfl⟩ rfl rfl (t_W_becomes_11 rfl) (by omega) ?_
            refine js_aload_n rfl ?_
            refine js_aload_n rfl ?_
            refine js_geti rfl rfl rfl ?_
            refine js_bipush (v := (6 : Int32)) rfl ?_
            refine js_iadd ?_
            refine js_iconst (v := (1 : Int32)) rfl ?_
            refine js_isub ?_
            refine js_bipush (v := (6 : Int32)) rfl ?_
            refine js_irem (by decide) ?_
            refine js_puti rfl rfl (Or.inl rfl) ?_
            refine js_aload_n rfl ?_
            refine js_dup ?_
            refine js_geti rfl rfl rfl ?_
            refine js_iconst (v := (1 : Int32)) rfl ?_
            refine js_isub ?_
            refine js_puti rfl rfl (Or.inl rfl) ?_
            refine js_iconst (v := (1 : Int32)) rfl ?_
            obtain rfl := Option.some.inj hf
            exact js_iret rfl rfl
          · rcases jif_d hf with ⟨hk, hf⟩ | ⟨hk, hf⟩
            · refine js_aald (o := some 96) rfl hb1 (by rw [hk]; rfl) ?_
              refine js_c2v (w := 0) rfl rfl ⟨rfl, rfl⟩ rfl rfl (t_W_becomes_12 rfl) (by omega) ?_
              refine js_aload_n rfl ?_
              refine js_aload_n rfl ?_
              refine js_geti rfl rfl rfl ?_
              refine js_bipush (v := (6 : Int32)) rfl ?_
              refine js_iadd ?_
              refine js_iconst (v := (1 : Int32)) rfl ?_
              refine js_isub ?_
              refine js_bipush (v := (6 : Int32)) rfl ?_
              refine js_irem (by decide) ?_
              refine js_puti rfl rfl (Or.inl rfl) ?_
              refine js_aload_n rfl ?_
              refine js_dup ?_
              refine js_geti rfl rfl rfl ?_
              refine js_iconst (v := (1 : Int32)) rfl ?_
              refine js_isub ?_
              refine js_puti rfl rfl (Or.inl rfl) ?_
              refine js_iconst (v := (1 : Int32)) rfl ?_
              obtain rfl := Option.some.inj hf
              exact js_iret rfl rfl
            · rcases jif_d hf with ⟨hk, hf⟩ | ⟨hk, hf⟩
              · refine js_aald (o := some 100) rfl hb1 (by rw [hk]; rfl) ?_
                refine js_c2v (w := 0) rfl rfl ⟨rfl, rfl⟩ rfl rfl (t_W_becomes_13 rfl) (by omega) ?_
                refine js_aload_n rfl ?_
                refine js_aload_n rfl ?_
                refine js_geti rfl rfl rfl ?_
                refine js_bipush (v := (6 : Int32)) rfl ?_
                refine js_iadd ?_
                refine js_iconst (v := (1 : Int32)) rfl ?_
                refine js_isub ?_
                refine js_bipush (v := (6 : Int32)) rfl ?_
                refine js_irem (by decide) ?_
                refine js_puti rfl rfl (Or.inl rfl) ?_
                refine js_aload_n rfl ?_
                refine js_dup ?_
                refine js_geti rfl rfl rfl ?_
                refine js_iconst (v := (1 : Int32)) rfl ?_
                refine js_isub ?_
                refine js_puti rfl rfl (Or.inl rfl) ?_
                refine js_iconst (v := (1 : Int32)) rfl ?_
                obtain rfl := Option.some.inj hf
                exact js_iret rfl rfl
              · cases hf
  · have hf := jif_f hf h
    refine js_iconst (v := (0 : Int32)) rfl ?_
    obtain rfl := Option.some.inj hf
    exact js_iret rfl rfl
theorem b_C_undo {M : jp_M} {res : Int32 × jp_M} (hf : f_C_undo M = some res) : res.1 = 0 ∨ res.1 = 1 := by
  unfold f_C_undo at hf
  rcases jif_d hf with ⟨h, hf⟩ | ⟨h, hf⟩
  · obtain ⟨_, hf⟩ := jg_some hf
    rcases jif_d hf with ⟨h, hf⟩ | ⟨h, hf⟩
    · obtain rfl := Option.some.inj hf
      exact Or.inr rfl
    · rcases jif_d hf with ⟨h, hf⟩ | ⟨h, hf⟩
      · obtain rfl := Option.some.inj hf
        exact Or.inr rfl
      · rcases jif_d hf with ⟨h, hf⟩ | ⟨h, hf⟩
        · obtain rfl := Option.some.inj hf
          exact Or.inr rfl
        · rcases jif_d hf with ⟨h, hf⟩ | ⟨h, hf⟩
          · obtain rfl := Option.some.inj hf
            exact Or.inr rfl
          · rcases jif_d hf with ⟨h, hf⟩ | ⟨h, hf⟩
            · obtain rfl := Option.some.inj hf
              exact Or.inr rfl
            · rcases jif_d hf with ⟨h, hf⟩ | ⟨h, hf⟩
              · obtain rfl := Option.some.inj hf
                exact Or.inr rfl
              · cases hf
  · obtain rfl := Option.some.inj hf
    exact Or.inl rfl
/-! SwallowsAir$World.becomes(LSwallowsAir$World;)V -/
def f_W_becomes_14 (M : jp_M) : jp_M :=
  let M1 := jp_set M 26 (upd (M 26) 0 (M 2 0))
  let M2 := jp_set M1 26 (upd (M1 26) 1 (M1 2 1))
  let M3 := jp_set M2 26 (upd (M2 26) 2 (M2 2 2))
  let M4 := jp_set M3 26 (upd (M3 26) 3 (M3 2 3))
  let M5 := jp_set M4 26 (upd (M4 26) 4 (M4 2 4))
  let M6 := jp_set M5 26 (upd (M5 26) 5 (M5 2 5))
  let M7 := jp_set M6 26 (upd (M6 26) 6 (M6 2 6))
  let M8 := jp_set M7 26 (upd (M7 26) 7 (M7 2 7))
  let M9 := jp_set M8 27 (va_cpy (M8 3) (M8 27) 0 0 50)
  let M10 := jp_set M9 28 (va_cpy (M9 4) (M9 28) 0 0 30)
  let M11 := jp_set M10 29 (va_cpy (M10 5) (M10 29) 0 0 128)
  M11
theorem t_W_becomes_14 {Ln : Nat} {xs : Nat → Int32} {sv : jp_V} {w : Nat} {M : jp_M} {res : jp_M} (hf : f_W_becomes_14 M = res) : jE (jZ (jK Ln xs sv)) 0 96 [(.inr (some 26)), (.inr (some 2))] (jSH w) M (none, jSH w, res) := by
  unfold f_W_becomes_14 at hf
  refine jE_in (L0 := [some (.inr (some 26)), some (.inr (some 2))]) rfl (Nat.le_of_ble_eq_true rfl) rfl (fun d hd => ?_)
  refine jR_in rfl ⟨rfl, rfl, rfl⟩ rfl ?_
  refine js_aload_n rfl ?_
  refine js_ifnonnull (tgt := 5) rfl rfl ?_
  refine jR_in rfl ⟨rfl, rfl, rfl⟩ rfl ?_
  refine js_aload_n rfl ?_
  refine js_aload_n rfl ?_
  refine js_geti rfl rfl rfl ?_
  refine js_puti rfl rfl (Or.inl rfl) ?_
  refine js_aload_n rfl ?_
  refine js_aload_n rfl ?_
  refine js_geti rfl rfl rfl ?_
  refine js_puti rfl rfl (Or.inl rfl) ?_
  refine js_aload_n rfl ?_
  refine js_aload_n rfl ?_
  refine js_geti rfl rfl rfl ?_
  refine js_puti rfl rfl (Or.inl rfl) ?_
  refine js_aload_n rfl ?_
  refine js_aload_n rfl ?_
  refine js_geti rfl rfl rfl ?_
  refine js_puti rfl rfl (Or.inl rfl) ?_
  refine js_aload_n rfl ?_
  refine js_aload_n rfl ?_
  refine js_geti rfl rfl rfl ?_
  refine js_puti rfl rfl (Or.inl rfl) ?_
  refine js_aload_n rfl ?_
  refine js_aload_n rfl ?_
  refine js_geti rfl rfl rfl ?_
  refine js_puti rfl rfl (Or.inl rfl) ?_
  refine js_aload_n rfl ?_
  refine js_aload_n rfl ?_
  refine js_geti rfl rfl rfl ?_
  refine js_puti rfl rfl (Or.inl rfl) ?_
  refine js_aload_n rfl ?_
  refine js_aload_n rfl ?_
  refine js_geti rfl rfl rfl ?_
  refine js_puti rfl rfl (Or.inl rfl) ?_
  refine js_aload_n rfl ?_
  refine js_getr rfl rfl rfl ?_
  refine js_iconst (v := (0 : Int32)) rfl ?_
  refine js_aload_n rfl ?_
  refine js_getr rfl rfl rfl ?_
  refine js_iconst (v := (0 : Int32)) rfl ?_
  refine js_aload_n rfl ?_
  refine js_getr rfl rfl rfl ?_
  refine js_alen (v := (50 : Int32)) rfl rfl rfl ?_
  refine js_copy rfl rfl rfl (by decide) (by decide) rfl ?_
  refine js_aload_n rfl ?_
  refine js_getr rfl rfl rfl ?_
  refine js_iconst (v := (0 : Int32)) rfl ?_
  refine js_aload_n rfl ?_
  refine js_getr rfl rfl rfl ?_
  refine js_iconst (v := (0 : Int32)) rfl ?_
  refine js_aload_n rfl ?_
  refine js_getr rfl rfl rfl ?_
  refine js_alen (v := (30 : Int32)) rfl rfl rfl ?_
  refine js_copy rfl rfl rfl (by decide) (by decide) rfl ?_
  refine js_aload_n rfl ?_
  refine js_getr rfl rfl rfl ?_
  refine js_iconst (v := (0 : Int32)) rfl ?_
  refine js_aload_n rfl ?_
  refine js_getr rfl rfl rfl ?_
  refine js_iconst (v := (0 : Int32)) rfl ?_
  refine js_aload_n rfl ?_
  refine js_getr rfl rfl rfl ?_
  refine js_alen (v := (128 : Int32)) rfl rfl rfl ?_
  refine js_copy rfl rfl rfl (by decide) (by decide) rfl ?_
  subst hf
  exact js_ret rfl rfl
/-! SwallowsAir$Law.becomes(LSwallowsAir$Law;)V -/
def f_L_becomes_1 (M : jp_M) : Option (jp_M) :=
  let M1 := jp_set M 31 (upd (M 31) 0 (M 7 0))
  let M2 := jp_set M1 31 (upd (M1 31) 1 (M1 7 1))
  jg ((0 ≤ (0 : Int32) ∧ 0 ≤ (0 : Int32) ∧ 0 ≤ (M2 31 0)) ∧ ((Int32.toNatClampNeg (0 : Int32)) + (Int32.toNatClampNeg (M2 31 0)) ≤ 16 ∧ (Int32.toNatClampNeg (0 : Int32)) + (Int32.toNatClampNeg (M2 31 0)) ≤ 16)) (
  let M3 := jp_set M2 32 (va_cpy (M2 8) (M2 32) 0 0 (Int32.toNatClampNeg (M2 31 0)))
  jg ((0 ≤ (0 : Int32) ∧ 0 ≤ (0 : Int32) ∧ 0 ≤ (M3 31 0)) ∧ ((Int32.toNatClampNeg (0 : Int32)) + (Int32.toNatClampNeg (M3 31 0)) ≤ 16 ∧ (Int32.toNatClampNeg (0 : Int32)) + (Int32.toNatClampNeg (M3 31 0)) ≤ 16)) (
  let M5 := jp_set M3 33 (va_cpy (M3 9) (M3 33) 0 0 (Int32.toNatClampNeg (M3 31 0)))
  jg ((0 ≤ (0 : Int32) ∧ 0 ≤ (0 : Int32) ∧ 0 ≤ (M5 31 0)) ∧ ((Int32.toNatClampNeg (0 : Int32)) + (Int32.toNatClampNeg (M5 31 0)) ≤ 16 ∧ (Int32.toNatClampNeg (0 : Int32)) + (Int32.toNatClampNeg (M5 31 0)) ≤ 16)) (
  let M7 := jp_set M5 34 (va_cpy (M5 10) (M5 34) 0 0 (Int32.toNatClampNeg (M5 31 0)))
  jg ((0 ≤ (0 : Int32) ∧ 0 ≤ (0 : Int32) ∧ 0 ≤ (M7 31 1)) ∧ ((Int32.toNatClampNeg (0 : Int32)) + (Int32.toNatClampNeg (M7 31 1)) ≤ 400 ∧ (Int32.toNatClampNeg (0 : Int32)) + (Int32.toNatClampNeg (M7 31 1)) ≤ 400)) (
  let M9 := jp_set M7 35 (va_cpy (M7 11) (M7 35) 0 0 (Int32.toNatClampNeg (M7 31 1)))
  some M9))))
theorem t_L_becomes_1 {Ln : Nat} {xs : Nat → Int32} {sv : jp_V} {w : Nat} {M : jp_M} {res : jp_M} (hf : f_L_becomes_1 M = some res) : jE (jZ (jK Ln xs sv)) 0 33 [(.inr (some 31)), (.inr (some 7))] (jSH w) M (none, jSH w, res) := by
  unfold f_L_becomes_1 at hf
  refine jE_in (L0 := [some (.inr (some 31)), some (.inr (some 7))]) rfl (Nat.le_of_ble_eq_true rfl) rfl (fun d hd => ?_)
  refine jR_in rfl ⟨rfl, rfl, rfl⟩ rfl ?_
  refine js_aload_n rfl ?_
  refine js_aload_n rfl ?_
  refine js_geti rfl rfl rfl ?_
  refine js_puti rfl rfl (Or.inl rfl) ?_
  refine js_aload_n rfl ?_
  refine js_aload_n rfl ?_
  refine js_geti rfl rfl rfl ?_
  refine js_puti rfl rfl (Or.inl rfl) ?_
  refine js_aload_n rfl ?_
  refine js_getr rfl rfl rfl ?_
  refine js_iconst (v := (0 : Int32)) rfl ?_
  refine js_aload_n rfl ?_
  refine js_getr rfl rfl rfl ?_
  refine js_iconst (v := (0 : Int32)) rfl ?_
  refine js_aload_n rfl ?_
  refine js_geti rfl rfl rfl ?_
  obtain ⟨hb4, hf⟩ := jg_some hf
  refine js_copy rfl rfl rfl hb4.1 hb4.2 rfl ?_
  refine js_aload_n rfl ?_
  refine js_getr rfl rfl rfl ?_
  refine js_iconst (v := (0 : Int32)) rfl ?_
  refine js_aload_n rfl ?_
  refine js_getr rfl rfl rfl ?_
  refine js_iconst (v := (0 : Int32)) rfl ?_
  refine js_aload_n rfl ?_
  refine js_geti rfl rfl rfl ?_
  obtain ⟨hb6, hf⟩ := jg_some hf
  refine js_copy rfl rfl rfl hb6.1 hb6.2 rfl ?_
  refine js_aload_n rfl ?_
  refine js_getr rfl rfl rfl ?_
  refine js_iconst (v := (0 : Int32)) rfl ?_
  refine js_aload_n rfl ?_
  refine js_getr rfl rfl rfl ?_
  refine js_iconst (v := (0 : Int32)) rfl ?_
  refine js_aload_n rfl ?_
  refine js_geti rfl rfl rfl ?_
  obtain ⟨hb8, hf⟩ := jg_some hf
  refine js_copy rfl rfl rfl hb8.1 hb8.2 rfl ?_
  refine js_aload_n rfl ?_
  refine js_getr rfl rfl rfl ?_
  refine js_iconst (v := (0 : Int32)) rfl ?_
  refine js_aload_n rfl ?_
  refine js_getr rfl rfl rfl ?_
  refine js_iconst (v := (0 : Int32)) rfl ?_
  refine js_aload_n rfl ?_
  refine js_geti rfl rfl rfl ?_
  obtain ⟨hb10, hf⟩ := jg_some hf
  refine js_copy rfl rfl rfl hb10.1 hb10.2 rfl ?_
  obtain rfl := Option.some.inj hf
  exact js_ret rfl rfl
