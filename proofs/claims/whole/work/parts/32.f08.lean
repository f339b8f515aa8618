/-! SwallowsAirModel.isCell(I)Z -/
def f_M_isCell (a1 : Int32) : Int32 :=
  if jp_c .eq (f_M_isIn a1 (0 : Int32) (97 : Int32)) 0 = true then (
  (0 : Int32)) else (
  if jp_c .ge (a1 % (10 : Int32)) (8 : Int32) = true then (
  (0 : Int32)) else (
  (1 : Int32)))
theorem t_M_isCell {Ln : Nat} {xs : Nat → Int32} {sv : jp_V} {a1 : Int32} {w : Nat} {M : jp_M} {res : Int32} (hf : f_M_isCell a1 = res) : jE (jZ (jK Ln xs sv)) 1 261 [(.inr (some 104)), (.inl a1)] (jSH w) M (some (.inl res), jSH w, M) := by
  unfold f_M_isCell at hf
  refine jE_in (L0 := [some (.inr (some 104)), some (.inl a1)]) rfl (Nat.le_of_ble_eq_true rfl) rfl (fun d hd => ?_)
  refine jR_in rfl ⟨rfl, rfl, rfl⟩ rfl ?_
  refine js_aload_n rfl ?_
  refine js_iload_n rfl ?_
  refine js_iconst (v := (0 : Int32)) rfl ?_
  refine js_bipush (v := (97 : Int32)) rfl ?_
  refine js_c4i rfl rfl ⟨rfl, rfl⟩ rfl rfl (t_M_isIn rfl) (by omega) ?_
  refine js_ifc (tgt := 24) rfl rfl (fun h => ?_) (fun h => ?_)
  · have hf := jif_t hf h
    refine jR_in rfl ⟨rfl, rfl, rfl⟩ rfl ?_
    refine js_iconst (v := (0 : Int32)) rfl ?_
    subst hf
    exact js_iret rfl rfl
  · have hf := jif_f hf h
    refine js_iload_n rfl ?_
    refine js_bipush (v := (10 : Int32)) rfl ?_
    refine js_irem (by decide) ?_
    refine js_bipush (v := (8 : Int32)) rfl ?_
    refine js_icmp (tgt := 24) rfl rfl (fun h => ?_) (fun h => ?_)
    · have hf := jif_t hf h
      refine jR_in rfl ⟨rfl, rfl, rfl⟩ rfl ?_
      refine js_iconst (v := (0 : Int32)) rfl ?_
      subst hf
      exact js_iret rfl rfl
    · have hf := jif_f hf h
      refine js_iconst (v := (1 : Int32)) rfl ?_
      refine js_goto (tgt := 25) rfl rfl ?_
      refine jR_in rfl ⟨rfl, rfl, rfl⟩ rfl ?_
      subst hf
      exact js_iret rfl rfl
theorem b_M_isCell {a1 : Int32} {res : Int32} (hf : f_M_isCell a1 = res) : res = 0 ∨ res = 1 := by
  unfold f_M_isCell at hf
  rcases jif_d hf with ⟨h, hf⟩ | ⟨h, hf⟩
  · subst hf
    exact Or.inl rfl
  · rcases jif_d hf with ⟨h, hf⟩ | ⟨h, hf⟩
    · subst hf
      exact Or.inl rfl
    · subst hf
      exact Or.inr rfl
/-! SwallowsAirModel.isBeside(II)Z -/
def f_M_isBeside (a1 : Int32) (a2 : Int32) : Int32 :=
  if jp_c .ne ((f_M_apart (a1 / (8 : Int32)) (a2 / (8 : Int32))) + (f_M_apart (a1 % (8 : Int32)) (a2 % (8 : Int32)))) (1 : Int32) = true then (
  (0 : Int32)) else (
  (1 : Int32))
theorem t_M_isBeside {Ln : Nat} {xs : Nat → Int32} {sv : jp_V} {a1 : Int32} {a2 : Int32} {w : Nat} {M : jp_M} {res : Int32} (hf : f_M_isBeside a1 a2 = res) : jE (jZ (jK Ln xs sv)) 1 263 [(.inr (some 104)), (.inl a1), (.inl a2)] (jSH w) M (some (.inl res), jSH w, M) := by
  unfold f_M_isBeside at hf
  refine jE_in (L0 := [some (.inr (some 104)), some (.inl a1), some (.inl a2)]) rfl (Nat.le_of_ble_eq_true rfl) rfl (fun d hd => ?_)
  refine jR_in rfl ⟨rfl, rfl, rfl⟩ rfl ?_
  refine js_aload_n rfl ?_
  refine js_iload_n rfl ?_
  refine js_bipush (v := (8 : Int32)) rfl ?_
  refine js_idiv (by decide) ?_
  refine js_iload_n rfl ?_
  refine js_bipush (v := (8 : Int32)) rfl ?_
  refine js_idiv (by decide) ?_
  refine js_c3i rfl rfl ⟨rfl, rfl⟩ rfl rfl (t_M_apart rfl) (by omega) ?_
  refine js_aload_n rfl ?_
  refine js_iload_n rfl ?_
  refine js_bipush (v := (8 : Int32)) rfl ?_
  refine js_irem (by decide) ?_
  refine js_iload_n rfl ?_
  refine js_bipush (v := (8 : Int32)) rfl ?_
  refine js_irem (by decide) ?_
  refine js_c3i rfl rfl ⟨rfl, rfl⟩ rfl rfl (t_M_apart rfl) (by omega) ?_
  refine js_iadd ?_
  refine js_iconst (v := (1 : Int32)) rfl ?_
  refine js_icmp (tgt := 33) rfl rfl (fun h => ?_) (fun h => ?_)
  · have hf := jif_t hf h
    refine jR_in rfl ⟨rfl, rfl, rfl⟩ rfl ?_
    refine js_iconst (v := (0 : Int32)) rfl ?_
    subst hf
    exact js_iret rfl rfl
  · have hf := jif_f hf h
    refine js_iconst (v := (1 : Int32)) rfl ?_
    refine js_goto (tgt := 34) rfl rfl ?_
    refine jR_in rfl ⟨rfl, rfl, rfl⟩ rfl ?_
    subst hf
    exact js_iret rfl rfl
theorem b_M_isBeside {a1 : Int32} {a2 : Int32} {res : Int32} (hf : f_M_isBeside a1 a2 = res) : res = 0 ∨ res = 1 := by
  unfold f_M_isBeside at hf
  rcases jif_d hf with ⟨h, hf⟩ | ⟨h, hf⟩
  · subst hf
    exact Or.inl rfl
  · subst hf
    exact Or.inr rfl
/-! SwallowsAirModel.isFreeCell(I)Z -/
def f_M_isFreeCell (a1 : Int32) (M : jp_M) : Option (Int32) :=
  (f_M_isFree (a1 / (8 : Int32)) (a1 % (8 : Int32)) M).bind fun q1 => (
  some q1)
theorem t_M_isFreeCell {Ln : Nat} {xs : Nat → Int32} {sv : jp_V} {a1 : Int32} {w : Nat} {M : jp_M} {res : Int32} (hf : f_M_isFreeCell a1 M = some res) : jE (jZ (jK Ln xs sv)) 3 262 [(.inr (some 104)), (.inl a1)] (jSH w) M (some (.inl res), jSH w, M) := by
  unfold f_M_isFreeCell at hf
  refine jE_in (L0 := [some (.inr (some 104)), some (.inl a1)]) rfl (Nat.le_of_ble_eq_true rfl) rfl (fun d hd => ?_)
  refine jR_in rfl ⟨rfl, rfl, rfl⟩ rfl ?_
  refine js_aload_n rfl ?_
  refine js_iload_n rfl ?_
  refine js_bipush (v := (8 : Int32)) rfl ?_
  refine js_idiv (by decide) ?_
  refine js_iload_n rfl ?_
  refine js_bipush (v := (8 : Int32)) rfl ?_
  refine js_irem (by decide) ?_
  obtain ⟨q1, hc_1, hf⟩ := jbind hf
  refine js_c3i rfl rfl ⟨rfl, rfl⟩ rfl rfl (t_M_isFree hc_1) (by omega) ?_
  obtain rfl := Option.some.inj hf
  exact js_iret (jbool (b_M_isFree hc_1)) rfl
theorem b_M_isFreeCell {a1 : Int32} {M : jp_M} {res : Int32} (hf : f_M_isFreeCell a1 M = some res) : res = 0 ∨ res = 1 := by
  unfold f_M_isFreeCell at hf
  obtain ⟨q1, hc_1, hf⟩ := jbind hf
  obtain rfl := Option.some.inj hf
  exact (b_M_isFree hc_1)
/-! SwallowsAirModel.added(II)I -/
def f_M_added (a1 : Int32) (a2 : Int32) : Int32 :=
  if jp_c .lt a1 ((1000000007 : Int32) - a2) = true then (
  (a1 + a2)) else (
  (a1 - ((1000000007 : Int32) - a2)))
theorem t_M_added {Ln : Nat} {xs : Nat → Int32} {sv : jp_V} {a1 : Int32} {a2 : Int32} {w : Nat} {M : jp_M} {res : Int32} (hf : f_M_added a1 a2 = res) : jE (jZ (jK Ln xs sv)) 0 168 [(.inr (some 104)), (.inl a1), (.inl a2)] (jSH w) M (some (.inl res), jSH w, M) := by
  unfold f_M_added at hf
  refine jE_in (L0 := [some (.inr (some 104)), some (.inl a1), some (.inl a2)]) rfl (Nat.le_of_ble_eq_true rfl) rfl (fun d hd => ?_)
  refine jR_in rfl ⟨rfl, rfl, rfl⟩ rfl ?_
  refine js_iload_n rfl ?_
  refine js_ldc (v := (1000000007 : Int32)) rfl ?_
  refine js_iload_n rfl ?_
  refine js_isub ?_
  refine js_icmp (tgt := 17) rfl rfl (fun h => ?_) (fun h => ?_)
  · have hf := jif_t hf h
    refine jR_in rfl ⟨rfl, rfl, rfl⟩ rfl ?_
    refine js_iload_n rfl ?_
    refine js_iload_n rfl ?_
    refine js_iadd ?_
    subst hf
    exact js_iret rfl rfl
  · have hf := jif_f hf h
    refine js_iload_n rfl ?_
    refine js_ldc (v := (1000000007 : Int32)) rfl ?_
    refine js_iload_n rfl ?_
    refine js_isub ?_
    refine js_isub ?_
    refine js_goto (tgt := 20) rfl rfl ?_
    refine jR_in rfl ⟨rfl, rfl, rfl⟩ rfl ?_
    subst hf
    exact js_iret rfl rfl
/-! SwallowsAirModel.goesFrom(II)V -/
def f_M_goesFrom_83 (c2 : Int32 → Int32 → Int32 → jp_M → Option (jp_M)) (l1 : Int32) (l2 : Int32) (l3 : Int32) (M : jp_M) : Option (jp_M) :=
  c2 l1 l2 (l3 + (1 : Int32)) M
theorem t_M_goesFrom_83 {Ln : Nat} {xs : Nat → Int32} {sv : jp_V} {d : Nat} (hd : 4 ≤ d) {c2 : Int32 → Int32 → Int32 → jp_M → Option (jp_M)} (hc2 : ∀ (l1 : Int32) (l2 : Int32) (l3 : Int32) (w : Nat) (M : jp_M) (res : jp_M), c2 l1 l2 l3 M = some res → jR (jZ (jK Ln xs sv)) d 264 2 ([some (.inr (some 104)), some (.inl l1), some (.inl l2), some (.inl l3)], [], jSH w, M) (none, jSH w, res)) (l1 : Int32) (l2 : Int32) (l3 : Int32) (w : Nat) (M : jp_M) {res : jp_M} (hf : f_M_goesFrom_83 c2 l1 l2 l3 M = some res) : jR (jZ (jK Ln xs sv)) d 264 83 ([some (.inr (some 104)), some (.inl l1), some (.inl l2), some (.inl l3)], [], jSH w, M) (none, jSH w, res) := by
  unfold f_M_goesFrom_83 at hf
  refine jR_in rfl ⟨rfl, rfl, rfl⟩ rfl ?_
  refine js_iinc (v := (1 : Int32)) rfl rfl rfl rfl ?_
  refine js_goto (tgt := 2) rfl rfl ?_
  exact hc2 _ _ _ _ _ _ hf
def f_M_goesFrom_49 (c2 : Int32 → Int32 → Int32 → jp_M → Option (jp_M)) (l1 : Int32) (l2 : Int32) (l3 : Int32) (M : jp_M) : Option (jp_M) :=
  jg (jp_in l3 80) (
  if jp_c .ne (M 128 (Int32.toNatClampNeg l3)) (l2 + (1 : Int32)) = true then (
  f_M_goesFrom_83 c2 l1 l2 l3 M) else (
  jg (jp_in l3 80) (
  jg (jp_in l1 80) (
  jg (jp_in l3 80) (
  let M5 := jp_set M 127 (upd (M 127) (Int32.toNatClampNeg l3) (f_M_added (M 127 (Int32.toNatClampNeg l3)) (M 127 (Int32.toNatClampNeg l1))))
  f_M_goesFrom_83 c2 l1 l2 l3 M5)))))
theorem t_M_goesFrom_49 {Ln : Nat} {xs : Nat → Int32} {sv : jp_V} {d : Nat} (hd : 4 ≤ d) {c2 : Int32 → Int32 → Int32 → jp_M → Option (jp_M)} (hc2 : ∀ (l1 : Int32) (l2 : Int32) (l3 : Int32) (w : Nat) (M : jp_M) (res : jp_M), c2 l1 l2 l3 M = some res → jR (jZ (jK Ln xs sv)) d 264 2 ([some (.inr (some 104)), some (.inl l1), some (.inl l2), some (.inl l3)], [], jSH w, M) (none, jSH w, res)) (l1 : Int32) (l2 : Int32) (l3 : Int32) (w : Nat) (M : jp_M) {res : jp_M} (hf : f_M_goesFrom_49 c2 l1 l2 l3 M = some res) : jR (jZ (jK Ln xs sv)) d 264 49 ([some (.inr (some 104)), some (.inl l1), some (.inl l2), some (.inl l3)], [], jSH w, M) (none, jSH w, res) := by
  unfold f_M_goesFrom_49 at hf
  refine jR_in rfl ⟨rfl, rfl, rfl⟩ rfl ?_
  refine js_aload_n rfl ?_
  refine js_getr rfl rfl rfl ?_
  refine js_iload_n rfl ?_
  obtain ⟨hb1, hf⟩ := jg_some hf
  refine js_iald rfl hb1 ?_
  refine js_iload_n rfl ?_
  refine js_iconst (v := (1 : Int32)) rfl ?_
  refine js_iadd ?_
  refine js_icmp (tgt := 83) rfl rfl (fun h => ?_) (fun h => ?_)
  · have hf := jif_t hf h
    exact t_M_goesFrom_83 hd hc2 _ _ _ _ _ hf
  · have hf := jif_f hf h
    refine js_aload_n rfl ?_
    refine js_getr rfl rfl rfl ?_
    refine js_iload_n rfl ?_
    refine js_aload_n rfl ?_
    refine js_aload_n rfl ?_
    refine js_getr rfl rfl rfl ?_
    refine js_iload_n rfl ?_
    obtain ⟨hb2, hf⟩ := jg_some hf
    refine js_iald rfl hb2 ?_
    refine js_aload_n rfl ?_
    refine js_getr rfl rfl rfl ?_
    refine js_iload_n rfl ?_
    obtain ⟨hb3, hf⟩ := jg_some hf
    refine js_iald rfl hb3 ?_
    refine js_c3i rfl rfl ⟨rfl, rfl⟩ rfl rfl (t_M_added rfl) (by omega) ?_
    obtain ⟨hb6, hf⟩ := jg_some hf
    refine js_iast rfl hb6 ?_
    exact jS_out rfl ⟨rfl, rfl, rfl⟩ rfl (t_M_goesFrom_83 hd hc2 _ _ _ _ _ hf)
def f_M_goesFrom_2  : Nat → Int32 → Int32 → Int32 → jp_M → Option (jp_M)
  | 0, _, _, _, _ => none
  | n + 1, l1, l2, l3, M =>
    if jp_c .ge l3 (80 : Int32) = true then (
    some M) else (
    if jp_c .eq (f_M_isBeside l1 l3) 0 = true then (
    f_M_goesFrom_83 (f_M_goesFrom_2 n ) l1 l2 l3 M) else (
    (f_M_isFreeCell l3 M).bind fun q2 => (
    if jp_c .ne q2 0 = true then (
    jg (jp_in l3 80) (
    if jp_c .ne (M 128 (Int32.toNatClampNeg l3)) (100000000 : Int32) = true then (
    f_M_goesFrom_49 (f_M_goesFrom_2 n ) l1 l2 l3 M) else (
    jg (jp_in l3 80) (
    let M4 := jp_set M 128 (upd (M 128) (Int32.toNatClampNeg l3) (l2 + (1 : Int32)))
    f_M_goesFrom_49 (f_M_goesFrom_2 n ) l1 l2 l3 M4)))) else (
    f_M_goesFrom_83 (f_M_goesFrom_2 n ) l1 l2 l3 M))))
theorem t_M_goesFrom_2 {Ln : Nat} {xs : Nat → Int32} {sv : jp_V} {d : Nat} (hd : 4 ≤ d)  : ∀ (n : Nat) (l1 : Int32) (l2 : Int32) (l3 : Int32) (w : Nat) (M : jp_M) {res : jp_M}, f_M_goesFrom_2 n  l1 l2 l3 M = some res → jR (jZ (jK Ln xs sv)) d 264 2 ([some (.inr (some 104)), some (.inl l1), some (.inl l2), some (.inl l3)], [], jSH w, M) (none, jSH w, res) := by
  intro n
  induction n with
  | zero =>
    intro l1 l2 l3 w M res hf
    cases hf
  | succ n ih =>
    intro l1 l2 l3 w M res hf
    rw [f_M_goesFrom_2] at hf
    refine jR_in rfl ⟨rfl, rfl, rfl⟩ rfl ?_
    refine js_iload_n rfl ?_
    refine js_bipush (v := (80 : Int32)) rfl ?_
    refine js_icmp (tgt := 89) rfl rfl (fun h => ?_) (fun h => ?_)
    · have hf := jif_t hf h
      refine jR_in rfl ⟨rfl, rfl, rfl⟩ rfl ?_
      obtain rfl := Option.some.inj hf
      exact js_ret rfl rfl
    · have hf := jif_f hf h
      refine js_aload_n rfl ?_
      refine js_iload_n rfl ?_
      refine js_iload_n rfl ?_
      refine js_c3i rfl rfl ⟨rfl, rfl⟩ rfl rfl (t_M_isBeside rfl) (by omega) ?_
      refine js_ifc (tgt := 83) rfl rfl (fun h => ?_) (fun h => ?_)
      · have hf := jif_t hf h
        exact t_M_goesFrom_83 hd (fun l1 l2 l3 w M res hf => ih l1 l2 l3 w M hf) _ _ _ _ _ hf
      · have hf := jif_f hf h
        refine js_aload_n rfl ?_
        refine js_iload_n rfl ?_
        obtain ⟨q2, hc_2, hf⟩ := jbind hf
        refine js_c2i rfl rfl ⟨rfl, rfl⟩ rfl rfl (t_M_isFreeCell hc_2) (by omega) ?_
        refine js_ifc (tgt := 28) rfl rfl (fun h => ?_) (fun h => ?_)
        · have hf := jif_t hf h
          refine jR_in rfl ⟨rfl, rfl, rfl⟩ rfl ?_
          refine js_aload_n rfl ?_
          refine js_getr rfl rfl rfl ?_
          refine js_iload_n rfl ?_
          obtain ⟨hb3, hf⟩ := jg_some hf
          refine js_iald rfl hb3 ?_
          refine js_ldcw (v := (100000000 : Int32)) rfl ?_
          refine js_icmp (tgt := 49) rfl rfl (fun h => ?_) (fun h => ?_)
          · have hf := jif_t hf h
            exact t_M_goesFrom_49 hd (fun l1 l2 l3 w M res hf => ih l1 l2 l3 w M hf) _ _ _ _ _ hf
          · have hf := jif_f hf h
            refine js_aload_n rfl ?_
            refine js_getr rfl rfl rfl ?_
            refine js_iload_n rfl ?_
            refine js_iload_n rfl ?_
            refine js_iconst (v := (1 : Int32)) rfl ?_
            refine js_iadd ?_
            obtain ⟨hb5, hf⟩ := jg_some hf
            refine js_iast rfl hb5 ?_
            exact jS_out rfl ⟨rfl, rfl, rfl⟩ rfl (t_M_goesFrom_49 hd (fun l1 l2 l3 w M res hf => ih l1 l2 l3 w M hf) _ _ _ _ _ hf)
        · have hf := jif_f hf h
          refine js_goto (tgt := 83) rfl rfl ?_
          exact t_M_goesFrom_83 hd (fun l1 l2 l3 w M res hf => ih l1 l2 l3 w M hf) _ _ _ _ _ hf
def f_M_goesFrom (a1 : Int32) (a2 : Int32) (M : jp_M) : Option (jp_M) :=
  f_M_goesFrom_2 jFu a1 a2 (0 : Int32) M
theorem t_M_goesFrom {Ln : Nat} {xs : Nat → Int32} {sv : jp_V} {a1 : Int32} {a2 : Int32} {w : Nat} {M : jp_M} {res : jp_M} (hf : f_M_goesFrom a1 a2 M = some res) : jE (jZ (jK Ln xs sv)) 4 264 [(.inr (some 104)), (.inl a1), (.inl a2)] (jSH w) M (none, jSH w, res) := by
  unfold f_M_goesFrom at hf
  refine jE_in (L0 := [some (.inr (some 104)), some (.inl a1), some (.inl a2), none]) rfl (Nat.le_of_ble_eq_true rfl) rfl (fun d hd => ?_)
  refine jR_in rfl ⟨rfl, rfl, rfl⟩ rfl ?_
  refine js_iconst (v := (0 : Int32)) rfl ?_
  refine js_istore_n rfl rfl ?_
  exact jS_out rfl ⟨rfl, rfl, rfl⟩ rfl (t_M_goesFrom_2 hd jFu _ _ _ _ _ hf)
/-! SwallowsAirModel.findsSteps(I)V -/
def f_M_findsSteps_41 (c2 : Int32 → Int32 → jp_M → Option (jp_M)) (l1 : Int32) (l2 : Int32) (s1 : Int32) (s2 : Int32) (M : jp_M) : Option (jp_M) :=
  jg (jp_in s1 80) (
  let M1 := jp_set M 127 (upd (M 127) (Int32.toNatClampNeg s1) s2)
  c2 l1 (l2 + (1 : Int32)) M1)
theorem t_M_findsSteps_41 {Ln : Nat} {xs : Nat → Int32} {sv : jp_V} {d : Nat} (hd : 5 ≤ d) {c2 : Int32 → Int32 → jp_M → Option (jp_M)} (hc2 : ∀ (l1 : Int32) (l2 : Int32) (o3 : Option jp_V) (w : Nat) (M : jp_M) (res : jp_M), c2 l1 l2 M = some res → jR (jZ (jK Ln xs sv)) d 265 2 ([some (.inr (some 104)), some (.inl l1), some (.inl l2), o3], [], jSH w, M) (none, jSH w, res)) (l1 : Int32) (l2 : Int32) (s1 : Int32) (s2 : Int32) (o3 : Option jp_V) (w : Nat) (M : jp_M) {res : jp_M} (hf : f_M_findsSteps_41 c2 l1 l2 s1 s2 M = some res) : jR (jZ (jK Ln xs sv)) d 265 41 ([some (.inr (some 104)), some (.inl l1), some (.inl l2), o3], [.inl s2, .inl s1, (.inr (some 127))], jSH w, M) (none, jSH w, res) := by
  unfold f_M_findsSteps_41 at hf
  refine jR_in rfl ⟨rfl, rfl, rfl⟩ rfl ?_
  obtain ⟨hb2, hf⟩ := jg_some hf
  refine js_iast rfl hb2 ?_
  refine js_iinc (v := (1 : Int32)) rfl rfl rfl rfl ?_
  refine js_goto (tgt := 2) rfl rfl ?_
  exact hc2 _ _ _ _ _ _ hf
def f_M_findsSteps_25 (c2 : Int32 → Int32 → jp_M → Option (jp_M)) (l1 : Int32) (l2 : Int32) (s1 : Int32) (s2 : Int32) (M : jp_M) : Option (jp_M) :=
  jg (jp_in s1 80) (
  let M1 := jp_set M 128 (upd (M 128) (Int32.toNatClampNeg s1) s2)
  if jp_c .ne l2 l1 = true then (
  f_M_findsSteps_41 c2 l1 l2 l2 (0 : Int32) M1) else (
  f_M_findsSteps_41 c2 l1 l2 l2 (1 : Int32) M1))
theorem t_M_findsSteps_25 {Ln : Nat} {xs : Nat → Int32} {sv : jp_V} {d : Nat} (hd : 5 ≤ d) {c2 : Int32 → Int32 → jp_M → Option (jp_M)} (hc2 : ∀ (l1 : Int32) (l2 : Int32) (o3 : Option jp_V) (w : Nat) (M : jp_M) (res : jp_M), c2 l1 l2 M = some res → jR (jZ (jK Ln xs sv)) d 265 2 ([some (.inr (some 104)), some (.inl l1), some (.inl l2), o3], [], jSH w, M) (none, jSH w, res)) (l1 : Int32) (l2 : Int32) (s1 : Int32) (s2 : Int32) (o3 : Option jp_V) (w : Nat) (M : jp_M) {res : jp_M} (hf : f_M_findsSteps_25 c2 l1 l2 s1 s2 M = some res) : jR (jZ (jK Ln xs sv)) d 265 25 ([some (.inr (some 104)), some (.inl l1), some (.inl l2), o3], [.inl s2, .inl s1, (.inr (some 128))], jSH w, M) (none, jSH w, res) := by
  unfold f_M_findsSteps_25 at hf
  refine jR_in rfl ⟨rfl, rfl, rfl⟩ rfl ?_
  obtain ⟨hb2, hf⟩ := jg_some hf
  refine js_iast rfl hb2 ?_
  refine js_aload_n rfl ?_
  refine js_getr rfl rfl rfl ?_
  refine js_iload_n rfl ?_
  refine js_iload_n rfl ?_
  refine js_iload_n rfl ?_
  refine js_icmp (tgt := 40) rfl rfl (fun h => ?_) (fun h => ?_)
  · have hf := jif_t hf h
    refine jR_in rfl ⟨rfl, rfl, rfl⟩ rfl ?_
    refine js_iconst (v := (0 : Int32)) rfl ?_
    exact jS_out rfl ⟨rfl, rfl, rfl⟩ rfl (t_M_findsSteps_41 hd hc2 _ _ _ _ _ _ _ hf)
  · have hf := jif_f hf h
    refine js_iconst (v := (1 : Int32)) rfl ?_
    refine js_goto (tgt := 41) rfl rfl ?_
    exact t_M_findsSteps_41 hd hc2 _ _ _ _ _ _ _ hf
def f_M_findsSteps_80 (c29 : Int32 → jp_M → Option (jp_M)) (c34 : Int32 → Int32 → jp_M → Option (jp_M)) (l2 : Int32) (l3 : Int32) (M : jp_M) : Option (jp_M) :=
  c34 l2 (l3 + (1 : Int32)) M
theorem t_M_findsSteps_80 {Ln : Nat} {xs : Nat → Int32} {sv : jp_V} {d : Nat} (hd : 5 ≤ d) {c29 : Int32 → jp_M → Option (jp_M)} (hc29 : ∀ (l2 : Int32) (o1 : Option jp_V) (o3 : Option jp_V) (w : Nat) (M : jp_M) (res : jp_M), c29 l2 M = some res → jR (jZ (jK Ln xs sv)) d 265 50 ([some (.inr (some 104)), o1, some (.inl l2), o3], [], jSH w, M) (none, jSH w, res)) {c34 : Int32 → Int32 → jp_M → Option (jp_M)} (hc34 : ∀ (l2 : Int32) (l3 : Int32) (o1 : Option jp_V) (w : Nat) (M : jp_M) (res : jp_M), c34 l2 l3 M = some res → jR (jZ (jK Ln xs sv)) d 265 58 ([some (.inr (some 104)), o1, some (.inl l2), some (.inl l3)], [], jSH w, M) (none, jSH w, res)) (l2 : Int32) (l3 : Int32) (o1 : Option jp_V) (w : Nat) (M : jp_M) {res : jp_M} (hf : f_M_findsSteps_80 c29 c34 l2 l3 M = some res) : jR (jZ (jK Ln xs sv)) d 265 80 ([some (.inr (some 104)), o1, some (.inl l2), some (.inl l3)], [], jSH w, M) (none, jSH w, res) := by
  unfold f_M_findsSteps_80 at hf
  refine jR_in rfl ⟨rfl, rfl, rfl⟩ rfl ?_
  refine js_iinc (v := (1 : Int32)) rfl rfl rfl rfl ?_
  refine js_goto (tgt := 58) rfl rfl ?_
  exact hc34 _ _ _ _ _ _ hf
def f_M_findsSteps_58  : Nat → (Int32 → jp_M → Option (jp_M)) → Int32 → Int32 → jp_M → Option (jp_M)
  | 0, _, _, _, _ => none
  | n + 1, c29, l2, l3, M =>
    if jp_c .ge l3 (80 : Int32) = true then (
    c29 (l2 + (1 : Int32)) M) else (
    jg (jp_in l3 80) (
    if jp_c .ne (M 128 (Int32.toNatClampNeg l3)) l2 = true then (
    f_M_findsSteps_80 c29 (f_M_findsSteps_58 n c29) l2 l3 M) else (
    (f_M_goesFrom l3 l2 M).bind fun q2 => (
    f_M_findsSteps_80 c29 (f_M_findsSteps_58 n c29) l2 l3 q2))))
theorem t_M_findsSteps_58 {Ln : Nat} {xs : Nat → Int32} {sv : jp_V} {d : Nat} (hd : 5 ≤ d) {c29 : Int32 → jp_M → Option (jp_M)} (hc29 : ∀ (l2 : Int32) (o1 : Option jp_V) (o3 : Option jp_V) (w : Nat) (M : jp_M) (res : jp_M), c29 l2 M = some res → jR (jZ (jK Ln xs sv)) d 265 50 ([some (.inr (some 104)), o1, some (.inl l2), o3], [], jSH w, M) (none, jSH w, res)) : ∀ (n : Nat) (l2 : Int32) (l3 : Int32) (o1 : Option jp_V) (w : Nat) (M : jp_M) {res : jp_M}, f_M_findsSteps_58 n c29 l2 l3 M = some res → jR (jZ (jK Ln xs sv)) d 265 58 ([some (.inr (some 104)), o1, some (.inl l2), some (.inl l3)], [], jSH w, M) (none, jSH w, res) := by
  intro n
  induction n with
  | zero =>
    intro l2 l3 o1 w M res hf
    cases hf
  | succ n ih =>
    intro l2 l3 o1 w M res hf
    rw [f_M_findsSteps_58] at hf
    refine jR_in rfl ⟨rfl, rfl, rfl⟩ rfl ?_
    refine js_iload_n rfl ?_
    refine js_bipush (v := (80 : Int32)) rfl ?_
    refine js_icmp (tgt := 86) rfl rfl (fun h => ?_) (fun h => ?_)
    · have hf := jif_t hf h
      refine jR_in rfl ⟨rfl, rfl, rfl⟩ rfl ?_
      refine js_iinc (v := (1 : Int32)) rfl rfl rfl rfl ?_
      refine js_goto (tgt := 50) rfl rfl ?_
      exact hc29 _ _ _ _ _ _ hf
    · have hf := jif_f hf h
      refine js_aload_n rfl ?_
      refine js_getr rfl rfl rfl ?_
      refine js_iload_n rfl ?_
      obtain ⟨hb1, hf⟩ := jg_some hf
      refine js_iald rfl hb1 ?_
      refine js_iload_n rfl ?_
      refine js_icmp (tgt := 80) rfl rfl (fun h => ?_) (fun h => ?_)
      · have hf := jif_t hf h
        exact t_M_findsSteps_80 hd hc29 (fun l2 l3 o1 w M res hf => ih l2 l3 o1 w M hf) _ _ _ _ _ hf
      · have hf := jif_f hf h
        refine js_aload_n rfl ?_
        refine js_iload_n rfl ?_
        refine js_iload_n rfl ?_
        obtain ⟨q2, hc_2, hf⟩ := jbind hf
        refine js_c3v (w := 0) rfl rfl ⟨rfl, rfl⟩ rfl rfl (t_M_goesFrom hc_2) (by omega) ?_
        exact jS_out rfl ⟨rfl, rfl, rfl⟩ rfl (t_M_findsSteps_80 hd hc29 (fun l2 l3 o1 w M res hf => ih l2 l3 o1 w M hf) _ _ _ _ _ hf)
def f_M_findsSteps_50  : Nat → Int32 → jp_M → Option (jp_M)
  | 0, _, _ => none
  | n + 1, l2, M =>
    if jp_c .ge l2 (80 : Int32) = true then (
    some M) else (
    f_M_findsSteps_58 jFu (f_M_findsSteps_50 n ) l2 (0 : Int32) M)
theorem t_M_findsSteps_50 {Ln : Nat} {xs : Nat → Int32} {sv : jp_V} {d : Nat} (hd : 5 ≤ d)  : ∀ (n : Nat) (l2 : Int32) (o1 : Option jp_V) (o3 : Option jp_V) (w : Nat) (M : jp_M) {res : jp_M}, f_M_findsSteps_50 n  l2 M = some res → jR (jZ (jK Ln xs sv)) d 265 50 ([some (.inr (some 104)), o1, some (.inl l2), o3], [], jSH w, M) (none, jSH w, res) := by
  intro n
  induction n with
  | zero =>
    intro l2 o1 o3 w M res hf
    cases hf
  | succ n ih =>
    intro l2 o1 o3 w M res hf
    rw [f_M_findsSteps_50] at hf
    refine jR_in rfl ⟨rfl, rfl, rfl⟩ rfl ?_
    refine js_iload_n rfl ?_
    refine js_bipush (v := (80 : Int32)) rfl ?_
    refine js_icmp (tgt := 92) rfl rfl (fun h => ?_) (fun h => ?_)
    · have hf := jif_t hf h
      refine jR_in rfl ⟨rfl, rfl, rfl⟩ rfl ?_
      obtain rfl := Option.some.inj hf
      exact js_ret rfl rfl
    · have hf := jif_f hf h
      refine js_iconst (v := (0 : Int32)) rfl ?_
      refine js_istore_n rfl rfl ?_
      exact jS_out rfl ⟨rfl, rfl, rfl⟩ rfl (t_M_findsSteps_58 hd (fun l2 o1 o3 w M res hf => ih l2 o1 o3 w M hf) jFu _ _ _ _ _ hf)
def f_M_findsSteps_2  : Nat → Int32 → Int32 → jp_M → Option (jp_M)
  | 0, _, _, _ => none
  | n + 1, l1, l2, M =>
    if jp_c .ge l2 (80 : Int32) = true then (
    f_M_findsSteps_50 jFu (0 : Int32) M) else (
    if jp_c .ne l2 l1 = true then (
    f_M_findsSteps_25 (f_M_findsSteps_2 n ) l1 l2 l2 (100000000 : Int32) M) else (
    f_M_findsSteps_25 (f_M_findsSteps_2 n ) l1 l2 l2 (0 : Int32) M))
theorem t_M_findsSteps_2 {Ln : Nat} {xs : Nat → Int32} {sv : jp_V} {d : Nat} (hd : 5 ≤ d)  : ∀ (n : Nat) (l1 : Int32) (l2 : Int32) (o3 : Option jp_V) (w : Nat) (M : jp_M) {res : jp_M}, f_M_findsSteps_2 n  l1 l2 M = some res → jR (jZ (jK Ln xs sv)) d 265 2 ([some (.inr (some 104)), some (.inl l1), some (.inl l2), o3], [], jSH w, M) (none, jSH w, res) := by
  intro n
  induction n with
  | zero =>
    intro l1 l2 o3 w M res hf
    cases hf
  | succ n ih =>
    intro l1 l2 o3 w M res hf
    rw [f_M_findsSteps_2] at hf
    refine jR_in rfl ⟨rfl, rfl, rfl⟩ rfl ?_
    refine js_iload_n rfl ?_
    refine js_bipush (v := (80 : Int32)) rfl ?_
    refine js_icmp (tgt := 48) rfl rfl (fun h => ?_) (fun h => ?_)
    · have hf := jif_t hf h
      refine jR_in rfl ⟨rfl, rfl, rfl⟩ rfl ?_
      refine js_iconst (v := (0 : Int32)) rfl ?_
      refine js_istore_n rfl rfl ?_
      exact jS_out rfl ⟨rfl, rfl, rfl⟩ rfl (t_M_findsSteps_50 hd jFu _ _ _ _ _ hf)
    · have hf := jif_f hf h
      refine js_aload_n rfl ?_
      refine js_getr rfl rfl rfl ?_
      refine js_iload_n rfl ?_
      refine js_iload_n rfl ?_
      refine js_iload_n rfl ?_
      refine js_icmp (tgt := 22) rfl rfl (fun h => ?_) (fun h => ?_)
      · have hf := jif_t hf h
        refine jR_in rfl ⟨rfl, rfl, rfl⟩ rfl ?_
        refine js_ldcw (v := (100000000 : Int32)) rfl ?_
        exact jS_out rfl ⟨rfl, rfl, rfl⟩ rfl (t_M_findsSteps_25 hd (fun l1 l2 o3 w M res hf => ih l1 l2 o3 w M hf) _ _ _ _ _ _ _ hf)
      · have hf := jif_f hf h
        refine js_iconst (v := (0 : Int32)) rfl ?_
        refine js_goto (tgt := 25) rfl rfl ?_
        exact t_M_findsSteps_25 hd (fun l1 l2 o3 w M res hf => ih l1 l2 o3 w M hf) _ _ _ _ _ _ _ hf
def f_M_findsSteps (a1 : Int32) (M : jp_M) : Option (jp_M) :=
  f_M_findsSteps_2 jFu a1 (0 : Int32) M
theorem t_M_findsSteps {Ln : Nat} {xs : Nat → Int32} {sv : jp_V} {a1 : Int32} {w : Nat} {M : jp_M} {res : jp_M} (hf : f_M_findsSteps a1 M = some res) : jE (jZ (jK Ln xs sv)) 5 265 [(.inr (some 104)), (.inl a1)] (jSH w) M (none, jSH w, res) := by
  unfold f_M_findsSteps at hf
  refine jE_in (L0 := [some (.inr (some 104)), some (.inl a1), none, none]) rfl (Nat.le_of_ble_eq_true rfl) rfl (fun d hd => ?_)
  refine jR_in rfl ⟨rfl, rfl, rfl⟩ rfl ?_
  refine js_iconst (v := (0 : Int32)) rfl ?_
  refine js_istore_n rfl rfl ?_
  exact jS_out rfl ⟨rfl, rfl, rfl⟩ rfl (t_M_findsSteps_2 hd jFu _ _ _ _ _ hf)
/-! SwallowsAirModel.through(III)I -/
def f_M_through (a1 : Int32) (a2 : Int32) (a3 : Int32) (M : jp_M) : Option (Int32 × jp_M) :=
  let M1 := jp_set M 104 (upd (M 104) 0 (0 : Int32))
  if jp_c .eq (f_M_isCell a1) 0 = true then (
  some ((-1 : Int32), M1)) else (
  if jp_c .eq (f_M_isCell a2) 0 = true then (
  some ((-1 : Int32), M1)) else (
  if jp_c .eq (f_M_isIn a3 (0 : Int32) (1 : Int32)) 0 = true then (
  some ((-1 : Int32), M1)) else (
  (f_M_isFree (a1 / (10 : Int32)) (a1 % (10 : Int32)) M1).bind fun q5 => (
  if jp_c .eq q5 0 = true then (
  some ((-1 : Int32), M1)) else (
  (f_M_isFree (a2 / (10 : Int32)) (a2 % (10 : Int32)) M1).bind fun q6 => (
  if jp_c .ne q6 0 = true then (
  (f_M_findsSteps (((8 : Int32) * (a1 / (10 : Int32))) + (a1 % (10 : Int32))) M1).bind fun q7 => (
  jg (jp_in (((8 : Int32) * (a2 / (10 : Int32))) + (a2 % (10 : Int32))) 80) (
  if jp_c .ne (q7 128 (Int32.toNatClampNeg (((8 : Int32) * (a2 / (10 : Int32))) + (a2 % (10 : Int32))))) (100000000 : Int32) = true then (
  if jp_c .ne a3 0 = true then (
  jg (jp_in (((8 : Int32) * (a2 / (10 : Int32))) + (a2 % (10 : Int32))) 80) (
  some ((q7 127 (Int32.toNatClampNeg (((8 : Int32) * (a2 / (10 : Int32))) + (a2 % (10 : Int32))))), q7))) else (
  jg (jp_in (((8 : Int32) * (a2 / (10 : Int32))) + (a2 % (10 : Int32))) 80) (
  some ((q7 128 (Int32.toNatClampNeg (((8 : Int32) * (a2 / (10 : Int32))) + (a2 % (10 : Int32))))), q7)))) else (
  some ((-1 : Int32), q7))))) else (
  some ((-1 : Int32), M1))))))))
theorem t_M_through {Ln : Nat} {xs : Nat → Int32} {sv : jp_V} {a1 : Int32} {a2 : Int32} {a3 : Int32} {w : Nat} {M : jp_M} {res : Int32 × jp_M} (hf : f_M_through a1 a2 a3 M = some res) : jE (jZ (jK Ln xs sv)) 6 266 [(.inr (some 104)), (.inl a1), (.inl a2), (.inl a3)] (jSH w) M (some (.inl res.1), jSH w, res.2) := by
  unfold f_M_through at hf
  refine jE_in (L0 := [some (.inr (some 104)), some (.inl a1), some (.inl a2), some (.inl a3), none]) rfl (Nat.le_of_ble_eq_true rfl) rfl (fun d hd => ?_)
  refine jR_in rfl ⟨rfl, rfl, rfl⟩ rfl ?_
  refine js_aload_n rfl ?_
  refine js_iconst (v := (0 : Int32)) rfl ?_
  refine js_puti rfl rfl (Or.inl rfl) ?_
  refine js_aload_n rfl ?_
  refine js_iload_n rfl ?_
  refine js_c2i rfl rfl ⟨rfl, rfl⟩ rfl rfl (t_M_isCell rfl) (by omega) ?_
  refine js_ifc (tgt := 61) rfl rfl (fun h => ?_) (fun h => ?_)
  · have hf := jif_t hf h
    refine jR_in rfl ⟨rfl, rfl, rfl⟩ rfl ?_
    refine js_iconst (v := (-1 : Int32)) rfl ?_
    obtain rfl := Option.some.inj hf
    exact js_iret rfl rfl
  · have hf := jif_f hf h
    refine js_aload_n rfl ?_
    refine js_iload_n rfl ?_
    refine js_c2i rfl rfl ⟨rfl, rfl⟩ rfl rfl (t_M_isCell rfl) (by omega) ?_
    refine js_ifc (tgt := 61) rfl rfl (fun h => ?_) (fun h => ?_)
    · have hf := jif_t hf h
      refine jR_in rfl ⟨rfl, rfl, rfl⟩ rfl ?_
      refine js_iconst (v := (-1 : Int32)) rfl ?_
      obtain rfl := Option.some.inj hf
      exact js_iret rfl rfl
    · have hf := jif_f hf h
      refine js_aload_n rfl ?_
      refine js_iload_n rfl ?_
      refine js_iconst (v := (0 : Int32)) rfl ?_
      refine js_iconst (v := (1 : Int32)) rfl ?_
      refine js_c4i rfl rfl ⟨rfl, rfl⟩ rfl rfl (t_M_isIn rfl) (by omega) ?_
      refine js_ifc (tgt := 61) rfl rfl (fun h => ?_) (fun h => ?_)
      · have hf := jif_t hf h
        refine jR_in rfl ⟨rfl, rfl, rfl⟩ rfl ?_
        refine js_iconst (v := (-1 : Int32)) rfl ?_
        obtain rfl := Option.some.inj hf
        exact js_iret rfl rfl
      · have hf := jif_f hf h
        refine js_aload_n rfl ?_
        refine js_iload_n rfl ?_
        refine js_bipush (v := (10 : Int32)) rfl ?_
        refine js_idiv (by decide) ?_
        refine js_iload_n rfl ?_
        refine js_bipush (v := (10 : Int32)) rfl ?_
        refine js_irem (by decide) ?_
        obtain ⟨q5, hc_5, hf⟩ := jbind hf
        refine js_c3i rfl rfl ⟨rfl, rfl⟩ rfl rfl (t_M_isFree hc_5) (by omega) ?_
        refine js_ifc (tgt := 61) rfl rfl (fun h => ?_) (fun h => ?_)
        · have hf := jif_t hf h
          refine jR_in rfl ⟨rfl, rfl, rfl⟩ rfl ?_
          refine js_iconst (v := (-1 : Int32)) rfl ?_
          obtain rfl := Option.some.inj hf
          exact js_iret rfl rfl
        · have hf := jif_f hf h
          refine js_aload_n rfl ?_
          refine js_iload_n rfl ?_
          refine js_bipush (v := (10 : Int32)) rfl ?_
          refine js_idiv (by decide) ?_
          refine js_iload_n rfl ?_
          refine js_bipush (v := (10 : Int32)) rfl ?_
          refine js_irem (by decide) ?_
          obtain ⟨q6, hc_6, hf⟩ := jbind hf
          refine js_c3i rfl rfl ⟨rfl, rfl⟩ rfl rfl (t_M_isFree hc_6) (by omega) ?_
          refine js_ifc (tgt := 63) rfl rfl (fun h => ?_) (fun h => ?_)
          · have hf := jif_t hf h
            refine jR_in rfl ⟨rfl, rfl, rfl⟩ rfl ?_
            refine js_aload_n rfl ?_
            refine js_bipush (v := (8 : Int32)) rfl ?_
            refine js_iload_n rfl ?_
            refine js_bipush (v := (10 : Int32)) rfl ?_
            refine js_idiv (by decide) ?_
            refine js_imul ?_
            refine js_iload_n rfl ?_
            refine js_bipush (v := (10 : Int32)) rfl ?_
            refine js_irem (by decide) ?_
            refine js_iadd ?_
            obtain ⟨q7, hc_7, hf⟩ := jbind hf
            refine js_c2v (w := 0) rfl rfl ⟨rfl, rfl⟩ rfl rfl (t_M_findsSteps hc_7) (by omega) ?_
            refine js_bipush (v := (8 : Int32)) rfl ?_
            refine js_iload_n rfl ?_
            refine js_bipush (v := (10 : Int32)) rfl ?_
            refine js_idiv (by decide) ?_
            refine js_imul ?_
            refine js_iload_n rfl ?_
            refine js_bipush (v := (10 : Int32)) rfl ?_
            refine js_irem (by decide) ?_
            refine js_iadd ?_
            refine js_istore rfl rfl ?_
            refine js_aload_n rfl ?_
            refine js_getr rfl rfl rfl ?_
            refine js_iload rfl ?_
            obtain ⟨hb8, hf⟩ := jg_some hf
            refine js_iald rfl hb8 ?_
            refine js_ldcw (v := (100000000 : Int32)) rfl ?_
            refine js_icmp (tgt := 108) rfl rfl (fun h => ?_) (fun h => ?_)
            · have hf := jif_t hf h
              refine jR_in rfl ⟨rfl, rfl, rfl⟩ rfl ?_
              refine js_iload_n rfl ?_
              refine js_ifc (tgt := 122) rfl rfl (fun h => ?_) (fun h => ?_)
              · have hf := jif_t hf h
                refine jR_in rfl ⟨rfl, rfl, rfl⟩ rfl ?_
                refine js_aload_n rfl ?_
                refine js_getr rfl rfl rfl ?_
                refine js_iload rfl ?_
                obtain ⟨hb9, hf⟩ := jg_some hf
                refine js_iald rfl hb9 ?_
                obtain rfl := Option.some.inj hf
                exact js_iret rfl rfl
              · have hf := jif_f hf h
                refine js_aload_n rfl ?_
                refine js_getr rfl rfl rfl ?_
                refine js_iload rfl ?_
                obtain ⟨hb10, hf⟩ := jg_some hf
                refine js_iald rfl hb10 ?_
                refine js_goto (tgt := 129) rfl rfl ?_
                refine jR_in rfl ⟨rfl, rfl, rfl⟩ rfl ?_
                obtain rfl := Option.some.inj hf
                exact js_iret rfl rfl
            · have hf := jif_f hf h
              refine js_iconst (v := (-1 : Int32)) rfl ?_
              obtain rfl := Option.some.inj hf
              exact js_iret rfl rfl
          · have hf := jif_f hf h
            refine js_iconst (v := (-1 : Int32)) rfl ?_
            obtain rfl := Option.some.inj hf
            exact js_iret rfl rfl
/-! SwallowsAirModel.freeFrom(II)I -/
def f_M_freeFrom_2  : Nat → Int32 → Int32 → Int32 → jp_M → Option (Int32)
  | 0, _, _, _, _ => none
  | n + 1, l1, l2, l3, M =>
    if jp_c .ge (l2 + l3) (8 : Int32) = true then (
    some l3) else (
    (f_M_isFree l1 (l2 + l3) M).bind fun q1 => (
    if jp_c .eq q1 0 = true then (
    some l3) else (
    f_M_freeFrom_2 n l1 l2 (l3 + (1 : Int32)) M)))
theorem t_M_freeFrom_2 {Ln : Nat} {xs : Nat → Int32} {sv : jp_V} {d : Nat} (hd : 3 ≤ d)  : ∀ (n : Nat) (l1 : Int32) (l2 : Int32) (l3 : Int32) (w : Nat) (M : jp_M) {res : Int32}, f_M_freeFrom_2 n  l1 l2 l3 M = some res → jR (jZ (jK Ln xs sv)) d 267 2 ([some (.inr (some 104)), some (.inl l1), some (.inl l2), some (.inl l3)], [], jSH w, M) (some (.inl res), jSH w, M) := by
  intro n
  induction n with
  | zero =>
    intro l1 l2 l3 w M res hf
    cases hf
  | succ n ih =>
    intro l1 l2 l3 w M res hf
    rw [f_M_freeFrom_2] at hf
    refine jR_in rfl ⟨rfl, rfl, rfl⟩ rfl ?_
    refine js_iload_n rfl ?_
    refine js_iload_n rfl ?_
    refine js_iadd ?_
    refine js_bipush (v := (8 : Int32)) rfl ?_
    refine js_icmp (tgt := 28) rfl rfl (fun h => ?_) (fun h => ?_)
    · have hf := jif_t hf h
      refine jR_in rfl ⟨rfl, rfl, rfl⟩ rfl ?_
      refine js_iload_n rfl ?_
      obtain rfl := Option.some.inj hf
      exact js_iret rfl rfl
    · have hf := jif_f hf h
      refine js_aload_n rfl ?_
      refine js_iload_n rfl ?_
      refine js_iload_n rfl ?_
      refine js_iload_n rfl ?_
      refine js_iadd ?_
      obtain ⟨q1, hc_1, hf⟩ := jbind hf
      refine js_c3i rfl rfl ⟨rfl, rfl⟩ rfl rfl (t_M_isFree hc_1) (by omega) ?_
      refine js_ifc (tgt := 28) rfl rfl (fun h => ?_) (fun h => ?_)
      · have hf := jif_t hf h
        refine jR_in rfl ⟨rfl, rfl, rfl⟩ rfl ?_
        refine js_iload_n rfl ?_
        obtain rfl := Option.some.inj hf
        exact js_iret rfl rfl
      · have hf := jif_f hf h
        refine js_iload_n rfl ?_
        refine js_iconst (v := (1 : Int32)) rfl ?_
        refine js_iadd ?_
        refine js_istore_n rfl rfl ?_
        refine js_goto (tgt := 2) rfl rfl ?_
        exact ih _ _ _ _ _ hf
def f_M_freeFrom (a1 : Int32) (a2 : Int32) (M : jp_M) : Option (Int32) :=
  f_M_freeFrom_2 jFu a1 a2 (0 : Int32) M
theorem t_M_freeFrom {Ln : Nat} {xs : Nat → Int32} {sv : jp_V} {a1 : Int32} {a2 : Int32} {w : Nat} {M : jp_M} {res : Int32} (hf : f_M_freeFrom a1 a2 M = some res) : jE (jZ (jK Ln xs sv)) 3 267 [(.inr (some 104)), (.inl a1), (.inl a2)] (jSH w) M (some (.inl res), jSH w, M) := by
  unfold f_M_freeFrom at hf
  refine jE_in (L0 := [some (.inr (some 104)), some (.inl a1), some (.inl a2), none]) rfl (Nat.le_of_ble_eq_true rfl) rfl (fun d hd => ?_)
  refine jR_in rfl ⟨rfl, rfl, rfl⟩ rfl ?_
  refine js_iconst (v := (0 : Int32)) rfl ?_
  refine js_istore_n rfl rfl ?_
  exact jS_out rfl ⟨rfl, rfl, rfl⟩ rfl (t_M_freeFrom_2 hd jFu _ _ _ _ _ hf)
/-! SwallowsAirModel.greater(II)I -/
def f_M_greater (a1 : Int32) (a2 : Int32) : Int32 :=
  if jp_c .le a1 a2 = true then (
  a2) else (
  a1)
theorem t_M_greater {Ln : Nat} {xs : Nat → Int32} {sv : jp_V} {a1 : Int32} {a2 : Int32} {w : Nat} {M : jp_M} {res : Int32} (hf : f_M_greater a1 a2 = res) : jE (jZ (jK Ln xs sv)) 0 165 [(.inr (some 104)), (.inl a1), (.inl a2)] (jSH w) M (some (.inl res), jSH w, M) := by
  unfold f_M_greater at hf
  refine jE_in (L0 := [some (.inr (some 104)), some (.inl a1), some (.inl a2)]) rfl (Nat.le_of_ble_eq_true rfl) rfl (fun d hd => ?_)
  refine jR_in rfl ⟨rfl, rfl, rfl⟩ rfl ?_
  refine js_iload_n rfl ?_
  refine js_iload_n rfl ?_
  refine js_icmp (tgt := 9) rfl rfl (fun h => ?_) (fun h => ?_)
  · have hf := jif_t hf h
    refine jR_in rfl ⟨rfl, rfl, rfl⟩ rfl ?_
    refine js_iload_n rfl ?_
    subst hf
    exact js_iret rfl rfl
  · have hf := jif_f hf h
    refine js_iload_n rfl ?_
    refine js_goto (tgt := 10) rfl rfl ?_
    refine jR_in rfl ⟨rfl, rfl, rfl⟩ rfl ?_
    subst hf
    exact js_iret rfl rfl
/-! SwallowsAirModel.wide(I)I -/
def f_M_wide_102 (c17 : Int32 → Int32 → Int32 → Int32 → jp_M → Option (Int32 × jp_M)) (c22 : Int32 → Int32 → Int32 → Int32 → Int32 → jp_M → Option (Int32 × jp_M)) (c29 : Int32 → Int32 → Int32 → Int32 → Int32 → Int32 → Int32 → jp_M → Option (Int32 × jp_M)) (l1 : Int32) (l2 : Int32) (l4 : Int32) (l5 : Int32) (l6 : Int32) (l7 : Int32) (l8 : Int32) (s0 : Int32) (M : jp_M) : Option (Int32 × jp_M) :=
  c29 l1 (f_M_greater l2 l8) s0 l4 l5 l6 (l7 + (1 : Int32)) M
theorem t_M_wide_102 {Ln : Nat} {xs : Nat → Int32} {sv : jp_V} {d : Nat} (hd : 4 ≤ d) {c17 : Int32 → Int32 → Int32 → Int32 → jp_M → Option (Int32 × jp_M)} (hc17 : ∀ (l1 : Int32) (l2 : Int32) (l3 : Int32) (l4 : Int32) (o5 : Option jp_V) (o6 : Option jp_V) (o7 : Option jp_V) (o8 : Option jp_V) (w : Nat) (M : jp_M) (res : Int32 × jp_M), c17 l1 l2 l3 l4 M = some res → jR (jZ (jK Ln xs sv)) d 268 24 ([some (.inr (some 104)), some (.inl l1), some (.inl l2), some (.inl l3), some (.inl l4), o5, o6, o7, o8], [], jSH w, M) (some (.inl res.1), jSH w, res.2)) {c22 : Int32 → Int32 → Int32 → Int32 → Int32 → jp_M → Option (Int32 × jp_M)} (hc22 : ∀ (l1 : Int32) (l2 : Int32) (l3 : Int32) (l4 : Int32) (l5 : Int32) (o6 : Option jp_V) (o7 : Option jp_V) (o8 : Option jp_V) (w : Nat) (M : jp_M) (res : Int32 × jp_M), c22 l1 l2 l3 l4 l5 M = some res → jR (jZ (jK Ln xs sv)) d 268 34 ([some (.inr (some 104)), some (.inl l1), some (.inl l2), some (.inl l3), some (.inl l4), some (.inl l5), o6, o7, o8], [], jSH w, M) (some (.inl res.1), jSH w, res.2)) {c29 : Int32 → Int32 → Int32 → Int32 → Int32 → Int32 → Int32 → jp_M → Option (Int32 × jp_M)} (hc29 : ∀ (l1 : Int32) (l2 : Int32) (l3 : Int32) (l4 : Int32) (l5 : Int32) (l6 : Int32) (l7 : Int32) (o8 : Option jp_V) (w : Nat) (M : jp_M) (res : Int32 × jp_M), c29 l1 l2 l3 l4 l5 l6 l7 M = some res → jR (jZ (jK Ln xs sv)) d 268 49 ([some (.inr (some 104)), some (.inl l1), some (.inl l2), some (.inl l3), some (.inl l4), some (.inl l5), some (.inl l6), some (.inl l7), o8], [], jSH w, M) (some (.inl res.1), jSH w, res.2)) (l1 : Int32) (l2 : Int32) (l4 : Int32) (l5 : Int32) (l6 : Int32) (l7 : Int32) (l8 : Int32) (s0 : Int32) (o3 : Option jp_V) (w : Nat) (M : jp_M) {res : Int32 × jp_M} (hf : f_M_wide_102 c17 c22 c29 l1 l2 l4 l5 l6 l7 l8 s0 M = some res) : jR (jZ (jK Ln xs sv)) d 268 102 ([some (.inr (some 104)), some (.inl l1), some (.inl l2), o3, some (.inl l4), some (.inl l5), some (.inl l6), some (.inl l7), some (.inl l8)], [.inl s0], jSH w, M) (some (.inl res.1), jSH w, res.2) := by
  unfold f_M_wide_102 at hf
  refine jR_in rfl ⟨rfl, rfl, rfl⟩ rfl ?_
  refine js_istore_n rfl rfl ?_
  refine js_aload_n rfl ?_
  refine js_iload_n rfl ?_
  refine js_iload rfl ?_
  refine js_c3i rfl rfl ⟨rfl, rfl⟩ rfl rfl (t_M_greater rfl) (by omega) ?_
  refine js_istore_n rfl rfl ?_
  refine js_iinc (v := (1 : Int32)) rfl rfl rfl rfl ?_
  refine js_goto (tgt := 49) rfl rfl ?_
  exact hc29 _ _ _ _ _ _ _ _ _ _ _ hf
def f_M_wide_49  : Nat → (Int32 → Int32 → Int32 → Int32 → jp_M → Option (Int32 × jp_M)) → (Int32 → Int32 → Int32 → Int32 → Int32 → jp_M → Option (Int32 × jp_M)) → Int32 → Int32 → Int32 → Int32 → Int32 → Int32 → Int32 → jp_M → Option (Int32 × jp_M)
  | 0, _, _, _, _, _, _, _, _, _, _ => none
  | n + 1, c17, c22, l1, l2, l3, l4, l5, l6, l7, M =>
    if jp_c .ge l7 (10 : Int32) = true then (
    c22 l1 l2 l3 l4 (l5 + (1 : Int32)) M) else (
    (f_M_freeFrom l7 l5 M).bind fun q1 => (
    if jp_c .le ((f_M_lesser l6 q1) * ((l7 - l4) + (1 : Int32))) l2 = true then (
    f_M_wide_102 c17 c22 (f_M_wide_49 n c17 c22) l1 l2 l4 l5 (f_M_lesser l6 q1) l7 ((f_M_lesser l6 q1) * ((l7 - l4) + (1 : Int32))) l3 M) else (
    f_M_wide_102 c17 c22 (f_M_wide_49 n c17 c22) l1 l2 l4 l5 (f_M_lesser l6 q1) l7 ((f_M_lesser l6 q1) * ((l7 - l4) + (1 : Int32))) (((10 : Int32) * l4) + l5) M)))
theorem t_M_wide_49 {Ln : Nat} {xs : Nat → Int32} {sv : jp_V} {d : Nat} (hd : 4 ≤ d) {c17 : Int32 → Int32 → Int32 → Int32 → jp_M → Option (Int32 × jp_M)} (hc17 : ∀ (l1 : Int32) (l2 : Int32) (l3 : Int32) (l4 : Int32) (o5 : Option jp_V) (o6 : Option jp_V) (o7 : Option jp_V) (o8 : Option jp_V) (w : Nat) (M : jp_M) (res : Int32 × jp_M), c17 l1 l2 l3 l4 M = some res → jR (jZ (jK Ln xs sv)) d 268 24 ([some (.inr (some 104)), some (.inl l1), some (.inl l2), some (.inl l3), some (.inl l4), o5, o6, o7, o8], [], jSH w, M) (some (.inl res.1), jSH w, res.2)) {c22 : Int32 → Int32 → Int32 → Int32 → Int32 → jp_M → Option (Int32 × jp_M)} (hc22 : ∀ (l1 : Int32) (l2 : Int32) (l3 : Int32) (l4 : Int32) (l5 : Int32) (o6 : Option jp_V) (o7 : Option jp_V) (o8 : Option jp_V) (w : Nat) (M : jp_M) (res : Int32 × jp_M), c22 l1 l2 l3 l4 l5 M = some res → jR (jZ (jK Ln xs sv)) d 268 34 ([some (.inr (some 104)), some (.inl l1), some (.inl l2), some (.inl l3), some (.inl l4), some (.inl l5), o6, o7, o8], [], jSH w, M) (some (.inl res.1), jSH w, res.2)) : ∀ (n : Nat) (l1 : Int32) (l2 : Int32) (l3 : Int32) (l4 : Int32) (l5 : Int32) (l6 : Int32) (l7 : Int32) (o8 : Option jp_V) (w : Nat) (M : jp_M) {res : Int32 × jp_M}, f_M_wide_49 n c17 c22 l1 l2 l3 l4 l5 l6 l7 M = some res → jR (jZ (jK Ln xs sv)) d 268 49 ([some (.inr (some 104)), some (.inl l1), some (.inl l2), some (.inl l3), some (.inl l4), some (.inl l5), some (.inl l6), some (.inl l7), o8], [], jSH w, M) (some (.inl res.1), jSH w, res.2) := by
  intro n
  induction n with
  | zero =>
    intro l1 l2 l3 l4 l5 l6 l7 o8 w M res hf
    cases hf
  | succ n ih =>
    intro l1 l2 l3 l4 l5 l6 l7 o8 w M res hf
    rw [f_M_wide_49] at hf
    refine jR_in rfl ⟨rfl, rfl, rfl⟩ rfl ?_
    refine js_iload rfl ?_
    refine js_bipush (v := (10 : Int32)) rfl ?_
    refine js_icmp (tgt := 117) rfl rfl (fun h => ?_) (fun h => ?_)
    · have hf := jif_t hf h
      refine jR_in rfl ⟨rfl, rfl, rfl⟩ rfl ?_
      refine js_iinc (v := (1 : Int32)) rfl rfl rfl rfl ?_
      refine js_goto (tgt := 34) rfl rfl ?_
      exact hc22 _ _ _ _ _ _ _ _ _ _ _ hf
    · have hf := jif_f hf h
      refine js_aload_n rfl ?_
      refine js_iload rfl ?_
      refine js_aload_n rfl ?_
      refine js_iload rfl ?_
      refine js_iload rfl ?_
      obtain ⟨q1, hc_1, hf⟩ := jbind hf
      refine js_c3i rfl rfl ⟨rfl, rfl⟩ rfl rfl (t_M_freeFrom hc_1) (by omega) ?_
      refine js_c3i rfl rfl ⟨rfl, rfl⟩ rfl rfl (t_M_lesser rfl) (by omega) ?_
      refine js_istore rfl rfl ?_
      refine js_iload rfl ?_
      refine js_iload rfl ?_
      refine js_iload rfl ?_
      refine js_isub ?_
      refine js_iconst (v := (1 : Int32)) rfl ?_
      refine js_iadd ?_
      refine js_imul ?_
      refine js_istore rfl rfl ?_
      refine js_iload rfl ?_
      refine js_iload_n rfl ?_
      refine js_icmp (tgt := 101) rfl rfl (fun h => ?_) (fun h => ?_)
      · have hf := jif_t hf h
        refine jR_in rfl ⟨rfl, rfl, rfl⟩ rfl ?_
        refine js_iload_n rfl ?_
        exact jS_out rfl ⟨rfl, rfl, rfl⟩ rfl (t_M_wide_102 hd hc17 hc22 (fun l1 l2 l3 l4 l5 l6 l7 o8 w M res hf => ih l1 l2 l3 l4 l5 l6 l7 o8 w M hf) _ _ _ _ _ _ _ _ _ _ _ hf)
      · have hf := jif_f hf h
        refine js_bipush (v := (10 : Int32)) rfl ?_
        refine js_iload rfl ?_
        refine js_imul ?_
        refine js_iload rfl ?_
        refine js_iadd ?_
        refine js_goto (tgt := 102) rfl rfl ?_
        exact t_M_wide_102 hd hc17 hc22 (fun l1 l2 l3 l4 l5 l6 l7 o8 w M res hf => ih l1 l2 l3 l4 l5 l6 l7 o8 w M hf) _ _ _ _ _ _ _ _ _ _ _ hf
def f_M_wide_34  : Nat → (Int32 → Int32 → Int32 → Int32 → jp_M → Option (Int32 × jp_M)) → Int32 → Int32 → Int32 → Int32 → Int32 → jp_M → Option (Int32 × jp_M)
  | 0, _, _, _, _, _, _, _ => none
  | n + 1, c17, l1, l2, l3, l4, l5, M =>
    if jp_c .ge l5 (8 : Int32) = true then (
    c17 l1 l2 l3 (l4 + (1 : Int32)) M) else (
    f_M_wide_49 jFu c17 (f_M_wide_34 n c17) l1 l2 l3 l4 l5 (8 : Int32) l4 M)
theorem t_M_wide_34 {Ln : Nat} {xs : Nat → Int32} {sv : jp_V} {d : Nat} (hd : 4 ≤ d) {c17 : Int32 → Int32 → Int32 → Int32 → jp_M → Option (Int32 × jp_M)} (hc17 : ∀ (l1 : Int32) (l2 : Int32) (l3 : Int32) (l4 : Int32) (o5 : Option jp_V) (o6 : Option jp_V) (o7 : Option jp_V) (o8 : Option jp_V) (w : Nat) (M : jp_M) (res : Int32 × jp_M), c17 l1 l2 l3 l4 M = some res → jR (jZ (jK Ln xs sv)) d 268 24 ([some (.inr (some 104)), some (.inl l1), some (.inl l2), some (.inl l3), some (.inl l4), o5, o6, o7, o8], [], jSH w, M) (some (.inl res.1), jSH w, res.2)) : ∀ (n : Nat) (l1 : Int32) (l2 : Int32) (l3 : Int32) (l4 : Int32) (l5 : Int32) (o6 : Option jp_V) (o7 : Option jp_V) (o8 : Option jp_V) (w : Nat) (M : jp_M) {res : Int32 × jp_M}, f_M_wide_34 n c17 l1 l2 l3 l4 l5 M = some res → jR (jZ (jK Ln xs sv)) d 268 34 ([some (.inr (some 104)), some (.inl l1), some (.inl l2), some (.inl l3), some (.inl l4), some (.inl l5), o6, o7, o8], [], jSH w, M) (some (.inl res.1), jSH w, res.2) := by
  intro n
  induction n with
  | zero =>
    intro l1 l2 l3 l4 l5 o6 o7 o8 w M res hf
    cases hf
  | succ n ih =>
    intro l1 l2 l3 l4 l5 o6 o7 o8 w M res hf
    rw [f_M_wide_34] at hf
    refine jR_in rfl ⟨rfl, rfl, rfl⟩ rfl ?_
    refine js_iload rfl ?_
    refine js_bipush (v := (8 : Int32)) rfl ?_
    refine js_icmp (tgt := 123) rfl rfl (fun h => ?_) (fun h => ?_)
    · have hf := jif_t hf h
      refine jR_in rfl ⟨rfl, rfl, rfl⟩ rfl ?_
      refine js_iinc (v := (1 : Int32)) rfl rfl rfl rfl ?_
      refine js_goto (tgt := 24) rfl rfl ?_
      exact hc17 _ _ _ _ _ _ _ _ _ _ _ hf
    · have hf := jif_f hf h
      refine js_bipush (v := (8 : Int32)) rfl ?_
      refine js_istore rfl rfl ?_
      refine js_iload rfl ?_
      refine js_istore rfl rfl ?_
      exact jS_out rfl ⟨rfl, rfl, rfl⟩ rfl (t_M_wide_49 hd hc17 (fun l1 l2 l3 l4 l5 o6 o7 o8 w M res hf => ih l1 l2 l3 l4 l5 o6 o7 o8 w M hf) jFu _ _ _ _ _ _ _ _ _ _ hf)
def f_M_wide_24  : Nat → Int32 → Int32 → Int32 → Int32 → jp_M → Option (Int32 × jp_M)
  | 0, _, _, _, _, _ => none
  | n + 1, l1, l2, l3, l4, M =>
    if jp_c .ge l4 (10 : Int32) = true then (
    if jp_c .ne l1 0 = true then (
    some (l3, M)) else (
    some (l2, M))) else (
    f_M_wide_34 jFu (f_M_wide_24 n ) l1 l2 l3 l4 (0 : Int32) M)
theorem t_M_wide_24 {Ln : Nat} {xs : Nat → Int32} {sv : jp_V} {d : Nat} (hd : 4 ≤ d)  : ∀ (n : Nat) (l1 : Int32) (l2 : Int32) (l3 : Int32) (l4 : Int32) (o5 : Option jp_V) (o6 : Option jp_V) (o7 : Option jp_V) (o8 : Option jp_V) (w : Nat) (M : jp_M) {res : Int32 × jp_M}, f_M_wide_24 n  l1 l2 l3 l4 M = some res → jR (jZ (jK Ln xs sv)) d 268 24 ([some (.inr (some 104)), some (.inl l1), some (.inl l2), some (.inl l3), some (.inl l4), o5, o6, o7, o8], [], jSH w, M) (some (.inl res.1), jSH w, res.2) := by
  intro n
  induction n with
  | zero =>
    intro l1 l2 l3 l4 o5 o6 o7 o8 w M res hf
    cases hf
  | succ n ih =>
    intro l1 l2 l3 l4 o5 o6 o7 o8 w M res hf
    rw [f_M_wide_24] at hf
    refine jR_in rfl ⟨rfl, rfl, rfl⟩ rfl ?_
    refine js_iload rfl ?_
    refine js_bipush (v := (10 : Int32)) rfl ?_
    refine js_icmp (tgt := 129) rfl rfl (fun h => ?_) (fun h => ?_)
    · have hf := jif_t hf h
      refine jR_in rfl ⟨rfl, rfl, rfl⟩ rfl ?_
      refine js_iload_n rfl ?_
      refine js_ifc (tgt := 137) rfl rfl (fun h => ?_) (fun h => ?_)
      · have hf := jif_t hf h
        refine jR_in rfl ⟨rfl, rfl, rfl⟩ rfl ?_
        refine js_iload_n rfl ?_
        obtain rfl := Option.some.inj hf
        exact js_iret rfl rfl
      · have hf := jif_f hf h
        refine js_iload_n rfl ?_
        refine js_goto (tgt := 138) rfl rfl ?_
        refine jR_in rfl ⟨rfl, rfl, rfl⟩ rfl ?_
        obtain rfl := Option.some.inj hf
        exact js_iret rfl rfl
    · have hf := jif_f hf h
      refine js_iconst (v := (0 : Int32)) rfl ?_
      refine js_istore rfl rfl ?_
      exact jS_out rfl ⟨rfl, rfl, rfl⟩ rfl (t_M_wide_34 hd (fun l1 l2 l3 l4 o5 o6 o7 o8 w M res hf => ih l1 l2 l3 l4 o5 o6 o7 o8 w M hf) jFu _ _ _ _ _ _ _ _ _ _ hf)
def f_M_wide (a1 : Int32) (M : jp_M) : Option (Int32 × jp_M) :=
  let M1 := jp_set M 104 (upd (M 104) 0 (0 : Int32))
  if jp_c .ne (f_M_isIn a1 (0 : Int32) (1 : Int32)) 0 = true then (
  f_M_wide_24 jFu a1 (0 : Int32) (-1 : Int32) (0 : Int32) M1) else (
  some ((-1 : Int32), M1))
theorem t_M_wide {Ln : Nat} {xs : Nat → Int32} {sv : jp_V} {a1 : Int32} {w : Nat} {M : jp_M} {res : Int32 × jp_M} (hf : f_M_wide a1 M = some res) : jE (jZ (jK Ln xs sv)) 4 268 [(.inr (some 104)), (.inl a1)] (jSH w) M (some (.inl res.1), jSH w, res.2) := by
  unfold f_M_wide at hf
  refine jE_in (L0 := [some (.inr (some 104)), some (.inl a1), none, none, none, none, none, none, none]) rfl (Nat.le_of_ble_eq_true rfl) rfl (fun d hd => ?_)
  refine jR_in rfl ⟨rfl, rfl, rfl⟩ rfl ?_
  refine js_aload_n rfl ?_
  refine js_iconst (v := (0 : Int32)) rfl ?_
  refine js_puti rfl rfl (Or.inl rfl) ?_
  refine js_aload_n rfl ?_
  refine js_iload_n rfl ?_
  refine js_iconst (v := (0 : Int32)) rfl ?_
  refine js_iconst (v := (1 : Int32)) rfl ?_
  refine js_c4i rfl rfl ⟨rfl, rfl⟩ rfl rfl (t_M_isIn rfl) (by omega) ?_
  refine js_ifc (tgt := 17) rfl rfl (fun h => ?_) (fun h => ?_)
  · have hf := jif_t hf h
    refine jR_in rfl ⟨rfl, rfl, rfl⟩ rfl ?_
    refine js_iconst (v := (0 : Int32)) rfl ?_
    refine js_istore_n rfl rfl ?_
    refine js_iconst (v := (-1 : Int32)) rfl ?_
    refine js_istore_n rfl rfl ?_
    refine js_iconst (v := (0 : Int32)) rfl ?_
    refine js_istore rfl rfl ?_
    exact jS_out rfl ⟨rfl, rfl, rfl⟩ rfl (t_M_wide_24 hd jFu _ _ _ _ _ _ _ _ _ _ hf)
  · have hf := jif_f hf h
    refine js_iconst (v := (-1 : Int32)) rfl ?_
    obtain rfl := Option.some.inj hf
    exact js_iret rfl rfl
/-! SwallowsAirModel.upright(II)I -/
def f_M_upright (a1 : Int32) (a2 : Int32) (M : jp_M) : Option (Int32 × jp_M) :=
  let M1 := jp_set M 104 (upd (M 104) 0 (0 : Int32))
  if jp_c .eq (f_M_isPerson a1 M1) 0 = true then (
  some ((-1 : Int32), M1)) else (
  if jp_c .ne (f_M_isIn a2 (0 : Int32) (1 : Int32)) 0 = true then (
  jg (jp_in a1 10) (
  (f_M_freeFrom (M1 109 (Int32.toNatClampNeg a1)) (0 : Int32) M1).bind fun q5 => (
  if jp_c .ne a2 0 = true then (
  jg (jp_in a1 10) (
  jg (jp_in ((26 : Int32) + a1) 184) (
  if jp_c .gt (f_M_greater (0 : Int32) ((M1 108 (Int32.toNatClampNeg a1)) - (M1 105 (Int32.toNatClampNeg ((26 : Int32) + a1))))) q5 = true then (
  some ((0 : Int32), M1)) else (
  some ((1 : Int32), M1))))) else (
  some (q5, M1))))) else (
  some ((-1 : Int32), M1)))
theorem t_M_upright {Ln : Nat} {xs : Nat → Int32} {sv : jp_V} {a1 : Int32} {a2 : Int32} {w : Nat} {M : jp_M} {res : Int32 × jp_M} (hf : f_M_upright a1 a2 M = some res) : jE (jZ (jK Ln xs sv)) 4 269 [(.inr (some 104)), (.inl a1), (.inl a2)] (jSH w) M (some (.inl res.1), jSH w, res.2) := by
  unfold f_M_upright at hf
  refine jE_in (L0 := [some (.inr (some 104)), some (.inl a1), some (.inl a2), none]) rfl (Nat.le_of_ble_eq_true rfl) rfl (fun d hd => ?_)
  refine jR_in rfl ⟨rfl, rfl, rfl⟩ rfl ?_
  refine js_aload_n rfl ?_
  refine js_iconst (v := (0 : Int32)) rfl ?_
  refine js_puti rfl rfl (Or.inl rfl) ?_
  refine js_aload_n rfl ?_
  refine js_iload_n rfl ?_
  refine js_c2i rfl rfl ⟨rfl, rfl⟩ rfl rfl (t_M_isPerson rfl) (by omega) ?_
  refine js_ifc (tgt := 23) rfl rfl (fun h => ?_) (fun h => ?_)
  · have hf := jif_t hf h
    refine jR_in rfl ⟨rfl, rfl, rfl⟩ rfl ?_
    refine js_iconst (v := (-1 : Int32)) rfl ?_
    obtain rfl := Option.some.inj hf
    exact js_iret rfl rfl
  · have hf := jif_f hf h
    refine js_aload_n rfl ?_
    refine js_iload_n rfl ?_
    refine js_iconst (v := (0 : Int32)) rfl ?_
    refine js_iconst (v := (1 : Int32)) rfl ?_
    refine js_c4i rfl rfl ⟨rfl, rfl⟩ rfl rfl (t_M_isIn rfl) (by omega) ?_
    refine js_ifc (tgt := 25) rfl rfl (fun h => ?_) (fun h => ?_)
    · have hf := jif_t hf h
      refine jR_in rfl ⟨rfl, rfl, rfl⟩ rfl ?_
      refine js_aload_n rfl ?_
      refine js_aload_n rfl ?_
      refine js_getr rfl rfl rfl ?_
      refine js_iload_n rfl ?_
      obtain ⟨hb4, hf⟩ := jg_some hf
      refine js_iald rfl hb4 ?_
      refine js_iconst (v := (0 : Int32)) rfl ?_
      obtain ⟨q5, hc_5, hf⟩ := jbind hf
      refine js_c3i rfl rfl ⟨rfl, rfl⟩ rfl rfl (t_M_freeFrom hc_5) (by omega) ?_
      refine js_istore_n rfl rfl ?_
      refine js_iload_n rfl ?_
      refine js_ifc (tgt := 45) rfl rfl (fun h => ?_) (fun h => ?_)
      · have hf := jif_t hf h
        refine jR_in rfl ⟨rfl, rfl, rfl⟩ rfl ?_
        refine js_aload_n rfl ?_
        refine js_iconst (v := (0 : Int32)) rfl ?_
        refine js_aload_n rfl ?_
        refine js_getr rfl rfl rfl ?_
        refine js_iload_n rfl ?_
        obtain ⟨hb6, hf⟩ := jg_some hf
        refine js_iald rfl hb6 ?_
        refine js_aload_n rfl ?_
        refine js_getr rfl rfl rfl ?_
        refine js_bipush (v := (26 : Int32)) rfl ?_
        refine js_iload_n rfl ?_
        refine js_iadd ?_
        obtain ⟨hb7, hf⟩ := jg_some hf
        refine js_iald rfl hb7 ?_
        refine js_isub ?_
        refine js_c3i rfl rfl ⟨rfl, rfl⟩ rfl rfl (t_M_greater rfl) (by omega) ?_
        refine js_iload_n rfl ?_
        refine js_icmp (tgt := 74) rfl rfl (fun h => ?_) (fun h => ?_)
        · have hf := jif_t hf h
          refine jR_in rfl ⟨rfl, rfl, rfl⟩ rfl ?_
          refine js_iconst (v := (0 : Int32)) rfl ?_
          obtain rfl := Option.some.inj hf
          exact js_iret rfl rfl
        · have hf := jif_f hf h
          refine js_iconst (v := (1 : Int32)) rfl ?_
          refine js_goto (tgt := 75) rfl rfl ?_
          refine jR_in rfl ⟨rfl, rfl, rfl⟩ rfl ?_
          obtain rfl := Option.some.inj hf
          exact js_iret rfl rfl
      · have hf := jif_f hf h
        refine js_iload_n rfl ?_
        refine js_goto (tgt := 75) rfl rfl ?_
        refine jR_in rfl ⟨rfl, rfl, rfl⟩ rfl ?_
        obtain rfl := Option.some.inj hf
        exact js_iret rfl rfl
    · have hf := jif_f hf h
      refine js_iconst (v := (-1 : Int32)) rfl ?_
      obtain rfl := Option.some.inj hf
      exact js_iret rfl rfl
/-! SwallowsAirModel.leaps(I)I -/
def f_M_leaps_88 (c13 : Int32 → Int32 → jp_M → Option (Int32 × jp_M)) (l1 : Int32) (l2 : Int32) (M : jp_M) : Option (Int32 × jp_M) :=
  c13 l1 (l2 + (1 : Int32)) M
theorem t_M_leaps_88 {Ln : Nat} {xs : Nat → Int32} {sv : jp_V} {d : Nat} (hd : 3 ≤ d) {c13 : Int32 → Int32 → jp_M → Option (Int32 × jp_M)} (hc13 : ∀ (l1 : Int32) (l2 : Int32) (o3 : Option jp_V) (w : Nat) (M : jp_M) (res : Int32 × jp_M), c13 l1 l2 M = some res → jR (jZ (jK Ln xs sv)) d 270 20 ([some (.inr (some 104)), some (.inl l1), some (.inl l2), o3], [], jSH w, M) (some (.inl res.1), jSH w, res.2)) (l1 : Int32) (l2 : Int32) (o3 : Option jp_V) (w : Nat) (M : jp_M) {res : Int32 × jp_M} (hf : f_M_leaps_88 c13 l1 l2 M = some res) : jR (jZ (jK Ln xs sv)) d 270 88 ([some (.inr (some 104)), some (.inl l1), some (.inl l2), o3], [], jSH w, M) (some (.inl res.1), jSH w, res.2) := by
  unfold f_M_leaps_88 at hf
  refine jR_in rfl ⟨rfl, rfl, rfl⟩ rfl ?_
  refine js_iinc (v := (1 : Int32)) rfl rfl rfl rfl ?_
  refine js_goto (tgt := 20) rfl rfl ?_
  exact hc13 _ _ _ _ _ _ hf
def f_M_leaps_42  : Nat → (Int32 → Int32 → jp_M → Option (Int32 × jp_M)) → Int32 → Int32 → Int32 → jp_M → Option (Int32 × jp_M)
  | 0, _, _, _, _, _ => none
  | n + 1, c13, l1, l2, l3, M =>
    if jp_c .gt l3 (f_M_lesser (3 : Int32) l2) = true then (
    f_M_leaps_88 c13 l1 l2 M) else (
    (f_M_isFree l2 (0 : Int32) M).bind fun q2 => (
    if jp_c .eq q2 0 = true then (
    f_M_leaps_88 c13 l1 l2 M) else (
    jg (jp_in l2 80) (
    jg (jp_in (l2 - l3) 80) (
    jg (jp_in l2 80) (
    let M5 := jp_set M 127 (upd (M 127) (Int32.toNatClampNeg l2) ((M 127 (Int32.toNatClampNeg l2)) + (M 127 (Int32.toNatClampNeg (l2 - l3)))))
    f_M_leaps_42 n c13 l1 l2 (l3 + (1 : Int32)) M5))))))
theorem t_M_leaps_42 {Ln : Nat} {xs : Nat → Int32} {sv : jp_V} {d : Nat} (hd : 3 ≤ d) {c13 : Int32 → Int32 → jp_M → Option (Int32 × jp_M)} (hc13 : ∀ (l1 : Int32) (l2 : Int32) (o3 : Option jp_V) (w : Nat) (M : jp_M) (res : Int32 × jp_M), c13 l1 l2 M = some res → jR (jZ (jK Ln xs sv)) d 270 20 ([some (.inr (some 104)), some (.inl l1), some (.inl l2), o3], [], jSH w, M) (some (.inl res.1), jSH w, res.2)) : ∀ (n : Nat) (l1 : Int32) (l2 : Int32) (l3 : Int32) (w : Nat) (M : jp_M) {res : Int32 × jp_M}, f_M_leaps_42 n c13 l1 l2 l3 M = some res → jR (jZ (jK Ln xs sv)) d 270 42 ([some (.inr (some 104)), some (.inl l1), some (.inl l2), some (.inl l3)], [], jSH w, M) (some (.inl res.1), jSH w, res.2) := by
  intro n
  induction n with
  | zero =>
    intro l1 l2 l3 w M res hf
    cases hf
  | succ n ih =>
    intro l1 l2 l3 w M res hf
    rw [f_M_leaps_42] at hf
    refine jR_in rfl ⟨rfl, rfl, rfl⟩ rfl ?_
    refine js_iload_n rfl ?_
    refine js_aload_n rfl ?_
    refine js_iconst (v := (3 : Int32)) rfl ?_
    refine js_iload_n rfl ?_
    refine js_c3i rfl rfl ⟨rfl, rfl⟩ rfl rfl (t_M_lesser rfl) (by omega) ?_
    refine js_icmp (tgt := 88) rfl rfl (fun h => ?_) (fun h => ?_)
    · have hf := jif_t hf h
      exact t_M_leaps_88 hd hc13 _ _ _ _ _ hf
    · have hf := jif_f hf h
      refine js_aload_n rfl ?_
      refine js_iload_n rfl ?_
      refine js_iconst (v := (0 : Int32)) rfl ?_
      obtain ⟨q2, hc_2, hf⟩ := jbind hf
      refine js_c3i rfl rfl ⟨rfl, rfl⟩ rfl rfl (t_M_isFree hc_2) (by omega) ?_
      refine js_ifc (tgt := 88) rfl rfl (fun h => ?_) (fun h => ?_)
      · have hf := jif_t hf h
        exact t_M_leaps_88 hd hc13 _ _ _ _ _ hf
      · have hf := jif_f hf h
        refine js_aload_n rfl ?_
        refine js_getr rfl rfl rfl ?_
        refine js_iload_n rfl ?_
        refine js_aload_n rfl ?_
        refine js_getr rfl rfl rfl ?_
        refine js_iload_n rfl ?_
        obtain ⟨hb3, hf⟩ := jg_some hf
        refine js_iald rfl hb3 ?_
        refine js_aload_n rfl ?_
        refine js_getr rfl rfl rfl ?_
        refine js_iload_n rfl ?_
        refine js_iload_n rfl ?_
        refine js_isub ?_
        obtain ⟨hb4, hf⟩ := jg_some hf
        refine js_iald rfl hb4 ?_
        refine js_iadd ?_
        obtain ⟨hb6, hf⟩ := jg_some hf
        refine js_iast rfl hb6 ?_
        refine js_iinc (v := (1 : Int32)) rfl rfl rfl rfl ?_
        refine js_goto (tgt := 42) rfl rfl ?_
        exact ih _ _ _ _ _ hf
def f_M_leaps_39 (c13 : Int32 → Int32 → jp_M → Option (Int32 × jp_M)) (l1 : Int32) (l2 : Int32) (s1 : Int32) (s2 : Int32) (M : jp_M) : Option (Int32 × jp_M) :=
  jg (jp_in s1 80) (
  let M1 := jp_set M 127 (upd (M 127) (Int32.toNatClampNeg s1) s2)
  f_M_leaps_42 jFu c13 l1 l2 (1 : Int32) M1)
theorem t_M_leaps_39 {Ln : Nat} {xs : Nat → Int32} {sv : jp_V} {d : Nat} (hd : 3 ≤ d) {c13 : Int32 → Int32 → jp_M → Option (Int32 × jp_M)} (hc13 : ∀ (l1 : Int32) (l2 : Int32) (o3 : Option jp_V) (w : Nat) (M : jp_M) (res : Int32 × jp_M), c13 l1 l2 M = some res → jR (jZ (jK Ln xs sv)) d 270 20 ([some (.inr (some 104)), some (.inl l1), some (.inl l2), o3], [], jSH w, M) (some (.inl res.1), jSH w, res.2)) (l1 : Int32) (l2 : Int32) (s1 : Int32) (s2 : Int32) (o3 : Option jp_V) (w : Nat) (M : jp_M) {res : Int32 × jp_M} (hf : f_M_leaps_39 c13 l1 l2 s1 s2 M = some res) : jR (jZ (jK Ln xs sv)) d 270 39 ([some (.inr (some 104)), some (.inl l1), some (.inl l2), o3], [.inl s2, .inl s1, (.inr (some 127))], jSH w, M) (some (.inl res.1), jSH w, res.2) := by
  unfold f_M_leaps_39 at hf
  refine jR_in rfl ⟨rfl, rfl, rfl⟩ rfl ?_
  obtain ⟨hb2, hf⟩ := jg_some hf
  refine js_iast rfl hb2 ?_
  refine js_iconst (v := (1 : Int32)) rfl ?_
  refine js_istore_n rfl rfl ?_
  exact jS_out rfl ⟨rfl, rfl, rfl⟩ rfl (t_M_leaps_42 hd hc13 jFu _ _ _ _ _ hf)
def f_M_leaps_20  : Nat → Int32 → Int32 → jp_M → Option (Int32 × jp_M)
  | 0, _, _, _ => none
  | n + 1, l1, l2, M =>
    if jp_c .gt l2 l1 = true then (
    jg (jp_in l1 80) (
    some ((M 127 (Int32.toNatClampNeg l1)), M))) else (
    if jp_c .ne l2 0 = true then (
    f_M_leaps_39 (f_M_leaps_20 n ) l1 l2 l2 (0 : Int32) M) else (
    f_M_leaps_39 (f_M_leaps_20 n ) l1 l2 l2 (1 : Int32) M))
theorem t_M_leaps_20 {Ln : Nat} {xs : Nat → Int32} {sv : jp_V} {d : Nat} (hd : 3 ≤ d)  : ∀ (n : Nat) (l1 : Int32) (l2 : Int32) (o3 : Option jp_V) (w : Nat) (M : jp_M) {res : Int32 × jp_M}, f_M_leaps_20 n  l1 l2 M = some res → jR (jZ (jK Ln xs sv)) d 270 20 ([some (.inr (some 104)), some (.inl l1), some (.inl l2), o3], [], jSH w, M) (some (.inl res.1), jSH w, res.2) := by
  intro n
  induction n with
  | zero =>
    intro l1 l2 o3 w M res hf
    cases hf
  | succ n ih =>
    intro l1 l2 o3 w M res hf
    rw [f_M_leaps_20] at hf
    refine jR_in rfl ⟨rfl, rfl, rfl⟩ rfl ?_
    refine js_iload_n rfl ?_
    refine js_iload_n rfl ?_
    refine js_icmp (tgt := 94) rfl rfl (fun h => ?_) (fun h => ?_)
    · have hf := jif_t hf h
      refine jR_in rfl ⟨rfl, rfl, rfl⟩ rfl ?_
      refine js_aload_n rfl ?_
      refine js_getr rfl rfl rfl ?_
      refine js_iload_n rfl ?_
      obtain ⟨hb1, hf⟩ := jg_some hf
      refine js_iald rfl hb1 ?_
      obtain rfl := Option.some.inj hf
      exact js_iret rfl rfl
    · have hf := jif_f hf h
      refine js_aload_n rfl ?_
      refine js_getr rfl rfl rfl ?_
      refine js_iload_n rfl ?_
      refine js_iload_n rfl ?_
      refine js_ifc (tgt := 38) rfl rfl (fun h => ?_) (fun h => ?_)
      · have hf := jif_t hf h
        refine jR_in rfl ⟨rfl, rfl, rfl⟩ rfl ?_
        refine js_iconst (v := (0 : Int32)) rfl ?_
        exact jS_out rfl ⟨rfl, rfl, rfl⟩ rfl (t_M_leaps_39 hd (fun l1 l2 o3 w M res hf => ih l1 l2 o3 w M hf) _ _ _ _ _ _ _ hf)
      · have hf := jif_f hf h
        refine js_iconst (v := (1 : Int32)) rfl ?_
        refine js_goto (tgt := 39) rfl rfl ?_
        exact t_M_leaps_39 hd (fun l1 l2 o3 w M res hf => ih l1 l2 o3 w M hf) _ _ _ _ _ _ _ hf
def f_M_leaps (a1 : Int32) (M : jp_M) : Option (Int32 × jp_M) :=
  let M1 := jp_set M 104 (upd (M 104) 0 (0 : Int32))
  if jp_c .ne (f_M_isIn a1 (1 : Int32) (9 : Int32)) 0 = true then (
  f_M_leaps_20 jFu a1 (0 : Int32) M1) else (
  some ((-1 : Int32), M1))
theorem t_M_leaps {Ln : Nat} {xs : Nat → Int32} {sv : jp_V} {a1 : Int32} {w : Nat} {M : jp_M} {res : Int32 × jp_M} (hf : f_M_leaps a1 M = some res) : jE (jZ (jK Ln xs sv)) 3 270 [(.inr (some 104)), (.inl a1)] (jSH w) M (some (.inl res.1), jSH w, res.2) := by
  unfold f_M_leaps at hf
  refine jE_in (L0 := [some (.inr (some 104)), some (.inl a1), none, none]) rfl (Nat.le_of_ble_eq_true rfl) rfl (fun d hd => ?_)
  refine jR_in rfl ⟨rfl, rfl, rfl⟩ rfl ?_
  refine js_aload_n rfl ?_
  refine js_iconst (v := (0 : Int32)) rfl ?_
  refine js_puti rfl rfl (Or.inl rfl) ?_
  refine js_aload_n rfl ?_
  refine js_iload_n rfl ?_
  refine js_iconst (v := (1 : Int32)) rfl ?_
  refine js_bipush (v := (9 : Int32)) rfl ?_
  refine js_c4i rfl rfl ⟨rfl, rfl⟩ rfl rfl (t_M_isIn rfl) (by omega) ?_
  refine js_ifc (tgt := 18) rfl rfl (fun h => ?_) (fun h => ?_)
  · have hf := jif_t hf h
    refine jR_in rfl ⟨rfl, rfl, rfl⟩ rfl ?_
    refine js_iconst (v := (0 : Int32)) rfl ?_
    refine js_istore_n rfl rfl ?_
    exact jS_out rfl ⟨rfl, rfl, rfl⟩ rfl (t_M_leaps_20 hd jFu _ _ _ _ _ hf)
  · have hf := jif_f hf h
    refine js_iconst (v := (-1 : Int32)) rfl ?_
    obtain rfl := Option.some.inj hf
    exact js_iret rfl rfl
/-! SwallowsAirModel.wish(III)I -/
def f_M_wish (a1 : Int32) (a2 : Int32) (a3 : Int32) (M : jp_M) : Option (Int32 × jp_M) :=
  let M1 := jp_set M 104 (upd (M 104) 0 (0 : Int32))
  if jp_c .ne a1 (-1 : Int32) = true then (
  if jp_c .eq (f_M_isIn a1 (0 : Int32) a2) 0 = true then (
  some ((-1 : Int32), M1)) else (
  if jp_c .eq (f_M_isIn a2 (0 : Int32) (99 : Int32)) 0 = true then (
  some ((-1 : Int32), M1)) else (
  if jp_c .eq (f_M_isIn a3 (0 : Int32) (99 : Int32)) 0 = true then (
  some ((-1 : Int32), M1)) else (
  if jp_c .ne (M1 104 45) (8 : Int32) = true then (
  jg (jp_in (M1 104 45) 8) (
  let M5 := jp_set M1 129 (upd (M1 129) (Int32.toNatClampNeg (M1 104 45)) a1)
  jg (jp_in (M5 104 45) 8) (
  let M7 := jp_set M5 130 (upd (M5 130) (Int32.toNatClampNeg (M5 104 45)) a2)
  jg (jp_in (M7 104 45) 8) (
  let M9 := jp_set M7 131 (upd (M7 131) (Int32.toNatClampNeg (M7 104 45)) a3)
  let M11 := jp_set M9 104 (upd (M9 104) 45 ((M9 104 45) + (1 : Int32)))
  some ((M11 104 45), M11))))) else (
  some ((-1 : Int32), M1)))))) else (
  let M12 := jp_set M1 104 (upd (M1 104) 45 (0 : Int32))
  some ((0 : Int32), M12))
theorem t_M_wish {Ln : Nat} {xs : Nat → Int32} {sv : jp_V} {a1 : Int32} {a2 : Int32} {a3 : Int32} {w : Nat} {M : jp_M} {res : Int32 × jp_M} (hf : f_M_wish a1 a2 a3 M = some res) : jE (jZ (jK Ln xs sv)) 1 271 [(.inr (some 104)), (.inl a1), (.inl a2), (.inl a3)] (jSH w) M (some (.inl res.1), jSH w, res.2) := by
  unfold f_M_wish at hf
  refine jE_in (L0 := [some (.inr (some 104)), some (.inl a1), some (.inl a2), some (.inl a3)]) rfl (Nat.le_of_ble_eq_true rfl) rfl (fun d hd => ?_)
  refine jR_in rfl ⟨rfl, rfl, rfl⟩ rfl ?_
  refine js_aload_n rfl ?_
  refine js_iconst (v := (0 : Int32)) rfl ?_
  refine js_puti rfl rfl (Or.inl rfl) ?_
  refine js_iload_n rfl ?_
  refine js_iconst (v := (-1 : Int32)) rfl ?_
  refine js_icmp (tgt := 17) rfl rfl (fun h => ?_) (fun h => ?_)
  · have hf := jif_t hf h
    refine jR_in rfl ⟨rfl, rfl, rfl⟩ rfl ?_
    refine js_aload_n rfl ?_
    refine js_iload_n rfl ?_
    refine js_iconst (v := (0 : Int32)) rfl ?_
    refine js_iload_n rfl ?_
    refine js_c4i rfl rfl ⟨rfl, rfl⟩ rfl rfl (t_M_isIn rfl) (by omega) ?_
    refine js_ifc (tgt := 58) rfl rfl (fun h => ?_) (fun h => ?_)
    · have hf := jif_t hf h
      refine jR_in rfl ⟨rfl, rfl, rfl⟩ rfl ?_
      refine js_iconst (v := (-1 : Int32)) rfl ?_
      obtain rfl := Option.some.inj hf
      exact js_iret rfl rfl
    · have hf := jif_f hf h
      refine js_aload_n rfl ?_
      refine js_iload_n rfl ?_
      refine js_iconst (v := (0 : Int32)) rfl ?_
      refine js_bipush (v := (99 : Int32)) rfl ?_
      refine js_c4i rfl rfl ⟨rfl, rfl⟩ rfl rfl (t_M_isIn rfl) (by omega) ?_
      refine js_ifc (tgt := 58) rfl rfl (fun h => ?_) (fun h => ?_)
      · have hf := jif_t hf h
        refine jR_in rfl ⟨rfl, rfl, rfl⟩ rfl ?_
        refine js_iconst (v := (-1 : Int32)) rfl ?_
        obtain rfl := Option.some.inj hf
        exact js_iret rfl rfl
      · have hf := jif_f hf h
        refine js_aload_n rfl ?_
        refine js_iload_n rfl ?_
        refine js_iconst (v := (0 : Int32)) rfl ?_
        refine js_bipush (v := (99 : Int32)) rfl ?_
        refine js_c4i rfl rfl ⟨rfl, rfl⟩ rfl rfl (t_M_isIn rfl) (by omega) ?_
        refine js_ifc (tgt := 58) rfl rfl (fun h => ?_) (fun h => ?_)
        · have hf := jif_t hf h
          refine jR_in rfl ⟨rfl, rfl, rfl⟩ rfl ?_
          refine js_iconst (v := (-1 : Int32)) rfl ?_
          obtain rfl := Option.some.inj hf
          exact js_iret rfl rfl
        · have hf := jif_f hf h
          refine js_aload_n rfl ?_
          refine js_geti rfl rfl rfl ?_
          refine js_bipush (v := (8 : Int32)) rfl ?_
          refine js_icmp (tgt := 60) rfl rfl (fun h => ?_) (fun h => ?_)
          · have hf := jif_t hf h
            refine jR_in rfl ⟨rfl, rfl, rfl⟩ rfl ?_
            refine js_aload_n rfl ?_
            refine js_getr rfl rfl rfl ?_
            refine js_aload_n rfl ?_
            refine js_geti rfl rfl rfl ?_
            refine js_iload_n rfl ?_
            obtain ⟨hb6, hf⟩ := jg_some hf
            refine js_iast rfl hb6 ?_
            refine js_aload_n rfl ?_
            refine js_getr rfl rfl rfl ?_
            refine js_aload_n rfl ?_
            refine js_geti rfl rfl rfl ?_
            refine js_iload_n rfl ?_
            obtain ⟨hb8, hf⟩ := jg_some hf
            refine js_iast rfl hb8 ?_
            refine js_aload_n rfl ?_
            refine js_getr rfl rfl rfl ?_
            refine js_aload_n rfl ?_
            refine js_geti rfl rfl rfl ?_
            refine js_iload_n rfl ?_
            obtain ⟨hb10, hf⟩ := jg_some hf
            refine js_iast rfl hb10 ?_
            refine js_aload_n rfl ?_
            refine js_aload_n rfl ?_
            refine js_geti rfl rfl rfl ?_
            refine js_iconst (v := (1 : Int32)) rfl ?_
            refine js_iadd ?_
            refine js_puti rfl rfl (Or.inl rfl) ?_
            refine js_aload_n rfl ?_
            refine js_geti rfl rfl rfl ?_
            obtain rfl := Option.some.inj hf
            exact js_iret rfl rfl
          · have hf := jif_f hf h
            refine js_iconst (v := (-1 : Int32)) rfl ?_
            obtain rfl := Option.some.inj hf
            exact js_iret rfl rfl
  · have hf := jif_f hf h
    refine js_aload_n rfl ?_
    refine js_iconst (v := (0 : Int32)) rfl ?_
    refine js_puti rfl rfl (Or.inl rfl) ?_
    refine js_iconst (v := (0 : Int32)) rfl ?_
    obtain rfl := Option.some.inj hf
    exact js_iret rfl rfl
/-! SwallowsAirModel.has(II)Z -/
def f_M_has (a1 : Int32) (a2 : Int32) : Int32 :=
  if jp_c .ne ((a1 >>> (a2 &&& 31)) &&& (1 : Int32)) (1 : Int32) = true then (
  (0 : Int32)) else (
  (1 : Int32))
theorem t_M_has {Ln : Nat} {xs : Nat → Int32} {sv : jp_V} {a1 : Int32} {a2 : Int32} {w : Nat} {M : jp_M} {res : Int32} (hf : f_M_has a1 a2 = res) : jE (jZ (jK Ln xs sv)) 0 170 [(.inr (some 104)), (.inl a1), (.inl a2)] (jSH w) M (some (.inl res), jSH w, M) := by
  unfold f_M_has at hf
  refine jE_in (L0 := [some (.inr (some 104)), some (.inl a1), some (.inl a2)]) rfl (Nat.le_of_ble_eq_true rfl) rfl (fun d hd => ?_)
  refine jR_in rfl ⟨rfl, rfl, rfl⟩ rfl ?_
  refine js_iload_n rfl ?_
  refine js_iload_n rfl ?_
  refine js_ishr ?_
  refine js_iconst (v := (1 : Int32)) rfl ?_
  refine js_iand ?_
  refine js_iconst (v := (1 : Int32)) rfl ?_
  refine js_icmp (tgt := 13) rfl rfl (fun h => ?_) (fun h => ?_)
  · have hf := jif_t hf h
    refine jR_in rfl ⟨rfl, rfl, rfl⟩ rfl ?_
    refine js_iconst (v := (0 : Int32)) rfl ?_
    subst hf
    exact js_iret rfl rfl
  · have hf := jif_f hf h
    refine js_iconst (v := (1 : Int32)) rfl ?_
    refine js_goto (tgt := 14) rfl rfl ?_
    refine jR_in rfl ⟨rfl, rfl, rfl⟩ rfl ?_
    subst hf
    exact js_iret rfl rfl
theorem b_M_has {a1 : Int32} {a2 : Int32} {res : Int32} (hf : f_M_has a1 a2 = res) : res = 0 ∨ res = 1 := by
  unfold f_M_has at hf
  rcases jif_d hf with ⟨h, hf⟩ | ⟨h, hf⟩
  · subst hf
    exact Or.inl rfl
  · subst hf
    exact Or.inr rfl
/-! SwallowsAirModel.worthOf(I)I -/
def f_M_worthOf_30 (c4 : Int32 → Int32 → Int32 → jp_M → Option (Int32)) (l1 : Int32) (l2 : Int32) (l3 : Int32) (M : jp_M) : Option (Int32) :=
  c4 l1 l2 (l3 + (1 : Int32)) M
theorem t_M_worthOf_30 {Ln : Nat} {xs : Nat → Int32} {sv : jp_V} {d : Nat} (hd : 1 ≤ d) {c4 : Int32 → Int32 → Int32 → jp_M → Option (Int32)} (hc4 : ∀ (l1 : Int32) (l2 : Int32) (l3 : Int32) (w : Nat) (M : jp_M) (res : Int32), c4 l1 l2 l3 M = some res → jR (jZ (jK Ln xs sv)) d 273 4 ([some (.inr (some 104)), some (.inl l1), some (.inl l2), some (.inl l3)], [], jSH w, M) (some (.inl res), jSH w, M)) (l1 : Int32) (l2 : Int32) (l3 : Int32) (w : Nat) (M : jp_M) {res : Int32} (hf : f_M_worthOf_30 c4 l1 l2 l3 M = some res) : jR (jZ (jK Ln xs sv)) d 273 30 ([some (.inr (some 104)), some (.inl l1), some (.inl l2), some (.inl l3)], [], jSH w, M) (some (.inl res), jSH w, M) := by
  unfold f_M_worthOf_30 at hf
  refine jR_in rfl ⟨rfl, rfl, rfl⟩ rfl ?_
  refine js_iinc (v := (1 : Int32)) rfl rfl rfl rfl ?_
  refine js_goto (tgt := 4) rfl rfl ?_
  exact hc4 _ _ _ _ _ _ hf
def f_M_worthOf_4  : Nat → Int32 → Int32 → Int32 → jp_M → Option (Int32)
  | 0, _, _, _, _ => none
  | n + 1, l1, l2, l3, M =>
    if jp_c .ge l3 (M 104 45) = true then (
    some l2) else (
    if jp_c .eq (f_M_has l1 l3) 0 = true then (
    f_M_worthOf_30 (f_M_worthOf_4 n ) l1 l2 l3 M) else (
    jg (jp_in l3 8) (
    f_M_worthOf_30 (f_M_worthOf_4 n ) l1 (l2 + (M 131 (Int32.toNatClampNeg l3))) l3 M)))
theorem t_M_worthOf_4 {Ln : Nat} {xs : Nat → Int32} {sv : jp_V} {d : Nat} (hd : 1 ≤ d)  : ∀ (n : Nat) (l1 : Int32) (l2 : Int32) (l3 : Int32) (w : Nat) (M : jp_M) {res : Int32}, f_M_worthOf_4 n  l1 l2 l3 M = some res → jR (jZ (jK Ln xs sv)) d 273 4 ([some (.inr (some 104)), some (.inl l1), some (.inl l2), some (.inl l3)], [], jSH w, M) (some (.inl res), jSH w, M) := by
  intro n
  induction n with
  | zero =>
    intro l1 l2 l3 w M res hf
    cases hf
  | succ n ih =>
    intro l1 l2 l3 w M res hf
    rw [f_M_worthOf_4] at hf
    refine jR_in rfl ⟨rfl, rfl, rfl⟩ rfl ?_
    refine js_iload_n rfl ?_
    refine js_aload_n rfl ?_
    refine js_geti rfl rfl rfl ?_
    refine js_icmp (tgt := 36) rfl rfl (fun h => ?_) (fun h => ?_)
    · have hf := jif_t hf h
      refine jR_in rfl ⟨rfl, rfl, rfl⟩ rfl ?_
      refine js_iload_n rfl ?_
      obtain rfl := Option.some.inj hf
      exact js_iret rfl rfl
    · have hf := jif_f hf h
      refine js_aload_n rfl ?_
      refine js_iload_n rfl ?_
      refine js_iload_n rfl ?_
      refine js_c3i rfl rfl ⟨rfl, rfl⟩ rfl rfl (t_M_has rfl) (by omega) ?_
      refine js_ifc (tgt := 30) rfl rfl (fun h => ?_) (fun h => ?_)
      · have hf := jif_t hf h
        exact t_M_worthOf_30 hd (fun l1 l2 l3 w M res hf => ih l1 l2 l3 w M hf) _ _ _ _ _ hf
      · have hf := jif_f hf h
        refine js_iload_n rfl ?_
        refine js_aload_n rfl ?_
        refine js_getr rfl rfl rfl ?_
        refine js_iload_n rfl ?_
        obtain ⟨hb2, hf⟩ := jg_some hf
        refine js_iald rfl hb2 ?_
        refine js_iadd ?_
        refine js_istore_n rfl rfl ?_
        exact jS_out rfl ⟨rfl, rfl, rfl⟩ rfl (t_M_worthOf_30 hd (fun l1 l2 l3 w M res hf => ih l1 l2 l3 w M hf) _ _ _ _ _ hf)
def f_M_worthOf (a1 : Int32) (M : jp_M) : Option (Int32) :=
  f_M_worthOf_4 jFu a1 (0 : Int32) (0 : Int32) M
theorem t_M_worthOf {Ln : Nat} {xs : Nat → Int32} {sv : jp_V} {a1 : Int32} {w : Nat} {M : jp_M} {res : Int32} (hf : f_M_worthOf a1 M = some res) : jE (jZ (jK Ln xs sv)) 1 273 [(.inr (some 104)), (.inl a1)] (jSH w) M (some (.inl res), jSH w, M) := by
  unfold f_M_worthOf at hf
  refine jE_in (L0 := [some (.inr (some 104)), some (.inl a1), none, none]) rfl (Nat.le_of_ble_eq_true rfl) rfl (fun d hd => ?_)
  refine jR_in rfl ⟨rfl, rfl, rfl⟩ rfl ?_
  refine js_iconst (v := (0 : Int32)) rfl ?_
  refine js_istore_n rfl rfl ?_
  refine js_iconst (v := (0 : Int32)) rfl ?_
  refine js_istore_n rfl rfl ?_
  exact jS_out rfl ⟨rfl, rfl, rfl⟩ rfl (t_M_worthOf_4 hd jFu _ _ _ _ _ hf)
/-! SwallowsAirModel.areBeside(I)Z -/
def f_M_areBeside_67 (c2 : Int32 → Int32 → jp_M → Option (Int32)) (c8 : Int32 → Int32 → Int32 → jp_M → Option (Int32)) (l1 : Int32) (l2 : Int32) (l3 : Int32) (M : jp_M) : Option (Int32) :=
  c8 l1 l2 (l3 + (1 : Int32)) M
theorem t_M_areBeside_67 {Ln : Nat} {xs : Nat → Int32} {sv : jp_V} {d : Nat} (hd : 1 ≤ d) {c2 : Int32 → Int32 → jp_M → Option (Int32)} (hc2 : ∀ (l1 : Int32) (l2 : Int32) (o3 : Option jp_V) (w : Nat) (M : jp_M) (res : Int32), c2 l1 l2 M = some res → jR (jZ (jK Ln xs sv)) d 272 2 ([some (.inr (some 104)), some (.inl l1), some (.inl l2), o3], [], jSH w, M) (some (.inl res), jSH w, M)) {c8 : Int32 → Int32 → Int32 → jp_M → Option (Int32)} (hc8 : ∀ (l1 : Int32) (l2 : Int32) (l3 : Int32) (w : Nat) (M : jp_M) (res : Int32), c8 l1 l2 l3 M = some res → jR (jZ (jK Ln xs sv)) d 272 12 ([some (.inr (some 104)), some (.inl l1), some (.inl l2), some (.inl l3)], [], jSH w, M) (some (.inl res), jSH w, M)) (l1 : Int32) (l2 : Int32) (l3 : Int32) (w : Nat) (M : jp_M) {res : Int32} (hf : f_M_areBeside_67 c2 c8 l1 l2 l3 M = some res) : jR (jZ (jK Ln xs sv)) d 272 67 ([some (.inr (some 104)), some (.inl l1), some (.inl l2), some (.inl l3)], [], jSH w, M) (some (.inl res), jSH w, M) := by
  unfold f_M_areBeside_67 at hf
  refine jR_in rfl ⟨rfl, rfl, rfl⟩ rfl ?_
  refine js_iinc (v := (1 : Int32)) rfl rfl rfl rfl ?_
  refine js_goto (tgt := 12) rfl rfl ?_
  exact hc8 _ _ _ _ _ _ hf
theorem b_M_areBeside_67 {c2 : Int32 → Int32 → jp_M → Option (Int32)} (hc2 : ∀ (l1 : Int32) (l2 : Int32) (M : jp_M) (res : Int32), c2 l1 l2 M = some res → (res = 0 ∨ res = 1)) {c8 : Int32 → Int32 → Int32 → jp_M → Option (Int32)} (hc8 : ∀ (l1 : Int32) (l2 : Int32) (l3 : Int32) (M : jp_M) (res : Int32), c8 l1 l2 l3 M = some res → (res = 0 ∨ res = 1)) (l1 : Int32) (l2 : Int32) (l3 : Int32) (M : jp_M) {res : Int32} (hf : f_M_areBeside_67 c2 c8 l1 l2 l3 M = some res) : res = 0 ∨ res = 1 := by
  unfold f_M_areBeside_67 at hf
  exact hc8 _ _ _ _ _ hf
def f_M_areBeside_12  : Nat → (Int32 → Int32 → jp_M → Option (Int32)) → Int32 → Int32 → Int32 → jp_M → Option (Int32)
  | 0, _, _, _, _, _ => none
  | n + 1, c2, l1, l2, l3, M =>
    if jp_c .ge l3 l2 = true then (
    c2 l1 (l2 + (1 : Int32)) M) else (
    if jp_c .eq (f_M_has l1 l2) 0 = true then (
    f_M_areBeside_67 c2 (f_M_areBeside_12 n c2) l1 l2 l3 M) else (
    if jp_c .eq (f_M_has l1 l3) 0 = true then (
    f_M_areBeside_67 c2 (f_M_areBeside_12 n c2) l1 l2 l3 M) else (
    jg (jp_in l2 8) (
    jg (jp_in l3 8) (
    if jp_c .gt (M 129 (Int32.toNatClampNeg l2)) (M 130 (Int32.toNatClampNeg l3)) = true then (
    f_M_areBeside_67 c2 (f_M_areBeside_12 n c2) l1 l2 l3 M) else (
    jg (jp_in l3 8) (
    jg (jp_in l2 8) (
    if jp_c .gt (M 129 (Int32.toNatClampNeg l3)) (M 130 (Int32.toNatClampNeg l2)) = true then (
    f_M_areBeside_67 c2 (f_M_areBeside_12 n c2) l1 l2 l3 M) else (
    some (0 : Int32))))))))))
theorem t_M_areBeside_12 {Ln : Nat} {xs : Nat → Int32} {sv : jp_V} {d : Nat} (hd : 1 ≤ d) {c2 : Int32 → Int32 → jp_M → Option (Int32)} (hc2 : ∀ (l1 : Int32) (l2 : Int32) (o3 : Option jp_V) (w : Nat) (M : jp_M) (res : Int32), c2 l1 l2 M = some res → jR (jZ (jK Ln xs sv)) d 272 2 ([some (.inr (some 104)), some (.inl l1), some (.inl l2), o3], [], jSH w, M) (some (.inl res), jSH w, M)) : ∀ (n : Nat) (l1 : Int32) (l2 : Int32) (l3 : Int32) (w : Nat) (M : jp_M) {res : Int32}, f_M_areBeside_12 n c2 l1 l2 l3 M = some res → jR (jZ (jK Ln xs sv)) d 272 12 ([some (.inr (some 104)), some (.inl l1), some (.inl l2), some (.inl l3)], [], jSH w, M) (some (.inl res), jSH w, M) := by
  intro n
  induction n with
  | zero =>
    intro l1 l2 l3 w M res hf
    cases hf
  | succ n ih =>
    intro l1 l2 l3 w M res hf
    rw [f_M_areBeside_12] at hf
    refine jR_in rfl ⟨rfl, rfl, rfl⟩ rfl ?_
    refine js_iload_n rfl ?_
    refine js_iload_n rfl ?_
    refine js_icmp (tgt := 73) rfl rfl (fun h => ?_) (fun h => ?_)
    · have hf := jif_t hf h
      refine jR_in rfl ⟨rfl, rfl, rfl⟩ rfl ?_
      refine js_iinc (v := (1 : Int32)) rfl rfl rfl rfl ?_
      refine js_goto (tgt := 2) rfl rfl ?_
      exact hc2 _ _ _ _ _ _ hf
    · have hf := jif_f hf h
      refine js_aload_n rfl ?_
      refine js_iload_n rfl ?_
      refine js_iload_n rfl ?_
      refine js_c3i rfl rfl ⟨rfl, rfl⟩ rfl rfl (t_M_has rfl) (by omega) ?_
      refine js_ifc (tgt := 67) rfl rfl (fun h => ?_) (fun h => ?_)
      · have hf := jif_t hf h
        exact t_M_areBeside_67 hd hc2 (fun l1 l2 l3 w M res hf => ih l1 l2 l3 w M hf) _ _ _ _ _ hf
      · have hf := jif_f hf h
        refine js_aload_n rfl ?_
        refine js_iload_n rfl ?_
        refine js_iload_n rfl ?_
        refine js_c3i rfl rfl ⟨rfl, rfl⟩ rfl rfl (t_M_has rfl) (by omega) ?_
        refine js_ifc (tgt := 67) rfl rfl (fun h => ?_) (fun h => ?_)
        · have hf := jif_t hf h
          exact t_M_areBeside_67 hd hc2 (fun l1 l2 l3 w M res hf => ih l1 l2 l3 w M hf) _ _ _ _ _ hf
        · have hf := jif_f hf h
          refine js_aload_n rfl ?_
          refine js_getr rfl rfl rfl ?_
          refine js_iload_n rfl ?_
          obtain ⟨hb3, hf⟩ := jg_some hf
          refine js_iald rfl hb3 ?_
          refine js_aload_n rfl ?_
          refine js_getr rfl rfl rfl ?_
          refine js_iload_n rfl ?_
          obtain ⟨hb4, hf⟩ := jg_some hf
          refine js_iald rfl hb4 ?_
          refine js_icmp (tgt := 67) rfl rfl (fun h => ?_) (fun h => ?_)
          · have hf := jif_t hf h
            exact t_M_areBeside_67 hd hc2 (fun l1 l2 l3 w M res hf => ih l1 l2 l3 w M hf) _ _ _ _ _ hf
          · have hf := jif_f hf h
            refine js_aload_n rfl ?_
            refine js_getr rfl rfl rfl ?_
            refine js_iload_n rfl ?_
            obtain ⟨hb5, hf⟩ := jg_some hf
            refine js_iald rfl hb5 ?_
            refine js_aload_n rfl ?_
            refine js_getr rfl rfl rfl ?_
            refine js_iload_n rfl ?_
            obtain ⟨hb6, hf⟩ := jg_some hf
            refine js_iald rfl hb6 ?_
            refine js_icmp (tgt := 67) rfl rfl (fun h => ?_) (fun h => ?_)
            · have hf := jif_t hf h
              exact t_M_areBeside_67 hd hc2 (fun l1 l2 l3 w M res hf => ih l1 l2 l3 w M hf) _ _ _ _ _ hf
            · have hf := jif_f hf h
              refine js_iconst (v := (0 : Int32)) rfl ?_
              obtain rfl := Option.some.inj hf
              exact js_iret rfl rfl
theorem b_M_areBeside_12 {c2 : Int32 → Int32 → jp_M → Option (Int32)} (hc2 : ∀ (l1 : Int32) (l2 : Int32) (M : jp_M) (res : Int32), c2 l1 l2 M = some res → (res = 0 ∨ res = 1)) : ∀ (n : Nat) (l1 : Int32) (l2 : Int32) (l3 : Int32) (M : jp_M) {res : Int32}, f_M_areBeside_12 n c2 l1 l2 l3 M = some res → (res = 0 ∨ res = 1) := by
  intro n
  induction n with
  | zero =>
    intro l1 l2 l3 M res hf
    cases hf
  | succ n ih =>
    intro l1 l2 l3 M res hf
    rw [f_M_areBeside_12] at hf
    rcases jif_d hf with ⟨h, hf⟩ | ⟨h, hf⟩
    · exact hc2 _ _ _ _ hf
    · rcases jif_d hf with ⟨h, hf⟩ | ⟨h, hf⟩
      · exact b_M_areBeside_67 hc2 (fun l1 l2 l3 M res hf => ih l1 l2 l3 M hf) _ _ _ _ hf
      · rcases jif_d hf with ⟨h, hf⟩ | ⟨h, hf⟩
        · exact b_M_areBeside_67 hc2 (fun l1 l2 l3 M res hf => ih l1 l2 l3 M hf) _ _ _ _ hf
        · obtain ⟨hb3, hf⟩ := jg_some hf
          obtain ⟨hb4, hf⟩ := jg_some hf
          rcases jif_d hf with ⟨h, hf⟩ | ⟨h, hf⟩
          · exact b_M_areBeside_67 hc2 (fun l1 l2 l3 M res hf => ih l1 l2 l3 M hf) _ _ _ _ hf
          · obtain ⟨hb5, hf⟩ := jg_some hf
            obtain ⟨hb6, hf⟩ := jg_some hf
            rcases jif_d hf with ⟨h, hf⟩ | ⟨h, hf⟩
            · exact b_M_areBeside_67 hc2 (fun l1 l2 l3 M res hf => ih l1 l2 l3 M hf) _ _ _ _ hf
            · obtain rfl := Option.some.inj hf
              exact Or.inl rfl
def f_M_areBeside_2  : Nat → Int32 → Int32 → jp_M → Option (Int32)
  | 0, _, _, _ => none
  | n + 1, l1, l2, M =>
    if jp_c .ge l2 (M 104 45) = true then (
    some (1 : Int32)) else (
    f_M_areBeside_12 jFu (f_M_areBeside_2 n ) l1 l2 (0 : Int32) M)
theorem t_M_areBeside_2 {Ln : Nat} {xs : Nat → Int32} {sv : jp_V} {d : Nat} (hd : 1 ≤ d)  : ∀ (n : Nat) (l1 : Int32) (l2 : Int32) (o3 : Option jp_V) (w : Nat) (M : jp_M) {res : Int32}, f_M_areBeside_2 n  l1 l2 M = some res → jR (jZ (jK Ln xs sv)) d 272 2 ([some (.inr (some 104)), some (.inl l1), some (.inl l2), o3], [], jSH w, M) (some (.inl res), jSH w, M) := by
  intro n
  induction n with
  | zero =>
    intro l1 l2 o3 w M res hf
    cases hf
  | succ n ih =>
    intro l1 l2 o3 w M res hf
    rw [f_M_areBeside_2] at hf
    refine jR_in rfl ⟨rfl, rfl, rfl⟩ rfl ?_
    refine js_iload_n rfl ?_
    refine js_aload_n rfl ?_
    refine js_geti rfl rfl rfl ?_
    refine js_icmp (tgt := 79) rfl rfl (fun h => ?_) (fun h => ?_)
    · have hf := jif_t hf h
      refine jR_in rfl ⟨rfl, rfl, rfl⟩ rfl ?_
      refine js_iconst (v := (1 : Int32)) rfl ?_
      obtain rfl := Option.some.inj hf
      exact js_iret rfl rfl
    · have hf := jif_f hf h
      refine js_iconst (v := (0 : Int32)) rfl ?_
      refine js_istore_n rfl rfl ?_
      exact jS_out rfl ⟨rfl, rfl, rfl⟩ rfl (t_M_areBeside_12 hd (fun l1 l2 o3 w M res hf => ih l1 l2 o3 w M hf) jFu _ _ _ _ _ hf)
theorem b_M_areBeside_2  : ∀ (n : Nat) (l1 : Int32) (l2 : Int32) (M : jp_M) {res : Int32}, f_M_areBeside_2 n  l1 l2 M = some res → (res = 0 ∨ res = 1) := by
  intro n
  induction n with
  | zero =>
    intro l1 l2 M res hf
    cases hf
  | succ n ih =>
    intro l1 l2 M res hf
    rw [f_M_areBeside_2] at hf
    rcases jif_d hf with ⟨h, hf⟩ | ⟨h, hf⟩
    · obtain rfl := Option.some.inj hf
      exact Or.inr rfl
    · exact b_M_areBeside_12 (fun l1 l2 M res hf => ih l1 l2 M hf) jFu _ _ _ _ hf
def f_M_areBeside (a1 : Int32) (M : jp_M) : Option (Int32) :=
  f_M_areBeside_2 jFu a1 (0 : Int32) M
theorem t_M_areBeside {Ln : Nat} {xs : Nat → Int32} {sv : jp_V} {a1 : Int32} {w : Nat} {M : jp_M} {res : Int32} (hf : f_M_areBeside a1 M = some res) : jE (jZ (jK Ln xs sv)) 1 272 [(.inr (some 104)), (.inl a1)] (jSH w) M (some (.inl res), jSH w, M) := by
  unfold f_M_areBeside at hf
  refine jE_in (L0 := [some (.inr (some 104)), some (.inl a1), none, none]) rfl (Nat.le_of_ble_eq_true rfl) rfl (fun d hd => ?_)
  refine jR_in rfl ⟨rfl, rfl, rfl⟩ rfl ?_
  refine js_iconst (v := (0 : Int32)) rfl ?_
  refine js_istore_n rfl rfl ?_
  exact jS_out rfl ⟨rfl, rfl, rfl⟩ rfl (t_M_areBeside_2 hd jFu _ _ _ _ _ hf)
theorem b_M_areBeside {a1 : Int32} {M : jp_M} {res : Int32} (hf : f_M_areBeside a1 M = some res) : res = 0 ∨ res = 1 := by
  unfold f_M_areBeside at hf
  exact b_M_areBeside_2 jFu _ _ _ hf
/-! SwallowsAirModel.beside(I)I -/
def f_M_beside_54 (c15 : Int32 → Int32 → Int32 → jp_M → Option (Int32 × jp_M)) (l1 : Int32) (l2 : Int32) (l3 : Int32) (M : jp_M) : Option (Int32 × jp_M) :=
  c15 l1 l2 (l3 + (1 : Int32)) M
theorem t_M_beside_54 {Ln : Nat} {xs : Nat → Int32} {sv : jp_V} {d : Nat} (hd : 2 ≤ d) {c15 : Int32 → Int32 → Int32 → jp_M → Option (Int32 × jp_M)} (hc15 : ∀ (l1 : Int32) (l2 : Int32) (l3 : Int32) (w : Nat) (M : jp_M) (res : Int32 × jp_M), c15 l1 l2 l3 M = some res → jR (jZ (jK Ln xs sv)) d 274 21 ([some (.inr (some 104)), some (.inl l1), some (.inl l2), some (.inl l3)], [], jSH w, M) (some (.inl res.1), jSH w, res.2)) (l1 : Int32) (l2 : Int32) (l3 : Int32) (w : Nat) (M : jp_M) {res : Int32 × jp_M} (hf : f_M_beside_54 c15 l1 l2 l3 M = some res) : jR (jZ (jK Ln xs sv)) d 274 54 ([some (.inr (some 104)), some (.inl l1), some (.inl l2), some (.inl l3)], [], jSH w, M) (some (.inl res.1), jSH w, res.2) := by
  unfold f_M_beside_54 at hf
  refine jR_in rfl ⟨rfl, rfl, rfl⟩ rfl ?_
  refine js_iinc (v := (1 : Int32)) rfl rfl rfl rfl ?_
  refine js_goto (tgt := 21) rfl rfl ?_
  exact hc15 _ _ _ _ _ _ hf
def f_M_beside_21  : Nat → Int32 → Int32 → Int32 → jp_M → Option (Int32 × jp_M)
  | 0, _, _, _, _ => none
  | n + 1, l1, l2, l3, M =>
    if jp_c .ge l3 ((1 : Int32) <<< ((M 104 45) &&& 31)) = true then (
    if jp_c .ne l1 0 = true then (
    some (l2, M)) else (
    (f_M_worthOf l2 M).bind fun q1 => (
    some (q1, M)))) else (
    (f_M_worthOf l3 M).bind fun q2 => (
    (f_M_worthOf l2 M).bind fun q3 => (
    if jp_c .le q2 q3 = true then (
    f_M_beside_54 (f_M_beside_21 n ) l1 l2 l3 M) else (
    (f_M_areBeside l3 M).bind fun q4 => (
    if jp_c .eq q4 0 = true then (
    f_M_beside_54 (f_M_beside_21 n ) l1 l2 l3 M) else (
    f_M_beside_54 (f_M_beside_21 n ) l1 l3 l3 M))))))
theorem t_M_beside_21 {Ln : Nat} {xs : Nat → Int32} {sv : jp_V} {d : Nat} (hd : 2 ≤ d)  : ∀ (n : Nat) (l1 : Int32) (l2 : Int32) (l3 : Int32) (w : Nat) (M : jp_M) {res : Int32 × jp_M}, f_M_beside_21 n  l1 l2 l3 M = some res → jR (jZ (jK Ln xs sv)) d 274 21 ([some (.inr (some 104)), some (.inl l1), some (.inl l2), some (.inl l3)], [], jSH w, M) (some (.inl res.1), jSH w, res.2) := by
  intro n
  induction n with
  | zero =>
    intro l1 l2 l3 w M res hf
    cases hf
  | succ n ih =>
    intro l1 l2 l3 w M res hf
    rw [f_M_beside_21] at hf
    refine jR_in rfl ⟨rfl, rfl, rfl⟩ rfl ?_
    refine js_iload_n rfl ?_
    refine js_iconst (v := (1 : Int32)) rfl ?_
    refine js_aload_n rfl ?_
    refine js_geti rfl rfl rfl ?_
    refine js_ishl ?_
    refine js_icmp (tgt := 60) rfl rfl (fun h => ?_) (fun h => ?_)
    · have hf := jif_t hf h
      refine jR_in rfl ⟨rfl, rfl, rfl⟩ rfl ?_
      refine js_iload_n rfl ?_
      refine js_ifc (tgt := 72) rfl rfl (fun h => ?_) (fun h => ?_)
      · have hf := jif_t hf h
        refine jR_in rfl ⟨rfl, rfl, rfl⟩ rfl ?_
        refine js_iload_n rfl ?_
        obtain rfl := Option.some.inj hf
        exact js_iret rfl rfl
      · have hf := jif_f hf h
        refine js_aload_n rfl ?_
        refine js_iload_n rfl ?_
        obtain ⟨q1, hc_1, hf⟩ := jbind hf
        refine js_c2i rfl rfl ⟨rfl, rfl⟩ rfl rfl (t_M_worthOf hc_1) (by omega) ?_
        refine js_goto (tgt := 73) rfl rfl ?_
        refine jR_in rfl ⟨rfl, rfl, rfl⟩ rfl ?_
        obtain rfl := Option.some.inj hf
        exact js_iret rfl rfl
    · have hf := jif_f hf h
      refine js_aload_n rfl ?_
      refine js_iload_n rfl ?_
      obtain ⟨q2, hc_2, hf⟩ := jbind hf
      refine js_c2i rfl rfl ⟨rfl, rfl⟩ rfl rfl (t_M_worthOf hc_2) (by omega) ?_
      refine js_aload_n rfl ?_
      refine js_iload_n rfl ?_
      obtain ⟨q3, hc_3, hf⟩ := jbind hf
      refine js_c2i rfl rfl ⟨rfl, rfl⟩ rfl rfl (t_M_worthOf hc_3) (by omega) ?_
      refine js_icmp (tgt := 54) rfl rfl (fun h => ?_) (fun h => ?_)
      · have hf := jif_t hf h
        exact t_M_beside_54 hd (fun l1 l2 l3 w M res hf => ih l1 l2 l3 w M hf) _ _ _ _ _ hf
      · have hf := jif_f hf h
        refine js_aload_n rfl ?_
        refine js_iload_n rfl ?_
        obtain ⟨q4, hc_4, hf⟩ := jbind hf
        refine js_c2i rfl rfl ⟨rfl, rfl⟩ rfl rfl (t_M_areBeside hc_4) (by omega) ?_
        refine js_ifc (tgt := 54) rfl rfl (fun h => ?_) (fun h => ?_)
        · have hf := jif_t hf h
          exact t_M_beside_54 hd (fun l1 l2 l3 w M res hf => ih l1 l2 l3 w M hf) _ _ _ _ _ hf
        · have hf := jif_f hf h
          refine js_iload_n rfl ?_
          refine js_istore_n rfl rfl ?_
          exact jS_out rfl ⟨rfl, rfl, rfl⟩ rfl (t_M_beside_54 hd (fun l1 l2 l3 w M res hf => ih l1 l2 l3 w M hf) _ _ _ _ _ hf)
def f_M_beside (a1 : Int32) (M : jp_M) : Option (Int32 × jp_M) :=
  let M1 := jp_set M 104 (upd (M 104) 0 (0 : Int32))
  if jp_c .ne (f_M_isIn a1 (0 : Int32) (1 : Int32)) 0 = true then (
  f_M_beside_21 jFu a1 (0 : Int32) (1 : Int32) M1) else (
  some ((-1 : Int32), M1))
theorem t_M_beside {Ln : Nat} {xs : Nat → Int32} {sv : jp_V} {a1 : Int32} {w : Nat} {M : jp_M} {res : Int32 × jp_M} (hf : f_M_beside a1 M = some res) : jE (jZ (jK Ln xs sv)) 2 274 [(.inr (some 104)), (.inl a1)] (jSH w) M (some (.inl res.1), jSH w, res.2) := by
  unfold f_M_beside at hf
  refine jE_in (L0 := [some (.inr (some 104)), some (.inl a1), none, none]) rfl (Nat.le_of_ble_eq_true rfl) rfl (fun d hd => ?_)
  refine jR_in rfl ⟨rfl, rfl, rfl⟩ rfl ?_
  refine js_aload_n rfl ?_
  refine js_iconst (v := (0 : Int32)) rfl ?_
  refine js_puti rfl rfl (Or.inl rfl) ?_
  refine js_aload_n rfl ?_
  refine js_iload_n rfl ?_
  refine js_iconst (v := (0 : Int32)) rfl ?_
  refine js_iconst (v := (1 : Int32)) rfl ?_
  refine js_c4i rfl rfl ⟨rfl, rfl⟩ rfl rfl (t_M_isIn rfl) (by omega) ?_
  refine js_ifc (tgt := 17) rfl rfl (fun h => ?_) (fun h => ?_)
  · have hf := jif_t hf h
    refine jR_in rfl ⟨rfl, rfl, rfl⟩ rfl ?_
    refine js_iconst (v := (0 : Int32)) rfl ?_
    refine js_istore_n rfl rfl ?_
    refine js_iconst (v := (1 : Int32)) rfl ?_
    refine js_istore_n rfl rfl ?_
    exact jS_out rfl ⟨rfl, rfl, rfl⟩ rfl (t_M_beside_21 hd jFu _ _ _ _ _ hf)
  · have hf := jif_f hf h
    refine js_iconst (v := (-1 : Int32)) rfl ?_
    obtain rfl := Option.some.inj hf
    exact js_iret rfl rfl
/-! SwallowsAirModel.kite(II)I -/
def f_M_kite (a1 : Int32) (a2 : Int32) (M : jp_M) : Option (Int32 × jp_M) :=
  let M1 := jp_set M 104 (upd (M 104) 0 (0 : Int32))
  if jp_c .ne a1 (-1 : Int32) = true then (
  if jp_c .eq (f_M_isIn a1 (0 : Int32) (99 : Int32)) 0 = true then (
  some ((-1 : Int32), M1)) else (
  if jp_c .eq (f_M_isIn a2 (0 : Int32) (99 : Int32)) 0 = true then (
  some ((-1 : Int32), M1)) else (
  if jp_c .ne (M1 104 49) (10 : Int32) = true then (
  jg (jp_in (M1 104 49) 10) (
  let M4 := jp_set M1 132 (upd (M1 132) (Int32.toNatClampNeg (M1 104 49)) a1)
  jg (jp_in (M4 104 49) 10) (
  let M6 := jp_set M4 133 (upd (M4 133) (Int32.toNatClampNeg (M4 104 49)) a2)
  let M8 := jp_set M6 104 (upd (M6 104) 49 ((M6 104 49) + (1 : Int32)))
  some ((M8 104 49), M8)))) else (
  some ((-1 : Int32), M1))))) else (
  let M9 := jp_set M1 104 (upd (M1 104) 49 (0 : Int32))
  some ((0 : Int32), M9))
theorem t_M_kite {Ln : Nat} {xs : Nat → Int32} {sv : jp_V} {a1 : Int32} {a2 : Int32} {w : Nat} {M : jp_M} {res : Int32 × jp_M} (hf : f_M_kite a1 a2 M = some res) : jE (jZ (jK Ln xs sv)) 1 275 [(.inr (some 104)), (.inl a1), (.inl a2)] (jSH w) M (some (.inl res.1), jSH w, res.2) := by
  unfold f_M_kite at hf
  refine jE_in (L0 := [some (.inr (some 104)), some (.inl a1), some (.inl a2)]) rfl (Nat.le_of_ble_eq_true rfl) rfl (fun d hd => ?_)
  refine jR_in rfl ⟨rfl, rfl, rfl⟩ rfl ?_
  refine js_aload_n rfl ?_
  refine js_iconst (v := (0 : Int32)) rfl ?_
  refine js_puti rfl rfl (Or.inl rfl) ?_
  refine js_iload_n rfl ?_
  refine js_iconst (v := (-1 : Int32)) rfl ?_
  refine js_icmp (tgt := 17) rfl rfl (fun h => ?_) (fun h => ?_)
  · have hf := jif_t hf h
    refine jR_in rfl ⟨rfl, rfl, rfl⟩ rfl ?_
    refine js_aload_n rfl ?_
    refine js_iload_n rfl ?_
    refine js_iconst (v := (0 : Int32)) rfl ?_
    refine js_bipush (v := (99 : Int32)) rfl ?_
    refine js_c4i rfl rfl ⟨rfl, rfl⟩ rfl rfl (t_M_isIn rfl) (by omega) ?_
    refine js_ifc (tgt := 48) rfl rfl (fun h => ?_) (fun h => ?_)
    · have hf := jif_t hf h
      refine jR_in rfl ⟨rfl, rfl, rfl⟩ rfl ?_
      refine js_iconst (v := (-1 : Int32)) rfl ?_
      obtain rfl := Option.some.inj hf
      exact js_iret rfl rfl
    · have hf := jif_f hf h
      refine js_aload_n rfl ?_
      refine js_iload_n rfl ?_
      refine js_iconst (v := (0 : Int32)) rfl ?_
      refine js_bipush (v := (99 : Int32)) rfl ?_
      refine js_c4i rfl rfl ⟨rfl, rfl⟩ rfl rfl (t_M_isIn rfl) (by omega) ?_
      refine js_ifc (tgt := 48) rfl rfl (fun h => ?_) (fun h => ?_)
      · have hf := jif_t hf h
        refine jR_in rfl ⟨rfl, rfl, rfl⟩ rfl ?_
        refine js_iconst (v := (-1 : Int32)) rfl ?_
        obtain rfl := Option.some.inj hf
        exact js_iret rfl rfl
      · have hf := jif_f hf h
        refine js_aload_n rfl ?_
        refine js_geti rfl rfl rfl ?_
        refine js_bipush (v := (10 : Int32)) rfl ?_
        refine js_icmp (tgt := 50) rfl rfl (fun h => ?_) (fun h => ?_)
        · have hf := jif_t hf h
          refine jR_in rfl ⟨rfl, rfl, rfl⟩ rfl ?_
          refine js_aload_n rfl ?_
          refine js_getr rfl rfl rfl ?_
          refine js_aload_n rfl ?_
          refine js_geti rfl rfl rfl ?_
          refine js_iload_n rfl ?_
          obtain ⟨hb5, hf⟩ := jg_some hf
          refine js_iast rfl hb5 ?_
          refine js_aload_n rfl ?_
          refine js_getr rfl rfl rfl ?_
          refine js_aload_n rfl ?_
          refine js_geti rfl rfl rfl ?_
          refine js_iload_n rfl ?_
          obtain ⟨hb7, hf⟩ := jg_some hf
          refine js_iast rfl hb7 ?_
          refine js_aload_n rfl ?_
          refine js_aload_n rfl ?_
          refine js_geti rfl rfl rfl ?_
          refine js_iconst (v := (1 : Int32)) rfl ?_
          refine js_iadd ?_
          refine js_puti rfl rfl (Or.inl rfl) ?_
          refine js_aload_n rfl ?_
          refine js_geti rfl rfl rfl ?_
          obtain rfl := Option.some.inj hf
          exact js_iret rfl rfl
        · have hf := jif_f hf h
          refine js_iconst (v := (-1 : Int32)) rfl ?_
          obtain rfl := Option.some.inj hf
          exact js_iret rfl rfl
  · have hf := jif_f hf h
    refine js_aload_n rfl ?_
    refine js_iconst (v := (0 : Int32)) rfl ?_
    refine js_puti rfl rfl (Or.inl rfl) ?_
    refine js_iconst (v := (0 : Int32)) rfl ?_
    obtain rfl := Option.some.inj hf
    exact js_iret rfl rfl
/-! SwallowsAirModel.isOverOne(II)Z -/
def f_M_isOverOne (a1 : Int32) (a2 : Int32) (M : jp_M) : Option (Int32) :=
  jg (jp_in a1 10) (
  jg (jp_in a2 10) (
  if jp_c .ge (M 132 (Int32.toNatClampNeg a1)) (M 132 (Int32.toNatClampNeg a2)) = true then (
  some (0 : Int32)) else (
  jg (jp_in a1 10) (
  jg (jp_in a2 10) (
  if jp_c .le (M 133 (Int32.toNatClampNeg a1)) (M 133 (Int32.toNatClampNeg a2)) = true then (
  some (0 : Int32)) else (
  some (1 : Int32)))))))
theorem t_M_isOverOne {Ln : Nat} {xs : Nat → Int32} {sv : jp_V} {a1 : Int32} {a2 : Int32} {w : Nat} {M : jp_M} {res : Int32} (hf : f_M_isOverOne a1 a2 M = some res) : jE (jZ (jK Ln xs sv)) 0 276 [(.inr (some 104)), (.inl a1), (.inl a2)] (jSH w) M (some (.inl res), jSH w, M) := by
  unfold f_M_isOverOne at hf
  refine jE_in (L0 := [some (.inr (some 104)), some (.inl a1), some (.inl a2)]) rfl (Nat.le_of_ble_eq_true rfl) rfl (fun d hd => ?_)
  refine jR_in rfl ⟨rfl, rfl, rfl⟩ rfl ?_
  refine js_aload_n rfl ?_
  refine js_getr rfl rfl rfl ?_
  refine js_iload_n rfl ?_
  obtain ⟨hb1, hf⟩ := jg_some hf
  refine js_iald rfl hb1 ?_
  refine js_aload_n rfl ?_
  refine js_getr rfl rfl rfl ?_
  refine js_iload_n rfl ?_
  obtain ⟨hb2, hf⟩ := jg_some hf
  refine js_iald rfl hb2 ?_
  refine js_icmp (tgt := 34) rfl rfl (fun h => ?_) (fun h => ?_)
  · have hf := jif_t hf h
    refine jR_in rfl ⟨rfl, rfl, rfl⟩ rfl ?_
    refine js_iconst (v := (0 : Int32)) rfl ?_
    obtain rfl := Option.some.inj hf
    exact js_iret rfl rfl
  · have hf := jif_f hf h
    refine js_aload_n rfl ?_
    refine js_getr rfl rfl rfl ?_
    refine js_iload_n rfl ?_
    obtain ⟨hb3, hf⟩ := jg_some hf
    refine js_iald rfl hb3 ?_
    refine js_aload_n rfl ?_
    refine js_getr rfl rfl rfl ?_
    refine js_iload_n rfl ?_
    obtain ⟨hb4, hf⟩ := jg_some hf
    refine js_iald rfl hb4 ?_
    refine js_icmp (tgt := 34) rfl rfl (fun h => ?_) (fun h => ?_)
    · have hf := jif_t hf h
      refine jR_in rfl ⟨rfl, rfl, rfl⟩ rfl ?_
      refine js_iconst (v := (0 : Int32)) rfl ?_
      obtain rfl := Option.some.inj hf
      exact js_iret rfl rfl
    · have hf := jif_f hf h
      refine js_iconst (v := (1 : Int32)) rfl ?_
      refine js_goto (tgt := 35) rfl rfl ?_
      refine jR_in rfl ⟨rfl, rfl, rfl⟩ rfl ?_
      obtain rfl := Option.some.inj hf
      exact js_iret rfl rfl
theorem b_M_isOverOne {a1 : Int32} {a2 : Int32} {M : jp_M} {res : Int32} (hf : f_M_isOverOne a1 a2 M = some res) : res = 0 ∨ res = 1 := by
  unfold f_M_isOverOne at hf
  obtain ⟨hb1, hf⟩ := jg_some hf
  obtain ⟨hb2, hf⟩ := jg_some hf
  rcases jif_d hf with ⟨h, hf⟩ | ⟨h, hf⟩
  · obtain rfl := Option.some.inj hf
    exact Or.inl rfl
  · obtain ⟨hb3, hf⟩ := jg_some hf
    obtain ⟨hb4, hf⟩ := jg_some hf
    rcases jif_d hf with ⟨h, hf⟩ | ⟨h, hf⟩
    · obtain rfl := Option.some.inj hf
      exact Or.inl rfl
    · obtain rfl := Option.some.inj hf
      exact Or.inr rfl
/-! SwallowsAirModel.layers()I -/
def f_M_layers_93 (c17 : Int32 → Int32 → jp_M → Option (Int32 × jp_M)) (c23 : Int32 → Int32 → Int32 → jp_M → Option (Int32 × jp_M)) (c29 : Int32 → Int32 → Int32 → Int32 → jp_M → Option (Int32 × jp_M)) (l1 : Int32) (l2 : Int32) (l3 : Int32) (l4 : Int32) (M : jp_M) : Option (Int32 × jp_M) :=
  c29 l1 l2 l3 (l4 + (1 : Int32)) M
theorem t_M_layers_93 {Ln : Nat} {xs : Nat → Int32} {sv : jp_V} {d : Nat} (hd : 1 ≤ d) {c17 : Int32 → Int32 → jp_M → Option (Int32 × jp_M)} (hc17 : ∀ (l1 : Int32) (l2 : Int32) (o3 : Option jp_V) (o4 : Option jp_V) (w : Nat) (M : jp_M) (res : Int32 × jp_M), c17 l1 l2 M = some res → jR (jZ (jK Ln xs sv)) d 277 27 ([some (.inr (some 104)), some (.inl l1), some (.inl l2), o3, o4], [], jSH w, M) (some (.inl res.1), jSH w, res.2)) {c23 : Int32 → Int32 → Int32 → jp_M → Option (Int32 × jp_M)} (hc23 : ∀ (l1 : Int32) (l2 : Int32) (l3 : Int32) (o4 : Option jp_V) (w : Nat) (M : jp_M) (res : Int32 × jp_M), c23 l1 l2 l3 M = some res → jR (jZ (jK Ln xs sv)) d 277 37 ([some (.inr (some 104)), some (.inl l1), some (.inl l2), some (.inl l3), o4], [], jSH w, M) (some (.inl res.1), jSH w, res.2)) {c29 : Int32 → Int32 → Int32 → Int32 → jp_M → Option (Int32 × jp_M)} (hc29 : ∀ (l1 : Int32) (l2 : Int32) (l3 : Int32) (l4 : Int32) (w : Nat) (M : jp_M) (res : Int32 × jp_M), c29 l1 l2 l3 l4 M = some res → jR (jZ (jK Ln xs sv)) d 277 48 ([some (.inr (some 104)), some (.inl l1), some (.inl l2), some (.inl l3), some (.inl l4)], [], jSH w, M) (some (.inl res.1), jSH w, res.2)) (l1 : Int32) (l2 : Int32) (l3 : Int32) (l4 : Int32) (w : Nat) (M : jp_M) {res : Int32 × jp_M} (hf : f_M_layers_93 c17 c23 c29 l1 l2 l3 l4 M = some res) : jR (jZ (jK Ln xs sv)) d 277 93 ([some (.inr (some 104)), some (.inl l1), some (.inl l2), some (.inl l3), some (.inl l4)], [], jSH w, M) (some (.inl res.1), jSH w, res.2) := by
  unfold f_M_layers_93 at hf
  refine jR_in rfl ⟨rfl, rfl, rfl⟩ rfl ?_
  refine js_iinc (v := (1 : Int32)) rfl rfl rfl rfl ?_
  refine js_goto (tgt := 48) rfl rfl ?_
  exact hc29 _ _ _ _ _ _ _ hf
def f_M_layers_48  : Nat → (Int32 → Int32 → jp_M → Option (Int32 × jp_M)) → (Int32 → Int32 → Int32 → jp_M → Option (Int32 × jp_M)) → Int32 → Int32 → Int32 → Int32 → jp_M → Option (Int32 × jp_M)
  | 0, _, _, _, _, _, _, _ => none
  | n + 1, c17, c23, l1, l2, l3, l4, M =>
    if jp_c .ge l4 (M 104 49) = true then (
    c23 l1 l2 (l3 + (1 : Int32)) M) else (
    (f_M_isOverOne l3 l4 M).bind fun q1 => (
    if jp_c .eq q1 0 = true then (
    f_M_layers_93 c17 c23 (f_M_layers_48 n c17 c23) l1 l2 l3 l4 M) else (
    jg (jp_in l4 10) (
    jg (jp_in l3 10) (
    jg (jp_in l4 10) (
    let M5 := jp_set M 134 (upd (M 134) (Int32.toNatClampNeg l4) (f_M_greater (M 134 (Int32.toNatClampNeg l4)) ((M 134 (Int32.toNatClampNeg l3)) + (1 : Int32))))
    f_M_layers_93 c17 c23 (f_M_layers_48 n c17 c23) l1 l2 l3 l4 M5))))))
theorem t_M_layers_48 {Ln : Nat} {xs : Nat → Int32} {sv : jp_V} {d : Nat} (hd : 1 ≤ d) {c17 : Int32 → Int32 → jp_M → Option (Int32 × jp_M)} (hc17 : ∀ (l1 : Int32) (l2 : Int32) (o3 : Option jp_V) (o4 : Option jp_V) (w : Nat) (M : jp_M) (res : Int32 × jp_M), c17 l1 l2 M = some res → jR (jZ (jK Ln xs sv)) d 277 27 ([some (.inr (some 104)), some (.inl l1), some (.inl l2), o3, o4], [], jSH w, M) (some (.inl res.1), jSH w, res.2)) {c23 : Int32 → Int32 → Int32 → jp_M → Option (Int32 × jp_M)} (hc23 : ∀ (l1 : Int32) (l2 : Int32) (l3 : Int32) (o4 : Option jp_V) (w : Nat) (M : jp_M) (res : Int32 × jp_M), c23 l1 l2 l3 M = some res → jR (jZ (jK Ln xs sv)) d 277 37 ([some (.inr (some 104)), some (.inl l1), some (.inl l2), some (.inl l3), o4], [], jSH w, M) (some (.inl res.1), jSH w, res.2)) : ∀ (n : Nat) (l1 : Int32) (l2 : Int32) (l3 : Int32) (l4 : Int32) (w : Nat) (M : jp_M) {res : Int32 × jp_M}, f_M_layers_48 n c17 c23 l1 l2 l3 l4 M = some res → jR (jZ (jK Ln xs sv)) d 277 48 ([some (.inr (some 104)), some (.inl l1), some (.inl l2), some (.inl l3), some (.inl l4)], [], jSH w, M) (some (.inl res.1), jSH w, res.2) := by
  intro n
  induction n with
  | zero =>
    intro l1 l2 l3 l4 w M res hf
    cases hf
  | succ n ih =>
    intro l1 l2 l3 l4 w M res hf
    rw [f_M_layers_48] at hf
    refine jR_in rfl ⟨rfl, rfl, rfl⟩ rfl ?_
    refine js_iload rfl ?_
    refine js_aload_n rfl ?_
    refine js_geti rfl rfl rfl ?_
    refine js_icmp (tgt := 99) rfl rfl (fun h => ?_) (fun h => ?_)
    · have hf := jif_t hf h
      refine jR_in rfl ⟨rfl, rfl, rfl⟩ rfl ?_
      refine js_iinc (v := (1 : Int32)) rfl rfl rfl rfl ?_
      refine js_goto (tgt := 37) rfl rfl ?_
      exact hc23 _ _ _ _ _ _ _ hf
    · have hf := jif_f hf h
      refine js_aload_n rfl ?_
      refine js_iload_n rfl ?_
      refine js_iload rfl ?_
      obtain ⟨q1, hc_1, hf⟩ := jbind hf
      refine js_c3i rfl rfl ⟨rfl, rfl⟩ rfl rfl (t_M_isOverOne hc_1) (by omega) ?_
      refine js_ifc (tgt := 93) rfl rfl (fun h => ?_) (fun h => ?_)
      · have hf := jif_t hf h
        exact t_M_layers_93 hd hc17 hc23 (fun l1 l2 l3 l4 w M res hf => ih l1 l2 l3 l4 w M hf) _ _ _ _ _ _ hf
      · have hf := jif_f hf h
        refine js_aload_n rfl ?_
        refine js_getr rfl rfl rfl ?_
        refine js_iload rfl ?_
        refine js_aload_n rfl ?_
        refine js_aload_n rfl ?_
        refine js_getr rfl rfl rfl ?_
        refine js_iload rfl ?_
        obtain ⟨hb2, hf⟩ := jg_some hf
        refine js_iald rfl hb2 ?_
        refine js_aload_n rfl ?_
        refine js_getr rfl rfl rfl ?_
        refine js_iload_n rfl ?_
        obtain ⟨hb3, hf⟩ := jg_some hf
        refine js_iald rfl hb3 ?_
        refine js_iconst (v := (1 : Int32)) rfl ?_
        refine js_iadd ?_
        refine js_c3i rfl rfl ⟨rfl, rfl⟩ rfl rfl (t_M_greater rfl) (by omega) ?_
        obtain ⟨hb6, hf⟩ := jg_some hf
        refine js_iast rfl hb6 ?_
        exact jS_out rfl ⟨rfl, rfl, rfl⟩ rfl (t_M_layers_93 hd hc17 hc23 (fun l1 l2 l3 l4 w M res hf => ih l1 l2 l3 l4 w M hf) _ _ _ _ _ _ hf)
def f_M_layers_37  : Nat → (Int32 → Int32 → jp_M → Option (Int32 × jp_M)) → Int32 → Int32 → Int32 → jp_M → Option (Int32 × jp_M)
  | 0, _, _, _, _, _ => none
  | n + 1, c17, l1, l2, l3, M =>
    if jp_c .ge l3 (M 104 49) = true then (
    c17 l1 (l2 + (1 : Int32)) M) else (
    f_M_layers_48 jFu c17 (f_M_layers_37 n c17) l1 l2 l3 (0 : Int32) M)
theorem t_M_layers_37 {Ln : Nat} {xs : Nat → Int32} {sv : jp_V} {d : Nat} (hd : 1 ≤ d) {c17 : Int32 → Int32 → jp_M → Option (Int32 × jp_M)} (hc17 : ∀ (l1 : Int32) (l2 : Int32) (o3 : Option jp_V) (o4 : Option jp_V) (w : Nat) (M : jp_M) (res : Int32 × jp_M), c17 l1 l2 M = some res → jR (jZ (jK Ln xs sv)) d 277 27 ([some (.inr (some 104)), some (.inl l1), some (.inl l2), o3, o4], [], jSH w, M) (some (.inl res.1), jSH w, res.2)) : ∀ (n : Nat) (l1 : Int32) (l2 : Int32) (l3 : Int32) (o4 : Option jp_V) (w : Nat) (M : jp_M) {res : Int32 × jp_M}, f_M_layers_37 n c17 l1 l2 l3 M = some res → jR (jZ (jK Ln xs sv)) d 277 37 ([some (.inr (some 104)), some (.inl l1), some (.inl l2), some (.inl l3), o4], [], jSH w, M) (some (.inl res.1), jSH w, res.2) := by
  intro n
  induction n with
  | zero =>
    intro l1 l2 l3 o4 w M res hf
    cases hf
  | succ n ih =>
    intro l1 l2 l3 o4 w M res hf
    rw [f_M_layers_37] at hf
    refine jR_in rfl ⟨rfl, rfl, rfl⟩ rfl ?_
    refine js_iload_n rfl ?_
    refine js_aload_n rfl ?_
    refine js_geti rfl rfl rfl ?_
    refine js_icmp (tgt := 105) rfl rfl (fun h => ?_) (fun h => ?_)
    · have hf := jif_t hf h
      refine jR_in rfl ⟨rfl, rfl, rfl⟩ rfl ?_
      refine js_iinc (v := (1 : Int32)) rfl rfl rfl rfl ?_
      refine js_goto (tgt := 27) rfl rfl ?_
      exact hc17 _ _ _ _ _ _ _ hf
    · have hf := jif_f hf h
      refine js_iconst (v := (0 : Int32)) rfl ?_
      refine js_istore rfl rfl ?_
      exact jS_out rfl ⟨rfl, rfl, rfl⟩ rfl (t_M_layers_48 hd hc17 (fun l1 l2 l3 o4 w M res hf => ih l1 l2 l3 o4 w M hf) jFu _ _ _ _ _ _ hf)
def f_M_layers_113  : Nat → Int32 → Int32 → jp_M → Option (Int32 × jp_M)
  | 0, _, _, _ => none
  | n + 1, l1, l2, M =>
    if jp_c .ge l2 (M 104 49) = true then (
    some (l1, M)) else (
    jg (jp_in l2 10) (
    f_M_layers_113 n (f_M_greater l1 (M 134 (Int32.toNatClampNeg l2))) (l2 + (1 : Int32)) M))
theorem t_M_layers_113 {Ln : Nat} {xs : Nat → Int32} {sv : jp_V} {d : Nat} (hd : 1 ≤ d)  : ∀ (n : Nat) (l1 : Int32) (l2 : Int32) (o3 : Option jp_V) (o4 : Option jp_V) (w : Nat) (M : jp_M) {res : Int32 × jp_M}, f_M_layers_113 n  l1 l2 M = some res → jR (jZ (jK Ln xs sv)) d 277 113 ([some (.inr (some 104)), some (.inl l1), some (.inl l2), o3, o4], [], jSH w, M) (some (.inl res.1), jSH w, res.2) := by
  intro n
  induction n with
  | zero =>
    intro l1 l2 o3 o4 w M res hf
    cases hf
  | succ n ih =>
    intro l1 l2 o3 o4 w M res hf
    rw [f_M_layers_113] at hf
    refine jR_in rfl ⟨rfl, rfl, rfl⟩ rfl ?_
    refine js_iload_n rfl ?_
    refine js_aload_n rfl ?_
    refine js_geti rfl rfl rfl ?_
    refine js_icmp (tgt := 139) rfl rfl (fun h => ?_) (fun h => ?_)
    · have hf := jif_t hf h
      refine jR_in rfl ⟨rfl, rfl, rfl⟩ rfl ?_
      refine js_iload_n rfl ?_
      obtain rfl := Option.some.inj hf
      exact js_iret rfl rfl
    · have hf := jif_f hf h
      refine js_aload_n rfl ?_
      refine js_iload_n rfl ?_
      refine js_aload_n rfl ?_
      refine js_getr rfl rfl rfl ?_
      refine js_iload_n rfl ?_
      obtain ⟨hb1, hf⟩ := jg_some hf
      refine js_iald rfl hb1 ?_
      refine js_c3i rfl rfl ⟨rfl, rfl⟩ rfl rfl (t_M_greater rfl) (by omega) ?_
      refine js_istore_n rfl rfl ?_
      refine js_iinc (v := (1 : Int32)) rfl rfl rfl rfl ?_
      refine js_goto (tgt := 113) rfl rfl ?_
      exact ih _ _ _ _ _ _ hf
def f_M_layers_27  : Nat → Int32 → Int32 → jp_M → Option (Int32 × jp_M)
  | 0, _, _, _ => none
  | n + 1, l1, l2, M =>
    if jp_c .ge l2 (M 104 49) = true then (
    f_M_layers_113 jFu l1 (0 : Int32) M) else (
    f_M_layers_37 jFu (f_M_layers_27 n ) l1 l2 (0 : Int32) M)
theorem t_M_layers_27 {Ln : Nat} {xs : Nat → Int32} {sv : jp_V} {d : Nat} (hd : 1 ≤ d)  : ∀ (n : Nat) (l1 : Int32) (l2 : Int32) (o3 : Option jp_V) (o4 : Option jp_V) (w : Nat) (M : jp_M) {res : Int32 × jp_M}, f_M_layers_27 n  l1 l2 M = some res → jR (jZ (jK Ln xs sv)) d 277 27 ([some (.inr (some 104)), some (.inl l1), some (.inl l2), o3, o4], [], jSH w, M) (some (.inl res.1), jSH w, res.2) := by
  intro n
  induction n with
  | zero =>
    intro l1 l2 o3 o4 w M res hf
    cases hf
  | succ n ih =>
    intro l1 l2 o3 o4 w M res hf
    rw [f_M_layers_27] at hf
    refine jR_in rfl ⟨rfl, rfl, rfl⟩ rfl ?_
    refine js_iload_n rfl ?_
    refine js_aload_n rfl ?_
    refine js_geti rfl rfl rfl ?_
    refine js_icmp (tgt := 111) rfl rfl (fun h => ?_) (fun h => ?_)
    · have hf := jif_t hf h
      refine jR_in rfl ⟨rfl, rfl, rfl⟩ rfl ?_
      refine js_iconst (v := (0 : Int32)) rfl ?_
      refine js_istore_n rfl rfl ?_
      exact jS_out rfl ⟨rfl, rfl, rfl⟩ rfl (t_M_layers_113 hd jFu _ _ _ _ _ _ hf)
    · have hf := jif_f hf h
      refine js_iconst (v := (0 : Int32)) rfl ?_
      refine js_istore_n rfl rfl ?_
      exact jS_out rfl ⟨rfl, rfl, rfl⟩ rfl (t_M_layers_37 hd (fun l1 l2 o3 o4 w M res hf => ih l1 l2 o3 o4 w M hf) jFu _ _ _ _ _ _ hf)
def f_M_layers_4  : Nat → Int32 → Int32 → jp_M → Option (Int32 × jp_M)
  | 0, _, _, _ => none
  | n + 1, l1, l2, M =>
    if jp_c .ge l2 (M 104 49) = true then (
    f_M_layers_27 jFu l1 (0 : Int32) M) else (
    jg (jp_in l2 10) (
    let M1 := jp_set M 134 (upd (M 134) (Int32.toNatClampNeg l2) (1 : Int32))
    f_M_layers_4 n l1 (l2 + (1 : Int32)) M1))
theorem t_M_layers_4 {Ln : Nat} {xs : Nat → Int32} {sv : jp_V} {d : Nat} (hd : 1 ≤ d)  : ∀ (n : Nat) (l1 : Int32) (l2 : Int32) (o3 : Option jp_V) (o4 : Option jp_V) (w : Nat) (M : jp_M) {res : Int32 × jp_M}, f_M_layers_4 n  l1 l2 M = some res → jR (jZ (jK Ln xs sv)) d 277 4 ([some (.inr (some 104)), some (.inl l1), some (.inl l2), o3, o4], [], jSH w, M) (some (.inl res.1), jSH w, res.2) := by
  intro n
  induction n with
  | zero =>
    intro l1 l2 o3 o4 w M res hf
    cases hf
  | succ n ih =>
    intro l1 l2 o3 o4 w M res hf
    rw [f_M_layers_4] at hf
    refine jR_in rfl ⟨rfl, rfl, rfl⟩ rfl ?_
    refine js_iload_n rfl ?_
    refine js_aload_n rfl ?_
    refine js_geti rfl rfl rfl ?_
    refine js_icmp (tgt := 25) rfl rfl (fun h => ?_) (fun h => ?_)
    · have hf := jif_t hf h
      refine jR_in rfl ⟨rfl, rfl, rfl⟩ rfl ?_
      refine js_iconst (v := (0 : Int32)) rfl ?_
      refine js_istore_n rfl rfl ?_
      exact jS_out rfl ⟨rfl, rfl, rfl⟩ rfl (t_M_layers_27 hd jFu _ _ _ _ _ _ hf)
    · have hf := jif_f hf h
      refine js_aload_n rfl ?_
      refine js_getr rfl rfl rfl ?_
      refine js_iload_n rfl ?_
      refine js_iconst (v := (1 : Int32)) rfl ?_
      obtain ⟨hb2, hf⟩ := jg_some hf
      refine js_iast rfl hb2 ?_
      refine js_iinc (v := (1 : Int32)) rfl rfl rfl rfl ?_
      refine js_goto (tgt := 4) rfl rfl ?_
      exact ih _ _ _ _ _ _ hf
def f_M_layers (M : jp_M) : Option (Int32 × jp_M) :=
  f_M_layers_4 jFu (0 : Int32) (0 : Int32) M
theorem t_M_layers {Ln : Nat} {xs : Nat → Int32} {sv : jp_V} {w : Nat} {M : jp_M} {res : Int32 × jp_M} (hf : f_M_layers M = some res) : jE (jZ (jK Ln xs sv)) 1 277 [(.inr (some 104))] (jSH w) M (some (.inl res.1), jSH w, res.2) := by
  unfold f_M_layers at hf
  refine jE_in (L0 := [some (.inr (some 104)), none, none, none, none]) rfl (Nat.le_of_ble_eq_true rfl) rfl (fun d hd => ?_)
  refine jR_in rfl ⟨rfl, rfl, rfl⟩ rfl ?_
  refine js_iconst (v := (0 : Int32)) rfl ?_
  refine js_istore_n rfl rfl ?_
  refine js_iconst (v := (0 : Int32)) rfl ?_
  refine js_istore_n rfl rfl ?_
  exact jS_out rfl ⟨rfl, rfl, rfl⟩ rfl (t_M_layers_4 hd jFu _ _ _ _ _ _ hf)
/-! SwallowsAirModel.strings(I)I -/
def f_M_strings_65 (c21 : Int32 → Int32 → jp_M → Option (Int32 × jp_M)) (c27 : Int32 → Int32 → Int32 → jp_M → Option (Int32 × jp_M)) (l2 : Int32) (l3 : Int32) (l4 : Int32) (M : jp_M) : Option (Int32 × jp_M) :=
  c27 l2 l3 (l4 + (1 : Int32)) M
theorem t_M_strings_65 {Ln : Nat} {xs : Nat → Int32} {sv : jp_V} {d : Nat} (hd : 2 ≤ d) {c21 : Int32 → Int32 → jp_M → Option (Int32 × jp_M)} (hc21 : ∀ (l2 : Int32) (l3 : Int32) (o1 : Option jp_V) (o4 : Option jp_V) (w : Nat) (M : jp_M) (res : Int32 × jp_M), c21 l2 l3 M = some res → jR (jZ (jK Ln xs sv)) d 278 31 ([some (.inr (some 104)), o1, some (.inl l2), some (.inl l3), o4], [], jSH w, M) (some (.inl res.1), jSH w, res.2)) {c27 : Int32 → Int32 → Int32 → jp_M → Option (Int32 × jp_M)} (hc27 : ∀ (l2 : Int32) (l3 : Int32) (l4 : Int32) (o1 : Option jp_V) (w : Nat) (M : jp_M) (res : Int32 × jp_M), c27 l2 l3 l4 M = some res → jR (jZ (jK Ln xs sv)) d 278 42 ([some (.inr (some 104)), o1, some (.inl l2), some (.inl l3), some (.inl l4)], [], jSH w, M) (some (.inl res.1), jSH w, res.2)) (l2 : Int32) (l3 : Int32) (l4 : Int32) (o1 : Option jp_V) (w : Nat) (M : jp_M) {res : Int32 × jp_M} (hf : f_M_strings_65 c21 c27 l2 l3 l4 M = some res) : jR (jZ (jK Ln xs sv)) d 278 65 ([some (.inr (some 104)), o1, some (.inl l2), some (.inl l3), some (.inl l4)], [], jSH w, M) (some (.inl res.1), jSH w, res.2) := by
  unfold f_M_strings_65 at hf
  refine jR_in rfl ⟨rfl, rfl, rfl⟩ rfl ?_
  refine js_iinc (v := (1 : Int32)) rfl rfl rfl rfl ?_
  refine js_goto (tgt := 42) rfl rfl ?_
  exact hc27 _ _ _ _ _ _ _ hf
def f_M_strings_42  : Nat → (Int32 → Int32 → jp_M → Option (Int32 × jp_M)) → Int32 → Int32 → Int32 → jp_M → Option (Int32 × jp_M)
  | 0, _, _, _, _, _ => none
  | n + 1, c21, l2, l3, l4, M =>
    if jp_c .ge l4 (M 104 49) = true then (
    c21 l2 (l3 + (1 : Int32)) M) else (
    (f_M_isOverOne l3 l4 M).bind fun q1 => (
    if jp_c .eq q1 0 = true then (
    f_M_strings_65 c21 (f_M_strings_42 n c21) l2 l3 l4 M) else (
    f_M_strings_65 c21 (f_M_strings_42 n c21) (l2 + (1 : Int32)) l3 l4 M)))
theorem t_M_strings_42 {Ln : Nat} {xs : Nat → Int32} {sv : jp_V} {d : Nat} (hd : 2 ≤ d) {c21 : Int32 → Int32 → jp_M → Option (Int32 × jp_M)} (hc21 : ∀ (l2 : Int32) (l3 : Int32) (o1 : Option jp_V) (o4 : Option jp_V) (w : Nat) (M : jp_M) (res : Int32 × jp_M), c21 l2 l3 M = some res → jR (jZ (jK Ln xs sv)) d 278 31 ([some (.inr (some 104)), o1, some (.inl l2), some (.inl l3), o4], [], jSH w, M) (some (.inl res.1), jSH w, res.2)) : ∀ (n : Nat) (l2 : Int32) (l3 : Int32) (l4 : Int32) (o1 : Option jp_V) (w : Nat) (M : jp_M) {res : Int32 × jp_M}, f_M_strings_42 n c21 l2 l3 l4 M = some res → jR (jZ (jK Ln xs sv)) d 278 42 ([some (.inr (some 104)), o1, some (.inl l2), some (.inl l3), some (.inl l4)], [], jSH w, M) (some (.inl res.1), jSH w, res.2) := by
  intro n
  induction n with
  | zero =>
    intro l2 l3 l4 o1 w M res hf
    cases hf
  | succ n ih =>
    intro l2 l3 l4 o1 w M res hf
    rw [f_M_strings_42] at hf
    refine jR_in rfl ⟨rfl, rfl, rfl⟩ rfl ?_
    refine js_iload rfl ?_
    refine js_aload_n rfl ?_
    refine js_geti rfl rfl rfl ?_
    refine js_icmp (tgt := 71) rfl rfl (fun h => ?_) (fun h => ?_)
    · have hf := jif_t hf h
      refine jR_in rfl ⟨rfl, rfl, rfl⟩ rfl ?_
      refine js_iinc (v := (1 : Int32)) rfl rfl rfl rfl ?_
      refine js_goto (tgt := 31) rfl rfl ?_
      exact hc21 _ _ _ _ _ _ _ hf
    · have hf := jif_f hf h
      refine js_aload_n rfl ?_
      refine js_iload_n rfl ?_
      refine js_iload rfl ?_
      obtain ⟨q1, hc_1, hf⟩ := jbind hf
      refine js_c3i rfl rfl ⟨rfl, rfl⟩ rfl rfl (t_M_isOverOne hc_1) (by omega) ?_
      refine js_ifc (tgt := 65) rfl rfl (fun h => ?_) (fun h => ?_)
      · have hf := jif_t hf h
        exact t_M_strings_65 hd hc21 (fun l2 l3 l4 o1 w M res hf => ih l2 l3 l4 o1 w M hf) _ _ _ _ _ _ hf
      · have hf := jif_f hf h
        refine js_iload_n rfl ?_
        refine js_iconst (v := (1 : Int32)) rfl ?_
        refine js_iadd ?_
        refine js_istore_n rfl rfl ?_
        exact jS_out rfl ⟨rfl, rfl, rfl⟩ rfl (t_M_strings_65 hd hc21 (fun l2 l3 l4 o1 w M res hf => ih l2 l3 l4 o1 w M hf) _ _ _ _ _ _ hf)
def f_M_strings_31  : Nat → Int32 → Int32 → jp_M → Option (Int32 × jp_M)
  | 0, _, _, _ => none
  | n + 1, l2, l3, M =>
    if jp_c .ge l3 (M 104 49) = true then (
    some (l2, M)) else (
    f_M_strings_42 jFu (f_M_strings_31 n ) l2 l3 (0 : Int32) M)
theorem t_M_strings_31 {Ln : Nat} {xs : Nat → Int32} {sv : jp_V} {d : Nat} (hd : 2 ≤ d)  : ∀ (n : Nat) (l2 : Int32) (l3 : Int32) (o1 : Option jp_V) (o4 : Option jp_V) (w : Nat) (M : jp_M) {res : Int32 × jp_M}, f_M_strings_31 n  l2 l3 M = some res → jR (jZ (jK Ln xs sv)) d 278 31 ([some (.inr (some 104)), o1, some (.inl l2), some (.inl l3), o4], [], jSH w, M) (some (.inl res.1), jSH w, res.2) := by
  intro n
  induction n with
  | zero =>
    intro l2 l3 o1 o4 w M res hf
    cases hf
  | succ n ih =>
    intro l2 l3 o1 o4 w M res hf
    rw [f_M_strings_31] at hf
    refine jR_in rfl ⟨rfl, rfl, rfl⟩ rfl ?_
    refine js_iload_n rfl ?_
    refine js_aload_n rfl ?_
    refine js_geti rfl rfl rfl ?_
    refine js_icmp (tgt := 77) rfl rfl (fun h => ?_) (fun h => ?_)
    · have hf := jif_t hf h
      refine jR_in rfl ⟨rfl, rfl, rfl⟩ rfl ?_
      refine js_iload_n rfl ?_
      obtain rfl := Option.some.inj hf
      exact js_iret rfl rfl
    · have hf := jif_f hf h
      refine js_iconst (v := (0 : Int32)) rfl ?_
      refine js_istore rfl rfl ?_
      exact jS_out rfl ⟨rfl, rfl, rfl⟩ rfl (t_M_strings_42 hd (fun l2 l3 o1 o4 w M res hf => ih l2 l3 o1 o4 w M hf) jFu _ _ _ _ _ _ hf)
def f_M_strings (a1 : Int32) (M : jp_M) : Option (Int32 × jp_M) :=
  let M1 := jp_set M 104 (upd (M 104) 0 (0 : Int32))
  if jp_c .ne (f_M_isIn a1 (0 : Int32) (1 : Int32)) 0 = true then (
  if jp_c .ne a1 (1 : Int32) = true then (
  f_M_strings_31 jFu (0 : Int32) (0 : Int32) M1) else (
  (f_M_layers M1).bind fun q3 => (
  some (q3.1, q3.2)))) else (
  some ((-1 : Int32), M1))
theorem t_M_strings {Ln : Nat} {xs : Nat → Int32} {sv : jp_V} {a1 : Int32} {w : Nat} {M : jp_M} {res : Int32 × jp_M} (hf : f_M_strings a1 M = some res) : jE (jZ (jK Ln xs sv)) 2 278 [(.inr (some 104)), (.inl a1)] (jSH w) M (some (.inl res.1), jSH w, res.2) := by
  unfold f_M_strings at hf
  refine jE_in (L0 := [some (.inr (some 104)), some (.inl a1), none, none, none]) rfl (Nat.le_of_ble_eq_true rfl) rfl (fun d hd => ?_)
  refine jR_in rfl ⟨rfl, rfl, rfl⟩ rfl ?_
  refine js_aload_n rfl ?_
  refine js_iconst (v := (0 : Int32)) rfl ?_
  refine js_puti rfl rfl (Or.inl rfl) ?_
  refine js_aload_n rfl ?_
  refine js_iload_n rfl ?_
  refine js_iconst (v := (0 : Int32)) rfl ?_
  refine js_iconst (v := (1 : Int32)) rfl ?_
  refine js_c4i rfl rfl ⟨rfl, rfl⟩ rfl rfl (t_M_isIn rfl) (by omega) ?_
  refine js_ifc (tgt := 17) rfl rfl (fun h => ?_) (fun h => ?_)
  · have hf := jif_t hf h
    refine jR_in rfl ⟨rfl, rfl, rfl⟩ rfl ?_
    refine js_iload_n rfl ?_
    refine js_iconst (v := (1 : Int32)) rfl ?_
    refine js_icmp (tgt := 27) rfl rfl (fun h => ?_) (fun h => ?_)
    · have hf := jif_t hf h
      refine jR_in rfl ⟨rfl, rfl, rfl⟩ rfl ?_
      refine js_iconst (v := (0 : Int32)) rfl ?_
      refine js_istore_n rfl rfl ?_
      refine js_iconst (v := (0 : Int32)) rfl ?_
      refine js_istore_n rfl rfl ?_
      exact jS_out rfl ⟨rfl, rfl, rfl⟩ rfl (t_M_strings_31 hd jFu _ _ _ _ _ _ hf)
    · have hf := jif_f hf h
      refine js_aload_n rfl ?_
      obtain ⟨q3, hc_3, hf⟩ := jbind hf
      refine js_c1i rfl rfl ⟨rfl, rfl⟩ rfl rfl (t_M_layers hc_3) (by omega) ?_
      obtain rfl := Option.some.inj hf
      exact js_iret rfl rfl
  · have hf := jif_f hf h
    refine js_iconst (v := (-1 : Int32)) rfl ?_
    obtain rfl := Option.some.inj hf
    exact js_iret rfl rfl
/-! SwallowsAirModel.way(III)Z -/
def f_M_way (a1 : Int32) (a2 : Int32) (a3 : Int32) (M : jp_M) : Option (Int32 × jp_M) :=
  let M1 := jp_set M 104 (upd (M 104) 0 (0 : Int32))
  if jp_c .eq (f_M_isIn a1 (0 : Int32) (5 : Int32)) 0 = true then (
  some ((0 : Int32), M1)) else (
  if jp_c .eq (f_M_isIn a2 (0 : Int32) (5 : Int32)) 0 = true then (
  some ((0 : Int32), M1)) else (
  if jp_c .ne (f_M_isIn a3 (0 : Int32) (99 : Int32)) 0 = true then (
  jg (jp_in (((6 : Int32) * a1) + a2) 36) (
  let M5 := jp_set M1 135 (upd (M1 135) (Int32.toNatClampNeg (((6 : Int32) * a1) + a2)) a3)
  some ((1 : Int32), M5))) else (
  some ((0 : Int32), M1))))
theorem t_M_way {Ln : Nat} {xs : Nat → Int32} {sv : jp_V} {a1 : Int32} {a2 : Int32} {a3 : Int32} {w : Nat} {M : jp_M} {res : Int32 × jp_M} (hf : f_M_way a1 a2 a3 M = some res) : jE (jZ (jK Ln xs sv)) 1 279 [(.inr (some 104)), (.inl a1), (.inl a2), (.inl a3)] (jSH w) M (some (.inl res.1), jSH w, res.2) := by
  unfold f_M_way at hf
  refine jE_in (L0 := [some (.inr (some 104)), some (.inl a1), some (.inl a2), some (.inl a3)]) rfl (Nat.le_of_ble_eq_true rfl) rfl (fun d hd => ?_)
  refine jR_in rfl ⟨rfl, rfl, rfl⟩ rfl ?_
  refine js_aload_n rfl ?_
  refine js_iconst (v := (0 : Int32)) rfl ?_
  refine js_puti rfl rfl (Or.inl rfl) ?_
  refine js_aload_n rfl ?_
  refine js_iload_n rfl ?_
  refine js_iconst (v := (0 : Int32)) rfl ?_
  refine js_iconst (v := (5 : Int32)) rfl ?_
  refine js_c4i rfl rfl ⟨rfl, rfl⟩ rfl rfl (t_M_isIn rfl) (by omega) ?_
  refine js_ifc (tgt := 36) rfl rfl (fun h => ?_) (fun h => ?_)
  · have hf := jif_t hf h
    refine jR_in rfl ⟨rfl, rfl, rfl⟩ rfl ?_
    refine js_iconst (v := (0 : Int32)) rfl ?_
    obtain rfl := Option.some.inj hf
    exact js_iret rfl rfl
  · have hf := jif_f hf h
    refine js_aload_n rfl ?_
    refine js_iload_n rfl ?_
    refine js_iconst (v := (0 : Int32)) rfl ?_
    refine js_iconst (v := (5 : Int32)) rfl ?_
    refine js_c4i rfl rfl ⟨rfl, rfl⟩ rfl rfl (t_M_isIn rfl) (by omega) ?_
    refine js_ifc (tgt := 36) rfl rfl (fun h => ?_) (fun h => ?_)
    · have hf := jif_t hf h
      refine jR_in rfl ⟨rfl, rfl, rfl⟩ rfl ?_
      refine js_iconst (v := (0 : Int32)) rfl ?_
      obtain rfl := Option.some.inj hf
      exact js_iret rfl rfl
    · have hf := jif_f hf h
      refine js_aload_n rfl ?_
      refine js_iload_n rfl ?_
      refine js_iconst (v := (0 : Int32)) rfl ?_
      refine js_bipush (v := (99 : Int32)) rfl ?_
      refine js_c4i rfl rfl ⟨rfl, rfl⟩ rfl rfl (t_M_isIn rfl) (by omega) ?_
      refine js_ifc (tgt := 38) rfl rfl (fun h => ?_) (fun h => ?_)
      · have hf := jif_t hf h
        refine jR_in rfl ⟨rfl, rfl, rfl⟩ rfl ?_
        refine js_aload_n rfl ?_
        refine js_getr rfl rfl rfl ?_
        refine js_bipush (v := (6 : Int32)) rfl ?_
        refine js_iload_n rfl ?_
        refine js_imul ?_
        refine js_iload_n rfl ?_
        refine js_iadd ?_
        refine js_iload_n rfl ?_
        obtain ⟨hb6, hf⟩ := jg_some hf
        refine js_iast rfl hb6 ?_
        refine js_iconst (v := (1 : Int32)) rfl ?_
        obtain rfl := Option.some.inj hf
        exact js_iret rfl rfl
      · have hf := jif_f hf h
        refine js_iconst (v := (0 : Int32)) rfl ?_
        obtain rfl := Option.some.inj hf
        exact js_iret rfl rfl
theorem b_M_way {a1 : Int32} {a2 : Int32} {a3 : Int32} {M : jp_M} {res : Int32 × jp_M} (hf : f_M_way a1 a2 a3 M = some res) : res.1 = 0 ∨ res.1 = 1 := by
  unfold f_M_way at hf
  rcases jif_d hf with ⟨h, hf⟩ | ⟨h, hf⟩
  · obtain rfl := Option.some.inj hf
    exact Or.inl rfl
  · rcases jif_d hf with ⟨h, hf⟩ | ⟨h, hf⟩
    · obtain rfl := Option.some.inj hf
      exact Or.inl rfl
    · rcases jif_d hf with ⟨h, hf⟩ | ⟨h, hf⟩
      · obtain ⟨hb6, hf⟩ := jg_some hf
        obtain rfl := Option.some.inj hf
        exact Or.inr rfl
      · obtain rfl := Option.some.inj hf
        exact Or.inl rfl
/-! SwallowsAirModel.onesOf(I)I -/
def f_M_onesOf_4  : Nat → Int32 → Int32 → Option (Int32)
  | 0, _, _ => none
  | n + 1, l2, l3 =>
    if jp_c .eq l3 0 = true then (
    some l2) else (
    f_M_onesOf_4 n (l2 + (1 : Int32)) (l3 &&& (l3 - (1 : Int32))))
theorem t_M_onesOf_4 {Ln : Nat} {xs : Nat → Int32} {sv : jp_V} {d : Nat} (hd : 0 ≤ d)  : ∀ (n : Nat) (l2 : Int32) (l3 : Int32) (o0 : Option jp_V) (o1 : Option jp_V) (w : Nat) (M : jp_M) {res : Int32}, f_M_onesOf_4 n  l2 l3 = some res → jR (jZ (jK Ln xs sv)) d 169 4 ([o0, o1, some (.inl l2), some (.inl l3)], [], jSH w, M) (some (.inl res), jSH w, M) := by
  intro n
  induction n with
  | zero =>
    intro l2 l3 o0 o1 w M res hf
    cases hf
  | succ n ih =>
    intro l2 l3 o0 o1 w M res hf
    rw [f_M_onesOf_4] at hf
    refine jR_in rfl ⟨rfl, rfl, rfl⟩ rfl ?_
    refine js_iload_n rfl ?_
    refine js_ifc (tgt := 21) rfl rfl (fun h => ?_) (fun h => ?_)
    · have hf := jif_t hf h
      refine jR_in rfl ⟨rfl, rfl, rfl⟩ rfl ?_
      refine js_iload_n rfl ?_
      obtain rfl := Option.some.inj hf
      exact js_iret rfl rfl
    · have hf := jif_f hf h
      refine js_iload_n rfl ?_
      refine js_iconst (v := (1 : Int32)) rfl ?_
      refine js_iadd ?_
      refine js_istore_n rfl rfl ?_
      refine js_iload_n rfl ?_
      refine js_iload_n rfl ?_
      refine js_iconst (v := (1 : Int32)) rfl ?_
      refine js_isub ?_
      refine js_iand ?_
      refine js_istore_n rfl rfl ?_
      refine js_goto (tgt := 4) rfl rfl ?_
      exact ih _ _ _ _ _ _ hf
def f_M_onesOf (a1 : Int32) : Option (Int32) :=
  f_M_onesOf_4 jFu (0 : Int32) a1
theorem t_M_onesOf {Ln : Nat} {xs : Nat → Int32} {sv : jp_V} {a1 : Int32} {w : Nat} {M : jp_M} {res : Int32} (hf : f_M_onesOf a1 = some res) : jE (jZ (jK Ln xs sv)) 0 169 [(.inr (some 104)), (.inl a1)] (jSH w) M (some (.inl res), jSH w, M) := by
  unfold f_M_onesOf at hf
  refine jE_in (L0 := [some (.inr (some 104)), some (.inl a1), none, none]) rfl (Nat.le_of_ble_eq_true rfl) rfl (fun d hd => ?_)
  refine jR_in rfl ⟨rfl, rfl, rfl⟩ rfl ?_
  refine js_iconst (v := (0 : Int32)) rfl ?_
  refine js_istore_n rfl rfl ?_
  refine js_iload_n rfl ?_
  refine js_istore_n rfl rfl ?_
  exact jS_out rfl ⟨rfl, rfl, rfl⟩ rfl (t_M_onesOf_4 hd jFu _ _ _ _ _ _ hf)
/-! SwallowsAirModel.leastBy(III)I -/
def f_M_leastBy (a1 : Int32) (a2 : Int32) (a3 : Int32) (M : jp_M) : Option (Int32) :=
  jg (jp_in (((6 : Int32) * a1) + a2) 36) (
  jg (jp_in (a3 ||| ((1 : Int32) <<< (a2 &&& 31))) 64) (
  some ((M 135 (Int32.toNatClampNeg (((6 : Int32) * a1) + a2))) + (M 136 (Int32.toNatClampNeg (a3 ||| ((1 : Int32) <<< (a2 &&& 31))))))))
theorem t_M_leastBy {Ln : Nat} {xs : Nat → Int32} {sv : jp_V} {a1 : Int32} {a2 : Int32} {a3 : Int32} {w : Nat} {M : jp_M} {res : Int32} (hf : f_M_leastBy a1 a2 a3 M = some res) : jE (jZ (jK Ln xs sv)) 0 280 [(.inr (some 104)), (.inl a1), (.inl a2), (.inl a3)] (jSH w) M (some (.inl res), jSH w, M) := by
  unfold f_M_leastBy at hf
  refine jE_in (L0 := [some (.inr (some 104)), some (.inl a1), some (.inl a2), some (.inl a3)]) rfl (Nat.le_of_ble_eq_true rfl) rfl (fun d hd => ?_)
  refine jR_in rfl ⟨rfl, rfl, rfl⟩ rfl ?_
  refine js_aload_n rfl ?_
  refine js_getr rfl rfl rfl ?_
  refine js_bipush (v := (6 : Int32)) rfl ?_
  refine js_iload_n rfl ?_
  refine js_imul ?_
  refine js_iload_n rfl ?_
  refine js_iadd ?_
  obtain ⟨hb1, hf⟩ := jg_some hf
  refine js_iald rfl hb1 ?_
  refine js_aload_n rfl ?_
  refine js_getr rfl rfl rfl ?_
  refine js_iload_n rfl ?_
  refine js_iconst (v := (1 : Int32)) rfl ?_
  refine js_iload_n rfl ?_
  refine js_ishl ?_
  refine js_ior ?_
  obtain ⟨hb2, hf⟩ := jg_some hf
  refine js_iald rfl hb2 ?_
  refine js_iadd ?_
  obtain rfl := Option.some.inj hf
  exact js_iret rfl rfl
/-! SwallowsAirModel.findsEaves()V -/
def f_M_findsEaves_67 (c2 : Int32 → jp_M → Option (jp_M)) (c17 : Int32 → Int32 → Int32 → Int32 → jp_M → Option (jp_M)) (l1 : Int32) (l2 : Int32) (l3 : Int32) (l4 : Int32) (M : jp_M) : Option (jp_M) :=
  c17 l1 l2 l3 (l4 + (1 : Int32)) M
theorem t_M_findsEaves_67 {Ln : Nat} {xs : Nat → Int32} {sv : jp_V} {d : Nat} (hd : 1 ≤ d) {c2 : Int32 → jp_M → Option (jp_M)} (hc2 : ∀ (l1 : Int32) (o2 : Option jp_V) (o3 : Option jp_V) (o4 : Option jp_V) (w : Nat) (M : jp_M) (res : jp_M), c2 l1 M = some res → jR (jZ (jK Ln xs sv)) d 281 3 ([some (.inr (some 104)), some (.inl l1), o2, o3, o4], [], jSH w, M) (none, jSH w, res)) {c17 : Int32 → Int32 → Int32 → Int32 → jp_M → Option (jp_M)} (hc17 : ∀ (l1 : Int32) (l2 : Int32) (l3 : Int32) (l4 : Int32) (w : Nat) (M : jp_M) (res : jp_M), c17 l1 l2 l3 l4 M = some res → jR (jZ (jK Ln xs sv)) d 281 30 ([some (.inr (some 104)), some (.inl l1), some (.inl l2), some (.inl l3), some (.inl l4)], [], jSH w, M) (none, jSH w, res)) (l1 : Int32) (l2 : Int32) (l3 : Int32) (l4 : Int32) (w : Nat) (M : jp_M) {res : jp_M} (hf : f_M_findsEaves_67 c2 c17 l1 l2 l3 l4 M = some res) : jR (jZ (jK Ln xs sv)) d 281 67 ([some (.inr (some 104)), some (.inl l1), some (.inl l2), some (.inl l3), some (.inl l4)], [], jSH w, M) (none, jSH w, res) := by
  unfold f_M_findsEaves_67 at hf
  refine jR_in rfl ⟨rfl, rfl, rfl⟩ rfl ?_
  refine js_iinc (v := (1 : Int32)) rfl rfl rfl rfl ?_
  refine js_goto (tgt := 30) rfl rfl ?_
  exact hc17 _ _ _ _ _ _ _ hf
def f_M_findsEaves_73 (c2 : Int32 → jp_M → Option (jp_M)) (l1 : Int32) (l3 : Int32) (M : jp_M) : Option (jp_M) :=
  jg (jp_in l1 64) (
  let M1 := jp_set M 136 (upd (M 136) (Int32.toNatClampNeg l1) l3)
  c2 (l1 + (-1 : Int32)) M1)
theorem t_M_findsEaves_73 {Ln : Nat} {xs : Nat → Int32} {sv : jp_V} {d : Nat} (hd : 1 ≤ d) {c2 : Int32 → jp_M → Option (jp_M)} (hc2 : ∀ (l1 : Int32) (o2 : Option jp_V) (o3 : Option jp_V) (o4 : Option jp_V) (w : Nat) (M : jp_M) (res : jp_M), c2 l1 M = some res → jR (jZ (jK Ln xs sv)) d 281 3 ([some (.inr (some 104)), some (.inl l1), o2, o3, o4], [], jSH w, M) (none, jSH w, res)) (l1 : Int32) (l3 : Int32) (o2 : Option jp_V) (o4 : Option jp_V) (w : Nat) (M : jp_M) {res : jp_M} (hf : f_M_findsEaves_73 c2 l1 l3 M = some res) : jR (jZ (jK Ln xs sv)) d 281 73 ([some (.inr (some 104)), some (.inl l1), o2, some (.inl l3), o4], [], jSH w, M) (none, jSH w, res) := by
  unfold f_M_findsEaves_73 at hf
  refine jR_in rfl ⟨rfl, rfl, rfl⟩ rfl ?_
  refine js_aload_n rfl ?_
  refine js_getr rfl rfl rfl ?_
  refine js_iload_n rfl ?_
  refine js_iload_n rfl ?_
  obtain ⟨hb2, hf⟩ := jg_some hf
  refine js_iast rfl hb2 ?_
  refine js_iinc (v := (-1 : Int32)) rfl rfl rfl rfl ?_
  refine js_goto (tgt := 3) rfl rfl ?_
  exact hc2 _ _ _ _ _ _ _ hf
def f_M_findsEaves_30  : Nat → (Int32 → jp_M → Option (jp_M)) → Int32 → Int32 → Int32 → Int32 → jp_M → Option (jp_M)
  | 0, _, _, _, _, _, _ => none
  | n + 1, c2, l1, l2, l3, l4, M =>
    if jp_c .ge l4 (6 : Int32) = true then (
    f_M_findsEaves_73 c2 l1 l3 M) else (
    if jp_c .ge l2 (6 : Int32) = true then (
    f_M_findsEaves_73 c2 l1 l3 M) else (
    if jp_c .ne (f_M_has l1 l4) 0 = true then (
    f_M_findsEaves_67 c2 (f_M_findsEaves_30 n c2) l1 l2 l3 l4 M) else (
    (f_M_leastBy l2 l4 l1 M).bind fun q2 => (
    f_M_findsEaves_67 c2 (f_M_findsEaves_30 n c2) l1 l2 (f_M_lesser l3 q2) l4 M))))
theorem t_M_findsEaves_30 {Ln : Nat} {xs : Nat → Int32} {sv : jp_V} {d : Nat} (hd : 1 ≤ d) {c2 : Int32 → jp_M → Option (jp_M)} (hc2 : ∀ (l1 : Int32) (o2 : Option jp_V) (o3 : Option jp_V) (o4 : Option jp_V) (w : Nat) (M : jp_M) (res : jp_M), c2 l1 M = some res → jR (jZ (jK Ln xs sv)) d 281 3 ([some (.inr (some 104)), some (.inl l1), o2, o3, o4], [], jSH w, M) (none, jSH w, res)) : ∀ (n : Nat) (l1 : Int32) (l2 : Int32) (l3 : Int32) (l4 : Int32) (w : Nat) (M : jp_M) {res : jp_M}, f_M_findsEaves_30 n c2 l1 l2 l3 l4 M = some res → jR (jZ (jK Ln xs sv)) d 281 30 ([some (.inr (some 104)), some (.inl l1), some (.inl l2), some (.inl l3), some (.inl l4)], [], jSH w, M) (none, jSH w, res) := by
  intro n
  induction n with
  | zero =>
    intro l1 l2 l3 l4 w M res hf
    cases hf
  | succ n ih =>
    intro l1 l2 l3 l4 w M res hf
    rw [f_M_findsEaves_30] at hf
    refine jR_in rfl ⟨rfl, rfl, rfl⟩ rfl ?_
    refine js_iload rfl ?_
    refine js_bipush (v := (6 : Int32)) rfl ?_
    refine js_icmp (tgt := 73) rfl rfl (fun h => ?_) (fun h => ?_)
    · have hf := jif_t hf h
      exact t_M_findsEaves_73 hd hc2 _ _ _ _ _ _ hf
    · have hf := jif_f hf h
      refine js_iload_n rfl ?_
      refine js_bipush (v := (6 : Int32)) rfl ?_
      refine js_icmp (tgt := 73) rfl rfl (fun h => ?_) (fun h => ?_)
      · have hf := jif_t hf h
        exact t_M_findsEaves_73 hd hc2 _ _ _ _ _ _ hf
      · have hf := jif_f hf h
        refine js_aload_n rfl ?_
        refine js_iload_n rfl ?_
        refine js_iload rfl ?_
        refine js_c3i rfl rfl ⟨rfl, rfl⟩ rfl rfl (t_M_has rfl) (by omega) ?_
        refine js_ifc (tgt := 67) rfl rfl (fun h => ?_) (fun h => ?_)
        · have hf := jif_t hf h
          exact t_M_findsEaves_67 hd hc2 (fun l1 l2 l3 l4 w M res hf => ih l1 l2 l3 l4 w M hf) _ _ _ _ _ _ hf
        · have hf := jif_f hf h
          refine js_aload_n rfl ?_
          refine js_iload_n rfl ?_
          refine js_aload_n rfl ?_
          refine js_iload_n rfl ?_
          refine js_iload rfl ?_
          refine js_iload_n rfl ?_
          obtain ⟨q2, hc_2, hf⟩ := jbind hf
          refine js_c4i rfl rfl ⟨rfl, rfl⟩ rfl rfl (t_M_leastBy hc_2) (by omega) ?_
          refine js_c3i rfl rfl ⟨rfl, rfl⟩ rfl rfl (t_M_lesser rfl) (by omega) ?_
          refine js_istore_n rfl rfl ?_
          exact jS_out rfl ⟨rfl, rfl, rfl⟩ rfl (t_M_findsEaves_67 hd hc2 (fun l1 l2 l3 l4 w M res hf => ih l1 l2 l3 l4 w M hf) _ _ _ _ _ _ hf)
def f_M_findsEaves_26 (c2 : Int32 → jp_M → Option (jp_M)) (l1 : Int32) (l2 : Int32) (s0 : Int32) (M : jp_M) : Option (jp_M) :=
  f_M_findsEaves_30 jFu c2 l1 l2 s0 (0 : Int32) M
theorem t_M_findsEaves_26 {Ln : Nat} {xs : Nat → Int32} {sv : jp_V} {d : Nat} (hd : 1 ≤ d) {c2 : Int32 → jp_M → Option (jp_M)} (hc2 : ∀ (l1 : Int32) (o2 : Option jp_V) (o3 : Option jp_V) (o4 : Option jp_V) (w : Nat) (M : jp_M) (res : jp_M), c2 l1 M = some res → jR (jZ (jK Ln xs sv)) d 281 3 ([some (.inr (some 104)), some (.inl l1), o2, o3, o4], [], jSH w, M) (none, jSH w, res)) (l1 : Int32) (l2 : Int32) (s0 : Int32) (o3 : Option jp_V) (o4 : Option jp_V) (w : Nat) (M : jp_M) {res : jp_M} (hf : f_M_findsEaves_26 c2 l1 l2 s0 M = some res) : jR (jZ (jK Ln xs sv)) d 281 26 ([some (.inr (some 104)), some (.inl l1), some (.inl l2), o3, o4], [.inl s0], jSH w, M) (none, jSH w, res) := by
  unfold f_M_findsEaves_26 at hf
  refine jR_in rfl ⟨rfl, rfl, rfl⟩ rfl ?_
  refine js_istore_n rfl rfl ?_
  refine js_iconst (v := (0 : Int32)) rfl ?_
  refine js_istore rfl rfl ?_
  exact jS_out rfl ⟨rfl, rfl, rfl⟩ rfl (t_M_findsEaves_30 hd hc2 jFu _ _ _ _ _ _ hf)
def f_M_findsEaves_3  : Nat → Int32 → jp_M → Option (jp_M)
  | 0, _, _ => none
  | n + 1, l1, M =>
    if jp_c .lt l1 0 = true then (
    some M) else (
    (f_M_onesOf l1).bind fun q1 => (
    if jp_c .ne q1 (6 : Int32) = true then (
    f_M_findsEaves_26 (f_M_findsEaves_3 n ) l1 q1 (100000000 : Int32) M) else (
    f_M_findsEaves_26 (f_M_findsEaves_3 n ) l1 q1 (0 : Int32) M)))
theorem t_M_findsEaves_3 {Ln : Nat} {xs : Nat → Int32} {sv : jp_V} {d : Nat} (hd : 1 ≤ d)  : ∀ (n : Nat) (l1 : Int32) (o2 : Option jp_V) (o3 : Option jp_V) (o4 : Option jp_V) (w : Nat) (M : jp_M) {res : jp_M}, f_M_findsEaves_3 n  l1 M = some res → jR (jZ (jK Ln xs sv)) d 281 3 ([some (.inr (some 104)), some (.inl l1), o2, o3, o4], [], jSH w, M) (none, jSH w, res) := by
  intro n
  induction n with
  | zero =>
    intro l1 o2 o3 o4 w M res hf
    cases hf
  | succ n ih =>
    intro l1 o2 o3 o4 w M res hf
    rw [f_M_findsEaves_3] at hf
    refine jR_in rfl ⟨rfl, rfl, rfl⟩ rfl ?_
    refine js_iload_n rfl ?_
    refine js_ifc (tgt := 86) rfl rfl (fun h => ?_) (fun h => ?_)
    · have hf := jif_t hf h
      refine jR_in rfl ⟨rfl, rfl, rfl⟩ rfl ?_
      obtain rfl := Option.some.inj hf
      exact js_ret rfl rfl
    · have hf := jif_f hf h
      refine js_aload_n rfl ?_
      refine js_iload_n rfl ?_
      obtain ⟨q1, hc_1, hf⟩ := jbind hf
      refine js_c2i rfl rfl ⟨rfl, rfl⟩ rfl rfl (t_M_onesOf hc_1) (by omega) ?_
      refine js_istore_n rfl rfl ?_
      refine js_iload_n rfl ?_
      refine js_bipush (v := (6 : Int32)) rfl ?_
      refine js_icmp (tgt := 23) rfl rfl (fun h => ?_) (fun h => ?_)
      · have hf := jif_t hf h
        refine jR_in rfl ⟨rfl, rfl, rfl⟩ rfl ?_
        refine js_ldcw (v := (100000000 : Int32)) rfl ?_
        exact jS_out rfl ⟨rfl, rfl, rfl⟩ rfl (t_M_findsEaves_26 hd (fun l1 o2 o3 o4 w M res hf => ih l1 o2 o3 o4 w M hf) _ _ _ _ _ _ _ hf)
      · have hf := jif_f hf h
        refine js_iconst (v := (0 : Int32)) rfl ?_
        refine js_goto (tgt := 26) rfl rfl ?_
        exact t_M_findsEaves_26 hd (fun l1 o2 o3 o4 w M res hf => ih l1 o2 o3 o4 w M hf) _ _ _ _ _ _ _ hf
def f_M_findsEaves (M : jp_M) : Option (jp_M) :=
  f_M_findsEaves_3 jFu (63 : Int32) M
theorem t_M_findsEaves {Ln : Nat} {xs : Nat → Int32} {sv : jp_V} {w : Nat} {M : jp_M} {res : jp_M} (hf : f_M_findsEaves M = some res) : jE (jZ (jK Ln xs sv)) 1 281 [(.inr (some 104))] (jSH w) M (none, jSH w, res) := by
  unfold f_M_findsEaves at hf
  refine jE_in (L0 := [some (.inr (some 104)), none, none, none, none]) rfl (Nat.le_of_ble_eq_true rfl) rfl (fun d hd => ?_)
  refine jR_in rfl ⟨rfl, rfl, rfl⟩ rfl ?_
  refine js_bipush (v := (63 : Int32)) rfl ?_
  refine js_istore_n rfl rfl ?_
  exact jS_out rfl ⟨rfl, rfl, rfl⟩ rfl (t_M_findsEaves_3 hd jFu _ _ _ _ _ _ hf)
/-! SwallowsAirModel.eaves(I)I -/
def f_M_eaves_82 (c28 : Int32 → Int32 → Int32 → Int32 → jp_M → Option (Int32 × jp_M)) (c35 : Int32 → Int32 → Int32 → Int32 → jp_M → Option (Int32 × jp_M)) (l1 : Int32) (l2 : Int32) (l3 : Int32) (l4 : Int32) (M : jp_M) : Option (Int32 × jp_M) :=
  c35 l1 l2 (l3 + (1 : Int32)) l4 M
theorem t_M_eaves_82 {Ln : Nat} {xs : Nat → Int32} {sv : jp_V} {d : Nat} (hd : 2 ≤ d) {c28 : Int32 → Int32 → Int32 → Int32 → jp_M → Option (Int32 × jp_M)} (hc28 : ∀ (l1 : Int32) (l2 : Int32) (l3 : Int32) (l4 : Int32) (w : Nat) (M : jp_M) (res : Int32 × jp_M), c28 l1 l2 l3 l4 M = some res → jR (jZ (jK Ln xs sv)) d 282 45 ([some (.inr (some 104)), some (.inl l1), some (.inl l2), some (.inl l3), some (.inl l4)], [], jSH w, M) (some (.inl res.1), jSH w, res.2)) {c35 : Int32 → Int32 → Int32 → Int32 → jp_M → Option (Int32 × jp_M)} (hc35 : ∀ (l1 : Int32) (l2 : Int32) (l3 : Int32) (l4 : Int32) (w : Nat) (M : jp_M) (res : Int32 × jp_M), c35 l1 l2 l3 l4 M = some res → jR (jZ (jK Ln xs sv)) d 282 56 ([some (.inr (some 104)), some (.inl l1), some (.inl l2), some (.inl l3), some (.inl l4)], [], jSH w, M) (some (.inl res.1), jSH w, res.2)) (l1 : Int32) (l2 : Int32) (l3 : Int32) (l4 : Int32) (w : Nat) (M : jp_M) {res : Int32 × jp_M} (hf : f_M_eaves_82 c28 c35 l1 l2 l3 l4 M = some res) : jR (jZ (jK Ln xs sv)) d 282 82 ([some (.inr (some 104)), some (.inl l1), some (.inl l2), some (.inl l3), some (.inl l4)], [], jSH w, M) (some (.inl res.1), jSH w, res.2) := by
  unfold f_M_eaves_82 at hf
  refine jR_in rfl ⟨rfl, rfl, rfl⟩ rfl ?_
  refine js_iload_n rfl ?_
  refine js_iconst (v := (1 : Int32)) rfl ?_
  refine js_iadd ?_
  refine js_istore_n rfl rfl ?_
  refine js_goto (tgt := 56) rfl rfl ?_
  exact hc35 _ _ _ _ _ _ _ hf
def f_M_eaves_56  : Nat → (Int32 → Int32 → Int32 → Int32 → jp_M → Option (Int32 × jp_M)) → Int32 → Int32 → Int32 → Int32 → jp_M → Option (Int32 × jp_M)
  | 0, _, _, _, _, _, _ => none
  | n + 1, c28, l1, l2, l3, l4, M =>
    if jp_c .ne (f_M_has l2 l3) 0 = true then (
    f_M_eaves_82 c28 (f_M_eaves_56 n c28) l1 l2 l3 l4 M) else (
    (f_M_leastBy l4 l3 l2 M).bind fun q2 => (
    jg (jp_in l2 64) (
    if jp_c .eq q2 (M 136 (Int32.toNatClampNeg l2)) = true then (
    c28 l1 (l2 ||| ((1 : Int32) <<< (l3 &&& 31))) l3 (l4 + (1 : Int32)) M) else (
    f_M_eaves_82 c28 (f_M_eaves_56 n c28) l1 l2 l3 l4 M))))
theorem t_M_eaves_56 {Ln : Nat} {xs : Nat → Int32} {sv : jp_V} {d : Nat} (hd : 2 ≤ d) {c28 : Int32 → Int32 → Int32 → Int32 → jp_M → Option (Int32 × jp_M)} (hc28 : ∀ (l1 : Int32) (l2 : Int32) (l3 : Int32) (l4 : Int32) (w : Nat) (M : jp_M) (res : Int32 × jp_M), c28 l1 l2 l3 l4 M = some res → jR (jZ (jK Ln xs sv)) d 282 45 ([some (.inr (some 104)), some (.inl l1), some (.inl l2), some (.inl l3), some (.inl l4)], [], jSH w, M) (some (.inl res.1), jSH w, res.2)) : ∀ (n : Nat) (l1 : Int32) (l2 : Int32) (l3 : Int32) (l4 : Int32) (w : Nat) (M : jp_M) {res : Int32 × jp_M}, f_M_eaves_56 n c28 l1 l2 l3 l4 M = some res → jR (jZ (jK Ln xs sv)) d 282 56 ([some (.inr (some 104)), some (.inl l1), some (.inl l2), some (.inl l3), some (.inl l4)], [], jSH w, M) (some (.inl res.1), jSH w, res.2) := by
  intro n
  induction n with
  | zero =>
    intro l1 l2 l3 l4 w M res hf
    cases hf
  | succ n ih =>
    intro l1 l2 l3 l4 w M res hf
    rw [f_M_eaves_56] at hf
    refine jR_in rfl ⟨rfl, rfl, rfl⟩ rfl ?_
    refine js_aload_n rfl ?_
    refine js_iload_n rfl ?_
    refine js_iload_n rfl ?_
    refine js_c3i rfl rfl ⟨rfl, rfl⟩ rfl rfl (t_M_has rfl) (by omega) ?_
    refine js_ifc (tgt := 82) rfl rfl (fun h => ?_) (fun h => ?_)
    · have hf := jif_t hf h
      exact t_M_eaves_82 hd hc28 (fun l1 l2 l3 l4 w M res hf => ih l1 l2 l3 l4 w M hf) _ _ _ _ _ _ hf
    · have hf := jif_f hf h
      refine js_aload_n rfl ?_
      refine js_iload rfl ?_
      refine js_iload_n rfl ?_
      refine js_iload_n rfl ?_
      obtain ⟨q2, hc_2, hf⟩ := jbind hf
      refine js_c4i rfl rfl ⟨rfl, rfl⟩ rfl rfl (t_M_leastBy hc_2) (by omega) ?_
      refine js_aload_n rfl ?_
      refine js_getr rfl rfl rfl ?_
      refine js_iload_n rfl ?_
      obtain ⟨hb3, hf⟩ := jg_some hf
      refine js_iald rfl hb3 ?_
      refine js_icmp (tgt := 89) rfl rfl (fun h => ?_) (fun h => ?_)
      · have hf := jif_t hf h
        refine jR_in rfl ⟨rfl, rfl, rfl⟩ rfl ?_
        refine js_iload_n rfl ?_
        refine js_iconst (v := (1 : Int32)) rfl ?_
        refine js_iload_n rfl ?_
        refine js_ishl ?_
        refine js_ior ?_
        refine js_istore_n rfl rfl ?_
        refine js_iinc (v := (1 : Int32)) rfl rfl rfl rfl ?_
        refine js_goto (tgt := 45) rfl rfl ?_
        exact hc28 _ _ _ _ _ _ _ hf
      · have hf := jif_f hf h
        exact jS_out rfl ⟨rfl, rfl, rfl⟩ rfl (t_M_eaves_82 hd hc28 (fun l1 l2 l3 l4 w M res hf => ih l1 l2 l3 l4 w M hf) _ _ _ _ _ _ hf)
def f_M_eaves_45  : Nat → Int32 → Int32 → Int32 → Int32 → jp_M → Option (Int32 × jp_M)
  | 0, _, _, _, _, _ => none
  | n + 1, l1, l2, l3, l4, M =>
    if jp_c .gt l4 (l1 - (10 : Int32)) = true then (
    some (l3, M)) else (
    f_M_eaves_56 jFu (f_M_eaves_45 n ) l1 l2 (0 : Int32) l4 M)
theorem t_M_eaves_45 {Ln : Nat} {xs : Nat → Int32} {sv : jp_V} {d : Nat} (hd : 2 ≤ d)  : ∀ (n : Nat) (l1 : Int32) (l2 : Int32) (l3 : Int32) (l4 : Int32) (w : Nat) (M : jp_M) {res : Int32 × jp_M}, f_M_eaves_45 n  l1 l2 l3 l4 M = some res → jR (jZ (jK Ln xs sv)) d 282 45 ([some (.inr (some 104)), some (.inl l1), some (.inl l2), some (.inl l3), some (.inl l4)], [], jSH w, M) (some (.inl res.1), jSH w, res.2) := by
  intro n
  induction n with
  | zero =>
    intro l1 l2 l3 l4 w M res hf
    cases hf
  | succ n ih =>
    intro l1 l2 l3 l4 w M res hf
    rw [f_M_eaves_45] at hf
    refine jR_in rfl ⟨rfl, rfl, rfl⟩ rfl ?_
    refine js_iload rfl ?_
    refine js_iload_n rfl ?_
    refine js_bipush (v := (10 : Int32)) rfl ?_
    refine js_isub ?_
    refine js_icmp (tgt := 101) rfl rfl (fun h => ?_) (fun h => ?_)
    · have hf := jif_t hf h
      refine jR_in rfl ⟨rfl, rfl, rfl⟩ rfl ?_
      refine js_iload_n rfl ?_
      obtain rfl := Option.some.inj hf
      exact js_iret rfl rfl
    · have hf := jif_f hf h
      refine js_iconst (v := (0 : Int32)) rfl ?_
      refine js_istore_n rfl rfl ?_
      exact jS_out rfl ⟨rfl, rfl, rfl⟩ rfl (t_M_eaves_56 hd (fun l1 l2 l3 l4 w M res hf => ih l1 l2 l3 l4 w M hf) jFu _ _ _ _ _ _ hf)
def f_M_eaves_23  (l1 : Int32) (M : jp_M) : Option (Int32 × jp_M) :=
  (f_M_findsEaves M).bind fun q1 => (
  if jp_c .ne l1 0 = true then (
  f_M_eaves_45 jFu l1 (0 : Int32) (-1 : Int32) (0 : Int32) q1) else (
  some ((q1 136 0), q1)))
theorem t_M_eaves_23 {Ln : Nat} {xs : Nat → Int32} {sv : jp_V} {d : Nat} (hd : 2 ≤ d)  (l1 : Int32) (o2 : Option jp_V) (o3 : Option jp_V) (o4 : Option jp_V) (w : Nat) (M : jp_M) {res : Int32 × jp_M} (hf : f_M_eaves_23  l1 M = some res) : jR (jZ (jK Ln xs sv)) d 282 23 ([some (.inr (some 104)), some (.inl l1), o2, o3, o4], [], jSH w, M) (some (.inl res.1), jSH w, res.2) := by
  unfold f_M_eaves_23 at hf
  refine jR_in rfl ⟨rfl, rfl, rfl⟩ rfl ?_
  refine js_aload_n rfl ?_
  obtain ⟨q1, hc_1, hf⟩ := jbind hf
  refine js_c1v (w := 0) rfl rfl ⟨rfl, rfl⟩ rfl rfl (t_M_findsEaves hc_1) (by omega) ?_
  refine js_iload_n rfl ?_
  refine js_ifc (tgt := 38) rfl rfl (fun h => ?_) (fun h => ?_)
  · have hf := jif_t hf h
    refine jR_in rfl ⟨rfl, rfl, rfl⟩ rfl ?_
    refine js_iconst (v := (0 : Int32)) rfl ?_
    refine js_istore_n rfl rfl ?_
    refine js_iconst (v := (-1 : Int32)) rfl ?_
    refine js_istore_n rfl rfl ?_
    refine js_iconst (v := (0 : Int32)) rfl ?_
    refine js_istore rfl rfl ?_
    exact jS_out rfl ⟨rfl, rfl, rfl⟩ rfl (t_M_eaves_45 hd jFu _ _ _ _ _ _ hf)
  · have hf := jif_f hf h
    refine js_aload_n rfl ?_
    refine js_getr rfl rfl rfl ?_
    refine js_iconst (v := (0 : Int32)) rfl ?_
    refine js_iald rfl (by decide) ?_
    obtain rfl := Option.some.inj hf
    exact js_iret rfl rfl
def f_M_eaves (a1 : Int32) (M : jp_M) : Option (Int32 × jp_M) :=
  let M1 := jp_set M 104 (upd (M 104) 0 (0 : Int32))
  if jp_c .eq a1 0 = true then (
  f_M_eaves_23 a1 M1) else (
  if jp_c .ne (f_M_isIn a1 (10 : Int32) (15 : Int32)) 0 = true then (
  f_M_eaves_23 a1 M1) else (
  some ((-1 : Int32), M1)))
theorem t_M_eaves {Ln : Nat} {xs : Nat → Int32} {sv : jp_V} {a1 : Int32} {w : Nat} {M : jp_M} {res : Int32 × jp_M} (hf : f_M_eaves a1 M = some res) : jE (jZ (jK Ln xs sv)) 2 282 [(.inr (some 104)), (.inl a1)] (jSH w) M (some (.inl res.1), jSH w, res.2) := by
  unfold f_M_eaves at hf
  refine jE_in (L0 := [some (.inr (some 104)), some (.inl a1), none, none, none]) rfl (Nat.le_of_ble_eq_true rfl) rfl (fun d hd => ?_)
  refine jR_in rfl ⟨rfl, rfl, rfl⟩ rfl ?_
  refine js_aload_n rfl ?_
  refine js_iconst (v := (0 : Int32)) rfl ?_
  refine js_puti rfl rfl (Or.inl rfl) ?_
  refine js_iload_n rfl ?_
  refine js_ifc (tgt := 23) rfl rfl (fun h => ?_) (fun h => ?_)
  · have hf := jif_t hf h
    exact t_M_eaves_23 hd _ _ _ _ _ _ hf
  · have hf := jif_f hf h
    refine js_aload_n rfl ?_
    refine js_iload_n rfl ?_
    refine js_bipush (v := (10 : Int32)) rfl ?_
    refine js_bipush (v := (15 : Int32)) rfl ?_
    refine js_c4i rfl rfl ⟨rfl, rfl⟩ rfl rfl (t_M_isIn rfl) (by omega) ?_
    refine js_ifc (tgt := 23) rfl rfl (fun h => ?_) (fun h => ?_)
    · have hf := jif_t hf h
      exact t_M_eaves_23 hd _ _ _ _ _ _ hf
    · have hf := jif_f hf h
      refine js_iconst (v := (-1 : Int32)) rfl ?_
      obtain rfl := Option.some.inj hf
      exact js_iret rfl rfl
/-! SwallowsAirModel.foundedBy(I)I -/
def f_M_foundedBy_27 (c4 : Int32 → Int32 → Int32 → jp_M → Option (Int32)) (l1 : Int32) (l2 : Int32) (l3 : Int32) (M : jp_M) : Option (Int32) :=
  c4 l1 l2 (l3 + (1 : Int32)) M
theorem t_M_foundedBy_27 {Ln : Nat} {xs : Nat → Int32} {sv : jp_V} {d : Nat} (hd : 0 ≤ d) {c4 : Int32 → Int32 → Int32 → jp_M → Option (Int32)} (hc4 : ∀ (l1 : Int32) (l2 : Int32) (l3 : Int32) (w : Nat) (M : jp_M) (res : Int32), c4 l1 l2 l3 M = some res → jR (jZ (jK Ln xs sv)) d 283 4 ([some (.inr (some 104)), some (.inl l1), some (.inl l2), some (.inl l3)], [], jSH w, M) (some (.inl res), jSH w, M)) (l1 : Int32) (l2 : Int32) (l3 : Int32) (w : Nat) (M : jp_M) {res : Int32} (hf : f_M_foundedBy_27 c4 l1 l2 l3 M = some res) : jR (jZ (jK Ln xs sv)) d 283 27 ([some (.inr (some 104)), some (.inl l1), some (.inl l2), some (.inl l3)], [], jSH w, M) (some (.inl res), jSH w, M) := by
  unfold f_M_foundedBy_27 at hf
  refine jR_in rfl ⟨rfl, rfl, rfl⟩ rfl ?_
  refine js_iinc (v := (1 : Int32)) rfl rfl rfl rfl ?_
  refine js_goto (tgt := 4) rfl rfl ?_
  exact hc4 _ _ _ _ _ _ hf
def f_M_foundedBy_4  : Nat → Int32 → Int32 → Int32 → jp_M → Option (Int32)
  | 0, _, _, _, _ => none
  | n + 1, l1, l2, l3, M =>
    if jp_c .ge l3 (16 : Int32) = true then (
    some l2) else (
    jg (jp_in l3 32) (
    if jp_c .eq ((M 124 (Int32.toNatClampNeg l3)) &&& l1) 0 = true then (
    f_M_foundedBy_27 (f_M_foundedBy_4 n ) l1 l2 l3 M) else (
    f_M_foundedBy_27 (f_M_foundedBy_4 n ) l1 (l2 ||| ((1 : Int32) <<< (l3 &&& 31))) l3 M)))
theorem t_M_foundedBy_4 {Ln : Nat} {xs : Nat → Int32} {sv : jp_V} {d : Nat} (hd : 0 ≤ d)  : ∀ (n : Nat) (l1 : Int32) (l2 : Int32) (l3 : Int32) (w : Nat) (M : jp_M) {res : Int32}, f_M_foundedBy_4 n  l1 l2 l3 M = some res → jR (jZ (jK Ln xs sv)) d 283 4 ([some (.inr (some 104)), some (.inl l1), some (.inl l2), some (.inl l3)], [], jSH w, M) (some (.inl res), jSH w, M) := by
  intro n
  induction n with
  | zero =>
    intro l1 l2 l3 w M res hf
    cases hf
  | succ n ih =>
    intro l1 l2 l3 w M res hf
    rw [f_M_foundedBy_4] at hf
    refine jR_in rfl ⟨rfl, rfl, rfl⟩ rfl ?_
    refine js_iload_n rfl ?_
    refine js_bipush (v := (16 : Int32)) rfl ?_
    refine js_icmp (tgt := 33) rfl rfl (fun h => ?_) (fun h => ?_)
    · have hf := jif_t hf h
      refine jR_in rfl ⟨rfl, rfl, rfl⟩ rfl ?_
      refine js_iload_n rfl ?_
      obtain rfl := Option.some.inj hf
      exact js_iret rfl rfl
    · have hf := jif_f hf h
      refine js_aload_n rfl ?_
      refine js_getr rfl rfl rfl ?_
      refine js_iload_n rfl ?_
      obtain ⟨hb1, hf⟩ := jg_some hf
      refine js_iald rfl hb1 ?_
      refine js_iload_n rfl ?_
      refine js_iand ?_
      refine js_ifc (tgt := 27) rfl rfl (fun h => ?_) (fun h => ?_)
      · have hf := jif_t hf h
        exact t_M_foundedBy_27 hd (fun l1 l2 l3 w M res hf => ih l1 l2 l3 w M hf) _ _ _ _ _ hf
      · have hf := jif_f hf h
        refine js_iload_n rfl ?_
        refine js_iconst (v := (1 : Int32)) rfl ?_
        refine js_iload_n rfl ?_
        refine js_ishl ?_
        refine js_ior ?_
        refine js_istore_n rfl rfl ?_
        exact jS_out rfl ⟨rfl, rfl, rfl⟩ rfl (t_M_foundedBy_27 hd (fun l1 l2 l3 w M res hf => ih l1 l2 l3 w M hf) _ _ _ _ _ hf)
def f_M_foundedBy (a1 : Int32) (M : jp_M) : Option (Int32) :=
  f_M_foundedBy_4 jFu a1 (0 : Int32) (0 : Int32) M
theorem t_M_foundedBy {Ln : Nat} {xs : Nat → Int32} {sv : jp_V} {a1 : Int32} {w : Nat} {M : jp_M} {res : Int32} (hf : f_M_foundedBy a1 M = some res) : jE (jZ (jK Ln xs sv)) 0 283 [(.inr (some 104)), (.inl a1)] (jSH w) M (some (.inl res), jSH w, M) := by
  unfold f_M_foundedBy at hf
  refine jE_in (L0 := [some (.inr (some 104)), some (.inl a1), none, none]) rfl (Nat.le_of_ble_eq_true rfl) rfl (fun d hd => ?_)
  refine jR_in rfl ⟨rfl, rfl, rfl⟩ rfl ?_
  refine js_iconst (v := (0 : Int32)) rfl ?_
  refine js_istore_n rfl rfl ?_
  refine js_iconst (v := (0 : Int32)) rfl ?_
  refine js_istore_n rfl rfl ?_
  exact jS_out rfl ⟨rfl, rfl, rfl⟩ rfl (t_M_foundedBy_4 hd jFu _ _ _ _ _ hf)
