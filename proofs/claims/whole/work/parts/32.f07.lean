/-! SwallowsAirModel.runs(III)I -/
def f_M_runs_170 (c8 : Int32 → Int32 → Int32 → Int32 → jp_M → Option (Int32 × jp_M)) (l1 : Int32) (l3 : Int32) (l4 : Int32) (l5 : Int32) (M : jp_M) : Option (Int32 × jp_M) :=
  c8 l1 l3 l4 (l5 + (1 : Int32)) M
theorem t_M_runs_170 {Ln : Nat} {xs : Nat → Int32} {sv : jp_V} {d : Nat} (hd : 1 ≤ d) {c8 : Int32 → Int32 → Int32 → Int32 → jp_M → Option (Int32 × jp_M)} (hc8 : ∀ (l1 : Int32) (l3 : Int32) (l4 : Int32) (l5 : Int32) (o2 : Option jp_V) (w : Nat) (M : jp_M) (res : Int32 × jp_M), c8 l1 l3 l4 l5 M = some res → jR (jZ (jK Ln xs sv)) d 227 12 ([some (.inr (some 104)), some (.inl l1), o2, some (.inl l3), some (.inl l4), some (.inl l5)], [], jSH w, M) (some (.inl res.1), jSH w, res.2)) (l1 : Int32) (l3 : Int32) (l4 : Int32) (l5 : Int32) (o2 : Option jp_V) (w : Nat) (M : jp_M) {res : Int32 × jp_M} (hf : f_M_runs_170 c8 l1 l3 l4 l5 M = some res) : jR (jZ (jK Ln xs sv)) d 227 170 ([some (.inr (some 104)), some (.inl l1), o2, some (.inl l3), some (.inl l4), some (.inl l5)], [], jSH w, M) (some (.inl res.1), jSH w, res.2) := by
  unfold f_M_runs_170 at hf
  refine jR_in rfl ⟨rfl, rfl, rfl⟩ rfl ?_
  refine js_iinc (v := (1 : Int32)) rfl rfl rfl rfl ?_
  refine js_goto (tgt := 12) rfl rfl ?_
  exact hc8 _ _ _ _ _ _ _ _ hf
def f_M_runs_83 (c8 : Int32 → Int32 → Int32 → Int32 → jp_M → Option (Int32 × jp_M)) (l1 : Int32) (l3 : Int32) (l4 : Int32) (l5 : Int32) (s1 : Int32) (s2 : Int32) (M : jp_M) : Option (Int32 × jp_M) :=
  jg (jp_in s1 420) (
  let M1 := jp_set M 126 (upd (M 126) (Int32.toNatClampNeg s1) s2)
  f_M_runs_170 c8 l1 l3 (l4 + (1 : Int32)) l5 M1)
theorem t_M_runs_83 {Ln : Nat} {xs : Nat → Int32} {sv : jp_V} {d : Nat} (hd : 1 ≤ d) {c8 : Int32 → Int32 → Int32 → Int32 → jp_M → Option (Int32 × jp_M)} (hc8 : ∀ (l1 : Int32) (l3 : Int32) (l4 : Int32) (l5 : Int32) (o2 : Option jp_V) (w : Nat) (M : jp_M) (res : Int32 × jp_M), c8 l1 l3 l4 l5 M = some res → jR (jZ (jK Ln xs sv)) d 227 12 ([some (.inr (some 104)), some (.inl l1), o2, some (.inl l3), some (.inl l4), some (.inl l5)], [], jSH w, M) (some (.inl res.1), jSH w, res.2)) (l1 : Int32) (l3 : Int32) (l4 : Int32) (l5 : Int32) (s1 : Int32) (s2 : Int32) (o2 : Option jp_V) (w : Nat) (M : jp_M) {res : Int32 × jp_M} (hf : f_M_runs_83 c8 l1 l3 l4 l5 s1 s2 M = some res) : jR (jZ (jK Ln xs sv)) d 227 83 ([some (.inr (some 104)), some (.inl l1), o2, some (.inl l3), some (.inl l4), some (.inl l5)], [.inl s2, .inl s1, (.inr (some 126))], jSH w, M) (some (.inl res.1), jSH w, res.2) := by
  unfold f_M_runs_83 at hf
  refine jR_in rfl ⟨rfl, rfl, rfl⟩ rfl ?_
  obtain ⟨hb2, hf⟩ := jg_some hf
  refine js_iast rfl hb2 ?_
  refine js_iload rfl ?_
  refine js_iconst (v := (1 : Int32)) rfl ?_
  refine js_iadd ?_
  refine js_istore rfl rfl ?_
  refine js_goto (tgt := 170) rfl rfl ?_
  exact t_M_runs_170 hd hc8 _ _ _ _ _ _ _ hf
def f_M_runs_45 (c8 : Int32 → Int32 → Int32 → Int32 → jp_M → Option (Int32 × jp_M)) (l1 : Int32) (l3 : Int32) (l4 : Int32) (l5 : Int32) (M : jp_M) : Option (Int32 × jp_M) :=
  jg (jp_in l5 1200) (
  if jp_c .ne (M 119 (Int32.toNatClampNeg l5)) 0 = true then (
  jg (jp_in l5 1200) (
  jg (jp_in (M 120 (Int32.toNatClampNeg l5)) 10) (
  f_M_runs_83 c8 l1 l3 l4 l5 l4 (M 125 (Int32.toNatClampNeg (M 120 (Int32.toNatClampNeg l5)))) M))) else (
  jg (jp_in l5 1200) (
  f_M_runs_83 c8 l1 l3 l4 l5 l4 (M 120 (Int32.toNatClampNeg l5)) M)))
theorem t_M_runs_45 {Ln : Nat} {xs : Nat → Int32} {sv : jp_V} {d : Nat} (hd : 1 ≤ d) {c8 : Int32 → Int32 → Int32 → Int32 → jp_M → Option (Int32 × jp_M)} (hc8 : ∀ (l1 : Int32) (l3 : Int32) (l4 : Int32) (l5 : Int32) (o2 : Option jp_V) (w : Nat) (M : jp_M) (res : Int32 × jp_M), c8 l1 l3 l4 l5 M = some res → jR (jZ (jK Ln xs sv)) d 227 12 ([some (.inr (some 104)), some (.inl l1), o2, some (.inl l3), some (.inl l4), some (.inl l5)], [], jSH w, M) (some (.inl res.1), jSH w, res.2)) (l1 : Int32) (l3 : Int32) (l4 : Int32) (l5 : Int32) (o2 : Option jp_V) (w : Nat) (M : jp_M) {res : Int32 × jp_M} (hf : f_M_runs_45 c8 l1 l3 l4 l5 M = some res) : jR (jZ (jK Ln xs sv)) d 227 45 ([some (.inr (some 104)), some (.inl l1), o2, some (.inl l3), some (.inl l4), some (.inl l5)], [], jSH w, M) (some (.inl res.1), jSH w, res.2) := by
  unfold f_M_runs_45 at hf
  refine jR_in rfl ⟨rfl, rfl, rfl⟩ rfl ?_
  refine js_aload_n rfl ?_
  refine js_getr rfl rfl rfl ?_
  refine js_iload rfl ?_
  refine js_aload_n rfl ?_
  refine js_getr rfl rfl rfl ?_
  refine js_iload rfl ?_
  obtain ⟨hb1, hf⟩ := jg_some hf
  refine js_iald rfl hb1 ?_
  refine js_ifc (tgt := 71) rfl rfl (fun h => ?_) (fun h => ?_)
  · have hf := jif_t hf h
    refine jR_in rfl ⟨rfl, rfl, rfl⟩ rfl ?_
    refine js_aload_n rfl ?_
    refine js_getr rfl rfl rfl ?_
    refine js_aload_n rfl ?_
    refine js_getr rfl rfl rfl ?_
    refine js_iload rfl ?_
    obtain ⟨hb2, hf⟩ := jg_some hf
    refine js_iald rfl hb2 ?_
    obtain ⟨hb3, hf⟩ := jg_some hf
    refine js_iald rfl hb3 ?_
    exact jS_out rfl ⟨rfl, rfl, rfl⟩ rfl (t_M_runs_83 hd hc8 _ _ _ _ _ _ _ _ _ hf)
  · have hf := jif_f hf h
    refine js_aload_n rfl ?_
    refine js_getr rfl rfl rfl ?_
    refine js_iload rfl ?_
    obtain ⟨hb4, hf⟩ := jg_some hf
    refine js_iald rfl hb4 ?_
    refine js_goto (tgt := 83) rfl rfl ?_
    exact t_M_runs_83 hd hc8 _ _ _ _ _ _ _ _ _ hf
def f_M_runs_12  : Nat → Int32 → Int32 → Int32 → Int32 → jp_M → Option (Int32 × jp_M)
  | 0, _, _, _, _, _ => none
  | n + 1, l1, l3, l4, l5, M =>
    if jp_c .ge l5 (((400 : Int32) * l1) + l3) = true then (
    some ((M 126 0), M)) else (
    jg (jp_in l5 1200) (
    if jp_c .eq (M 119 (Int32.toNatClampNeg l5)) 0 = true then (
    f_M_runs_45 (f_M_runs_12 n ) l1 l3 l4 l5 M) else (
    jg (jp_in l5 1200) (
    if jp_c .ne (M 119 (Int32.toNatClampNeg l5)) (1 : Int32) = true then (
    jg (jp_in l5 1200) (
    if jp_c .ne (M 119 (Int32.toNatClampNeg l5)) (9 : Int32) = true then (
    jg (jp_in l5 1200) (
    jg (jp_in ((l4 - (1 : Int32)) - (1 : Int32)) 420) (
    jg (jp_in (l4 - (1 : Int32)) 420) (
    (f_M_twoOf (M 119 (Int32.toNatClampNeg l5)) (M 126 (Int32.toNatClampNeg ((l4 - (1 : Int32)) - (1 : Int32)))) (M 126 (Int32.toNatClampNeg (l4 - (1 : Int32))))).bind fun q7 => (
    jg (jp_in ((l4 - (1 : Int32)) - (1 : Int32)) 420) (
    let M8 := jp_set M 126 (upd (M 126) (Int32.toNatClampNeg ((l4 - (1 : Int32)) - (1 : Int32))) q7)
    f_M_runs_170 (f_M_runs_12 n ) l1 l3 (l4 - (1 : Int32)) l5 M8)))))) else (
    jg (jp_in (l4 - (1 : Int32)) 420) (
    jg (jp_in (l4 - (1 : Int32)) 420) (
    let M11 := jp_set M 126 (upd (M 126) (Int32.toNatClampNeg (l4 - (1 : Int32))) ((1 : Int32) - (M 126 (Int32.toNatClampNeg (l4 - (1 : Int32))))))
    f_M_runs_170 (f_M_runs_12 n ) l1 l3 l4 l5 M11))))) else (
    f_M_runs_45 (f_M_runs_12 n ) l1 l3 l4 l5 M)))))
theorem t_M_runs_12 {Ln : Nat} {xs : Nat → Int32} {sv : jp_V} {d : Nat} (hd : 1 ≤ d)  : ∀ (n : Nat) (l1 : Int32) (l3 : Int32) (l4 : Int32) (l5 : Int32) (o2 : Option jp_V) (w : Nat) (M : jp_M) {res : Int32 × jp_M}, f_M_runs_12 n  l1 l3 l4 l5 M = some res → jR (jZ (jK Ln xs sv)) d 227 12 ([some (.inr (some 104)), some (.inl l1), o2, some (.inl l3), some (.inl l4), some (.inl l5)], [], jSH w, M) (some (.inl res.1), jSH w, res.2) := by
  intro n
  induction n with
  | zero =>
    intro l1 l3 l4 l5 o2 w M res hf
    cases hf
  | succ n ih =>
    intro l1 l3 l4 l5 o2 w M res hf
    rw [f_M_runs_12] at hf
    refine jR_in rfl ⟨rfl, rfl, rfl⟩ rfl ?_
    refine js_iload rfl ?_
    refine js_sipush (v := (400 : Int32)) rfl ?_
    refine js_iload_n rfl ?_
    refine js_imul ?_
    refine js_iload_n rfl ?_
    refine js_iadd ?_
    refine js_icmp (tgt := 176) rfl rfl (fun h => ?_) (fun h => ?_)
    · have hf := jif_t hf h
      refine jR_in rfl ⟨rfl, rfl, rfl⟩ rfl ?_
      refine js_aload_n rfl ?_
      refine js_getr rfl rfl rfl ?_
      refine js_iconst (v := (0 : Int32)) rfl ?_
      refine js_iald rfl (by decide) ?_
      obtain rfl := Option.some.inj hf
      exact js_iret rfl rfl
    · have hf := jif_f hf h
      refine js_aload_n rfl ?_
      refine js_getr rfl rfl rfl ?_
      refine js_iload rfl ?_
      obtain ⟨hb1, hf⟩ := jg_some hf
      refine js_iald rfl hb1 ?_
      refine js_ifc (tgt := 45) rfl rfl (fun h => ?_) (fun h => ?_)
      · have hf := jif_t hf h
        exact t_M_runs_45 hd (fun l1 l3 l4 l5 o2 w M res hf => ih l1 l3 l4 l5 o2 w M hf) _ _ _ _ _ _ _ hf
      · have hf := jif_f hf h
        refine js_aload_n rfl ?_
        refine js_getr rfl rfl rfl ?_
        refine js_iload rfl ?_
        obtain ⟨hb2, hf⟩ := jg_some hf
        refine js_iald rfl hb2 ?_
        refine js_iconst (v := (1 : Int32)) rfl ?_
        refine js_icmp (tgt := 93) rfl rfl (fun h => ?_) (fun h => ?_)
        · have hf := jif_t hf h
          refine jR_in rfl ⟨rfl, rfl, rfl⟩ rfl ?_
          refine js_aload_n rfl ?_
          refine js_getr rfl rfl rfl ?_
          refine js_iload rfl ?_
          obtain ⟨hb3, hf⟩ := jg_some hf
          refine js_iald rfl hb3 ?_
          refine js_bipush (v := (9 : Int32)) rfl ?_
          refine js_icmp (tgt := 128) rfl rfl (fun h => ?_) (fun h => ?_)
          · have hf := jif_t hf h
            refine jR_in rfl ⟨rfl, rfl, rfl⟩ rfl ?_
            refine js_iload rfl ?_
            refine js_iconst (v := (1 : Int32)) rfl ?_
            refine js_isub ?_
            refine js_istore rfl rfl ?_
            refine js_aload_n rfl ?_
            refine js_getr rfl rfl rfl ?_
            refine js_iload rfl ?_
            refine js_iconst (v := (1 : Int32)) rfl ?_
            refine js_isub ?_
            refine js_aload_n rfl ?_
            refine js_aload_n rfl ?_
            refine js_getr rfl rfl rfl ?_
            refine js_iload rfl ?_
            obtain ⟨hb4, hf⟩ := jg_some hf
            refine js_iald rfl hb4 ?_
            refine js_aload_n rfl ?_
            refine js_getr rfl rfl rfl ?_
            refine js_iload rfl ?_
            refine js_iconst (v := (1 : Int32)) rfl ?_
            refine js_isub ?_
            obtain ⟨hb5, hf⟩ := jg_some hf
            refine js_iald rfl hb5 ?_
            refine js_aload_n rfl ?_
            refine js_getr rfl rfl rfl ?_
            refine js_iload rfl ?_
            obtain ⟨hb6, hf⟩ := jg_some hf
            refine js_iald rfl hb6 ?_
            obtain ⟨q7, hc_7, hf⟩ := jbind hf
            refine js_c4i rfl rfl ⟨rfl, rfl⟩ rfl rfl (t_M_twoOf hc_7) (by omega) ?_
            obtain ⟨hb9, hf⟩ := jg_some hf
            refine js_iast rfl hb9 ?_
            exact jS_out rfl ⟨rfl, rfl, rfl⟩ rfl (t_M_runs_170 hd (fun l1 l3 l4 l5 o2 w M res hf => ih l1 l3 l4 l5 o2 w M hf) _ _ _ _ _ _ _ hf)
          · have hf := jif_f hf h
            refine js_aload_n rfl ?_
            refine js_getr rfl rfl rfl ?_
            refine js_iload rfl ?_
            refine js_iconst (v := (1 : Int32)) rfl ?_
            refine js_isub ?_
            refine js_iconst (v := (1 : Int32)) rfl ?_
            refine js_aload_n rfl ?_
            refine js_getr rfl rfl rfl ?_
            refine js_iload rfl ?_
            refine js_iconst (v := (1 : Int32)) rfl ?_
            refine js_isub ?_
            obtain ⟨hb10, hf⟩ := jg_some hf
            refine js_iald rfl hb10 ?_
            refine js_isub ?_
            obtain ⟨hb12, hf⟩ := jg_some hf
            refine js_iast rfl hb12 ?_
            refine js_goto (tgt := 170) rfl rfl ?_
            exact t_M_runs_170 hd (fun l1 l3 l4 l5 o2 w M res hf => ih l1 l3 l4 l5 o2 w M hf) _ _ _ _ _ _ _ hf
        · have hf := jif_f hf h
          exact jS_out rfl ⟨rfl, rfl, rfl⟩ rfl (t_M_runs_45 hd (fun l1 l3 l4 l5 o2 w M res hf => ih l1 l3 l4 l5 o2 w M hf) _ _ _ _ _ _ _ hf)
def f_M_runs (a1 : Int32) (a2 : Int32) (a3 : Int32) (M : jp_M) : Option (Int32 × jp_M) :=
  f_M_runs_12 jFu a1 a3 (0 : Int32) (((400 : Int32) * a1) + a2) M
theorem t_M_runs {Ln : Nat} {xs : Nat → Int32} {sv : jp_V} {a1 : Int32} {a2 : Int32} {a3 : Int32} {w : Nat} {M : jp_M} {res : Int32 × jp_M} (hf : f_M_runs a1 a2 a3 M = some res) : jE (jZ (jK Ln xs sv)) 1 227 [(.inr (some 104)), (.inl a1), (.inl a2), (.inl a3)] (jSH w) M (some (.inl res.1), jSH w, res.2) := by
  unfold f_M_runs at hf
  refine jE_in (L0 := [some (.inr (some 104)), some (.inl a1), some (.inl a2), some (.inl a3), none, none]) rfl (Nat.le_of_ble_eq_true rfl) rfl (fun d hd => ?_)
  refine jR_in rfl ⟨rfl, rfl, rfl⟩ rfl ?_
  refine js_iconst (v := (0 : Int32)) rfl ?_
  refine js_istore rfl rfl ?_
  refine js_sipush (v := (400 : Int32)) rfl ?_
  refine js_iload_n rfl ?_
  refine js_imul ?_
  refine js_iload_n rfl ?_
  refine js_iadd ?_
  refine js_istore rfl rfl ?_
  exact jS_out rfl ⟨rfl, rfl, rfl⟩ rfl (t_M_runs_12 hd jFu _ _ _ _ _ _ _ hf)
/-! SwallowsAirModel.lineOf(I)I -/
def f_M_lineOf_59 (c2 : Int32 → Int32 → jp_M → Option (Int32 × jp_M)) (l1 : Int32) (l2 : Int32) (M : jp_M) : Option (Int32 × jp_M) :=
  c2 l1 (l2 + (1 : Int32)) M
theorem t_M_lineOf_59 {Ln : Nat} {xs : Nat → Int32} {sv : jp_V} {d : Nat} (hd : 2 ≤ d) {c2 : Int32 → Int32 → jp_M → Option (Int32 × jp_M)} (hc2 : ∀ (l1 : Int32) (l2 : Int32) (w : Nat) (M : jp_M) (res : Int32 × jp_M), c2 l1 l2 M = some res → jR (jZ (jK Ln xs sv)) d 228 2 ([some (.inr (some 104)), some (.inl l1), some (.inl l2)], [], jSH w, M) (some (.inl res.1), jSH w, res.2)) (l1 : Int32) (l2 : Int32) (w : Nat) (M : jp_M) {res : Int32 × jp_M} (hf : f_M_lineOf_59 c2 l1 l2 M = some res) : jR (jZ (jK Ln xs sv)) d 228 59 ([some (.inr (some 104)), some (.inl l1), some (.inl l2)], [], jSH w, M) (some (.inl res.1), jSH w, res.2) := by
  unfold f_M_lineOf_59 at hf
  refine jR_in rfl ⟨rfl, rfl, rfl⟩ rfl ?_
  refine js_iinc (v := (1 : Int32)) rfl rfl rfl rfl ?_
  refine js_goto (tgt := 2) rfl rfl ?_
  exact hc2 _ _ _ _ _ hf
def f_M_lineOf_2  : Nat → Int32 → Int32 → jp_M → Option (Int32 × jp_M)
  | 0, _, _, _ => none
  | n + 1, l1, l2, M =>
    if jp_c .ge l2 (M 114 0) = true then (
    some ((-1 : Int32), M)) else (
    jg (jp_in l2 48) (
    if jp_c .ne (M 115 (Int32.toNatClampNeg l2)) l1 = true then (
    f_M_lineOf_59 (f_M_lineOf_2 n ) l1 l2 M) else (
    jg (jp_in l2 48) (
    jg (jp_in l2 48) (
    if jp_c .eq (M 117 (Int32.toNatClampNeg l2)) (M 118 (Int32.toNatClampNeg l2)) = true then (
    some (l2, M)) else (
    jg (jp_in l2 48) (
    jg (jp_in l2 48) (
    (f_M_runs (0 : Int32) (M 117 (Int32.toNatClampNeg l2)) (M 118 (Int32.toNatClampNeg l2)) M).bind fun q6 => (
    if jp_c .eq q6.1 0 = true then (
    f_M_lineOf_59 (f_M_lineOf_2 n ) l1 l2 (q6.2)) else (
    some (l2, q6.2)))))))))))
theorem t_M_lineOf_2 {Ln : Nat} {xs : Nat → Int32} {sv : jp_V} {d : Nat} (hd : 2 ≤ d)  : ∀ (n : Nat) (l1 : Int32) (l2 : Int32) (w : Nat) (M : jp_M) {res : Int32 × jp_M}, f_M_lineOf_2 n  l1 l2 M = some res → jR (jZ (jK Ln xs sv)) d 228 2 ([some (.inr (some 104)), some (.inl l1), some (.inl l2)], [], jSH w, M) (some (.inl res.1), jSH w, res.2) := by
  intro n
  induction n with
  | zero =>
    intro l1 l2 w M res hf
    cases hf
  | succ n ih =>
    intro l1 l2 w M res hf
    rw [f_M_lineOf_2] at hf
    refine jR_in rfl ⟨rfl, rfl, rfl⟩ rfl ?_
    refine js_iload_n rfl ?_
    refine js_aload_n rfl ?_
    refine js_getr rfl rfl rfl ?_
    refine js_iconst (v := (0 : Int32)) rfl ?_
    refine js_iald rfl (by decide) ?_
    refine js_icmp (tgt := 65) rfl rfl (fun h => ?_) (fun h => ?_)
    · have hf := jif_t hf h
      refine jR_in rfl ⟨rfl, rfl, rfl⟩ rfl ?_
      refine js_iconst (v := (-1 : Int32)) rfl ?_
      obtain rfl := Option.some.inj hf
      exact js_iret rfl rfl
    · have hf := jif_f hf h
      refine js_aload_n rfl ?_
      refine js_getr rfl rfl rfl ?_
      refine js_iload_n rfl ?_
      obtain ⟨hb1, hf⟩ := jg_some hf
      refine js_iald rfl hb1 ?_
      refine js_iload_n rfl ?_
      refine js_icmp (tgt := 59) rfl rfl (fun h => ?_) (fun h => ?_)
      · have hf := jif_t hf h
        exact t_M_lineOf_59 hd (fun l1 l2 w M res hf => ih l1 l2 w M hf) _ _ _ _ hf
      · have hf := jif_f hf h
        refine js_aload_n rfl ?_
        refine js_getr rfl rfl rfl ?_
        refine js_iload_n rfl ?_
        obtain ⟨hb2, hf⟩ := jg_some hf
        refine js_iald rfl hb2 ?_
        refine js_aload_n rfl ?_
        refine js_getr rfl rfl rfl ?_
        refine js_iload_n rfl ?_
        obtain ⟨hb3, hf⟩ := jg_some hf
        refine js_iald rfl hb3 ?_
        refine js_icmp (tgt := 57) rfl rfl (fun h => ?_) (fun h => ?_)
        · have hf := jif_t hf h
          refine jR_in rfl ⟨rfl, rfl, rfl⟩ rfl ?_
          refine js_iload_n rfl ?_
          obtain rfl := Option.some.inj hf
          exact js_iret rfl rfl
        · have hf := jif_f hf h
          refine js_aload_n rfl ?_
          refine js_iconst (v := (0 : Int32)) rfl ?_
          refine js_aload_n rfl ?_
          refine js_getr rfl rfl rfl ?_
          refine js_iload_n rfl ?_
          obtain ⟨hb4, hf⟩ := jg_some hf
          refine js_iald rfl hb4 ?_
          refine js_aload_n rfl ?_
          refine js_getr rfl rfl rfl ?_
          refine js_iload_n rfl ?_
          obtain ⟨hb5, hf⟩ := jg_some hf
          refine js_iald rfl hb5 ?_
          obtain ⟨q6, hc_6, hf⟩ := jbind hf
          refine js_c4i rfl rfl ⟨rfl, rfl⟩ rfl rfl (t_M_runs hc_6) (by omega) ?_
          refine js_ifc (tgt := 59) rfl rfl (fun h => ?_) (fun h => ?_)
          · have hf := jif_t hf h
            exact t_M_lineOf_59 hd (fun l1 l2 w M res hf => ih l1 l2 w M hf) _ _ _ _ hf
          · have hf := jif_f hf h
            refine js_iload_n rfl ?_
            obtain rfl := Option.some.inj hf
            exact js_iret rfl rfl
def f_M_lineOf (a1 : Int32) (M : jp_M) : Option (Int32 × jp_M) :=
  f_M_lineOf_2 jFu a1 (0 : Int32) M
theorem t_M_lineOf {Ln : Nat} {xs : Nat → Int32} {sv : jp_V} {a1 : Int32} {w : Nat} {M : jp_M} {res : Int32 × jp_M} (hf : f_M_lineOf a1 M = some res) : jE (jZ (jK Ln xs sv)) 2 228 [(.inr (some 104)), (.inl a1)] (jSH w) M (some (.inl res.1), jSH w, res.2) := by
  unfold f_M_lineOf at hf
  refine jE_in (L0 := [some (.inr (some 104)), some (.inl a1), none]) rfl (Nat.le_of_ble_eq_true rfl) rfl (fun d hd => ?_)
  refine jR_in rfl ⟨rfl, rfl, rfl⟩ rfl ?_
  refine js_iconst (v := (0 : Int32)) rfl ?_
  refine js_istore_n rfl rfl ?_
  exact jS_out rfl ⟨rfl, rfl, rfl⟩ rfl (t_M_lineOf_2 hd jFu _ _ _ _ hf)
/-! SwallowsAirModel.held(III)I -/
def f_M_held (a1 : Int32) (a2 : Int32) (a3 : Int32) : Int32 :=
  if jp_c .ge a1 a2 = true then (
  if jp_c .le a1 a3 = true then (
  a1) else (
  a3)) else (
  a2)
theorem t_M_held {Ln : Nat} {xs : Nat → Int32} {sv : jp_V} {a1 : Int32} {a2 : Int32} {a3 : Int32} {w : Nat} {M : jp_M} {res : Int32} (hf : f_M_held a1 a2 a3 = res) : jE (jZ (jK Ln xs sv)) 0 164 [(.inr (some 104)), (.inl a1), (.inl a2), (.inl a3)] (jSH w) M (some (.inl res), jSH w, M) := by
  unfold f_M_held at hf
  refine jE_in (L0 := [some (.inr (some 104)), some (.inl a1), some (.inl a2), some (.inl a3)]) rfl (Nat.le_of_ble_eq_true rfl) rfl (fun d hd => ?_)
  refine jR_in rfl ⟨rfl, rfl, rfl⟩ rfl ?_
  refine js_iload_n rfl ?_
  refine js_iload_n rfl ?_
  refine js_icmp (tgt := 9) rfl rfl (fun h => ?_) (fun h => ?_)
  · have hf := jif_t hf h
    refine jR_in rfl ⟨rfl, rfl, rfl⟩ rfl ?_
    refine js_iload_n rfl ?_
    refine js_iload_n rfl ?_
    refine js_icmp (tgt := 18) rfl rfl (fun h => ?_) (fun h => ?_)
    · have hf := jif_t hf h
      refine jR_in rfl ⟨rfl, rfl, rfl⟩ rfl ?_
      refine js_iload_n rfl ?_
      subst hf
      exact js_iret rfl rfl
    · have hf := jif_f hf h
      refine js_iload_n rfl ?_
      refine js_goto (tgt := 19) rfl rfl ?_
      refine jR_in rfl ⟨rfl, rfl, rfl⟩ rfl ?_
      subst hf
      exact js_iret rfl rfl
  · have hf := jif_f hf h
    refine js_iload_n rfl ?_
    refine js_goto (tgt := 19) rfl rfl ?_
    refine jR_in rfl ⟨rfl, rfl, rfl⟩ rfl ?_
    subst hf
    exact js_iret rfl rfl
/-! SwallowsAirModel.lawTells(III)I -/
def f_M_lawTells_37  (l3 : Int32) (s1 : Int32) (M : jp_M) : Option (Int32 × jp_M) :=
  some ((f_M_held s1 (0 : Int32) l3), M)
theorem t_M_lawTells_37 {Ln : Nat} {xs : Nat → Int32} {sv : jp_V} {d : Nat} (hd : 3 ≤ d)  (l3 : Int32) (s1 : Int32) (o0 : Option jp_V) (o1 : Option jp_V) (o2 : Option jp_V) (o4 : Option jp_V) (w : Nat) (M : jp_M) {res : Int32 × jp_M} (hf : f_M_lawTells_37  l3 s1 M = some res) : jR (jZ (jK Ln xs sv)) d 232 37 ([o0, o1, o2, some (.inl l3), o4], [.inl s1, (.inr (some 104))], jSH w, M) (some (.inl res.1), jSH w, res.2) := by
  unfold f_M_lawTells_37 at hf
  refine jR_in rfl ⟨rfl, rfl, rfl⟩ rfl ?_
  refine js_iconst (v := (0 : Int32)) rfl ?_
  refine js_iload_n rfl ?_
  refine js_c4i rfl rfl ⟨rfl, rfl⟩ rfl rfl (t_M_held rfl) (by omega) ?_
  obtain rfl := Option.some.inj hf
  exact js_iret rfl rfl
def f_M_lawTells (a1 : Int32) (a2 : Int32) (a3 : Int32) (M : jp_M) : Option (Int32 × jp_M) :=
  (f_M_lineOf a1 M).bind fun q1 => (
  if jp_c .ne q1.1 (-1 : Int32) = true then (
  jg (jp_in q1.1 48) (
  jg (jp_in q1.1 48) (
  (f_M_runs (0 : Int32) (q1.2 116 (Int32.toNatClampNeg q1.1)) (q1.2 117 (Int32.toNatClampNeg q1.1)) q1.2).bind fun q4 => (
  f_M_lawTells_37 a3 (q4.1) (q4.2))))) else (
  f_M_lawTells_37 a3 a2 (q1.2)))
theorem t_M_lawTells {Ln : Nat} {xs : Nat → Int32} {sv : jp_V} {a1 : Int32} {a2 : Int32} {a3 : Int32} {w : Nat} {M : jp_M} {res : Int32 × jp_M} (hf : f_M_lawTells a1 a2 a3 M = some res) : jE (jZ (jK Ln xs sv)) 3 232 [(.inr (some 104)), (.inl a1), (.inl a2), (.inl a3)] (jSH w) M (some (.inl res.1), jSH w, res.2) := by
  unfold f_M_lawTells at hf
  refine jE_in (L0 := [some (.inr (some 104)), some (.inl a1), some (.inl a2), some (.inl a3), none]) rfl (Nat.le_of_ble_eq_true rfl) rfl (fun d hd => ?_)
  refine jR_in rfl ⟨rfl, rfl, rfl⟩ rfl ?_
  refine js_aload_n rfl ?_
  refine js_iload_n rfl ?_
  obtain ⟨q1, hc_1, hf⟩ := jbind hf
  refine js_c2i rfl rfl ⟨rfl, rfl⟩ rfl rfl (t_M_lineOf hc_1) (by omega) ?_
  refine js_istore rfl rfl ?_
  refine js_aload_n rfl ?_
  refine js_iload rfl ?_
  refine js_iconst (v := (-1 : Int32)) rfl ?_
  refine js_icmp (tgt := 18) rfl rfl (fun h => ?_) (fun h => ?_)
  · have hf := jif_t hf h
    refine jR_in rfl ⟨rfl, rfl, rfl⟩ rfl ?_
    refine js_aload_n rfl ?_
    refine js_iconst (v := (0 : Int32)) rfl ?_
    refine js_aload_n rfl ?_
    refine js_getr rfl rfl rfl ?_
    refine js_iload rfl ?_
    obtain ⟨hb2, hf⟩ := jg_some hf
    refine js_iald rfl hb2 ?_
    refine js_aload_n rfl ?_
    refine js_getr rfl rfl rfl ?_
    refine js_iload rfl ?_
    obtain ⟨hb3, hf⟩ := jg_some hf
    refine js_iald rfl hb3 ?_
    obtain ⟨q4, hc_4, hf⟩ := jbind hf
    refine js_c4i rfl rfl ⟨rfl, rfl⟩ rfl rfl (t_M_runs hc_4) (by omega) ?_
    exact jS_out rfl ⟨rfl, rfl, rfl⟩ rfl (t_M_lawTells_37 hd _ _ _ _ _ _ _ _ hf)
  · have hf := jif_f hf h
    refine js_iload_n rfl ?_
    refine js_goto (tgt := 37) rfl rfl ?_
    exact t_M_lawTells_37 hd _ _ _ _ _ _ _ _ hf
/-! SwallowsAirModel.leaveNow()I -/
def f_M_leaveNow (M : jp_M) : Option (Int32 × jp_M) :=
  (f_M_lawTells (0 : Int32) (((800 : Int32) - ((60 : Int32) * (M 125 1))) - ((100 : Int32) * (M 125 6))) (1000 : Int32) M).bind fun q1 => (
  some (q1.1, q1.2))
theorem t_M_leaveNow {Ln : Nat} {xs : Nat → Int32} {sv : jp_V} {w : Nat} {M : jp_M} {res : Int32 × jp_M} (hf : f_M_leaveNow M = some res) : jE (jZ (jK Ln xs sv)) 4 233 [(.inr (some 104))] (jSH w) M (some (.inl res.1), jSH w, res.2) := by
  unfold f_M_leaveNow at hf
  refine jE_in (L0 := [some (.inr (some 104))]) rfl (Nat.le_of_ble_eq_true rfl) rfl (fun d hd => ?_)
  refine jR_in rfl ⟨rfl, rfl, rfl⟩ rfl ?_
  refine js_aload_n rfl ?_
  refine js_iconst (v := (0 : Int32)) rfl ?_
  refine js_sipush (v := (800 : Int32)) rfl ?_
  refine js_bipush (v := (60 : Int32)) rfl ?_
  refine js_aload_n rfl ?_
  refine js_getr rfl rfl rfl ?_
  refine js_iconst (v := (1 : Int32)) rfl ?_
  refine js_iald rfl (by decide) ?_
  refine js_imul ?_
  refine js_isub ?_
  refine js_bipush (v := (100 : Int32)) rfl ?_
  refine js_aload_n rfl ?_
  refine js_getr rfl rfl rfl ?_
  refine js_bipush (v := (6 : Int32)) rfl ?_
  refine js_iald rfl (by decide) ?_
  refine js_imul ?_
  refine js_isub ?_
  refine js_sipush (v := (1000 : Int32)) rfl ?_
  obtain ⟨q1, hc_1, hf⟩ := jbind hf
  refine js_c4i rfl rfl ⟨rfl, rfl⟩ rfl rfl (t_M_lawTells hc_1) (by omega) ?_
  obtain rfl := Option.some.inj hf
  exact js_iret rfl rfl
/-! SwallowsAirModel.notes(III)V -/
def f_M_notes (a1 : Int32) (a2 : Int32) (a3 : Int32) (M : jp_M) : Option (jp_M) :=
  if jp_c .ne (M 104 5) 0 = true then (
  some M) else (
  if jp_c .ne (M 105 2) (150 : Int32) = true then (
  jg (jp_in ((4 : Int32) * (M 105 2)) 600) (
  let M1 := jp_set M 111 (upd (M 111) (Int32.toNatClampNeg ((4 : Int32) * (M 105 2))) (M 105 0))
  jg (jp_in (((4 : Int32) * (M 105 2)) + (1 : Int32)) 600) (
  let M3 := jp_set M1 111 (upd (M1 111) (Int32.toNatClampNeg (((4 : Int32) * (M 105 2)) + (1 : Int32))) a1)
  jg (jp_in (((4 : Int32) * (M 105 2)) + (2 : Int32)) 600) (
  let M5 := jp_set M3 111 (upd (M3 111) (Int32.toNatClampNeg (((4 : Int32) * (M 105 2)) + (2 : Int32))) a2)
  jg (jp_in (((4 : Int32) * (M 105 2)) + (3 : Int32)) 600) (
  let M7 := jp_set M5 111 (upd (M5 111) (Int32.toNatClampNeg (((4 : Int32) * (M 105 2)) + (3 : Int32))) a3)
  let M9 := jp_set M7 105 (upd (M7 105) 2 ((M7 105 2) + (1 : Int32)))
  some M9))))) else (
  some M))
theorem t_M_notes {Ln : Nat} {xs : Nat → Int32} {sv : jp_V} {a1 : Int32} {a2 : Int32} {a3 : Int32} {w : Nat} {M : jp_M} {res : jp_M} (hf : f_M_notes a1 a2 a3 M = some res) : jE (jZ (jK Ln xs sv)) 0 236 [(.inr (some 104)), (.inl a1), (.inl a2), (.inl a3)] (jSH w) M (none, jSH w, res) := by
  unfold f_M_notes at hf
  refine jE_in (L0 := [some (.inr (some 104)), some (.inl a1), some (.inl a2), some (.inl a3), none]) rfl (Nat.le_of_ble_eq_true rfl) rfl (fun d hd => ?_)
  refine jR_in rfl ⟨rfl, rfl, rfl⟩ rfl ?_
  refine js_aload_n rfl ?_
  refine js_geti rfl rfl rfl ?_
  refine js_ifc (tgt := 19) rfl rfl (fun h => ?_) (fun h => ?_)
  · have hf := jif_t hf h
    refine jR_in rfl ⟨rfl, rfl, rfl⟩ rfl ?_
    obtain rfl := Option.some.inj hf
    exact js_ret rfl rfl
  · have hf := jif_f hf h
    refine js_aload_n rfl ?_
    refine js_getr rfl rfl rfl ?_
    refine js_iconst (v := (2 : Int32)) rfl ?_
    refine js_iald rfl (by decide) ?_
    refine js_sipush (v := (150 : Int32)) rfl ?_
    refine js_icmp (tgt := 20) rfl rfl (fun h => ?_) (fun h => ?_)
    · have hf := jif_t hf h
      refine jR_in rfl ⟨rfl, rfl, rfl⟩ rfl ?_
      refine js_iconst (v := (4 : Int32)) rfl ?_
      refine js_aload_n rfl ?_
      refine js_getr rfl rfl rfl ?_
      refine js_iconst (v := (2 : Int32)) rfl ?_
      refine js_iald rfl (by decide) ?_
      refine js_imul ?_
      refine js_istore rfl rfl ?_
      refine js_aload_n rfl ?_
      refine js_getr rfl rfl rfl ?_
      refine js_iload rfl ?_
      refine js_aload_n rfl ?_
      refine js_getr rfl rfl rfl ?_
      refine js_iconst (v := (0 : Int32)) rfl ?_
      refine js_iald rfl (by decide) ?_
      obtain ⟨hb2, hf⟩ := jg_some hf
      refine js_iast rfl hb2 ?_
      refine js_aload_n rfl ?_
      refine js_getr rfl rfl rfl ?_
      refine js_iload rfl ?_
      refine js_iconst (v := (1 : Int32)) rfl ?_
      refine js_iadd ?_
      refine js_iload_n rfl ?_
      obtain ⟨hb4, hf⟩ := jg_some hf
      refine js_iast rfl hb4 ?_
      refine js_aload_n rfl ?_
      refine js_getr rfl rfl rfl ?_
      refine js_iload rfl ?_
      refine js_iconst (v := (2 : Int32)) rfl ?_
      refine js_iadd ?_
      refine js_iload_n rfl ?_
      obtain ⟨hb6, hf⟩ := jg_some hf
      refine js_iast rfl hb6 ?_
      refine js_aload_n rfl ?_
      refine js_getr rfl rfl rfl ?_
      refine js_iload rfl ?_
      refine js_iconst (v := (3 : Int32)) rfl ?_
      refine js_iadd ?_
      refine js_iload_n rfl ?_
      obtain ⟨hb8, hf⟩ := jg_some hf
      refine js_iast rfl hb8 ?_
      refine js_aload_n rfl ?_
      refine js_getr rfl rfl rfl ?_
      refine js_iconst (v := (2 : Int32)) rfl ?_
      refine js_aload_n rfl ?_
      refine js_getr rfl rfl rfl ?_
      refine js_iconst (v := (2 : Int32)) rfl ?_
      refine js_iald rfl (by decide) ?_
      refine js_iconst (v := (1 : Int32)) rfl ?_
      refine js_iadd ?_
      refine js_iast rfl (by decide) ?_
      obtain rfl := Option.some.inj hf
      exact js_ret rfl rfl
    · have hf := jif_f hf h
      obtain rfl := Option.some.inj hf
      exact js_ret rfl rfl
/-! SwallowsAirModel.rentNow()I -/
def f_M_rentNow (M : jp_M) : Option (Int32 × jp_M) :=
  (f_M_lawTells (1 : Int32) ((M 125 2) + (M 125 1)) (999 : Int32) M).bind fun q1 => (
  some (q1.1, q1.2))
theorem t_M_rentNow {Ln : Nat} {xs : Nat → Int32} {sv : jp_V} {w : Nat} {M : jp_M} {res : Int32 × jp_M} (hf : f_M_rentNow M = some res) : jE (jZ (jK Ln xs sv)) 4 234 [(.inr (some 104))] (jSH w) M (some (.inl res.1), jSH w, res.2) := by
  unfold f_M_rentNow at hf
  refine jE_in (L0 := [some (.inr (some 104))]) rfl (Nat.le_of_ble_eq_true rfl) rfl (fun d hd => ?_)
  refine jR_in rfl ⟨rfl, rfl, rfl⟩ rfl ?_
  refine js_aload_n rfl ?_
  refine js_iconst (v := (1 : Int32)) rfl ?_
  refine js_aload_n rfl ?_
  refine js_getr rfl rfl rfl ?_
  refine js_iconst (v := (2 : Int32)) rfl ?_
  refine js_iald rfl (by decide) ?_
  refine js_aload_n rfl ?_
  refine js_getr rfl rfl rfl ?_
  refine js_iconst (v := (1 : Int32)) rfl ?_
  refine js_iald rfl (by decide) ?_
  refine js_iadd ?_
  refine js_sipush (v := (999 : Int32)) rfl ?_
  obtain ⟨q1, hc_1, hf⟩ := jbind hf
  refine js_c4i rfl rfl ⟨rfl, rfl⟩ rfl rfl (t_M_lawTells hc_1) (by omega) ?_
  obtain rfl := Option.some.inj hf
  exact js_iret rfl rfl
/-! SwallowsAirModel.lesser(II)I -/
def f_M_lesser (a1 : Int32) (a2 : Int32) : Int32 :=
  if jp_c .ge a1 a2 = true then (
  a2) else (
  a1)
theorem t_M_lesser {Ln : Nat} {xs : Nat → Int32} {sv : jp_V} {a1 : Int32} {a2 : Int32} {w : Nat} {M : jp_M} {res : Int32} (hf : f_M_lesser a1 a2 = res) : jE (jZ (jK Ln xs sv)) 0 166 [(.inr (some 104)), (.inl a1), (.inl a2)] (jSH w) M (some (.inl res), jSH w, M) := by
  unfold f_M_lesser at hf
  refine jE_in (L0 := [some (.inr (some 104)), some (.inl a1), some (.inl a2)]) rfl (Nat.le_of_ble_eq_true rfl) rfl (fun d hd => ?_)
  refine jR_in rfl ⟨rfl, rfl, rfl⟩ rfl ?_
  refine js_iload_n rfl ?_
  refine js_iload_n rfl ?_
  refine js_icmp (tgt := 9) rfl rfl (fun h => ?_) (fun h => ?_)
  · have hf := jif_t hf h
    refine jR_in rfl ⟨rfl, rfl, rfl⟩ rfl ?_
    refine js_iload_n rfl ?_
    subst hf
    exact js_iret rfl rfl
  · have hf := jif_f hf h
    refine js_iload_n rfl ?_
    refine js_goto (tgt := 10) rfl rfl ?_
    refine jR_in rfl ⟨rfl, rfl, rfl⟩ rfl ?_
    subst hf
    exact js_iret rfl rfl
/-! SwallowsAirModel.pays(II)I -/
def f_M_pays (a1 : Int32) (a2 : Int32) (M : jp_M) : Option (Int32 × jp_M) :=
  jg (jp_in ((6 : Int32) + a1) 184) (
  jg (jp_in ((6 : Int32) + a1) 184) (
  jg (jp_in ((6 : Int32) + a1) 184) (
  let M4 := jp_set M 105 (upd (M 105) (Int32.toNatClampNeg ((6 : Int32) + a1)) ((M 105 (Int32.toNatClampNeg ((6 : Int32) + a1))) - (f_M_lesser a2 (M 105 (Int32.toNatClampNeg ((6 : Int32) + a1))))))
  let M6 := jp_set M4 105 (upd (M4 105) 3 ((M4 105 3) + (f_M_lesser a2 (M 105 (Int32.toNatClampNeg ((6 : Int32) + a1))))))
  some ((f_M_lesser a2 (M 105 (Int32.toNatClampNeg ((6 : Int32) + a1)))), M6))))
theorem t_M_pays {Ln : Nat} {xs : Nat → Int32} {sv : jp_V} {a1 : Int32} {a2 : Int32} {w : Nat} {M : jp_M} {res : Int32 × jp_M} (hf : f_M_pays a1 a2 M = some res) : jE (jZ (jK Ln xs sv)) 1 239 [(.inr (some 104)), (.inl a1), (.inl a2)] (jSH w) M (some (.inl res.1), jSH w, res.2) := by
  unfold f_M_pays at hf
  refine jE_in (L0 := [some (.inr (some 104)), some (.inl a1), some (.inl a2), none]) rfl (Nat.le_of_ble_eq_true rfl) rfl (fun d hd => ?_)
  refine jR_in rfl ⟨rfl, rfl, rfl⟩ rfl ?_
  refine js_aload_n rfl ?_
  refine js_iload_n rfl ?_
  refine js_aload_n rfl ?_
  refine js_getr rfl rfl rfl ?_
  refine js_bipush (v := (6 : Int32)) rfl ?_
  refine js_iload_n rfl ?_
  refine js_iadd ?_
  obtain ⟨hb1, hf⟩ := jg_some hf
  refine js_iald rfl hb1 ?_
  refine js_c3i rfl rfl ⟨rfl, rfl⟩ rfl rfl (t_M_lesser rfl) (by omega) ?_
  refine js_istore_n rfl rfl ?_
  refine js_aload_n rfl ?_
  refine js_getr rfl rfl rfl ?_
  refine js_bipush (v := (6 : Int32)) rfl ?_
  refine js_iload_n rfl ?_
  refine js_iadd ?_
  refine js_aload_n rfl ?_
  refine js_getr rfl rfl rfl ?_
  refine js_bipush (v := (6 : Int32)) rfl ?_
  refine js_iload_n rfl ?_
  refine js_iadd ?_
  obtain ⟨hb3, hf⟩ := jg_some hf
  refine js_iald rfl hb3 ?_
  refine js_iload_n rfl ?_
  refine js_isub ?_
  obtain ⟨hb5, hf⟩ := jg_some hf
  refine js_iast rfl hb5 ?_
  refine js_aload_n rfl ?_
  refine js_getr rfl rfl rfl ?_
  refine js_iconst (v := (3 : Int32)) rfl ?_
  refine js_aload_n rfl ?_
  refine js_getr rfl rfl rfl ?_
  refine js_iconst (v := (3 : Int32)) rfl ?_
  refine js_iald rfl (by decide) ?_
  refine js_iload_n rfl ?_
  refine js_iadd ?_
  refine js_iast rfl (by decide) ?_
  refine js_iload_n rfl ?_
  obtain rfl := Option.some.inj hf
  exact js_iret rfl rfl
/-! SwallowsAirModel.begins(IIIIIII)I -/
def f_M_begins (a1 : Int32) (a2 : Int32) (a3 : Int32) (a4 : Int32) (a5 : Int32) (a6 : Int32) (a7 : Int32) (M : jp_M) : Option (Int32 × jp_M) :=
  jg (jp_in ((f_M_useAt (M 105 5)) + (0 : Int32)) 184) (
  let M2 := jp_set M 105 (upd (M 105) (Int32.toNatClampNeg ((f_M_useAt (M 105 5)) + (0 : Int32))) (M 105 4))
  jg (jp_in ((f_M_useAt (M 105 5)) + (1 : Int32)) 184) (
  let M4 := jp_set M2 105 (upd (M2 105) (Int32.toNatClampNeg ((f_M_useAt (M 105 5)) + (1 : Int32))) a1)
  jg (jp_in ((f_M_useAt (M 105 5)) + (2 : Int32)) 184) (
  let M6 := jp_set M4 105 (upd (M4 105) (Int32.toNatClampNeg ((f_M_useAt (M 105 5)) + (2 : Int32))) a2)
  jg (jp_in ((f_M_useAt (M 105 5)) + (3 : Int32)) 184) (
  let M8 := jp_set M6 105 (upd (M6 105) (Int32.toNatClampNeg ((f_M_useAt (M 105 5)) + (3 : Int32))) a3)
  jg (jp_in ((f_M_useAt (M 105 5)) + (4 : Int32)) 184) (
  let M10 := jp_set M8 105 (upd (M8 105) (Int32.toNatClampNeg ((f_M_useAt (M 105 5)) + (4 : Int32))) a4)
  jg (jp_in ((f_M_useAt (M 105 5)) + (5 : Int32)) 184) (
  let M12 := jp_set M10 105 (upd (M10 105) (Int32.toNatClampNeg ((f_M_useAt (M 105 5)) + (5 : Int32))) a5)
  jg (jp_in ((f_M_useAt (M 105 5)) + (6 : Int32)) 184) (
  let M14 := jp_set M12 105 (upd (M12 105) (Int32.toNatClampNeg ((f_M_useAt (M 105 5)) + (6 : Int32))) a6)
  jg (jp_in ((f_M_useAt (M 105 5)) + (7 : Int32)) 184) (
  let M16 := jp_set M14 105 (upd (M14 105) (Int32.toNatClampNeg ((f_M_useAt (M 105 5)) + (7 : Int32))) a7)
  let M18 := jp_set M16 105 (upd (M16 105) 5 ((M16 105 5) + (1 : Int32)))
  let M19 := jp_set M18 105 (upd (M18 105) 4 ((M18 105 4) + (1 : Int32)))
  jg (jp_in ((f_M_useAt (M 105 5)) + (0 : Int32)) 184) (
  some ((M19 105 (Int32.toNatClampNeg ((f_M_useAt (M 105 5)) + (0 : Int32)))), M19))))))))))
theorem t_M_begins {Ln : Nat} {xs : Nat → Int32} {sv : jp_V} {a1 : Int32} {a2 : Int32} {a3 : Int32} {a4 : Int32} {a5 : Int32} {a6 : Int32} {a7 : Int32} {w : Nat} {M : jp_M} {res : Int32 × jp_M} (hf : f_M_begins a1 a2 a3 a4 a5 a6 a7 M = some res) : jE (jZ (jK Ln xs sv)) 1 240 [(.inr (some 104)), (.inl a1), (.inl a2), (.inl a3), (.inl a4), (.inl a5), (.inl a6), (.inl a7)] (jSH w) M (some (.inl res.1), jSH w, res.2) := by
  unfold f_M_begins at hf
  refine jE_in (L0 := [some (.inr (some 104)), some (.inl a1), some (.inl a2), some (.inl a3), some (.inl a4), some (.inl a5), some (.inl a6), some (.inl a7), none]) rfl (Nat.le_of_ble_eq_true rfl) rfl (fun d hd => ?_)
  refine jR_in rfl ⟨rfl, rfl, rfl⟩ rfl ?_
  refine js_aload_n rfl ?_
  refine js_aload_n rfl ?_
  refine js_getr rfl rfl rfl ?_
  refine js_iconst (v := (5 : Int32)) rfl ?_
  refine js_iald rfl (by decide) ?_
  refine js_c2i rfl rfl ⟨rfl, rfl⟩ rfl rfl (t_M_useAt rfl) (by omega) ?_
  refine js_istore rfl rfl ?_
  refine js_aload_n rfl ?_
  refine js_getr rfl rfl rfl ?_
  refine js_iload rfl ?_
  refine js_iconst (v := (0 : Int32)) rfl ?_
  refine js_iadd ?_
  refine js_aload_n rfl ?_
  refine js_getr rfl rfl rfl ?_
  refine js_iconst (v := (4 : Int32)) rfl ?_
  refine js_iald rfl (by decide) ?_
  obtain ⟨hb3, hf⟩ := jg_some hf
  refine js_iast rfl hb3 ?_
  refine js_aload_n rfl ?_
  refine js_getr rfl rfl rfl ?_
  refine js_iload rfl ?_
  refine js_iconst (v := (1 : Int32)) rfl ?_
  refine js_iadd ?_
  refine js_iload_n rfl ?_
  obtain ⟨hb5, hf⟩ := jg_some hf
  refine js_iast rfl hb5 ?_
  refine js_aload_n rfl ?_
  refine js_getr rfl rfl rfl ?_
  refine js_iload rfl ?_
  refine js_iconst (v := (2 : Int32)) rfl ?_
  refine js_iadd ?_
  refine js_iload_n rfl ?_
  obtain ⟨hb7, hf⟩ := jg_some hf
  refine js_iast rfl hb7 ?_
  refine js_aload_n rfl ?_
  refine js_getr rfl rfl rfl ?_
  refine js_iload rfl ?_
  refine js_iconst (v := (3 : Int32)) rfl ?_
  refine js_iadd ?_
  refine js_iload_n rfl ?_
  obtain ⟨hb9, hf⟩ := jg_some hf
  refine js_iast rfl hb9 ?_
  refine js_aload_n rfl ?_
  refine js_getr rfl rfl rfl ?_
  refine js_iload rfl ?_
  refine js_iconst (v := (4 : Int32)) rfl ?_
  refine js_iadd ?_
  refine js_iload rfl ?_
  obtain ⟨hb11, hf⟩ := jg_some hf
  refine js_iast rfl hb11 ?_
  refine js_aload_n rfl ?_
  refine js_getr rfl rfl rfl ?_
  refine js_iload rfl ?_
  refine js_iconst (v := (5 : Int32)) rfl ?_
  refine js_iadd ?_
  refine js_iload rfl ?_
  obtain ⟨hb13, hf⟩ := jg_some hf
  refine js_iast rfl hb13 ?_
  refine js_aload_n rfl ?_
  refine js_getr rfl rfl rfl ?_
  refine js_iload rfl ?_
  refine js_bipush (v := (6 : Int32)) rfl ?_
  refine js_iadd ?_
  refine js_iload rfl ?_
  obtain ⟨hb15, hf⟩ := jg_some hf
  refine js_iast rfl hb15 ?_
  refine js_aload_n rfl ?_
  refine js_getr rfl rfl rfl ?_
  refine js_iload rfl ?_
  refine js_bipush (v := (7 : Int32)) rfl ?_
  refine js_iadd ?_
  refine js_iload rfl ?_
  obtain ⟨hb17, hf⟩ := jg_some hf
  refine js_iast rfl hb17 ?_
  refine js_aload_n rfl ?_
  refine js_getr rfl rfl rfl ?_
  refine js_iconst (v := (5 : Int32)) rfl ?_
  refine js_aload_n rfl ?_
  refine js_getr rfl rfl rfl ?_
  refine js_iconst (v := (5 : Int32)) rfl ?_
  refine js_iald rfl (by decide) ?_
  refine js_iconst (v := (1 : Int32)) rfl ?_
  refine js_iadd ?_
  refine js_iast rfl (by decide) ?_
  refine js_aload_n rfl ?_
  refine js_getr rfl rfl rfl ?_
  refine js_iconst (v := (4 : Int32)) rfl ?_
  refine js_aload_n rfl ?_
  refine js_getr rfl rfl rfl ?_
  refine js_iconst (v := (4 : Int32)) rfl ?_
  refine js_iald rfl (by decide) ?_
  refine js_iconst (v := (1 : Int32)) rfl ?_
  refine js_iadd ?_
  refine js_iast rfl (by decide) ?_
  refine js_aload_n rfl ?_
  refine js_getr rfl rfl rfl ?_
  refine js_iload rfl ?_
  refine js_iconst (v := (0 : Int32)) rfl ?_
  refine js_iadd ?_
  obtain ⟨hb20, hf⟩ := jg_some hf
  refine js_iald rfl hb20 ?_
  obtain rfl := Option.some.inj hf
  exact js_iret rfl rfl
/-! SwallowsAirModel.draw(I)I -/
def f_M_draw (a1 : Int32) (M : jp_M) : Option (Int32 × jp_M) :=
  let M1 := jp_set M 105 (upd (M 105) 1 (((1664525 : Int32) * (M 105 1)) + (1013904223 : Int32)))
  jg (¬ a1 = 0) (
  some (((jp_ushr (M1 105 1) (8 : Int32)) % a1), M1))
theorem t_M_draw {Ln : Nat} {xs : Nat → Int32} {sv : jp_V} {a1 : Int32} {w : Nat} {M : jp_M} {res : Int32 × jp_M} (hf : f_M_draw a1 M = some res) : jE (jZ (jK Ln xs sv)) 0 176 [(.inr (some 104)), (.inl a1)] (jSH w) M (some (.inl res.1), jSH w, res.2) := by
  unfold f_M_draw at hf
  refine jE_in (L0 := [some (.inr (some 104)), some (.inl a1)]) rfl (Nat.le_of_ble_eq_true rfl) rfl (fun d hd => ?_)
  refine jR_in rfl ⟨rfl, rfl, rfl⟩ rfl ?_
  refine js_aload_n rfl ?_
  refine js_getr rfl rfl rfl ?_
  refine js_iconst (v := (1 : Int32)) rfl ?_
  refine js_ldc (v := (1664525 : Int32)) rfl ?_
  refine js_aload_n rfl ?_
  refine js_getr rfl rfl rfl ?_
  refine js_iconst (v := (1 : Int32)) rfl ?_
  refine js_iald rfl (by decide) ?_
  refine js_imul ?_
  refine js_ldc (v := (1013904223 : Int32)) rfl ?_
  refine js_iadd ?_
  refine js_iast rfl (by decide) ?_
  refine js_aload_n rfl ?_
  refine js_getr rfl rfl rfl ?_
  refine js_iconst (v := (1 : Int32)) rfl ?_
  refine js_iald rfl (by decide) ?_
  refine js_bipush (v := (8 : Int32)) rfl ?_
  refine js_iushr ?_
  refine js_iload_n rfl ?_
  obtain ⟨hb3, hf⟩ := jg_some hf
  refine js_irem hb3 ?_
  obtain rfl := Option.some.inj hf
  exact js_iret rfl rfl
/-! SwallowsAirModel.asksFor(IIIIII)I -/
def f_M_asksFor_108  (l1 : Int32) (l2 : Int32) (l3 : Int32) (l4 : Int32) (l5 : Int32) (l6 : Int32) (l7 : Int32) (M : jp_M) : Option (Int32 × jp_M) :=
  (f_M_begins l1 l2 l3 l4 l5 l6 (1 : Int32) M).bind fun q1 => (
  (f_M_notes (0 : Int32) q1.1 l7 q1.2).bind fun q2 => (
  some (q1.1, q2)))
theorem t_M_asksFor_108 {Ln : Nat} {xs : Nat → Int32} {sv : jp_V} {d : Nat} (hd : 5 ≤ d)  (l1 : Int32) (l2 : Int32) (l3 : Int32) (l4 : Int32) (l5 : Int32) (l6 : Int32) (l7 : Int32) (o8 : Option jp_V) (o9 : Option jp_V) (w : Nat) (M : jp_M) {res : Int32 × jp_M} (hf : f_M_asksFor_108  l1 l2 l3 l4 l5 l6 l7 M = some res) : jR (jZ (jK Ln xs sv)) d 241 108 ([some (.inr (some 104)), some (.inl l1), some (.inl l2), some (.inl l3), some (.inl l4), some (.inl l5), some (.inl l6), some (.inl l7), o8, o9], [], jSH w, M) (some (.inl res.1), jSH w, res.2) := by
  unfold f_M_asksFor_108 at hf
  refine jR_in rfl ⟨rfl, rfl, rfl⟩ rfl ?_
  refine js_aload_n rfl ?_
  refine js_iload_n rfl ?_
  refine js_iload_n rfl ?_
  refine js_iload_n rfl ?_
  refine js_iload rfl ?_
  refine js_iload rfl ?_
  refine js_iload rfl ?_
  refine js_iconst (v := (1 : Int32)) rfl ?_
  obtain ⟨q1, hc_1, hf⟩ := jbind hf
  refine js_c8i rfl rfl ⟨rfl, rfl⟩ rfl rfl (t_M_begins hc_1) (by omega) ?_
  refine js_istore rfl rfl ?_
  refine js_aload_n rfl ?_
  refine js_iconst (v := (0 : Int32)) rfl ?_
  refine js_iload rfl ?_
  refine js_iload rfl ?_
  obtain ⟨q2, hc_2, hf⟩ := jbind hf
  refine js_c4v (w := 0) rfl rfl ⟨rfl, rfl⟩ rfl rfl (t_M_notes hc_2) (by omega) ?_
  refine js_iload rfl ?_
  obtain rfl := Option.some.inj hf
  exact js_iret rfl rfl
def f_M_asksFor_69  (l1 : Int32) (l2 : Int32) (l3 : Int32) (l4 : Int32) (l5 : Int32) (l6 : Int32) (l8 : Int32) (s0 : Int32) (M : jp_M) : Option (Int32 × jp_M) :=
  if jp_c .ne s0 0 = true then (
  (f_M_asks l1 l2 l3 l5 l6 M).bind fun q1 => (
  (f_M_rentNow q1).bind fun q2 => (
  (f_M_pays l1 q2.1 q2.2).bind fun q3 => (
  f_M_asksFor_108 l1 l2 l3 l4 l5 l6 (q3.1) (q3.2))))) else (
  (f_M_notes (1 : Int32) l1 l8 M).bind fun q4 => (
  some ((-1 : Int32), q4)))
theorem t_M_asksFor_69 {Ln : Nat} {xs : Nat → Int32} {sv : jp_V} {d : Nat} (hd : 5 ≤ d)  (l1 : Int32) (l2 : Int32) (l3 : Int32) (l4 : Int32) (l5 : Int32) (l6 : Int32) (l8 : Int32) (s0 : Int32) (o7 : Option jp_V) (o9 : Option jp_V) (w : Nat) (M : jp_M) {res : Int32 × jp_M} (hf : f_M_asksFor_69  l1 l2 l3 l4 l5 l6 l8 s0 M = some res) : jR (jZ (jK Ln xs sv)) d 241 69 ([some (.inr (some 104)), some (.inl l1), some (.inl l2), some (.inl l3), some (.inl l4), some (.inl l5), some (.inl l6), o7, some (.inl l8), o9], [.inl s0], jSH w, M) (some (.inl res.1), jSH w, res.2) := by
  unfold f_M_asksFor_69 at hf
  refine jR_in rfl ⟨rfl, rfl, rfl⟩ rfl ?_
  refine js_istore rfl rfl ?_
  refine js_iload rfl ?_
  refine js_ifc (tgt := 86) rfl rfl (fun h => ?_) (fun h => ?_)
  · have hf := jif_t hf h
    refine jR_in rfl ⟨rfl, rfl, rfl⟩ rfl ?_
    refine js_aload_n rfl ?_
    refine js_iload_n rfl ?_
    refine js_iload_n rfl ?_
    refine js_iload_n rfl ?_
    refine js_iload rfl ?_
    refine js_iload rfl ?_
    obtain ⟨q1, hc_1, hf⟩ := jbind hf
    refine js_c6v (w := 0) rfl rfl ⟨rfl, rfl⟩ rfl rfl (t_M_asks hc_1) (by omega) ?_
    refine js_aload_n rfl ?_
    refine js_iload_n rfl ?_
    refine js_aload_n rfl ?_
    obtain ⟨q2, hc_2, hf⟩ := jbind hf
    refine js_c1i rfl rfl ⟨rfl, rfl⟩ rfl rfl (t_M_rentNow hc_2) (by omega) ?_
    obtain ⟨q3, hc_3, hf⟩ := jbind hf
    refine js_c3i rfl rfl ⟨rfl, rfl⟩ rfl rfl (t_M_pays hc_3) (by omega) ?_
    refine js_istore rfl rfl ?_
    exact jS_out rfl ⟨rfl, rfl, rfl⟩ rfl (t_M_asksFor_108 hd _ _ _ _ _ _ _ _ _ _ _ hf)
  · have hf := jif_f hf h
    refine js_aload_n rfl ?_
    refine js_iconst (v := (1 : Int32)) rfl ?_
    refine js_iload_n rfl ?_
    refine js_iload rfl ?_
    obtain ⟨q4, hc_4, hf⟩ := jbind hf
    refine js_c4v (w := 0) rfl rfl ⟨rfl, rfl⟩ rfl rfl (t_M_notes hc_4) (by omega) ?_
    refine js_iconst (v := (-1 : Int32)) rfl ?_
    obtain rfl := Option.some.inj hf
    exact js_iret rfl rfl
def f_M_asksFor (a1 : Int32) (a2 : Int32) (a3 : Int32) (a4 : Int32) (a5 : Int32) (a6 : Int32) (M : jp_M) : Option (Int32 × jp_M) :=
  if jp_c .eq (f_M_isSummer M) 0 = true then (
  f_M_asksFor_108 a1 a2 a3 a4 a5 a6 (0 : Int32) M) else (
  (f_M_asks a1 a2 a3 a5 a6 M).bind fun q2 => (
  (f_M_leaveNow q2).bind fun q3 => (
  if jp_c .eq (q3.2 104 5) 0 = true then (
  (f_M_draw (1000 : Int32) q3.2).bind fun q4 => (
  if jp_c .ge q4.1 q3.1 = true then (
  f_M_asksFor_69 a1 a2 a3 a4 a5 a6 (q3.1) (0 : Int32) (q4.2)) else (
  f_M_asksFor_69 a1 a2 a3 a4 a5 a6 (q3.1) (1 : Int32) (q4.2)))) else (
  if jp_c .lt ((2 : Int32) * q3.1) (1000 : Int32) = true then (
  f_M_asksFor_69 a1 a2 a3 a4 a5 a6 (q3.1) (0 : Int32) (q3.2)) else (
  f_M_asksFor_69 a1 a2 a3 a4 a5 a6 (q3.1) (1 : Int32) (q3.2))))))
theorem t_M_asksFor {Ln : Nat} {xs : Nat → Int32} {sv : jp_V} {a1 : Int32} {a2 : Int32} {a3 : Int32} {a4 : Int32} {a5 : Int32} {a6 : Int32} {w : Nat} {M : jp_M} {res : Int32 × jp_M} (hf : f_M_asksFor a1 a2 a3 a4 a5 a6 M = some res) : jE (jZ (jK Ln xs sv)) 5 241 [(.inr (some 104)), (.inl a1), (.inl a2), (.inl a3), (.inl a4), (.inl a5), (.inl a6)] (jSH w) M (some (.inl res.1), jSH w, res.2) := by
  unfold f_M_asksFor at hf
  refine jE_in (L0 := [some (.inr (some 104)), some (.inl a1), some (.inl a2), some (.inl a3), some (.inl a4), some (.inl a5), some (.inl a6), none, none, none]) rfl (Nat.le_of_ble_eq_true rfl) rfl (fun d hd => ?_)
  refine jR_in rfl ⟨rfl, rfl, rfl⟩ rfl ?_
  refine js_iconst (v := (0 : Int32)) rfl ?_
  refine js_istore rfl rfl ?_
  refine js_aload_n rfl ?_
  refine js_c1i rfl rfl ⟨rfl, rfl⟩ rfl rfl (t_M_isSummer rfl) (by omega) ?_
  refine js_ifc (tgt := 108) rfl rfl (fun h => ?_) (fun h => ?_)
  · have hf := jif_t hf h
    exact t_M_asksFor_108 hd _ _ _ _ _ _ _ _ _ _ _ hf
  · have hf := jif_f hf h
    refine js_aload_n rfl ?_
    refine js_iload_n rfl ?_
    refine js_iload_n rfl ?_
    refine js_iload_n rfl ?_
    refine js_iload rfl ?_
    refine js_iload rfl ?_
    obtain ⟨q2, hc_2, hf⟩ := jbind hf
    refine js_c6v (w := 0) rfl rfl ⟨rfl, rfl⟩ rfl rfl (t_M_asks hc_2) (by omega) ?_
    refine js_aload_n rfl ?_
    obtain ⟨q3, hc_3, hf⟩ := jbind hf
    refine js_c1i rfl rfl ⟨rfl, rfl⟩ rfl rfl (t_M_leaveNow hc_3) (by omega) ?_
    refine js_istore rfl rfl ?_
    refine js_aload_n rfl ?_
    refine js_geti rfl rfl rfl ?_
    refine js_ifc (tgt := 52) rfl rfl (fun h => ?_) (fun h => ?_)
    · have hf := jif_t hf h
      refine jR_in rfl ⟨rfl, rfl, rfl⟩ rfl ?_
      refine js_aload_n rfl ?_
      refine js_sipush (v := (1000 : Int32)) rfl ?_
      obtain ⟨q4, hc_4, hf⟩ := jbind hf
      refine js_c2i rfl rfl ⟨rfl, rfl⟩ rfl rfl (t_M_draw hc_4) (by omega) ?_
      refine js_iload rfl ?_
      refine js_icmp (tgt := 68) rfl rfl (fun h => ?_) (fun h => ?_)
      · have hf := jif_t hf h
        refine jR_in rfl ⟨rfl, rfl, rfl⟩ rfl ?_
        refine js_iconst (v := (0 : Int32)) rfl ?_
        exact jS_out rfl ⟨rfl, rfl, rfl⟩ rfl (t_M_asksFor_69 hd _ _ _ _ _ _ _ _ _ _ _ _ hf)
      · have hf := jif_f hf h
        refine js_iconst (v := (1 : Int32)) rfl ?_
        refine js_goto (tgt := 69) rfl rfl ?_
        exact t_M_asksFor_69 hd _ _ _ _ _ _ _ _ _ _ _ _ hf
    · have hf := jif_f hf h
      refine js_iconst (v := (2 : Int32)) rfl ?_
      refine js_iload rfl ?_
      refine js_imul ?_
      refine js_sipush (v := (1000 : Int32)) rfl ?_
      refine js_icmp (tgt := 48) rfl rfl (fun h => ?_) (fun h => ?_)
      · have hf := jif_t hf h
        refine jR_in rfl ⟨rfl, rfl, rfl⟩ rfl ?_
        refine js_iconst (v := (0 : Int32)) rfl ?_
        refine js_goto (tgt := 69) rfl rfl ?_
        exact t_M_asksFor_69 hd _ _ _ _ _ _ _ _ _ _ _ _ hf
      · have hf := jif_f hf h
        refine js_iconst (v := (1 : Int32)) rfl ?_
        refine js_goto (tgt := 69) rfl rfl ?_
        exact t_M_asksFor_69 hd _ _ _ _ _ _ _ _ _ _ _ _ hf
/-! SwallowsAirModel.ask(IIIII)I -/
def f_M_ask (a1 : Int32) (a2 : Int32) (a3 : Int32) (a4 : Int32) (a5 : Int32) (M : jp_M) : Option (Int32 × jp_M) :=
  let M1 := jp_set M 104 (upd (M 104) 0 (0 : Int32))
  if jp_c .lt a4 0 = true then (
  some ((-2 : Int32), M1)) else (
  if jp_c .eq (f_M_isTold a1 a2 a3 (a4 / (10 : Int32)) (a4 % (10 : Int32)) a5 M1) 0 = true then (
  some ((-2 : Int32), M1)) else (
  (f_M_canBe a3 (a4 / (10 : Int32)) (a4 % (10 : Int32)) M1).bind fun q3 => (
  if jp_c .ne q3 0 = true then (
  (f_M_keepsAhead M1).bind fun q4 => (
  (f_M_asksFor a1 a2 a3 (a4 / (10 : Int32)) (a4 % (10 : Int32)) a5 q4).bind fun q5 => (
  some (q5.1, q5.2)))) else (
  some ((-2 : Int32), M1)))))
theorem t_M_ask {Ln : Nat} {xs : Nat → Int32} {sv : jp_V} {a1 : Int32} {a2 : Int32} {a3 : Int32} {a4 : Int32} {a5 : Int32} {w : Nat} {M : jp_M} {res : Int32 × jp_M} (hf : f_M_ask a1 a2 a3 a4 a5 M = some res) : jE (jZ (jK Ln xs sv)) 6 243 [(.inr (some 104)), (.inl a1), (.inl a2), (.inl a3), (.inl a4), (.inl a5)] (jSH w) M (some (.inl res.1), jSH w, res.2) := by
  unfold f_M_ask at hf
  refine jE_in (L0 := [some (.inr (some 104)), some (.inl a1), some (.inl a2), some (.inl a3), some (.inl a4), some (.inl a5), none, none]) rfl (Nat.le_of_ble_eq_true rfl) rfl (fun d hd => ?_)
  refine jR_in rfl ⟨rfl, rfl, rfl⟩ rfl ?_
  refine js_aload_n rfl ?_
  refine js_iconst (v := (0 : Int32)) rfl ?_
  refine js_puti rfl rfl (Or.inl rfl) ?_
  refine js_iload rfl ?_
  refine js_bipush (v := (10 : Int32)) rfl ?_
  refine js_idiv (by decide) ?_
  refine js_istore rfl rfl ?_
  refine js_iload rfl ?_
  refine js_bipush (v := (10 : Int32)) rfl ?_
  refine js_irem (by decide) ?_
  refine js_istore rfl rfl ?_
  refine js_iload rfl ?_
  refine js_ifc (tgt := 52) rfl rfl (fun h => ?_) (fun h => ?_)
  · have hf := jif_t hf h
    refine jR_in rfl ⟨rfl, rfl, rfl⟩ rfl ?_
    refine js_bipush (v := (-2 : Int32)) rfl ?_
    obtain rfl := Option.some.inj hf
    exact js_iret rfl rfl
  · have hf := jif_f hf h
    refine js_aload_n rfl ?_
    refine js_iload_n rfl ?_
    refine js_iload_n rfl ?_
    refine js_iload_n rfl ?_
    refine js_iload rfl ?_
    refine js_iload rfl ?_
    refine js_iload rfl ?_
    refine js_c7i rfl rfl ⟨rfl, rfl⟩ rfl rfl (t_M_isTold rfl) (by omega) ?_
    refine js_ifc (tgt := 52) rfl rfl (fun h => ?_) (fun h => ?_)
    · have hf := jif_t hf h
      refine jR_in rfl ⟨rfl, rfl, rfl⟩ rfl ?_
      refine js_bipush (v := (-2 : Int32)) rfl ?_
      obtain rfl := Option.some.inj hf
      exact js_iret rfl rfl
    · have hf := jif_f hf h
      refine js_aload_n rfl ?_
      refine js_iload_n rfl ?_
      refine js_iload rfl ?_
      refine js_iload rfl ?_
      obtain ⟨q3, hc_3, hf⟩ := jbind hf
      refine js_c4i rfl rfl ⟨rfl, rfl⟩ rfl rfl (t_M_canBe hc_3) (by omega) ?_
      refine js_ifc (tgt := 55) rfl rfl (fun h => ?_) (fun h => ?_)
      · have hf := jif_t hf h
        refine jR_in rfl ⟨rfl, rfl, rfl⟩ rfl ?_
        refine js_aload_n rfl ?_
        obtain ⟨q4, hc_4, hf⟩ := jbind hf
        refine js_c1v (w := 0) rfl rfl ⟨rfl, rfl⟩ rfl rfl (t_M_keepsAhead hc_4) (by omega) ?_
        refine js_aload_n rfl ?_
        refine js_iload_n rfl ?_
        refine js_iload_n rfl ?_
        refine js_iload_n rfl ?_
        refine js_iload rfl ?_
        refine js_iload rfl ?_
        refine js_iload rfl ?_
        obtain ⟨q5, hc_5, hf⟩ := jbind hf
        refine js_c7i rfl rfl ⟨rfl, rfl⟩ rfl rfl (t_M_asksFor hc_5) (by omega) ?_
        obtain rfl := Option.some.inj hf
        exact js_iret rfl rfl
      · have hf := jif_f hf h
        refine js_bipush (v := (-2 : Int32)) rfl ?_
        obtain rfl := Option.some.inj hf
        exact js_iret rfl rfl
/-! SwallowsAirModel.take(IIIII)I -/
def f_M_take (a1 : Int32) (a2 : Int32) (a3 : Int32) (a4 : Int32) (a5 : Int32) (M : jp_M) : Option (Int32 × jp_M) :=
  let M1 := jp_set M 104 (upd (M 104) 0 (0 : Int32))
  if jp_c .lt a4 0 = true then (
  some ((-2 : Int32), M1)) else (
  if jp_c .eq (f_M_isTold a1 a2 a3 (a4 / (10 : Int32)) (a4 % (10 : Int32)) a5 M1) 0 = true then (
  some ((-2 : Int32), M1)) else (
  (f_M_canBe a3 (a4 / (10 : Int32)) (a4 % (10 : Int32)) M1).bind fun q3 => (
  if jp_c .ne q3 0 = true then (
  (f_M_keepsAhead M1).bind fun q4 => (
  (f_M_begins a1 a2 a3 (a4 / (10 : Int32)) (a4 % (10 : Int32)) a5 (0 : Int32) q4).bind fun q5 => (
  (f_M_notes (2 : Int32) q5.1 a1 q5.2).bind fun q6 => (
  some (q5.1, q6))))) else (
  some ((-2 : Int32), M1)))))
theorem t_M_take {Ln : Nat} {xs : Nat → Int32} {sv : jp_V} {a1 : Int32} {a2 : Int32} {a3 : Int32} {a4 : Int32} {a5 : Int32} {w : Nat} {M : jp_M} {res : Int32 × jp_M} (hf : f_M_take a1 a2 a3 a4 a5 M = some res) : jE (jZ (jK Ln xs sv)) 4 244 [(.inr (some 104)), (.inl a1), (.inl a2), (.inl a3), (.inl a4), (.inl a5)] (jSH w) M (some (.inl res.1), jSH w, res.2) := by
  unfold f_M_take at hf
  refine jE_in (L0 := [some (.inr (some 104)), some (.inl a1), some (.inl a2), some (.inl a3), some (.inl a4), some (.inl a5), none, none, none]) rfl (Nat.le_of_ble_eq_true rfl) rfl (fun d hd => ?_)
  refine jR_in rfl ⟨rfl, rfl, rfl⟩ rfl ?_
  refine js_aload_n rfl ?_
  refine js_iconst (v := (0 : Int32)) rfl ?_
  refine js_puti rfl rfl (Or.inl rfl) ?_
  refine js_iload rfl ?_
  refine js_bipush (v := (10 : Int32)) rfl ?_
  refine js_idiv (by decide) ?_
  refine js_istore rfl rfl ?_
  refine js_iload rfl ?_
  refine js_bipush (v := (10 : Int32)) rfl ?_
  refine js_irem (by decide) ?_
  refine js_istore rfl rfl ?_
  refine js_iload rfl ?_
  refine js_ifc (tgt := 52) rfl rfl (fun h => ?_) (fun h => ?_)
  · have hf := jif_t hf h
    refine jR_in rfl ⟨rfl, rfl, rfl⟩ rfl ?_
    refine js_bipush (v := (-2 : Int32)) rfl ?_
    obtain rfl := Option.some.inj hf
    exact js_iret rfl rfl
  · have hf := jif_f hf h
    refine js_aload_n rfl ?_
    refine js_iload_n rfl ?_
    refine js_iload_n rfl ?_
    refine js_iload_n rfl ?_
    refine js_iload rfl ?_
    refine js_iload rfl ?_
    refine js_iload rfl ?_
    refine js_c7i rfl rfl ⟨rfl, rfl⟩ rfl rfl (t_M_isTold rfl) (by omega) ?_
    refine js_ifc (tgt := 52) rfl rfl (fun h => ?_) (fun h => ?_)
    · have hf := jif_t hf h
      refine jR_in rfl ⟨rfl, rfl, rfl⟩ rfl ?_
      refine js_bipush (v := (-2 : Int32)) rfl ?_
      obtain rfl := Option.some.inj hf
      exact js_iret rfl rfl
    · have hf := jif_f hf h
      refine js_aload_n rfl ?_
      refine js_iload_n rfl ?_
      refine js_iload rfl ?_
      refine js_iload rfl ?_
      obtain ⟨q3, hc_3, hf⟩ := jbind hf
      refine js_c4i rfl rfl ⟨rfl, rfl⟩ rfl rfl (t_M_canBe hc_3) (by omega) ?_
      refine js_ifc (tgt := 55) rfl rfl (fun h => ?_) (fun h => ?_)
      · have hf := jif_t hf h
        refine jR_in rfl ⟨rfl, rfl, rfl⟩ rfl ?_
        refine js_aload_n rfl ?_
        obtain ⟨q4, hc_4, hf⟩ := jbind hf
        refine js_c1v (w := 0) rfl rfl ⟨rfl, rfl⟩ rfl rfl (t_M_keepsAhead hc_4) (by omega) ?_
        refine js_aload_n rfl ?_
        refine js_iload_n rfl ?_
        refine js_iload_n rfl ?_
        refine js_iload_n rfl ?_
        refine js_iload rfl ?_
        refine js_iload rfl ?_
        refine js_iload rfl ?_
        refine js_iconst (v := (0 : Int32)) rfl ?_
        obtain ⟨q5, hc_5, hf⟩ := jbind hf
        refine js_c8i rfl rfl ⟨rfl, rfl⟩ rfl rfl (t_M_begins hc_5) (by omega) ?_
        refine js_istore rfl rfl ?_
        refine js_aload_n rfl ?_
        refine js_iconst (v := (2 : Int32)) rfl ?_
        refine js_iload rfl ?_
        refine js_iload_n rfl ?_
        obtain ⟨q6, hc_6, hf⟩ := jbind hf
        refine js_c4v (w := 0) rfl rfl ⟨rfl, rfl⟩ rfl rfl (t_M_notes hc_6) (by omega) ?_
        refine js_iload rfl ?_
        obtain rfl := Option.some.inj hf
        exact js_iret rfl rfl
      · have hf := jif_f hf h
        refine js_bipush (v := (-2 : Int32)) rfl ?_
        obtain rfl := Option.some.inj hf
        exact js_iret rfl rfl
/-! SwallowsAirModel.isOver(I)V -/
def f_M_isOver_20  : Nat → Int32 → jp_M → Option (jp_M)
  | 0, _, _ => none
  | n + 1, l2, M =>
    if jp_c .ge l2 (f_M_useAt (M 105 5)) = true then (
    some M) else (
    jg (jp_in (l2 + (8 : Int32)) 184) (
    jg (jp_in l2 184) (
    let M3 := jp_set M 105 (upd (M 105) (Int32.toNatClampNeg l2) (M 105 (Int32.toNatClampNeg (l2 + (8 : Int32)))))
    f_M_isOver_20 n (l2 + (1 : Int32)) M3)))
theorem t_M_isOver_20 {Ln : Nat} {xs : Nat → Int32} {sv : jp_V} {d : Nat} (hd : 1 ≤ d)  : ∀ (n : Nat) (l2 : Int32) (o1 : Option jp_V) (w : Nat) (M : jp_M) {res : jp_M}, f_M_isOver_20 n  l2 M = some res → jR (jZ (jK Ln xs sv)) d 242 20 ([some (.inr (some 104)), o1, some (.inl l2)], [], jSH w, M) (none, jSH w, res) := by
  intro n
  induction n with
  | zero =>
    intro l2 o1 w M res hf
    cases hf
  | succ n ih =>
    intro l2 o1 w M res hf
    rw [f_M_isOver_20] at hf
    refine jR_in rfl ⟨rfl, rfl, rfl⟩ rfl ?_
    refine js_iload_n rfl ?_
    refine js_aload_n rfl ?_
    refine js_aload_n rfl ?_
    refine js_getr rfl rfl rfl ?_
    refine js_iconst (v := (5 : Int32)) rfl ?_
    refine js_iald rfl (by decide) ?_
    refine js_c2i rfl rfl ⟨rfl, rfl⟩ rfl rfl (t_M_useAt rfl) (by omega) ?_
    refine js_icmp (tgt := 55) rfl rfl (fun h => ?_) (fun h => ?_)
    · have hf := jif_t hf h
      refine jR_in rfl ⟨rfl, rfl, rfl⟩ rfl ?_
      obtain rfl := Option.some.inj hf
      exact js_ret rfl rfl
    · have hf := jif_f hf h
      refine js_aload_n rfl ?_
      refine js_getr rfl rfl rfl ?_
      refine js_iload_n rfl ?_
      refine js_aload_n rfl ?_
      refine js_getr rfl rfl rfl ?_
      refine js_iload_n rfl ?_
      refine js_bipush (v := (8 : Int32)) rfl ?_
      refine js_iadd ?_
      obtain ⟨hb2, hf⟩ := jg_some hf
      refine js_iald rfl hb2 ?_
      obtain ⟨hb4, hf⟩ := jg_some hf
      refine js_iast rfl hb4 ?_
      refine js_iinc (v := (1 : Int32)) rfl rfl rfl rfl ?_
      refine js_goto (tgt := 20) rfl rfl ?_
      exact ih _ _ _ _ hf
def f_M_isOver (a1 : Int32) (M : jp_M) : Option (jp_M) :=
  let M1 := jp_set M 105 (upd (M 105) 5 ((M 105 5) - (1 : Int32)))
  f_M_isOver_20 jFu (f_M_useAt a1) M1
theorem t_M_isOver {Ln : Nat} {xs : Nat → Int32} {sv : jp_V} {a1 : Int32} {w : Nat} {M : jp_M} {res : jp_M} (hf : f_M_isOver a1 M = some res) : jE (jZ (jK Ln xs sv)) 1 242 [(.inr (some 104)), (.inl a1)] (jSH w) M (none, jSH w, res) := by
  unfold f_M_isOver at hf
  refine jE_in (L0 := [some (.inr (some 104)), some (.inl a1), none]) rfl (Nat.le_of_ble_eq_true rfl) rfl (fun d hd => ?_)
  refine jR_in rfl ⟨rfl, rfl, rfl⟩ rfl ?_
  refine js_aload_n rfl ?_
  refine js_getr rfl rfl rfl ?_
  refine js_iconst (v := (5 : Int32)) rfl ?_
  refine js_aload_n rfl ?_
  refine js_getr rfl rfl rfl ?_
  refine js_iconst (v := (5 : Int32)) rfl ?_
  refine js_iald rfl (by decide) ?_
  refine js_iconst (v := (1 : Int32)) rfl ?_
  refine js_isub ?_
  refine js_iast rfl (by decide) ?_
  refine js_aload_n rfl ?_
  refine js_iload_n rfl ?_
  refine js_c2i rfl rfl ⟨rfl, rfl⟩ rfl rfl (t_M_useAt rfl) (by omega) ?_
  refine js_istore_n rfl rfl ?_
  exact jS_out rfl ⟨rfl, rfl, rfl⟩ rfl (t_M_isOver_20 hd jFu _ _ _ _ hf)
/-! SwallowsAirModel.ends(I)Z -/
def f_M_ends_7  : Nat → Int32 → Int32 → jp_M → Option (Int32 × jp_M)
  | 0, _, _, _ => none
  | n + 1, l1, l2, M =>
    if jp_c .ge l2 (M 105 5) = true then (
    some ((0 : Int32), M)) else (
    jg (jp_in (f_M_useAt l2) 184) (
    if jp_c .eq (M 105 (Int32.toNatClampNeg (f_M_useAt l2))) l1 = true then (
    (f_M_keepsAhead M).bind fun q3 => (
    (f_M_notes (4 : Int32) l1 (0 : Int32) q3).bind fun q4 => (
    (f_M_isOver l2 q4).bind fun q5 => (
    some ((1 : Int32), q5))))) else (
    f_M_ends_7 n l1 (l2 + (1 : Int32)) M)))
theorem t_M_ends_7 {Ln : Nat} {xs : Nat → Int32} {sv : jp_V} {d : Nat} (hd : 2 ≤ d)  : ∀ (n : Nat) (l1 : Int32) (l2 : Int32) (w : Nat) (M : jp_M) {res : Int32 × jp_M}, f_M_ends_7 n  l1 l2 M = some res → jR (jZ (jK Ln xs sv)) d 245 7 ([some (.inr (some 104)), some (.inl l1), some (.inl l2)], [], jSH w, M) (some (.inl res.1), jSH w, res.2) := by
  intro n
  induction n with
  | zero =>
    intro l1 l2 w M res hf
    cases hf
  | succ n ih =>
    intro l1 l2 w M res hf
    rw [f_M_ends_7] at hf
    refine jR_in rfl ⟨rfl, rfl, rfl⟩ rfl ?_
    refine js_iload_n rfl ?_
    refine js_aload_n rfl ?_
    refine js_getr rfl rfl rfl ?_
    refine js_iconst (v := (5 : Int32)) rfl ?_
    refine js_iald rfl (by decide) ?_
    refine js_icmp (tgt := 58) rfl rfl (fun h => ?_) (fun h => ?_)
    · have hf := jif_t hf h
      refine jR_in rfl ⟨rfl, rfl, rfl⟩ rfl ?_
      refine js_iconst (v := (0 : Int32)) rfl ?_
      obtain rfl := Option.some.inj hf
      exact js_iret rfl rfl
    · have hf := jif_f hf h
      refine js_aload_n rfl ?_
      refine js_getr rfl rfl rfl ?_
      refine js_aload_n rfl ?_
      refine js_iload_n rfl ?_
      refine js_c2i rfl rfl ⟨rfl, rfl⟩ rfl rfl (t_M_useAt rfl) (by omega) ?_
      obtain ⟨hb2, hf⟩ := jg_some hf
      refine js_iald rfl hb2 ?_
      refine js_iload_n rfl ?_
      refine js_icmp (tgt := 34) rfl rfl (fun h => ?_) (fun h => ?_)
      · have hf := jif_t hf h
        refine jR_in rfl ⟨rfl, rfl, rfl⟩ rfl ?_
        refine js_aload_n rfl ?_
        obtain ⟨q3, hc_3, hf⟩ := jbind hf
        refine js_c1v (w := 0) rfl rfl ⟨rfl, rfl⟩ rfl rfl (t_M_keepsAhead hc_3) (by omega) ?_
        refine js_aload_n rfl ?_
        refine js_iconst (v := (4 : Int32)) rfl ?_
        refine js_iload_n rfl ?_
        refine js_iconst (v := (0 : Int32)) rfl ?_
        obtain ⟨q4, hc_4, hf⟩ := jbind hf
        refine js_c4v (w := 0) rfl rfl ⟨rfl, rfl⟩ rfl rfl (t_M_notes hc_4) (by omega) ?_
        refine js_aload_n rfl ?_
        refine js_iload_n rfl ?_
        obtain ⟨q5, hc_5, hf⟩ := jbind hf
        refine js_c2v (w := 0) rfl rfl ⟨rfl, rfl⟩ rfl rfl (t_M_isOver hc_5) (by omega) ?_
        refine js_iconst (v := (1 : Int32)) rfl ?_
        obtain rfl := Option.some.inj hf
        exact js_iret rfl rfl
      · have hf := jif_f hf h
        refine js_goto (tgt := 52) rfl rfl ?_
        refine jR_in rfl ⟨rfl, rfl, rfl⟩ rfl ?_
        refine js_iinc (v := (1 : Int32)) rfl rfl rfl rfl ?_
        refine js_goto (tgt := 7) rfl rfl ?_
        exact ih _ _ _ _ hf
theorem b_M_ends_7  : ∀ (n : Nat) (l1 : Int32) (l2 : Int32) (M : jp_M) {res : Int32 × jp_M}, f_M_ends_7 n  l1 l2 M = some res → (res.1 = 0 ∨ res.1 = 1) := by
  intro n
  induction n with
  | zero =>
    intro l1 l2 M res hf
    cases hf
  | succ n ih =>
    intro l1 l2 M res hf
    rw [f_M_ends_7] at hf
    rcases jif_d hf with ⟨h, hf⟩ | ⟨h, hf⟩
    · obtain rfl := Option.some.inj hf
      exact Or.inl rfl
    · obtain ⟨hb2, hf⟩ := jg_some hf
      rcases jif_d hf with ⟨h, hf⟩ | ⟨h, hf⟩
      · obtain ⟨q3, hc_3, hf⟩ := jbind hf
        obtain ⟨q4, hc_4, hf⟩ := jbind hf
        obtain ⟨q5, hc_5, hf⟩ := jbind hf
        obtain rfl := Option.some.inj hf
        exact Or.inr rfl
      · exact ih _ _ _ hf
def f_M_ends (a1 : Int32) (M : jp_M) : Option (Int32 × jp_M) :=
  let M1 := jp_set M 104 (upd (M 104) 0 (0 : Int32))
  f_M_ends_7 jFu a1 (0 : Int32) M1
theorem t_M_ends {Ln : Nat} {xs : Nat → Int32} {sv : jp_V} {a1 : Int32} {w : Nat} {M : jp_M} {res : Int32 × jp_M} (hf : f_M_ends a1 M = some res) : jE (jZ (jK Ln xs sv)) 2 245 [(.inr (some 104)), (.inl a1)] (jSH w) M (some (.inl res.1), jSH w, res.2) := by
  unfold f_M_ends at hf
  refine jE_in (L0 := [some (.inr (some 104)), some (.inl a1), none]) rfl (Nat.le_of_ble_eq_true rfl) rfl (fun d hd => ?_)
  refine jR_in rfl ⟨rfl, rfl, rfl⟩ rfl ?_
  refine js_aload_n rfl ?_
  refine js_iconst (v := (0 : Int32)) rfl ?_
  refine js_puti rfl rfl (Or.inl rfl) ?_
  refine js_iconst (v := (0 : Int32)) rfl ?_
  refine js_istore_n rfl rfl ?_
  exact jS_out rfl ⟨rfl, rfl, rfl⟩ rfl (t_M_ends_7 hd jFu _ _ _ _ hf)
theorem b_M_ends {a1 : Int32} {M : jp_M} {res : Int32 × jp_M} (hf : f_M_ends a1 M = some res) : res.1 = 0 ∨ res.1 = 1 := by
  unfold f_M_ends at hf
  exact b_M_ends_7 jFu _ _ _ hf
/-! SwallowsAirModel.nest(II)Z -/
def f_M_nest (a1 : Int32) (a2 : Int32) (M : jp_M) : Option (Int32 × jp_M) :=
  let M1 := jp_set M 104 (upd (M 104) 0 (0 : Int32))
  if jp_c .eq (f_M_isBird a1 M1) 0 = true then (
  some ((0 : Int32), M1)) else (
  if jp_c .eq (f_M_isIn a2 (0 : Int32) (9 : Int32)) 0 = true then (
  some ((0 : Int32), M1)) else (
  jg (jp_in ((46 : Int32) + a1) 184) (
  if jp_c .ne (M1 105 (Int32.toNatClampNeg ((46 : Int32) + a1))) a2 = true then (
  (f_M_keepsAhead M1).bind fun q5 => (
  jg (jp_in ((46 : Int32) + a1) 184) (
  let M6 := jp_set q5 105 (upd (q5 105) (Int32.toNatClampNeg ((46 : Int32) + a1)) a2)
  some ((1 : Int32), M6)))) else (
  some ((0 : Int32), M1)))))
theorem t_M_nest {Ln : Nat} {xs : Nat → Int32} {sv : jp_V} {a1 : Int32} {a2 : Int32} {w : Nat} {M : jp_M} {res : Int32 × jp_M} (hf : f_M_nest a1 a2 M = some res) : jE (jZ (jK Ln xs sv)) 1 246 [(.inr (some 104)), (.inl a1), (.inl a2)] (jSH w) M (some (.inl res.1), jSH w, res.2) := by
  unfold f_M_nest at hf
  refine jE_in (L0 := [some (.inr (some 104)), some (.inl a1), some (.inl a2)]) rfl (Nat.le_of_ble_eq_true rfl) rfl (fun d hd => ?_)
  refine jR_in rfl ⟨rfl, rfl, rfl⟩ rfl ?_
  refine js_aload_n rfl ?_
  refine js_iconst (v := (0 : Int32)) rfl ?_
  refine js_puti rfl rfl (Or.inl rfl) ?_
  refine js_aload_n rfl ?_
  refine js_iload_n rfl ?_
  refine js_c2i rfl rfl ⟨rfl, rfl⟩ rfl rfl (t_M_isBird rfl) (by omega) ?_
  refine js_ifc (tgt := 37) rfl rfl (fun h => ?_) (fun h => ?_)
  · have hf := jif_t hf h
    refine jR_in rfl ⟨rfl, rfl, rfl⟩ rfl ?_
    refine js_iconst (v := (0 : Int32)) rfl ?_
    obtain rfl := Option.some.inj hf
    exact js_iret rfl rfl
  · have hf := jif_f hf h
    refine js_aload_n rfl ?_
    refine js_iload_n rfl ?_
    refine js_iconst (v := (0 : Int32)) rfl ?_
    refine js_bipush (v := (9 : Int32)) rfl ?_
    refine js_c4i rfl rfl ⟨rfl, rfl⟩ rfl rfl (t_M_isIn rfl) (by omega) ?_
    refine js_ifc (tgt := 37) rfl rfl (fun h => ?_) (fun h => ?_)
    · have hf := jif_t hf h
      refine jR_in rfl ⟨rfl, rfl, rfl⟩ rfl ?_
      refine js_iconst (v := (0 : Int32)) rfl ?_
      obtain rfl := Option.some.inj hf
      exact js_iret rfl rfl
    · have hf := jif_f hf h
      refine js_aload_n rfl ?_
      refine js_getr rfl rfl rfl ?_
      refine js_bipush (v := (46 : Int32)) rfl ?_
      refine js_iload_n rfl ?_
      refine js_iadd ?_
      obtain ⟨hb4, hf⟩ := jg_some hf
      refine js_iald rfl hb4 ?_
      refine js_iload_n rfl ?_
      refine js_icmp (tgt := 39) rfl rfl (fun h => ?_) (fun h => ?_)
      · have hf := jif_t hf h
        refine jR_in rfl ⟨rfl, rfl, rfl⟩ rfl ?_
        refine js_aload_n rfl ?_
        obtain ⟨q5, hc_5, hf⟩ := jbind hf
        refine js_c1v (w := 0) rfl rfl ⟨rfl, rfl⟩ rfl rfl (t_M_keepsAhead hc_5) (by omega) ?_
        refine js_aload_n rfl ?_
        refine js_getr rfl rfl rfl ?_
        refine js_bipush (v := (46 : Int32)) rfl ?_
        refine js_iload_n rfl ?_
        refine js_iadd ?_
        refine js_iload_n rfl ?_
        obtain ⟨hb7, hf⟩ := jg_some hf
        refine js_iast rfl hb7 ?_
        refine js_iconst (v := (1 : Int32)) rfl ?_
        obtain rfl := Option.some.inj hf
        exact js_iret rfl rfl
      · have hf := jif_f hf h
        refine js_iconst (v := (0 : Int32)) rfl ?_
        obtain rfl := Option.some.inj hf
        exact js_iret rfl rfl
theorem b_M_nest {a1 : Int32} {a2 : Int32} {M : jp_M} {res : Int32 × jp_M} (hf : f_M_nest a1 a2 M = some res) : res.1 = 0 ∨ res.1 = 1 := by
  unfold f_M_nest at hf
  rcases jif_d hf with ⟨h, hf⟩ | ⟨h, hf⟩
  · obtain rfl := Option.some.inj hf
    exact Or.inl rfl
  · rcases jif_d hf with ⟨h, hf⟩ | ⟨h, hf⟩
    · obtain rfl := Option.some.inj hf
      exact Or.inl rfl
    · obtain ⟨hb4, hf⟩ := jg_some hf
      rcases jif_d hf with ⟨h, hf⟩ | ⟨h, hf⟩
      · obtain ⟨q5, hc_5, hf⟩ := jbind hf
        obtain ⟨hb7, hf⟩ := jg_some hf
        obtain rfl := Option.some.inj hf
        exact Or.inr rfl
      · obtain rfl := Option.some.inj hf
        exact Or.inl rfl
/-! SwallowsAirModel.petitionsOf()V -/
def f_M_petitionsOf_116 (c2 : Int32 → jp_M → Option (jp_M)) (l1 : Int32) (M : jp_M) : Option (jp_M) :=
  c2 (l1 + (7 : Int32)) M
theorem t_M_petitionsOf_116 {Ln : Nat} {xs : Nat → Int32} {sv : jp_V} {d : Nat} (hd : 6 ≤ d) {c2 : Int32 → jp_M → Option (jp_M)} (hc2 : ∀ (l1 : Int32) (w : Nat) (M : jp_M) (res : jp_M), c2 l1 M = some res → jR (jZ (jK Ln xs sv)) d 250 2 ([some (.inr (some 104)), some (.inl l1)], [], jSH w, M) (none, jSH w, res)) (l1 : Int32) (w : Nat) (M : jp_M) {res : jp_M} (hf : f_M_petitionsOf_116 c2 l1 M = some res) : jR (jZ (jK Ln xs sv)) d 250 116 ([some (.inr (some 104)), some (.inl l1)], [], jSH w, M) (none, jSH w, res) := by
  unfold f_M_petitionsOf_116 at hf
  refine jR_in rfl ⟨rfl, rfl, rfl⟩ rfl ?_
  refine js_iload_n rfl ?_
  refine js_bipush (v := (7 : Int32)) rfl ?_
  refine js_iadd ?_
  refine js_istore_n rfl rfl ?_
  refine js_goto (tgt := 2) rfl rfl ?_
  exact hc2 _ _ _ _ hf
def f_M_petitionsOf_2  : Nat → Int32 → jp_M → Option (jp_M)
  | 0, _, _ => none
  | n + 1, l1, M =>
    if jp_c .ge l1 ((7 : Int32) * (M 104 35)) = true then (
    some M) else (
    jg (jp_in l1 224) (
    if jp_c .ne (M 122 (Int32.toNatClampNeg l1)) (M 105 0) = true then (
    f_M_petitionsOf_116 (f_M_petitionsOf_2 n ) l1 M) else (
    jg (jp_in (l1 + (3 : Int32)) 224) (
    jg (jp_in (l1 + (4 : Int32)) 224) (
    jg (jp_in (l1 + (5 : Int32)) 224) (
    (f_M_canBe (M 122 (Int32.toNatClampNeg (l1 + (3 : Int32)))) (M 122 (Int32.toNatClampNeg (l1 + (4 : Int32)))) (M 122 (Int32.toNatClampNeg (l1 + (5 : Int32)))) M).bind fun q5 => (
    if jp_c .ne q5 0 = true then (
    jg (jp_in (l1 + (1 : Int32)) 224) (
    jg (jp_in (l1 + (2 : Int32)) 224) (
    jg (jp_in (l1 + (3 : Int32)) 224) (
    jg (jp_in (l1 + (4 : Int32)) 224) (
    jg (jp_in (l1 + (5 : Int32)) 224) (
    jg (jp_in (l1 + (6 : Int32)) 224) (
    (f_M_asksFor (M 122 (Int32.toNatClampNeg (l1 + (1 : Int32)))) (M 122 (Int32.toNatClampNeg (l1 + (2 : Int32)))) (M 122 (Int32.toNatClampNeg (l1 + (3 : Int32)))) (M 122 (Int32.toNatClampNeg (l1 + (4 : Int32)))) (M 122 (Int32.toNatClampNeg (l1 + (5 : Int32)))) (M 122 (Int32.toNatClampNeg (l1 + (6 : Int32)))) M).bind fun q12 => (
    f_M_petitionsOf_116 (f_M_petitionsOf_2 n ) l1 (q12.2))))))))) else (
    f_M_petitionsOf_116 (f_M_petitionsOf_2 n ) l1 M))))))))
theorem t_M_petitionsOf_2 {Ln : Nat} {xs : Nat → Int32} {sv : jp_V} {d : Nat} (hd : 6 ≤ d)  : ∀ (n : Nat) (l1 : Int32) (w : Nat) (M : jp_M) {res : jp_M}, f_M_petitionsOf_2 n  l1 M = some res → jR (jZ (jK Ln xs sv)) d 250 2 ([some (.inr (some 104)), some (.inl l1)], [], jSH w, M) (none, jSH w, res) := by
  intro n
  induction n with
  | zero =>
    intro l1 w M res hf
    cases hf
  | succ n ih =>
    intro l1 w M res hf
    rw [f_M_petitionsOf_2] at hf
    refine jR_in rfl ⟨rfl, rfl, rfl⟩ rfl ?_
    refine js_iload_n rfl ?_
    refine js_bipush (v := (7 : Int32)) rfl ?_
    refine js_aload_n rfl ?_
    refine js_geti rfl rfl rfl ?_
    refine js_imul ?_
    refine js_icmp (tgt := 124) rfl rfl (fun h => ?_) (fun h => ?_)
    · have hf := jif_t hf h
      refine jR_in rfl ⟨rfl, rfl, rfl⟩ rfl ?_
      obtain rfl := Option.some.inj hf
      exact js_ret rfl rfl
    · have hf := jif_f hf h
      refine js_aload_n rfl ?_
      refine js_getr rfl rfl rfl ?_
      refine js_iload_n rfl ?_
      obtain ⟨hb1, hf⟩ := jg_some hf
      refine js_iald rfl hb1 ?_
      refine js_aload_n rfl ?_
      refine js_getr rfl rfl rfl ?_
      refine js_iconst (v := (0 : Int32)) rfl ?_
      refine js_iald rfl (by decide) ?_
      refine js_icmp (tgt := 116) rfl rfl (fun h => ?_) (fun h => ?_)
      · have hf := jif_t hf h
        exact t_M_petitionsOf_116 hd (fun l1 w M res hf => ih l1 w M hf) _ _ _ hf
      · have hf := jif_f hf h
        refine js_aload_n rfl ?_
        refine js_aload_n rfl ?_
        refine js_getr rfl rfl rfl ?_
        refine js_iload_n rfl ?_
        refine js_iconst (v := (3 : Int32)) rfl ?_
        refine js_iadd ?_
        obtain ⟨hb2, hf⟩ := jg_some hf
        refine js_iald rfl hb2 ?_
        refine js_aload_n rfl ?_
        refine js_getr rfl rfl rfl ?_
        refine js_iload_n rfl ?_
        refine js_iconst (v := (4 : Int32)) rfl ?_
        refine js_iadd ?_
        obtain ⟨hb3, hf⟩ := jg_some hf
        refine js_iald rfl hb3 ?_
        refine js_aload_n rfl ?_
        refine js_getr rfl rfl rfl ?_
        refine js_iload_n rfl ?_
        refine js_iconst (v := (5 : Int32)) rfl ?_
        refine js_iadd ?_
        obtain ⟨hb4, hf⟩ := jg_some hf
        refine js_iald rfl hb4 ?_
        obtain ⟨q5, hc_5, hf⟩ := jbind hf
        refine js_c4i rfl rfl ⟨rfl, rfl⟩ rfl rfl (t_M_canBe hc_5) (by omega) ?_
        refine js_ifc (tgt := 62) rfl rfl (fun h => ?_) (fun h => ?_)
        · have hf := jif_t hf h
          refine jR_in rfl ⟨rfl, rfl, rfl⟩ rfl ?_
          refine js_aload_n rfl ?_
          refine js_aload_n rfl ?_
          refine js_getr rfl rfl rfl ?_
          refine js_iload_n rfl ?_
          refine js_iconst (v := (1 : Int32)) rfl ?_
          refine js_iadd ?_
          obtain ⟨hb6, hf⟩ := jg_some hf
          refine js_iald rfl hb6 ?_
          refine js_aload_n rfl ?_
          refine js_getr rfl rfl rfl ?_
          refine js_iload_n rfl ?_
          refine js_iconst (v := (2 : Int32)) rfl ?_
          refine js_iadd ?_
          obtain ⟨hb7, hf⟩ := jg_some hf
          refine js_iald rfl hb7 ?_
          refine js_aload_n rfl ?_
          refine js_getr rfl rfl rfl ?_
          refine js_iload_n rfl ?_
          refine js_iconst (v := (3 : Int32)) rfl ?_
          refine js_iadd ?_
          obtain ⟨hb8, hf⟩ := jg_some hf
          refine js_iald rfl hb8 ?_
          refine js_aload_n rfl ?_
          refine js_getr rfl rfl rfl ?_
          refine js_iload_n rfl ?_
          refine js_iconst (v := (4 : Int32)) rfl ?_
          refine js_iadd ?_
          obtain ⟨hb9, hf⟩ := jg_some hf
          refine js_iald rfl hb9 ?_
          refine js_aload_n rfl ?_
          refine js_getr rfl rfl rfl ?_
          refine js_iload_n rfl ?_
          refine js_iconst (v := (5 : Int32)) rfl ?_
          refine js_iadd ?_
          obtain ⟨hb10, hf⟩ := jg_some hf
          refine js_iald rfl hb10 ?_
          refine js_aload_n rfl ?_
          refine js_getr rfl rfl rfl ?_
          refine js_iload_n rfl ?_
          refine js_bipush (v := (6 : Int32)) rfl ?_
          refine js_iadd ?_
          obtain ⟨hb11, hf⟩ := jg_some hf
          refine js_iald rfl hb11 ?_
          obtain ⟨q12, hc_12, hf⟩ := jbind hf
          refine js_c7i rfl rfl ⟨rfl, rfl⟩ rfl rfl (t_M_asksFor hc_12) (by omega) ?_
          refine js_pop ?_
          exact jS_out rfl ⟨rfl, rfl, rfl⟩ rfl (t_M_petitionsOf_116 hd (fun l1 w M res hf => ih l1 w M hf) _ _ _ hf)
        · have hf := jif_f hf h
          refine js_goto (tgt := 116) rfl rfl ?_
          exact t_M_petitionsOf_116 hd (fun l1 w M res hf => ih l1 w M hf) _ _ _ hf
def f_M_petitionsOf (M : jp_M) : Option (jp_M) :=
  f_M_petitionsOf_2 jFu (0 : Int32) M
theorem t_M_petitionsOf {Ln : Nat} {xs : Nat → Int32} {sv : jp_V} {w : Nat} {M : jp_M} {res : jp_M} (hf : f_M_petitionsOf M = some res) : jE (jZ (jK Ln xs sv)) 6 250 [(.inr (some 104))] (jSH w) M (none, jSH w, res) := by
  unfold f_M_petitionsOf at hf
  refine jE_in (L0 := [some (.inr (some 104)), none]) rfl (Nat.le_of_ble_eq_true rfl) rfl (fun d hd => ?_)
  refine jR_in rfl ⟨rfl, rfl, rfl⟩ rfl ?_
  refine js_iconst (v := (0 : Int32)) rfl ?_
  refine js_istore_n rfl rfl ?_
  exact jS_out rfl ⟨rfl, rfl, rfl⟩ rfl (t_M_petitionsOf_2 hd jFu _ _ _ hf)
/-! SwallowsAirModel.asksOf(I)V -/
def f_M_asksOf (a1 : Int32) (M : jp_M) : Option (jp_M) :=
  jg (jp_in ((f_M_useAt a1) + (1 : Int32)) 184) (
  jg (jp_in ((f_M_useAt a1) + (2 : Int32)) 184) (
  jg (jp_in ((f_M_useAt a1) + (3 : Int32)) 184) (
  jg (jp_in ((f_M_useAt a1) + (5 : Int32)) 184) (
  jg (jp_in ((f_M_useAt a1) + (6 : Int32)) 184) (
  (f_M_asks (M 105 (Int32.toNatClampNeg ((f_M_useAt a1) + (1 : Int32)))) (M 105 (Int32.toNatClampNeg ((f_M_useAt a1) + (2 : Int32)))) (M 105 (Int32.toNatClampNeg ((f_M_useAt a1) + (3 : Int32)))) (M 105 (Int32.toNatClampNeg ((f_M_useAt a1) + (5 : Int32)))) (M 105 (Int32.toNatClampNeg ((f_M_useAt a1) + (6 : Int32)))) M).bind fun q7 => (
  some q7))))))
theorem t_M_asksOf {Ln : Nat} {xs : Nat → Int32} {sv : jp_V} {a1 : Int32} {w : Nat} {M : jp_M} {res : jp_M} (hf : f_M_asksOf a1 M = some res) : jE (jZ (jK Ln xs sv)) 3 231 [(.inr (some 104)), (.inl a1)] (jSH w) M (none, jSH w, res) := by
  unfold f_M_asksOf at hf
  refine jE_in (L0 := [some (.inr (some 104)), some (.inl a1), none]) rfl (Nat.le_of_ble_eq_true rfl) rfl (fun d hd => ?_)
  refine jR_in rfl ⟨rfl, rfl, rfl⟩ rfl ?_
  refine js_aload_n rfl ?_
  refine js_iload_n rfl ?_
  refine js_c2i rfl rfl ⟨rfl, rfl⟩ rfl rfl (t_M_useAt rfl) (by omega) ?_
  refine js_istore_n rfl rfl ?_
  refine js_aload_n rfl ?_
  refine js_aload_n rfl ?_
  refine js_getr rfl rfl rfl ?_
  refine js_iload_n rfl ?_
  refine js_iconst (v := (1 : Int32)) rfl ?_
  refine js_iadd ?_
  obtain ⟨hb2, hf⟩ := jg_some hf
  refine js_iald rfl hb2 ?_
  refine js_aload_n rfl ?_
  refine js_getr rfl rfl rfl ?_
  refine js_iload_n rfl ?_
  refine js_iconst (v := (2 : Int32)) rfl ?_
  refine js_iadd ?_
  obtain ⟨hb3, hf⟩ := jg_some hf
  refine js_iald rfl hb3 ?_
  refine js_aload_n rfl ?_
  refine js_getr rfl rfl rfl ?_
  refine js_iload_n rfl ?_
  refine js_iconst (v := (3 : Int32)) rfl ?_
  refine js_iadd ?_
  obtain ⟨hb4, hf⟩ := jg_some hf
  refine js_iald rfl hb4 ?_
  refine js_aload_n rfl ?_
  refine js_getr rfl rfl rfl ?_
  refine js_iload_n rfl ?_
  refine js_iconst (v := (5 : Int32)) rfl ?_
  refine js_iadd ?_
  obtain ⟨hb5, hf⟩ := jg_some hf
  refine js_iald rfl hb5 ?_
  refine js_aload_n rfl ?_
  refine js_getr rfl rfl rfl ?_
  refine js_iload_n rfl ?_
  refine js_bipush (v := (6 : Int32)) rfl ?_
  refine js_iadd ?_
  obtain ⟨hb6, hf⟩ := jg_some hf
  refine js_iald rfl hb6 ?_
  obtain ⟨q7, hc_7, hf⟩ := jbind hf
  refine js_c6v (w := 0) rfl rfl ⟨rfl, rfl⟩ rfl rfl (t_M_asks hc_7) (by omega) ?_
  obtain rfl := Option.some.inj hf
  exact js_ret rfl rfl
/-! SwallowsAirModel.fineNow()I -/
def f_M_fineNow (M : jp_M) : Option (Int32 × jp_M) :=
  (f_M_lawTells (2 : Int32) ((5 : Int32) * (M 125 2)) (999 : Int32) M).bind fun q1 => (
  some (q1.1, q1.2))
theorem t_M_fineNow {Ln : Nat} {xs : Nat → Int32} {sv : jp_V} {w : Nat} {M : jp_M} {res : Int32 × jp_M} (hf : f_M_fineNow M = some res) : jE (jZ (jK Ln xs sv)) 4 235 [(.inr (some 104))] (jSH w) M (some (.inl res.1), jSH w, res.2) := by
  unfold f_M_fineNow at hf
  refine jE_in (L0 := [some (.inr (some 104))]) rfl (Nat.le_of_ble_eq_true rfl) rfl (fun d hd => ?_)
  refine jR_in rfl ⟨rfl, rfl, rfl⟩ rfl ?_
  refine js_aload_n rfl ?_
  refine js_iconst (v := (2 : Int32)) rfl ?_
  refine js_iconst (v := (5 : Int32)) rfl ?_
  refine js_aload_n rfl ?_
  refine js_getr rfl rfl rfl ?_
  refine js_iconst (v := (2 : Int32)) rfl ?_
  refine js_iald rfl (by decide) ?_
  refine js_imul ?_
  refine js_sipush (v := (999 : Int32)) rfl ?_
  obtain ⟨q1, hc_1, hf⟩ := jbind hf
  refine js_c4i rfl rfl ⟨rfl, rfl⟩ rfl rfl (t_M_lawTells hc_1) (by omega) ?_
  obtain rfl := Option.some.inj hf
  exact js_iret rfl rfl
/-! SwallowsAirModel.apart(II)I -/
def f_M_apart (a1 : Int32) (a2 : Int32) : Int32 :=
  if jp_c .le a1 a2 = true then (
  (a2 - a1)) else (
  (a1 - a2))
theorem t_M_apart {Ln : Nat} {xs : Nat → Int32} {sv : jp_V} {a1 : Int32} {a2 : Int32} {w : Nat} {M : jp_M} {res : Int32} (hf : f_M_apart a1 a2 = res) : jE (jZ (jK Ln xs sv)) 0 167 [(.inr (some 104)), (.inl a1), (.inl a2)] (jSH w) M (some (.inl res), jSH w, M) := by
  unfold f_M_apart at hf
  refine jE_in (L0 := [some (.inr (some 104)), some (.inl a1), some (.inl a2)]) rfl (Nat.le_of_ble_eq_true rfl) rfl (fun d hd => ?_)
  refine jR_in rfl ⟨rfl, rfl, rfl⟩ rfl ?_
  refine js_iload_n rfl ?_
  refine js_iload_n rfl ?_
  refine js_icmp (tgt := 11) rfl rfl (fun h => ?_) (fun h => ?_)
  · have hf := jif_t hf h
    refine jR_in rfl ⟨rfl, rfl, rfl⟩ rfl ?_
    refine js_iload_n rfl ?_
    refine js_iload_n rfl ?_
    refine js_isub ?_
    subst hf
    exact js_iret rfl rfl
  · have hf := jif_f hf h
    refine js_iload_n rfl ?_
    refine js_iload_n rfl ?_
    refine js_isub ?_
    refine js_goto (tgt := 14) rfl rfl ?_
    refine jR_in rfl ⟨rfl, rfl, rfl⟩ rfl ?_
    subst hf
    exact js_iret rfl rfl
/-! SwallowsAirModel.sees(II)Z -/
def f_M_sees_65 (c22 : Int32 → Int32 → Int32 → Int32 → jp_M → Option (Int32)) (l1 : Int32) (l2 : Int32) (l3 : Int32) (l4 : Int32) (M : jp_M) : Option (Int32) :=
  c22 l1 l2 l3 (l4 + (1 : Int32)) M
theorem t_M_sees_65 {Ln : Nat} {xs : Nat → Int32} {sv : jp_V} {d : Nat} (hd : 1 ≤ d) {c22 : Int32 → Int32 → Int32 → Int32 → jp_M → Option (Int32)} (hc22 : ∀ (l1 : Int32) (l2 : Int32) (l3 : Int32) (l4 : Int32) (w : Nat) (M : jp_M) (res : Int32), c22 l1 l2 l3 l4 M = some res → jR (jZ (jK Ln xs sv)) d 247 32 ([some (.inr (some 104)), some (.inl l1), some (.inl l2), some (.inl l3), some (.inl l4)], [], jSH w, M) (some (.inl res), jSH w, M)) (l1 : Int32) (l2 : Int32) (l3 : Int32) (l4 : Int32) (w : Nat) (M : jp_M) {res : Int32} (hf : f_M_sees_65 c22 l1 l2 l3 l4 M = some res) : jR (jZ (jK Ln xs sv)) d 247 65 ([some (.inr (some 104)), some (.inl l1), some (.inl l2), some (.inl l3), some (.inl l4)], [], jSH w, M) (some (.inl res), jSH w, M) := by
  unfold f_M_sees_65 at hf
  refine jR_in rfl ⟨rfl, rfl, rfl⟩ rfl ?_
  refine js_iinc (v := (1 : Int32)) rfl rfl rfl rfl ?_
  refine js_goto (tgt := 32) rfl rfl ?_
  exact hc22 _ _ _ _ _ _ _ hf
theorem b_M_sees_65 {c22 : Int32 → Int32 → Int32 → Int32 → jp_M → Option (Int32)} (hc22 : ∀ (l1 : Int32) (l2 : Int32) (l3 : Int32) (l4 : Int32) (M : jp_M) (res : Int32), c22 l1 l2 l3 l4 M = some res → (res = 0 ∨ res = 1)) (l1 : Int32) (l2 : Int32) (l3 : Int32) (l4 : Int32) (M : jp_M) {res : Int32} (hf : f_M_sees_65 c22 l1 l2 l3 l4 M = some res) : res = 0 ∨ res = 1 := by
  unfold f_M_sees_65 at hf
  exact hc22 _ _ _ _ _ _ hf
def f_M_sees_32  : Nat → Int32 → Int32 → Int32 → Int32 → jp_M → Option (Int32)
  | 0, _, _, _, _, _ => none
  | n + 1, l1, l2, l3, l4, M =>
    if jp_c .ge l4 (10 : Int32) = true then (
    some (0 : Int32)) else (
    jg (jp_in l4 20) (
    if jp_c .ne (M 123 (Int32.toNatClampNeg l4)) (l1 + (1 : Int32)) = true then (
    f_M_sees_65 (f_M_sees_32 n ) l1 l2 l3 l4 M) else (
    if jp_c .gt (f_M_apart l4 l2) l3 = true then (
    f_M_sees_65 (f_M_sees_32 n ) l1 l2 l3 l4 M) else (
    some (1 : Int32)))))
theorem t_M_sees_32 {Ln : Nat} {xs : Nat → Int32} {sv : jp_V} {d : Nat} (hd : 1 ≤ d)  : ∀ (n : Nat) (l1 : Int32) (l2 : Int32) (l3 : Int32) (l4 : Int32) (w : Nat) (M : jp_M) {res : Int32}, f_M_sees_32 n  l1 l2 l3 l4 M = some res → jR (jZ (jK Ln xs sv)) d 247 32 ([some (.inr (some 104)), some (.inl l1), some (.inl l2), some (.inl l3), some (.inl l4)], [], jSH w, M) (some (.inl res), jSH w, M) := by
  intro n
  induction n with
  | zero =>
    intro l1 l2 l3 l4 w M res hf
    cases hf
  | succ n ih =>
    intro l1 l2 l3 l4 w M res hf
    rw [f_M_sees_32] at hf
    refine jR_in rfl ⟨rfl, rfl, rfl⟩ rfl ?_
    refine js_iload rfl ?_
    refine js_bipush (v := (10 : Int32)) rfl ?_
    refine js_icmp (tgt := 71) rfl rfl (fun h => ?_) (fun h => ?_)
    · have hf := jif_t hf h
      refine jR_in rfl ⟨rfl, rfl, rfl⟩ rfl ?_
      refine js_iconst (v := (0 : Int32)) rfl ?_
      obtain rfl := Option.some.inj hf
      exact js_iret rfl rfl
    · have hf := jif_f hf h
      refine js_aload_n rfl ?_
      refine js_getr rfl rfl rfl ?_
      refine js_iload rfl ?_
      obtain ⟨hb1, hf⟩ := jg_some hf
      refine js_iald rfl hb1 ?_
      refine js_iload_n rfl ?_
      refine js_iconst (v := (1 : Int32)) rfl ?_
      refine js_iadd ?_
      refine js_icmp (tgt := 65) rfl rfl (fun h => ?_) (fun h => ?_)
      · have hf := jif_t hf h
        exact t_M_sees_65 hd (fun l1 l2 l3 l4 w M res hf => ih l1 l2 l3 l4 w M hf) _ _ _ _ _ _ hf
      · have hf := jif_f hf h
        refine js_aload_n rfl ?_
        refine js_iload rfl ?_
        refine js_iload_n rfl ?_
        refine js_c3i rfl rfl ⟨rfl, rfl⟩ rfl rfl (t_M_apart rfl) (by omega) ?_
        refine js_iload_n rfl ?_
        refine js_icmp (tgt := 65) rfl rfl (fun h => ?_) (fun h => ?_)
        · have hf := jif_t hf h
          exact t_M_sees_65 hd (fun l1 l2 l3 l4 w M res hf => ih l1 l2 l3 l4 w M hf) _ _ _ _ _ _ hf
        · have hf := jif_f hf h
          refine js_iconst (v := (1 : Int32)) rfl ?_
          obtain rfl := Option.some.inj hf
          exact js_iret rfl rfl
theorem b_M_sees_32  : ∀ (n : Nat) (l1 : Int32) (l2 : Int32) (l3 : Int32) (l4 : Int32) (M : jp_M) {res : Int32}, f_M_sees_32 n  l1 l2 l3 l4 M = some res → (res = 0 ∨ res = 1) := by
  intro n
  induction n with
  | zero =>
    intro l1 l2 l3 l4 M res hf
    cases hf
  | succ n ih =>
    intro l1 l2 l3 l4 M res hf
    rw [f_M_sees_32] at hf
    rcases jif_d hf with ⟨h, hf⟩ | ⟨h, hf⟩
    · obtain rfl := Option.some.inj hf
      exact Or.inl rfl
    · obtain ⟨hb1, hf⟩ := jg_some hf
      rcases jif_d hf with ⟨h, hf⟩ | ⟨h, hf⟩
      · exact b_M_sees_65 (fun l1 l2 l3 l4 M res hf => ih l1 l2 l3 l4 M hf) _ _ _ _ _ hf
      · rcases jif_d hf with ⟨h, hf⟩ | ⟨h, hf⟩
        · exact b_M_sees_65 (fun l1 l2 l3 l4 M res hf => ih l1 l2 l3 l4 M hf) _ _ _ _ _ hf
        · obtain rfl := Option.some.inj hf
          exact Or.inr rfl
def f_M_sees (a1 : Int32) (a2 : Int32) (M : jp_M) : Option (Int32) :=
  jg (jp_in a1 10) (
  jg (jp_in ((46 : Int32) + a1) 184) (
  if jp_c .gt (f_M_apart (M 105 (Int32.toNatClampNeg ((46 : Int32) + a1))) a2) ((M 110 (Int32.toNatClampNeg a1)) / (3 : Int32)) = true then (
  f_M_sees_32 jFu a1 a2 ((M 110 (Int32.toNatClampNeg a1)) / (3 : Int32)) (0 : Int32) M) else (
  some (1 : Int32))))
theorem t_M_sees {Ln : Nat} {xs : Nat → Int32} {sv : jp_V} {a1 : Int32} {a2 : Int32} {w : Nat} {M : jp_M} {res : Int32} (hf : f_M_sees a1 a2 M = some res) : jE (jZ (jK Ln xs sv)) 1 247 [(.inr (some 104)), (.inl a1), (.inl a2)] (jSH w) M (some (.inl res), jSH w, M) := by
  unfold f_M_sees at hf
  refine jE_in (L0 := [some (.inr (some 104)), some (.inl a1), some (.inl a2), none, none]) rfl (Nat.le_of_ble_eq_true rfl) rfl (fun d hd => ?_)
  refine jR_in rfl ⟨rfl, rfl, rfl⟩ rfl ?_
  refine js_aload_n rfl ?_
  refine js_getr rfl rfl rfl ?_
  refine js_iload_n rfl ?_
  obtain ⟨hb1, hf⟩ := jg_some hf
  refine js_iald rfl hb1 ?_
  refine js_iconst (v := (3 : Int32)) rfl ?_
  refine js_idiv (by decide) ?_
  refine js_istore_n rfl rfl ?_
  refine js_aload_n rfl ?_
  refine js_aload_n rfl ?_
  refine js_getr rfl rfl rfl ?_
  refine js_bipush (v := (46 : Int32)) rfl ?_
  refine js_iload_n rfl ?_
  refine js_iadd ?_
  obtain ⟨hb2, hf⟩ := jg_some hf
  refine js_iald rfl hb2 ?_
  refine js_iload_n rfl ?_
  refine js_c3i rfl rfl ⟨rfl, rfl⟩ rfl rfl (t_M_apart rfl) (by omega) ?_
  refine js_iload_n rfl ?_
  refine js_icmp (tgt := 29) rfl rfl (fun h => ?_) (fun h => ?_)
  · have hf := jif_t hf h
    refine jR_in rfl ⟨rfl, rfl, rfl⟩ rfl ?_
    refine js_iconst (v := (0 : Int32)) rfl ?_
    refine js_istore rfl rfl ?_
    exact jS_out rfl ⟨rfl, rfl, rfl⟩ rfl (t_M_sees_32 hd jFu _ _ _ _ _ _ hf)
  · have hf := jif_f hf h
    refine js_iconst (v := (1 : Int32)) rfl ?_
    obtain rfl := Option.some.inj hf
    exact js_iret rfl rfl
theorem b_M_sees {a1 : Int32} {a2 : Int32} {M : jp_M} {res : Int32} (hf : f_M_sees a1 a2 M = some res) : res = 0 ∨ res = 1 := by
  unfold f_M_sees at hf
  obtain ⟨hb1, hf⟩ := jg_some hf
  obtain ⟨hb2, hf⟩ := jg_some hf
  rcases jif_d hf with ⟨h, hf⟩ | ⟨h, hf⟩
  · exact b_M_sees_32 jFu _ _ _ _ _ hf
  · obtain rfl := Option.some.inj hf
    exact Or.inr rfl
/-! SwallowsAirModel.whoSees(I)I -/
def f_M_whoSees_2  : Nat → Int32 → Int32 → jp_M → Option (Int32)
  | 0, _, _, _ => none
  | n + 1, l1, l2, M =>
    if jp_c .ge l2 (M 104 7) = true then (
    some (-1 : Int32)) else (
    (f_M_sees l2 l1 M).bind fun q1 => (
    if jp_c .eq q1 0 = true then (
    f_M_whoSees_2 n l1 (l2 + (1 : Int32)) M) else (
    some l2)))
theorem t_M_whoSees_2 {Ln : Nat} {xs : Nat → Int32} {sv : jp_V} {d : Nat} (hd : 2 ≤ d)  : ∀ (n : Nat) (l1 : Int32) (l2 : Int32) (w : Nat) (M : jp_M) {res : Int32}, f_M_whoSees_2 n  l1 l2 M = some res → jR (jZ (jK Ln xs sv)) d 248 2 ([some (.inr (some 104)), some (.inl l1), some (.inl l2)], [], jSH w, M) (some (.inl res), jSH w, M) := by
  intro n
  induction n with
  | zero =>
    intro l1 l2 w M res hf
    cases hf
  | succ n ih =>
    intro l1 l2 w M res hf
    rw [f_M_whoSees_2] at hf
    refine jR_in rfl ⟨rfl, rfl, rfl⟩ rfl ?_
    refine js_iload_n rfl ?_
    refine js_aload_n rfl ?_
    refine js_geti rfl rfl rfl ?_
    refine js_icmp (tgt := 27) rfl rfl (fun h => ?_) (fun h => ?_)
    · have hf := jif_t hf h
      refine jR_in rfl ⟨rfl, rfl, rfl⟩ rfl ?_
      refine js_iconst (v := (-1 : Int32)) rfl ?_
      obtain rfl := Option.some.inj hf
      exact js_iret rfl rfl
    · have hf := jif_f hf h
      refine js_aload_n rfl ?_
      refine js_iload_n rfl ?_
      refine js_iload_n rfl ?_
      obtain ⟨q1, hc_1, hf⟩ := jbind hf
      refine js_c3i rfl rfl ⟨rfl, rfl⟩ rfl rfl (t_M_sees hc_1) (by omega) ?_
      refine js_ifc (tgt := 21) rfl rfl (fun h => ?_) (fun h => ?_)
      · have hf := jif_t hf h
        refine jR_in rfl ⟨rfl, rfl, rfl⟩ rfl ?_
        refine js_iinc (v := (1 : Int32)) rfl rfl rfl rfl ?_
        refine js_goto (tgt := 2) rfl rfl ?_
        exact ih _ _ _ _ hf
      · have hf := jif_f hf h
        refine js_iload_n rfl ?_
        obtain rfl := Option.some.inj hf
        exact js_iret rfl rfl
def f_M_whoSees (a1 : Int32) (M : jp_M) : Option (Int32) :=
  f_M_whoSees_2 jFu a1 (0 : Int32) M
theorem t_M_whoSees {Ln : Nat} {xs : Nat → Int32} {sv : jp_V} {a1 : Int32} {w : Nat} {M : jp_M} {res : Int32} (hf : f_M_whoSees a1 M = some res) : jE (jZ (jK Ln xs sv)) 2 248 [(.inr (some 104)), (.inl a1)] (jSH w) M (some (.inl res), jSH w, M) := by
  unfold f_M_whoSees at hf
  refine jE_in (L0 := [some (.inr (some 104)), some (.inl a1), none]) rfl (Nat.le_of_ble_eq_true rfl) rfl (fun d hd => ?_)
  refine jR_in rfl ⟨rfl, rfl, rfl⟩ rfl ?_
  refine js_iconst (v := (0 : Int32)) rfl ?_
  refine js_istore_n rfl rfl ?_
  exact jS_out rfl ⟨rfl, rfl, rfl⟩ rfl (t_M_whoSees_2 hd jFu _ _ _ _ hf)
/-! SwallowsAirModel.isFined(I)Z -/
def f_M_isFined_35  (l1 : Int32) (l2 : Int32) (s0 : Int32) (M : jp_M) : Option (Int32 × jp_M) :=
  if jp_c .ne s0 (-1 : Int32) = true then (
  jg (jp_in (l2 + (1 : Int32)) 184) (
  jg (jp_in ((36 : Int32) + s0) 184) (
  jg (jp_in ((36 : Int32) + s0) 184) (
  let M3 := jp_set M 105 (upd (M 105) (Int32.toNatClampNeg ((36 : Int32) + s0)) ((M 105 (Int32.toNatClampNeg ((36 : Int32) + s0))) + (1 : Int32)))
  (f_M_asksOf l1 M3).bind fun q5 => (
  (f_M_fineNow q5).bind fun q6 => (
  (f_M_pays (M 105 (Int32.toNatClampNeg (l2 + (1 : Int32)))) q6.1 q6.2).bind fun q7 => (
  jg (jp_in ((16 : Int32) + (M 105 (Int32.toNatClampNeg (l2 + (1 : Int32))))) 184) (
  jg (jp_in ((16 : Int32) + (M 105 (Int32.toNatClampNeg (l2 + (1 : Int32))))) 184) (
  let M9 := jp_set q7.2 105 (upd (q7.2 105) (Int32.toNatClampNeg ((16 : Int32) + (M 105 (Int32.toNatClampNeg (l2 + (1 : Int32)))))) ((q7.2 105 (Int32.toNatClampNeg ((16 : Int32) + (M 105 (Int32.toNatClampNeg (l2 + (1 : Int32))))))) + q7.1))
  jg (jp_in ((26 : Int32) + (M 105 (Int32.toNatClampNeg (l2 + (1 : Int32))))) 184) (
  jg (jp_in ((26 : Int32) + (M 105 (Int32.toNatClampNeg (l2 + (1 : Int32))))) 184) (
  let M13 := jp_set M9 105 (upd (M9 105) (Int32.toNatClampNeg ((26 : Int32) + (M 105 (Int32.toNatClampNeg (l2 + (1 : Int32)))))) (f_M_lesser (7 : Int32) ((M9 105 (Int32.toNatClampNeg ((26 : Int32) + (M 105 (Int32.toNatClampNeg (l2 + (1 : Int32))))))) + (1 : Int32))))
  jg (jp_in l2 184) (
  (f_M_notes (3 : Int32) (M13 105 (Int32.toNatClampNeg l2)) q7.1 M13).bind fun q16 => (
  (f_M_isOver l1 q16).bind fun q17 => (
  some ((1 : Int32), q17))))))))))))))) else (
  some ((0 : Int32), M))
theorem t_M_isFined_35 {Ln : Nat} {xs : Nat → Int32} {sv : jp_V} {d : Nat} (hd : 5 ≤ d)  (l1 : Int32) (l2 : Int32) (s0 : Int32) (o3 : Option jp_V) (o4 : Option jp_V) (o5 : Option jp_V) (w : Nat) (M : jp_M) {res : Int32 × jp_M} (hf : f_M_isFined_35  l1 l2 s0 M = some res) : jR (jZ (jK Ln xs sv)) d 249 35 ([some (.inr (some 104)), some (.inl l1), some (.inl l2), o3, o4, o5], [.inl s0], jSH w, M) (some (.inl res.1), jSH w, res.2) := by
  unfold f_M_isFined_35 at hf
  refine jR_in rfl ⟨rfl, rfl, rfl⟩ rfl ?_
  refine js_istore_n rfl rfl ?_
  refine js_iload_n rfl ?_
  refine js_iconst (v := (-1 : Int32)) rfl ?_
  refine js_icmp (tgt := 43) rfl rfl (fun h => ?_) (fun h => ?_)
  · have hf := jif_t hf h
    refine jR_in rfl ⟨rfl, rfl, rfl⟩ rfl ?_
    refine js_aload_n rfl ?_
    refine js_getr rfl rfl rfl ?_
    refine js_iload_n rfl ?_
    refine js_iconst (v := (1 : Int32)) rfl ?_
    refine js_iadd ?_
    obtain ⟨hb1, hf⟩ := jg_some hf
    refine js_iald rfl hb1 ?_
    refine js_istore rfl rfl ?_
    refine js_aload_n rfl ?_
    refine js_getr rfl rfl rfl ?_
    refine js_bipush (v := (36 : Int32)) rfl ?_
    refine js_iload_n rfl ?_
    refine js_iadd ?_
    refine js_aload_n rfl ?_
    refine js_getr rfl rfl rfl ?_
    refine js_bipush (v := (36 : Int32)) rfl ?_
    refine js_iload_n rfl ?_
    refine js_iadd ?_
    obtain ⟨hb2, hf⟩ := jg_some hf
    refine js_iald rfl hb2 ?_
    refine js_iconst (v := (1 : Int32)) rfl ?_
    refine js_iadd ?_
    obtain ⟨hb4, hf⟩ := jg_some hf
    refine js_iast rfl hb4 ?_
    refine js_aload_n rfl ?_
    refine js_iload_n rfl ?_
    obtain ⟨q5, hc_5, hf⟩ := jbind hf
    refine js_c2v (w := 0) rfl rfl ⟨rfl, rfl⟩ rfl rfl (t_M_asksOf hc_5) (by omega) ?_
    refine js_aload_n rfl ?_
    refine js_iload rfl ?_
    refine js_aload_n rfl ?_
    obtain ⟨q6, hc_6, hf⟩ := jbind hf
    refine js_c1i rfl rfl ⟨rfl, rfl⟩ rfl rfl (t_M_fineNow hc_6) (by omega) ?_
    obtain ⟨q7, hc_7, hf⟩ := jbind hf
    refine js_c3i rfl rfl ⟨rfl, rfl⟩ rfl rfl (t_M_pays hc_7) (by omega) ?_
    refine js_istore rfl rfl ?_
    refine js_aload_n rfl ?_
    refine js_getr rfl rfl rfl ?_
    refine js_bipush (v := (16 : Int32)) rfl ?_
    refine js_iload rfl ?_
    refine js_iadd ?_
    refine js_aload_n rfl ?_
    refine js_getr rfl rfl rfl ?_
    refine js_bipush (v := (16 : Int32)) rfl ?_
    refine js_iload rfl ?_
    refine js_iadd ?_
    obtain ⟨hb8, hf⟩ := jg_some hf
    refine js_iald rfl hb8 ?_
    refine js_iload rfl ?_
    refine js_iadd ?_
    obtain ⟨hb10, hf⟩ := jg_some hf
    refine js_iast rfl hb10 ?_
    refine js_aload_n rfl ?_
    refine js_getr rfl rfl rfl ?_
    refine js_bipush (v := (26 : Int32)) rfl ?_
    refine js_iload rfl ?_
    refine js_iadd ?_
    refine js_aload_n rfl ?_
    refine js_bipush (v := (7 : Int32)) rfl ?_
    refine js_aload_n rfl ?_
    refine js_getr rfl rfl rfl ?_
    refine js_bipush (v := (26 : Int32)) rfl ?_
    refine js_iload rfl ?_
    refine js_iadd ?_
    obtain ⟨hb11, hf⟩ := jg_some hf
    refine js_iald rfl hb11 ?_
    refine js_iconst (v := (1 : Int32)) rfl ?_
    refine js_iadd ?_
    refine js_c3i rfl rfl ⟨rfl, rfl⟩ rfl rfl (t_M_lesser rfl) (by omega) ?_
    obtain ⟨hb14, hf⟩ := jg_some hf
    refine js_iast rfl hb14 ?_
    refine js_aload_n rfl ?_
    refine js_iconst (v := (3 : Int32)) rfl ?_
    refine js_aload_n rfl ?_
    refine js_getr rfl rfl rfl ?_
    refine js_iload_n rfl ?_
    obtain ⟨hb15, hf⟩ := jg_some hf
    refine js_iald rfl hb15 ?_
    refine js_iload rfl ?_
    obtain ⟨q16, hc_16, hf⟩ := jbind hf
    refine js_c4v (w := 0) rfl rfl ⟨rfl, rfl⟩ rfl rfl (t_M_notes hc_16) (by omega) ?_
    refine js_aload_n rfl ?_
    refine js_iload_n rfl ?_
    obtain ⟨q17, hc_17, hf⟩ := jbind hf
    refine js_c2v (w := 0) rfl rfl ⟨rfl, rfl⟩ rfl rfl (t_M_isOver hc_17) (by omega) ?_
    refine js_iconst (v := (1 : Int32)) rfl ?_
    obtain rfl := Option.some.inj hf
    exact js_iret rfl rfl
  · have hf := jif_f hf h
    refine js_iconst (v := (0 : Int32)) rfl ?_
    obtain rfl := Option.some.inj hf
    exact js_iret rfl rfl
theorem b_M_isFined_35  (l1 : Int32) (l2 : Int32) (s0 : Int32) (M : jp_M) {res : Int32 × jp_M} (hf : f_M_isFined_35  l1 l2 s0 M = some res) : res.1 = 0 ∨ res.1 = 1 := by
  unfold f_M_isFined_35 at hf
  rcases jif_d hf with ⟨h, hf⟩ | ⟨h, hf⟩
  · obtain ⟨hb1, hf⟩ := jg_some hf
    obtain ⟨hb2, hf⟩ := jg_some hf
    obtain ⟨hb4, hf⟩ := jg_some hf
    obtain ⟨q5, hc_5, hf⟩ := jbind hf
    obtain ⟨q6, hc_6, hf⟩ := jbind hf
    obtain ⟨q7, hc_7, hf⟩ := jbind hf
    obtain ⟨hb8, hf⟩ := jg_some hf
    obtain ⟨hb10, hf⟩ := jg_some hf
    obtain ⟨hb11, hf⟩ := jg_some hf
    obtain ⟨hb14, hf⟩ := jg_some hf
    obtain ⟨hb15, hf⟩ := jg_some hf
    obtain ⟨q16, hc_16, hf⟩ := jbind hf
    obtain ⟨q17, hc_17, hf⟩ := jbind hf
    obtain rfl := Option.some.inj hf
    exact Or.inr rfl
  · obtain rfl := Option.some.inj hf
    exact Or.inl rfl
def f_M_isFined (a1 : Int32) (M : jp_M) : Option (Int32 × jp_M) :=
  jg (jp_in ((f_M_useAt a1) + (7 : Int32)) 184) (
  if jp_c .ne (M 105 (Int32.toNatClampNeg ((f_M_useAt a1) + (7 : Int32)))) (1 : Int32) = true then (
  jg (jp_in ((f_M_useAt a1) + (3 : Int32)) 184) (
  (f_M_whoSees (M 105 (Int32.toNatClampNeg ((f_M_useAt a1) + (3 : Int32)))) M).bind fun q4 => (
  f_M_isFined_35 a1 (f_M_useAt a1) q4 M))) else (
  f_M_isFined_35 a1 (f_M_useAt a1) (-1 : Int32) M))
theorem t_M_isFined {Ln : Nat} {xs : Nat → Int32} {sv : jp_V} {a1 : Int32} {w : Nat} {M : jp_M} {res : Int32 × jp_M} (hf : f_M_isFined a1 M = some res) : jE (jZ (jK Ln xs sv)) 5 249 [(.inr (some 104)), (.inl a1)] (jSH w) M (some (.inl res.1), jSH w, res.2) := by
  unfold f_M_isFined at hf
  refine jE_in (L0 := [some (.inr (some 104)), some (.inl a1), none, none, none, none]) rfl (Nat.le_of_ble_eq_true rfl) rfl (fun d hd => ?_)
  refine jR_in rfl ⟨rfl, rfl, rfl⟩ rfl ?_
  refine js_aload_n rfl ?_
  refine js_iload_n rfl ?_
  refine js_c2i rfl rfl ⟨rfl, rfl⟩ rfl rfl (t_M_useAt rfl) (by omega) ?_
  refine js_istore_n rfl rfl ?_
  refine js_aload_n rfl ?_
  refine js_getr rfl rfl rfl ?_
  refine js_iload_n rfl ?_
  refine js_bipush (v := (7 : Int32)) rfl ?_
  refine js_iadd ?_
  obtain ⟨hb2, hf⟩ := jg_some hf
  refine js_iald rfl hb2 ?_
  refine js_iconst (v := (1 : Int32)) rfl ?_
  refine js_icmp (tgt := 23) rfl rfl (fun h => ?_) (fun h => ?_)
  · have hf := jif_t hf h
    refine jR_in rfl ⟨rfl, rfl, rfl⟩ rfl ?_
    refine js_aload_n rfl ?_
    refine js_aload_n rfl ?_
    refine js_getr rfl rfl rfl ?_
    refine js_iload_n rfl ?_
    refine js_iconst (v := (3 : Int32)) rfl ?_
    refine js_iadd ?_
    obtain ⟨hb3, hf⟩ := jg_some hf
    refine js_iald rfl hb3 ?_
    obtain ⟨q4, hc_4, hf⟩ := jbind hf
    refine js_c2i rfl rfl ⟨rfl, rfl⟩ rfl rfl (t_M_whoSees hc_4) (by omega) ?_
    exact jS_out rfl ⟨rfl, rfl, rfl⟩ rfl (t_M_isFined_35 hd _ _ _ _ _ _ _ _ hf)
  · have hf := jif_f hf h
    refine js_iconst (v := (-1 : Int32)) rfl ?_
    refine js_goto (tgt := 35) rfl rfl ?_
    exact t_M_isFined_35 hd _ _ _ _ _ _ _ _ hf
theorem b_M_isFined {a1 : Int32} {M : jp_M} {res : Int32 × jp_M} (hf : f_M_isFined a1 M = some res) : res.1 = 0 ∨ res.1 = 1 := by
  unfold f_M_isFined at hf
  obtain ⟨hb2, hf⟩ := jg_some hf
  rcases jif_d hf with ⟨h, hf⟩ | ⟨h, hf⟩
  · obtain ⟨hb3, hf⟩ := jg_some hf
    obtain ⟨q4, hc_4, hf⟩ := jbind hf
    exact b_M_isFined_35 _ _ _ _ hf
  · exact b_M_isFined_35 _ _ _ _ hf
/-! SwallowsAirModel.passes()V -/
def f_M_passes_74 (c2 : Int32 → jp_M → Option (jp_M)) (l1 : Int32) (M : jp_M) : Option (jp_M) :=
  c2 l1 M
theorem t_M_passes_74 {Ln : Nat} {xs : Nat → Int32} {sv : jp_V} {d : Nat} (hd : 2 ≤ d) {c2 : Int32 → jp_M → Option (jp_M)} (hc2 : ∀ (l1 : Int32) (o2 : Option jp_V) (w : Nat) (M : jp_M) (res : jp_M), c2 l1 M = some res → jR (jZ (jK Ln xs sv)) d 251 2 ([some (.inr (some 104)), some (.inl l1), o2], [], jSH w, M) (none, jSH w, res)) (l1 : Int32) (o2 : Option jp_V) (w : Nat) (M : jp_M) {res : jp_M} (hf : f_M_passes_74 c2 l1 M = some res) : jR (jZ (jK Ln xs sv)) d 251 74 ([some (.inr (some 104)), some (.inl l1), o2], [], jSH w, M) (none, jSH w, res) := by
  unfold f_M_passes_74 at hf
  refine jR_in rfl ⟨rfl, rfl, rfl⟩ rfl ?_
  refine js_goto (tgt := 2) rfl rfl ?_
  exact hc2 _ _ _ _ _ hf
def f_M_passes_2  : Nat → Int32 → jp_M → Option (jp_M)
  | 0, _, _ => none
  | n + 1, l1, M =>
    if jp_c .ge l1 (M 105 5) = true then (
    some M) else (
    jg (jp_in ((f_M_useAt l1) + (6 : Int32)) 184) (
    jg (jp_in ((f_M_useAt l1) + (6 : Int32)) 184) (
    let M3 := jp_set M 105 (upd (M 105) (Int32.toNatClampNeg ((f_M_useAt l1) + (6 : Int32))) ((M 105 (Int32.toNatClampNeg ((f_M_useAt l1) + (6 : Int32)))) - (1 : Int32)))
    jg (jp_in ((f_M_useAt l1) + (6 : Int32)) 184) (
    if jp_c .le (M3 105 (Int32.toNatClampNeg ((f_M_useAt l1) + (6 : Int32)))) 0 = true then (
    jg (jp_in (f_M_useAt l1) 184) (
    (f_M_notes (4 : Int32) (M3 105 (Int32.toNatClampNeg (f_M_useAt l1))) (0 : Int32) M3).bind fun q7 => (
    (f_M_isOver l1 q7).bind fun q8 => (
    f_M_passes_74 (f_M_passes_2 n ) l1 q8)))) else (
    f_M_passes_74 (f_M_passes_2 n ) (l1 + (1 : Int32)) M3)))))
theorem t_M_passes_2 {Ln : Nat} {xs : Nat → Int32} {sv : jp_V} {d : Nat} (hd : 2 ≤ d)  : ∀ (n : Nat) (l1 : Int32) (o2 : Option jp_V) (w : Nat) (M : jp_M) {res : jp_M}, f_M_passes_2 n  l1 M = some res → jR (jZ (jK Ln xs sv)) d 251 2 ([some (.inr (some 104)), some (.inl l1), o2], [], jSH w, M) (none, jSH w, res) := by
  intro n
  induction n with
  | zero =>
    intro l1 o2 w M res hf
    cases hf
  | succ n ih =>
    intro l1 o2 w M res hf
    rw [f_M_passes_2] at hf
    refine jR_in rfl ⟨rfl, rfl, rfl⟩ rfl ?_
    refine js_iload_n rfl ?_
    refine js_aload_n rfl ?_
    refine js_getr rfl rfl rfl ?_
    refine js_iconst (v := (5 : Int32)) rfl ?_
    refine js_iald rfl (by decide) ?_
    refine js_icmp (tgt := 77) rfl rfl (fun h => ?_) (fun h => ?_)
    · have hf := jif_t hf h
      refine jR_in rfl ⟨rfl, rfl, rfl⟩ rfl ?_
      obtain rfl := Option.some.inj hf
      exact js_ret rfl rfl
    · have hf := jif_f hf h
      refine js_aload_n rfl ?_
      refine js_iload_n rfl ?_
      refine js_c2i rfl rfl ⟨rfl, rfl⟩ rfl rfl (t_M_useAt rfl) (by omega) ?_
      refine js_istore_n rfl rfl ?_
      refine js_aload_n rfl ?_
      refine js_getr rfl rfl rfl ?_
      refine js_iload_n rfl ?_
      refine js_bipush (v := (6 : Int32)) rfl ?_
      refine js_iadd ?_
      refine js_aload_n rfl ?_
      refine js_getr rfl rfl rfl ?_
      refine js_iload_n rfl ?_
      refine js_bipush (v := (6 : Int32)) rfl ?_
      refine js_iadd ?_
      obtain ⟨hb2, hf⟩ := jg_some hf
      refine js_iald rfl hb2 ?_
      refine js_iconst (v := (1 : Int32)) rfl ?_
      refine js_isub ?_
      obtain ⟨hb4, hf⟩ := jg_some hf
      refine js_iast rfl hb4 ?_
      refine js_aload_n rfl ?_
      refine js_getr rfl rfl rfl ?_
      refine js_iload_n rfl ?_
      refine js_bipush (v := (6 : Int32)) rfl ?_
      refine js_iadd ?_
      obtain ⟨hb5, hf⟩ := jg_some hf
      refine js_iald rfl hb5 ?_
      refine js_ifc (tgt := 57) rfl rfl (fun h => ?_) (fun h => ?_)
      · have hf := jif_t hf h
        refine jR_in rfl ⟨rfl, rfl, rfl⟩ rfl ?_
        refine js_aload_n rfl ?_
        refine js_iconst (v := (4 : Int32)) rfl ?_
        refine js_aload_n rfl ?_
        refine js_getr rfl rfl rfl ?_
        refine js_iload_n rfl ?_
        obtain ⟨hb6, hf⟩ := jg_some hf
        refine js_iald rfl hb6 ?_
        refine js_iconst (v := (0 : Int32)) rfl ?_
        obtain ⟨q7, hc_7, hf⟩ := jbind hf
        refine js_c4v (w := 0) rfl rfl ⟨rfl, rfl⟩ rfl rfl (t_M_notes hc_7) (by omega) ?_
        refine js_aload_n rfl ?_
        refine js_iload_n rfl ?_
        obtain ⟨q8, hc_8, hf⟩ := jbind hf
        refine js_c2v (w := 0) rfl rfl ⟨rfl, rfl⟩ rfl rfl (t_M_isOver hc_8) (by omega) ?_
        exact jS_out rfl ⟨rfl, rfl, rfl⟩ rfl (t_M_passes_74 hd (fun l1 o2 w M res hf => ih l1 o2 w M hf) _ _ _ _ hf)
      · have hf := jif_f hf h
        refine js_iload_n rfl ?_
        refine js_iconst (v := (1 : Int32)) rfl ?_
        refine js_iadd ?_
        refine js_istore_n rfl rfl ?_
        refine js_goto (tgt := 74) rfl rfl ?_
        exact t_M_passes_74 hd (fun l1 o2 w M res hf => ih l1 o2 w M hf) _ _ _ _ hf
def f_M_passes (M : jp_M) : Option (jp_M) :=
  f_M_passes_2 jFu (0 : Int32) M
theorem t_M_passes {Ln : Nat} {xs : Nat → Int32} {sv : jp_V} {w : Nat} {M : jp_M} {res : jp_M} (hf : f_M_passes M = some res) : jE (jZ (jK Ln xs sv)) 2 251 [(.inr (some 104))] (jSH w) M (none, jSH w, res) := by
  unfold f_M_passes at hf
  refine jE_in (L0 := [some (.inr (some 104)), none, none]) rfl (Nat.le_of_ble_eq_true rfl) rfl (fun d hd => ?_)
  refine jR_in rfl ⟨rfl, rfl, rfl⟩ rfl ?_
  refine js_iconst (v := (0 : Int32)) rfl ?_
  refine js_istore_n rfl rfl ?_
  exact jS_out rfl ⟨rfl, rfl, rfl⟩ rfl (t_M_passes_2 hd jFu _ _ _ _ hf)
/-! SwallowsAirModel.goesBy()I -/
def f_M_goesBy_119  (l1 : Int32) (M : jp_M) : Option (Int32 × jp_M) :=
  let M1 := jp_set M 105 (upd (M 105) 0 ((M 105 0) + (1 : Int32)))
  some (l1, M1)
theorem t_M_goesBy_119 {Ln : Nat} {xs : Nat → Int32} {sv : jp_V} {d : Nat} (hd : 7 ≤ d)  (l1 : Int32) (o2 : Option jp_V) (o3 : Option jp_V) (w : Nat) (M : jp_M) {res : Int32 × jp_M} (hf : f_M_goesBy_119  l1 M = some res) : jR (jZ (jK Ln xs sv)) d 252 119 ([some (.inr (some 104)), some (.inl l1), o2, o3], [], jSH w, M) (some (.inl res.1), jSH w, res.2) := by
  unfold f_M_goesBy_119 at hf
  refine jR_in rfl ⟨rfl, rfl, rfl⟩ rfl ?_
  refine js_aload_n rfl ?_
  refine js_getr rfl rfl rfl ?_
  refine js_iconst (v := (0 : Int32)) rfl ?_
  refine js_aload_n rfl ?_
  refine js_getr rfl rfl rfl ?_
  refine js_iconst (v := (0 : Int32)) rfl ?_
  refine js_iald rfl (by decide) ?_
  refine js_iconst (v := (1 : Int32)) rfl ?_
  refine js_iadd ?_
  refine js_iast rfl (by decide) ?_
  refine js_iload_n rfl ?_
  obtain rfl := Option.some.inj hf
  exact js_iret rfl rfl
def f_M_goesBy_95  : Nat → Int32 → Int32 → jp_M → Option (Int32 × jp_M)
  | 0, _, _, _ => none
  | n + 1, l1, l3, M =>
    if jp_c .ge l3 (M 104 6) = true then (
    f_M_goesBy_119 l1 M) else (
    jg (jp_in ((26 : Int32) + l3) 184) (
    let M1 := jp_set M 105 (upd (M 105) (Int32.toNatClampNeg ((26 : Int32) + l3)) (0 : Int32))
    f_M_goesBy_95 n l1 (l3 + (1 : Int32)) M1))
theorem t_M_goesBy_95 {Ln : Nat} {xs : Nat → Int32} {sv : jp_V} {d : Nat} (hd : 7 ≤ d)  : ∀ (n : Nat) (l1 : Int32) (l3 : Int32) (o2 : Option jp_V) (w : Nat) (M : jp_M) {res : Int32 × jp_M}, f_M_goesBy_95 n  l1 l3 M = some res → jR (jZ (jK Ln xs sv)) d 252 95 ([some (.inr (some 104)), some (.inl l1), o2, some (.inl l3)], [], jSH w, M) (some (.inl res.1), jSH w, res.2) := by
  intro n
  induction n with
  | zero =>
    intro l1 l3 o2 w M res hf
    cases hf
  | succ n ih =>
    intro l1 l3 o2 w M res hf
    rw [f_M_goesBy_95] at hf
    refine jR_in rfl ⟨rfl, rfl, rfl⟩ rfl ?_
    refine js_iload_n rfl ?_
    refine js_aload_n rfl ?_
    refine js_geti rfl rfl rfl ?_
    refine js_icmp (tgt := 119) rfl rfl (fun h => ?_) (fun h => ?_)
    · have hf := jif_t hf h
      exact t_M_goesBy_119 hd _ _ _ _ _ hf
    · have hf := jif_f hf h
      refine js_aload_n rfl ?_
      refine js_getr rfl rfl rfl ?_
      refine js_bipush (v := (26 : Int32)) rfl ?_
      refine js_iload_n rfl ?_
      refine js_iadd ?_
      refine js_iconst (v := (0 : Int32)) rfl ?_
      obtain ⟨hb2, hf⟩ := jg_some hf
      refine js_iast rfl hb2 ?_
      refine js_iinc (v := (1 : Int32)) rfl rfl rfl rfl ?_
      refine js_goto (tgt := 95) rfl rfl ?_
      exact ih _ _ _ _ _ hf
def f_M_goesBy_69  : Nat → Int32 → Int32 → jp_M → Option (Int32 × jp_M)
  | 0, _, _, _ => none
  | n + 1, l1, l3, M =>
    if jp_c .ge l3 (M 104 7) = true then (
    f_M_goesBy_95 jFu l1 (0 : Int32) M) else (
    jg (jp_in ((36 : Int32) + l3) 184) (
    let M1 := jp_set M 105 (upd (M 105) (Int32.toNatClampNeg ((36 : Int32) + l3)) (0 : Int32))
    f_M_goesBy_69 n l1 (l3 + (1 : Int32)) M1))
theorem t_M_goesBy_69 {Ln : Nat} {xs : Nat → Int32} {sv : jp_V} {d : Nat} (hd : 7 ≤ d)  : ∀ (n : Nat) (l1 : Int32) (l3 : Int32) (o2 : Option jp_V) (w : Nat) (M : jp_M) {res : Int32 × jp_M}, f_M_goesBy_69 n  l1 l3 M = some res → jR (jZ (jK Ln xs sv)) d 252 69 ([some (.inr (some 104)), some (.inl l1), o2, some (.inl l3)], [], jSH w, M) (some (.inl res.1), jSH w, res.2) := by
  intro n
  induction n with
  | zero =>
    intro l1 l3 o2 w M res hf
    cases hf
  | succ n ih =>
    intro l1 l3 o2 w M res hf
    rw [f_M_goesBy_69] at hf
    refine jR_in rfl ⟨rfl, rfl, rfl⟩ rfl ?_
    refine js_iload_n rfl ?_
    refine js_aload_n rfl ?_
    refine js_geti rfl rfl rfl ?_
    refine js_icmp (tgt := 93) rfl rfl (fun h => ?_) (fun h => ?_)
    · have hf := jif_t hf h
      refine jR_in rfl ⟨rfl, rfl, rfl⟩ rfl ?_
      refine js_iconst (v := (0 : Int32)) rfl ?_
      refine js_istore_n rfl rfl ?_
      exact jS_out rfl ⟨rfl, rfl, rfl⟩ rfl (t_M_goesBy_95 hd jFu _ _ _ _ _ hf)
    · have hf := jif_f hf h
      refine js_aload_n rfl ?_
      refine js_getr rfl rfl rfl ?_
      refine js_bipush (v := (36 : Int32)) rfl ?_
      refine js_iload_n rfl ?_
      refine js_iadd ?_
      refine js_iconst (v := (0 : Int32)) rfl ?_
      obtain ⟨hb2, hf⟩ := jg_some hf
      refine js_iast rfl hb2 ?_
      refine js_iinc (v := (1 : Int32)) rfl rfl rfl rfl ?_
      refine js_goto (tgt := 69) rfl rfl ?_
      exact ih _ _ _ _ _ hf
def f_M_goesBy_47  (l1 : Int32) (M : jp_M) : Option (Int32 × jp_M) :=
  (f_M_passes M).bind fun q1 => (
  if jp_c .ne ((q1 105 0) % (360 : Int32)) (270 : Int32) = true then (
  f_M_goesBy_119 l1 q1) else (
  f_M_goesBy_69 jFu l1 (0 : Int32) q1))
theorem t_M_goesBy_47 {Ln : Nat} {xs : Nat → Int32} {sv : jp_V} {d : Nat} (hd : 7 ≤ d)  (l1 : Int32) (o2 : Option jp_V) (o3 : Option jp_V) (w : Nat) (M : jp_M) {res : Int32 × jp_M} (hf : f_M_goesBy_47  l1 M = some res) : jR (jZ (jK Ln xs sv)) d 252 47 ([some (.inr (some 104)), some (.inl l1), o2, o3], [], jSH w, M) (some (.inl res.1), jSH w, res.2) := by
  unfold f_M_goesBy_47 at hf
  refine jR_in rfl ⟨rfl, rfl, rfl⟩ rfl ?_
  refine js_aload_n rfl ?_
  obtain ⟨q1, hc_1, hf⟩ := jbind hf
  refine js_c1v (w := 0) rfl rfl ⟨rfl, rfl⟩ rfl rfl (t_M_passes hc_1) (by omega) ?_
  refine js_aload_n rfl ?_
  refine js_getr rfl rfl rfl ?_
  refine js_iconst (v := (0 : Int32)) rfl ?_
  refine js_iald rfl (by decide) ?_
  refine js_sipush (v := (360 : Int32)) rfl ?_
  refine js_irem (by decide) ?_
  refine js_sipush (v := (270 : Int32)) rfl ?_
  refine js_icmp (tgt := 119) rfl rfl (fun h => ?_) (fun h => ?_)
  · have hf := jif_t hf h
    exact t_M_goesBy_119 hd _ _ _ _ _ hf
  · have hf := jif_f hf h
    refine js_iconst (v := (0 : Int32)) rfl ?_
    refine js_istore_n rfl rfl ?_
    exact jS_out rfl ⟨rfl, rfl, rfl⟩ rfl (t_M_goesBy_69 hd jFu _ _ _ _ _ hf)
def f_M_goesBy_8  : Nat → Int32 → Int32 → jp_M → Option (Int32 × jp_M)
  | 0, _, _, _ => none
  | n + 1, l1, l2, M =>
    if jp_c .ge l2 (M 105 5) = true then (
    f_M_goesBy_47 l1 M) else (
    if jp_c .eq (f_M_isSummer M) 0 = true then (
    f_M_goesBy_47 l1 M) else (
    (f_M_isFined l2 M).bind fun q2 => (
    if jp_c .eq q2.1 0 = true then (
    f_M_goesBy_8 n l1 (l2 + (1 : Int32)) (q2.2)) else (
    f_M_goesBy_8 n (l1 + (1 : Int32)) l2 (q2.2)))))
theorem t_M_goesBy_8 {Ln : Nat} {xs : Nat → Int32} {sv : jp_V} {d : Nat} (hd : 7 ≤ d)  : ∀ (n : Nat) (l1 : Int32) (l2 : Int32) (o3 : Option jp_V) (w : Nat) (M : jp_M) {res : Int32 × jp_M}, f_M_goesBy_8 n  l1 l2 M = some res → jR (jZ (jK Ln xs sv)) d 252 8 ([some (.inr (some 104)), some (.inl l1), some (.inl l2), o3], [], jSH w, M) (some (.inl res.1), jSH w, res.2) := by
  intro n
  induction n with
  | zero =>
    intro l1 l2 o3 w M res hf
    cases hf
  | succ n ih =>
    intro l1 l2 o3 w M res hf
    rw [f_M_goesBy_8] at hf
    refine jR_in rfl ⟨rfl, rfl, rfl⟩ rfl ?_
    refine js_iload_n rfl ?_
    refine js_aload_n rfl ?_
    refine js_getr rfl rfl rfl ?_
    refine js_iconst (v := (5 : Int32)) rfl ?_
    refine js_iald rfl (by decide) ?_
    refine js_icmp (tgt := 47) rfl rfl (fun h => ?_) (fun h => ?_)
    · have hf := jif_t hf h
      exact t_M_goesBy_47 hd _ _ _ _ _ hf
    · have hf := jif_f hf h
      refine js_aload_n rfl ?_
      refine js_c1i rfl rfl ⟨rfl, rfl⟩ rfl rfl (t_M_isSummer rfl) (by omega) ?_
      refine js_ifc (tgt := 47) rfl rfl (fun h => ?_) (fun h => ?_)
      · have hf := jif_t hf h
        exact t_M_goesBy_47 hd _ _ _ _ _ hf
      · have hf := jif_f hf h
        refine js_aload_n rfl ?_
        refine js_iload_n rfl ?_
        obtain ⟨q2, hc_2, hf⟩ := jbind hf
        refine js_c2i rfl rfl ⟨rfl, rfl⟩ rfl rfl (t_M_isFined hc_2) (by omega) ?_
        refine js_ifc (tgt := 40) rfl rfl (fun h => ?_) (fun h => ?_)
        · have hf := jif_t hf h
          refine jR_in rfl ⟨rfl, rfl, rfl⟩ rfl ?_
          refine js_iload_n rfl ?_
          refine js_iconst (v := (1 : Int32)) rfl ?_
          refine js_iadd ?_
          refine js_istore_n rfl rfl ?_
          refine js_goto (tgt := 8) rfl rfl ?_
          exact ih _ _ _ _ _ hf
        · have hf := jif_f hf h
          refine js_iload_n rfl ?_
          refine js_iconst (v := (1 : Int32)) rfl ?_
          refine js_iadd ?_
          refine js_istore_n rfl rfl ?_
          refine js_goto (tgt := 8) rfl rfl ?_
          exact ih _ _ _ _ _ hf
def f_M_goesBy (M : jp_M) : Option (Int32 × jp_M) :=
  (f_M_petitionsOf M).bind fun q1 => (
  f_M_goesBy_8 jFu (0 : Int32) (0 : Int32) q1)
theorem t_M_goesBy {Ln : Nat} {xs : Nat → Int32} {sv : jp_V} {w : Nat} {M : jp_M} {res : Int32 × jp_M} (hf : f_M_goesBy M = some res) : jE (jZ (jK Ln xs sv)) 7 252 [(.inr (some 104))] (jSH w) M (some (.inl res.1), jSH w, res.2) := by
  unfold f_M_goesBy at hf
  refine jE_in (L0 := [some (.inr (some 104)), none, none, none]) rfl (Nat.le_of_ble_eq_true rfl) rfl (fun d hd => ?_)
  refine jR_in rfl ⟨rfl, rfl, rfl⟩ rfl ?_
  refine js_aload_n rfl ?_
  obtain ⟨q1, hc_1, hf⟩ := jbind hf
  refine js_c1v (w := 0) rfl rfl ⟨rfl, rfl⟩ rfl rfl (t_M_petitionsOf hc_1) (by omega) ?_
  refine js_iconst (v := (0 : Int32)) rfl ?_
  refine js_istore_n rfl rfl ?_
  refine js_iconst (v := (0 : Int32)) rfl ?_
  refine js_istore_n rfl rfl ?_
  exact jS_out rfl ⟨rfl, rfl, rfl⟩ rfl (t_M_goesBy_8 hd jFu _ _ _ _ _ hf)
/-! SwallowsAirModel.days(I)I -/
def f_M_days_36  : Nat → Int32 → Int32 → Int32 → jp_M → Option (Int32 × jp_M)
  | 0, _, _, _, _ => none
  | n + 1, l1, l2, l3, M =>
    if jp_c .ge l3 l1 = true then (
    some (l2, M)) else (
    (f_M_keepsAhead M).bind fun q1 => (
    (f_M_goesBy q1).bind fun q2 => (
    f_M_days_36 n l1 (l2 + q2.1) (l3 + (1 : Int32)) (q2.2))))
theorem t_M_days_36 {Ln : Nat} {xs : Nat → Int32} {sv : jp_V} {d : Nat} (hd : 8 ≤ d)  : ∀ (n : Nat) (l1 : Int32) (l2 : Int32) (l3 : Int32) (w : Nat) (M : jp_M) {res : Int32 × jp_M}, f_M_days_36 n  l1 l2 l3 M = some res → jR (jZ (jK Ln xs sv)) d 253 36 ([some (.inr (some 104)), some (.inl l1), some (.inl l2), some (.inl l3)], [], jSH w, M) (some (.inl res.1), jSH w, res.2) := by
  intro n
  induction n with
  | zero =>
    intro l1 l2 l3 w M res hf
    cases hf
  | succ n ih =>
    intro l1 l2 l3 w M res hf
    rw [f_M_days_36] at hf
    refine jR_in rfl ⟨rfl, rfl, rfl⟩ rfl ?_
    refine js_iload_n rfl ?_
    refine js_iload_n rfl ?_
    refine js_icmp (tgt := 58) rfl rfl (fun h => ?_) (fun h => ?_)
    · have hf := jif_t hf h
      refine jR_in rfl ⟨rfl, rfl, rfl⟩ rfl ?_
      refine js_iload_n rfl ?_
      obtain rfl := Option.some.inj hf
      exact js_iret rfl rfl
    · have hf := jif_f hf h
      refine js_aload_n rfl ?_
      obtain ⟨q1, hc_1, hf⟩ := jbind hf
      refine js_c1v (w := 0) rfl rfl ⟨rfl, rfl⟩ rfl rfl (t_M_keepsAhead hc_1) (by omega) ?_
      refine js_iload_n rfl ?_
      refine js_aload_n rfl ?_
      obtain ⟨q2, hc_2, hf⟩ := jbind hf
      refine js_c1i rfl rfl ⟨rfl, rfl⟩ rfl rfl (t_M_goesBy hc_2) (by omega) ?_
      refine js_iadd ?_
      refine js_istore_n rfl rfl ?_
      refine js_iinc (v := (1 : Int32)) rfl rfl rfl rfl ?_
      refine js_goto (tgt := 36) rfl rfl ?_
      exact ih _ _ _ _ _ hf
def f_M_days (a1 : Int32) (M : jp_M) : Option (Int32 × jp_M) :=
  let M1 := jp_set M 104 (upd (M 104) 0 (0 : Int32))
  if jp_c .eq (f_M_isIn a1 (1 : Int32) (60 : Int32)) 0 = true then (
  some ((-1 : Int32), M1)) else (
  if jp_c .le ((M1 105 0) + a1) (9999 : Int32) = true then (
  f_M_days_36 jFu a1 (0 : Int32) (0 : Int32) M1) else (
  some ((-1 : Int32), M1)))
theorem t_M_days {Ln : Nat} {xs : Nat → Int32} {sv : jp_V} {a1 : Int32} {w : Nat} {M : jp_M} {res : Int32 × jp_M} (hf : f_M_days a1 M = some res) : jE (jZ (jK Ln xs sv)) 8 253 [(.inr (some 104)), (.inl a1)] (jSH w) M (some (.inl res.1), jSH w, res.2) := by
  unfold f_M_days at hf
  refine jE_in (L0 := [some (.inr (some 104)), some (.inl a1), none, none]) rfl (Nat.le_of_ble_eq_true rfl) rfl (fun d hd => ?_)
  refine jR_in rfl ⟨rfl, rfl, rfl⟩ rfl ?_
  refine js_aload_n rfl ?_
  refine js_iconst (v := (0 : Int32)) rfl ?_
  refine js_puti rfl rfl (Or.inl rfl) ?_
  refine js_aload_n rfl ?_
  refine js_iload_n rfl ?_
  refine js_iconst (v := (1 : Int32)) rfl ?_
  refine js_bipush (v := (60 : Int32)) rfl ?_
  refine js_c4i rfl rfl ⟨rfl, rfl⟩ rfl rfl (t_M_isIn rfl) (by omega) ?_
  refine js_ifc (tgt := 30) rfl rfl (fun h => ?_) (fun h => ?_)
  · have hf := jif_t hf h
    refine jR_in rfl ⟨rfl, rfl, rfl⟩ rfl ?_
    refine js_iconst (v := (-1 : Int32)) rfl ?_
    obtain rfl := Option.some.inj hf
    exact js_iret rfl rfl
  · have hf := jif_f hf h
    refine js_aload_n rfl ?_
    refine js_getr rfl rfl rfl ?_
    refine js_iconst (v := (0 : Int32)) rfl ?_
    refine js_iald rfl (by decide) ?_
    refine js_iload_n rfl ?_
    refine js_iadd ?_
    refine js_sipush (v := (9999 : Int32)) rfl ?_
    refine js_icmp (tgt := 32) rfl rfl (fun h => ?_) (fun h => ?_)
    · have hf := jif_t hf h
      refine jR_in rfl ⟨rfl, rfl, rfl⟩ rfl ?_
      refine js_iconst (v := (0 : Int32)) rfl ?_
      refine js_istore_n rfl rfl ?_
      refine js_iconst (v := (0 : Int32)) rfl ?_
      refine js_istore_n rfl rfl ?_
      exact jS_out rfl ⟨rfl, rfl, rfl⟩ rfl (t_M_days_36 hd jFu _ _ _ _ _ hf)
    · have hf := jif_f hf h
      refine js_iconst (v := (-1 : Int32)) rfl ?_
      obtain rfl := Option.some.inj hf
      exact js_iret rfl rfl
/-! SwallowsAirModel.of(II)I -/
def f_M_of (a1 : Int32) (a2 : Int32) (M : jp_M) : Option (Int32 × jp_M) :=
  let M1 := jp_set M 104 (upd (M 104) 0 (0 : Int32))
  if jp_c .ne (f_M_isPerson a1 M1) 0 = true then (
  if jp_c .ne a2 0 = true then (
  if jp_c .ne a2 (1 : Int32) = true then (
  if jp_c .ne a2 (2 : Int32) = true then (
  if jp_c .ne a2 (3 : Int32) = true then (
  if jp_c .ne a2 (4 : Int32) = true then (
  some ((-1 : Int32), M1)) else (
  jg (jp_in ((16 : Int32) + a1) 184) (
  some ((M1 105 (Int32.toNatClampNeg ((16 : Int32) + a1))), M1)))) else (
  jg (jp_in ((26 : Int32) + a1) 184) (
  some ((M1 105 (Int32.toNatClampNeg ((26 : Int32) + a1))), M1)))) else (
  jg (jp_in a1 10) (
  some ((M1 109 (Int32.toNatClampNeg a1)), M1)))) else (
  jg (jp_in ((6 : Int32) + a1) 184) (
  some ((M1 105 (Int32.toNatClampNeg ((6 : Int32) + a1))), M1)))) else (
  jg (jp_in a1 10) (
  some ((M1 108 (Int32.toNatClampNeg a1)), M1)))) else (
  some ((-1 : Int32), M1))
theorem t_M_of {Ln : Nat} {xs : Nat → Int32} {sv : jp_V} {a1 : Int32} {a2 : Int32} {w : Nat} {M : jp_M} {res : Int32 × jp_M} (hf : f_M_of a1 a2 M = some res) : jE (jZ (jK Ln xs sv)) 1 254 [(.inr (some 104)), (.inl a1), (.inl a2)] (jSH w) M (some (.inl res.1), jSH w, res.2) := by
  unfold f_M_of at hf
  refine jE_in (L0 := [some (.inr (some 104)), some (.inl a1), some (.inl a2)]) rfl (Nat.le_of_ble_eq_true rfl) rfl (fun d hd => ?_)
  refine jR_in rfl ⟨rfl, rfl, rfl⟩ rfl ?_
  refine js_aload_n rfl ?_
  refine js_iconst (v := (0 : Int32)) rfl ?_
  refine js_puti rfl rfl (Or.inl rfl) ?_
  refine js_aload_n rfl ?_
  refine js_iload_n rfl ?_
  refine js_c2i rfl rfl ⟨rfl, rfl⟩ rfl rfl (t_M_isPerson rfl) (by omega) ?_
  refine js_ifc (tgt := 15) rfl rfl (fun h => ?_) (fun h => ?_)
  · have hf := jif_t hf h
    refine jR_in rfl ⟨rfl, rfl, rfl⟩ rfl ?_
    refine js_iload_n rfl ?_
    refine js_ifc (tgt := 26) rfl rfl (fun h => ?_) (fun h => ?_)
    · have hf := jif_t hf h
      refine jR_in rfl ⟨rfl, rfl, rfl⟩ rfl ?_
      refine js_iload_n rfl ?_
      refine js_iconst (v := (1 : Int32)) rfl ?_
      refine js_icmp (tgt := 41) rfl rfl (fun h => ?_) (fun h => ?_)
      · have hf := jif_t hf h
        refine jR_in rfl ⟨rfl, rfl, rfl⟩ rfl ?_
        refine js_iload_n rfl ?_
        refine js_iconst (v := (2 : Int32)) rfl ?_
        refine js_icmp (tgt := 53) rfl rfl (fun h => ?_) (fun h => ?_)
        · have hf := jif_t hf h
          refine jR_in rfl ⟨rfl, rfl, rfl⟩ rfl ?_
          refine js_iload_n rfl ?_
          refine js_iconst (v := (3 : Int32)) rfl ?_
          refine js_icmp (tgt := 70) rfl rfl (fun h => ?_) (fun h => ?_)
          · have hf := jif_t hf h
            refine jR_in rfl ⟨rfl, rfl, rfl⟩ rfl ?_
            refine js_iload_n rfl ?_
            refine js_iconst (v := (4 : Int32)) rfl ?_
            refine js_icmp (tgt := 87) rfl rfl (fun h => ?_) (fun h => ?_)
            · have hf := jif_t hf h
              refine jR_in rfl ⟨rfl, rfl, rfl⟩ rfl ?_
              refine js_iconst (v := (-1 : Int32)) rfl ?_
              obtain rfl := Option.some.inj hf
              exact js_iret rfl rfl
            · have hf := jif_f hf h
              refine js_aload_n rfl ?_
              refine js_getr rfl rfl rfl ?_
              refine js_bipush (v := (16 : Int32)) rfl ?_
              refine js_iload_n rfl ?_
              refine js_iadd ?_
              obtain ⟨hb3, hf⟩ := jg_some hf
              refine js_iald rfl hb3 ?_
              refine js_goto (tgt := 88) rfl rfl ?_
              refine jR_in rfl ⟨rfl, rfl, rfl⟩ rfl ?_
              obtain rfl := Option.some.inj hf
              exact js_iret rfl rfl
          · have hf := jif_f hf h
            refine js_aload_n rfl ?_
            refine js_getr rfl rfl rfl ?_
            refine js_bipush (v := (26 : Int32)) rfl ?_
            refine js_iload_n rfl ?_
            refine js_iadd ?_
            obtain ⟨hb4, hf⟩ := jg_some hf
            refine js_iald rfl hb4 ?_
            refine js_goto (tgt := 88) rfl rfl ?_
            refine jR_in rfl ⟨rfl, rfl, rfl⟩ rfl ?_
            obtain rfl := Option.some.inj hf
            exact js_iret rfl rfl
        · have hf := jif_f hf h
          refine js_aload_n rfl ?_
          refine js_getr rfl rfl rfl ?_
          refine js_iload_n rfl ?_
          obtain ⟨hb5, hf⟩ := jg_some hf
          refine js_iald rfl hb5 ?_
          obtain rfl := Option.some.inj hf
          exact js_iret rfl rfl
      · have hf := jif_f hf h
        refine js_aload_n rfl ?_
        refine js_getr rfl rfl rfl ?_
        refine js_bipush (v := (6 : Int32)) rfl ?_
        refine js_iload_n rfl ?_
        refine js_iadd ?_
        obtain ⟨hb6, hf⟩ := jg_some hf
        refine js_iald rfl hb6 ?_
        obtain rfl := Option.some.inj hf
        exact js_iret rfl rfl
    · have hf := jif_f hf h
      refine js_aload_n rfl ?_
      refine js_getr rfl rfl rfl ?_
      refine js_iload_n rfl ?_
      obtain ⟨hb7, hf⟩ := jg_some hf
      refine js_iald rfl hb7 ?_
      obtain rfl := Option.some.inj hf
      exact js_iret rfl rfl
  · have hf := jif_f hf h
    refine js_iconst (v := (-1 : Int32)) rfl ?_
    obtain rfl := Option.some.inj hf
    exact js_iret rfl rfl
/-! SwallowsAirModel.bird(II)I -/
def f_M_bird (a1 : Int32) (a2 : Int32) (M : jp_M) : Option (Int32 × jp_M) :=
  let M1 := jp_set M 104 (upd (M 104) 0 (0 : Int32))
  if jp_c .ne (f_M_isBird a1 M1) 0 = true then (
  if jp_c .eq (f_M_isIn a2 (10 : Int32) (19 : Int32)) 0 = true then (
  if jp_c .ne a2 0 = true then (
  if jp_c .ne a2 (1 : Int32) = true then (
  if jp_c .ne a2 (2 : Int32) = true then (
  some ((-1 : Int32), M1)) else (
  jg (jp_in ((36 : Int32) + a1) 184) (
  some ((M1 105 (Int32.toNatClampNeg ((36 : Int32) + a1))), M1)))) else (
  jg (jp_in a1 10) (
  some ((M1 110 (Int32.toNatClampNeg a1)), M1)))) else (
  jg (jp_in ((46 : Int32) + a1) 184) (
  some ((M1 105 (Int32.toNatClampNeg ((46 : Int32) + a1))), M1)))) else (
  (f_M_sees a1 (a2 - (10 : Int32)) M1).bind fun q7 => (
  if jp_c .eq q7 0 = true then (
  some ((0 : Int32), M1)) else (
  some ((1 : Int32), M1))))) else (
  some ((-1 : Int32), M1))
theorem t_M_bird {Ln : Nat} {xs : Nat → Int32} {sv : jp_V} {a1 : Int32} {a2 : Int32} {w : Nat} {M : jp_M} {res : Int32 × jp_M} (hf : f_M_bird a1 a2 M = some res) : jE (jZ (jK Ln xs sv)) 2 255 [(.inr (some 104)), (.inl a1), (.inl a2)] (jSH w) M (some (.inl res.1), jSH w, res.2) := by
  unfold f_M_bird at hf
  refine jE_in (L0 := [some (.inr (some 104)), some (.inl a1), some (.inl a2)]) rfl (Nat.le_of_ble_eq_true rfl) rfl (fun d hd => ?_)
  refine jR_in rfl ⟨rfl, rfl, rfl⟩ rfl ?_
  refine js_aload_n rfl ?_
  refine js_iconst (v := (0 : Int32)) rfl ?_
  refine js_puti rfl rfl (Or.inl rfl) ?_
  refine js_aload_n rfl ?_
  refine js_iload_n rfl ?_
  refine js_c2i rfl rfl ⟨rfl, rfl⟩ rfl rfl (t_M_isBird rfl) (by omega) ?_
  refine js_ifc (tgt := 15) rfl rfl (fun h => ?_) (fun h => ?_)
  · have hf := jif_t hf h
    refine jR_in rfl ⟨rfl, rfl, rfl⟩ rfl ?_
    refine js_aload_n rfl ?_
    refine js_iload_n rfl ?_
    refine js_bipush (v := (10 : Int32)) rfl ?_
    refine js_bipush (v := (19 : Int32)) rfl ?_
    refine js_c4i rfl rfl ⟨rfl, rfl⟩ rfl rfl (t_M_isIn rfl) (by omega) ?_
    refine js_ifc (tgt := 45) rfl rfl (fun h => ?_) (fun h => ?_)
    · have hf := jif_t hf h
      refine jR_in rfl ⟨rfl, rfl, rfl⟩ rfl ?_
      refine js_iload_n rfl ?_
      refine js_ifc (tgt := 61) rfl rfl (fun h => ?_) (fun h => ?_)
      · have hf := jif_t hf h
        refine jR_in rfl ⟨rfl, rfl, rfl⟩ rfl ?_
        refine js_iload_n rfl ?_
        refine js_iconst (v := (1 : Int32)) rfl ?_
        refine js_icmp (tgt := 75) rfl rfl (fun h => ?_) (fun h => ?_)
        · have hf := jif_t hf h
          refine jR_in rfl ⟨rfl, rfl, rfl⟩ rfl ?_
          refine js_iload_n rfl ?_
          refine js_iconst (v := (2 : Int32)) rfl ?_
          refine js_icmp (tgt := 92) rfl rfl (fun h => ?_) (fun h => ?_)
          · have hf := jif_t hf h
            refine jR_in rfl ⟨rfl, rfl, rfl⟩ rfl ?_
            refine js_iconst (v := (-1 : Int32)) rfl ?_
            obtain rfl := Option.some.inj hf
            exact js_iret rfl rfl
          · have hf := jif_f hf h
            refine js_aload_n rfl ?_
            refine js_getr rfl rfl rfl ?_
            refine js_bipush (v := (36 : Int32)) rfl ?_
            refine js_iload_n rfl ?_
            refine js_iadd ?_
            obtain ⟨hb4, hf⟩ := jg_some hf
            refine js_iald rfl hb4 ?_
            refine js_goto (tgt := 93) rfl rfl ?_
            refine jR_in rfl ⟨rfl, rfl, rfl⟩ rfl ?_
            obtain rfl := Option.some.inj hf
            exact js_iret rfl rfl
        · have hf := jif_f hf h
          refine js_aload_n rfl ?_
          refine js_getr rfl rfl rfl ?_
          refine js_iload_n rfl ?_
          obtain ⟨hb5, hf⟩ := jg_some hf
          refine js_iald rfl hb5 ?_
          refine js_goto (tgt := 93) rfl rfl ?_
          refine jR_in rfl ⟨rfl, rfl, rfl⟩ rfl ?_
          obtain rfl := Option.some.inj hf
          exact js_iret rfl rfl
      · have hf := jif_f hf h
        refine js_aload_n rfl ?_
        refine js_getr rfl rfl rfl ?_
        refine js_bipush (v := (46 : Int32)) rfl ?_
        refine js_iload_n rfl ?_
        refine js_iadd ?_
        obtain ⟨hb6, hf⟩ := jg_some hf
        refine js_iald rfl hb6 ?_
        refine js_goto (tgt := 93) rfl rfl ?_
        refine jR_in rfl ⟨rfl, rfl, rfl⟩ rfl ?_
        obtain rfl := Option.some.inj hf
        exact js_iret rfl rfl
    · have hf := jif_f hf h
      refine js_aload_n rfl ?_
      refine js_iload_n rfl ?_
      refine js_iload_n rfl ?_
      refine js_bipush (v := (10 : Int32)) rfl ?_
      refine js_isub ?_
      obtain ⟨q7, hc_7, hf⟩ := jbind hf
      refine js_c3i rfl rfl ⟨rfl, rfl⟩ rfl rfl (t_M_sees hc_7) (by omega) ?_
      refine js_ifc (tgt := 43) rfl rfl (fun h => ?_) (fun h => ?_)
      · have hf := jif_t hf h
        refine jR_in rfl ⟨rfl, rfl, rfl⟩ rfl ?_
        refine js_iconst (v := (0 : Int32)) rfl ?_
        obtain rfl := Option.some.inj hf
        exact js_iret rfl rfl
      · have hf := jif_f hf h
        refine js_iconst (v := (1 : Int32)) rfl ?_
        refine js_goto (tgt := 44) rfl rfl ?_
        refine jR_in rfl ⟨rfl, rfl, rfl⟩ rfl ?_
        obtain rfl := Option.some.inj hf
        exact js_iret rfl rfl
  · have hf := jif_f hf h
    refine js_iconst (v := (-1 : Int32)) rfl ?_
    obtain rfl := Option.some.inj hf
    exact js_iret rfl rfl
/-! SwallowsAirModel.use(II)I -/
def f_M_use (a1 : Int32) (a2 : Int32) (M : jp_M) : Option (Int32 × jp_M) :=
  let M1 := jp_set M 104 (upd (M 104) 0 (0 : Int32))
  if jp_c .eq (f_M_isIn a1 (0 : Int32) ((M1 105 5) - (1 : Int32))) 0 = true then (
  some ((-1 : Int32), M1)) else (
  if jp_c .ne (f_M_isIn a2 (0 : Int32) (10 : Int32)) 0 = true then (
  if jp_c .ge a2 (8 : Int32) = true then (
  (f_M_asksOf a1 M1).bind fun q4 => (
  if jp_c .ne a2 (8 : Int32) = true then (
  if jp_c .ne a2 (9 : Int32) = true then (
  (f_M_fineNow q4).bind fun q5 => (
  some (q5.1, q5.2))) else (
  (f_M_rentNow q4).bind fun q6 => (
  some (q6.1, q6.2)))) else (
  (f_M_leaveNow q4).bind fun q7 => (
  some (q7.1, q7.2))))) else (
  jg (jp_in ((f_M_useAt a1) + a2) 184) (
  some ((M1 105 (Int32.toNatClampNeg ((f_M_useAt a1) + a2))), M1)))) else (
  some ((-1 : Int32), M1)))
theorem t_M_use {Ln : Nat} {xs : Nat → Int32} {sv : jp_V} {a1 : Int32} {a2 : Int32} {w : Nat} {M : jp_M} {res : Int32 × jp_M} (hf : f_M_use a1 a2 M = some res) : jE (jZ (jK Ln xs sv)) 5 256 [(.inr (some 104)), (.inl a1), (.inl a2)] (jSH w) M (some (.inl res.1), jSH w, res.2) := by
  unfold f_M_use at hf
  refine jE_in (L0 := [some (.inr (some 104)), some (.inl a1), some (.inl a2)]) rfl (Nat.le_of_ble_eq_true rfl) rfl (fun d hd => ?_)
  refine jR_in rfl ⟨rfl, rfl, rfl⟩ rfl ?_
  refine js_aload_n rfl ?_
  refine js_iconst (v := (0 : Int32)) rfl ?_
  refine js_puti rfl rfl (Or.inl rfl) ?_
  refine js_aload_n rfl ?_
  refine js_iload_n rfl ?_
  refine js_iconst (v := (0 : Int32)) rfl ?_
  refine js_aload_n rfl ?_
  refine js_getr rfl rfl rfl ?_
  refine js_iconst (v := (5 : Int32)) rfl ?_
  refine js_iald rfl (by decide) ?_
  refine js_iconst (v := (1 : Int32)) rfl ?_
  refine js_isub ?_
  refine js_c4i rfl rfl ⟨rfl, rfl⟩ rfl rfl (t_M_isIn rfl) (by omega) ?_
  refine js_ifc (tgt := 33) rfl rfl (fun h => ?_) (fun h => ?_)
  · have hf := jif_t hf h
    refine jR_in rfl ⟨rfl, rfl, rfl⟩ rfl ?_
    refine js_iconst (v := (-1 : Int32)) rfl ?_
    obtain rfl := Option.some.inj hf
    exact js_iret rfl rfl
  · have hf := jif_f hf h
    refine js_aload_n rfl ?_
    refine js_iload_n rfl ?_
    refine js_iconst (v := (0 : Int32)) rfl ?_
    refine js_bipush (v := (10 : Int32)) rfl ?_
    refine js_c4i rfl rfl ⟨rfl, rfl⟩ rfl rfl (t_M_isIn rfl) (by omega) ?_
    refine js_ifc (tgt := 35) rfl rfl (fun h => ?_) (fun h => ?_)
    · have hf := jif_t hf h
      refine jR_in rfl ⟨rfl, rfl, rfl⟩ rfl ?_
      refine js_iload_n rfl ?_
      refine js_bipush (v := (8 : Int32)) rfl ?_
      refine js_icmp (tgt := 54) rfl rfl (fun h => ?_) (fun h => ?_)
      · have hf := jif_t hf h
        refine jR_in rfl ⟨rfl, rfl, rfl⟩ rfl ?_
        refine js_aload_n rfl ?_
        refine js_iload_n rfl ?_
        obtain ⟨q4, hc_4, hf⟩ := jbind hf
        refine js_c2v (w := 0) rfl rfl ⟨rfl, rfl⟩ rfl rfl (t_M_asksOf hc_4) (by omega) ?_
        refine js_iload_n rfl ?_
        refine js_bipush (v := (8 : Int32)) rfl ?_
        refine js_icmp (tgt := 72) rfl rfl (fun h => ?_) (fun h => ?_)
        · have hf := jif_t hf h
          refine jR_in rfl ⟨rfl, rfl, rfl⟩ rfl ?_
          refine js_iload_n rfl ?_
          refine js_bipush (v := (9 : Int32)) rfl ?_
          refine js_icmp (tgt := 85) rfl rfl (fun h => ?_) (fun h => ?_)
          · have hf := jif_t hf h
            refine jR_in rfl ⟨rfl, rfl, rfl⟩ rfl ?_
            refine js_aload_n rfl ?_
            obtain ⟨q5, hc_5, hf⟩ := jbind hf
            refine js_c1i rfl rfl ⟨rfl, rfl⟩ rfl rfl (t_M_fineNow hc_5) (by omega) ?_
            obtain rfl := Option.some.inj hf
            exact js_iret rfl rfl
          · have hf := jif_f hf h
            refine js_aload_n rfl ?_
            obtain ⟨q6, hc_6, hf⟩ := jbind hf
            refine js_c1i rfl rfl ⟨rfl, rfl⟩ rfl rfl (t_M_rentNow hc_6) (by omega) ?_
            refine js_goto (tgt := 89) rfl rfl ?_
            refine jR_in rfl ⟨rfl, rfl, rfl⟩ rfl ?_
            obtain rfl := Option.some.inj hf
            exact js_iret rfl rfl
        · have hf := jif_f hf h
          refine js_aload_n rfl ?_
          obtain ⟨q7, hc_7, hf⟩ := jbind hf
          refine js_c1i rfl rfl ⟨rfl, rfl⟩ rfl rfl (t_M_leaveNow hc_7) (by omega) ?_
          refine js_goto (tgt := 89) rfl rfl ?_
          refine jR_in rfl ⟨rfl, rfl, rfl⟩ rfl ?_
          obtain rfl := Option.some.inj hf
          exact js_iret rfl rfl
      · have hf := jif_f hf h
        refine js_aload_n rfl ?_
        refine js_getr rfl rfl rfl ?_
        refine js_aload_n rfl ?_
        refine js_iload_n rfl ?_
        refine js_c2i rfl rfl ⟨rfl, rfl⟩ rfl rfl (t_M_useAt rfl) (by omega) ?_
        refine js_iload_n rfl ?_
        refine js_iadd ?_
        obtain ⟨hb9, hf⟩ := jg_some hf
        refine js_iald rfl hb9 ?_
        obtain rfl := Option.some.inj hf
        exact js_iret rfl rfl
    · have hf := jif_f hf h
      refine js_iconst (v := (-1 : Int32)) rfl ?_
      obtain rfl := Option.some.inj hf
      exact js_iret rfl rfl
/-! SwallowsAirModel.lease(I)I -/
def f_M_lease (a1 : Int32) (M : jp_M) : Option (Int32 × jp_M) :=
  let M1 := jp_set M 104 (upd (M 104) 0 (0 : Int32))
  if jp_c .eq (f_M_isIn a1 (0 : Int32) (9 : Int32)) 0 = true then (
  some ((-1 : Int32), M1)) else (
  jg (jp_in a1 20) (
  some (((M1 123 (Int32.toNatClampNeg a1)) - (1 : Int32)), M1)))
theorem t_M_lease {Ln : Nat} {xs : Nat → Int32} {sv : jp_V} {a1 : Int32} {w : Nat} {M : jp_M} {res : Int32 × jp_M} (hf : f_M_lease a1 M = some res) : jE (jZ (jK Ln xs sv)) 1 257 [(.inr (some 104)), (.inl a1)] (jSH w) M (some (.inl res.1), jSH w, res.2) := by
  unfold f_M_lease at hf
  refine jE_in (L0 := [some (.inr (some 104)), some (.inl a1)]) rfl (Nat.le_of_ble_eq_true rfl) rfl (fun d hd => ?_)
  refine jR_in rfl ⟨rfl, rfl, rfl⟩ rfl ?_
  refine js_aload_n rfl ?_
  refine js_iconst (v := (0 : Int32)) rfl ?_
  refine js_puti rfl rfl (Or.inl rfl) ?_
  refine js_aload_n rfl ?_
  refine js_iload_n rfl ?_
  refine js_iconst (v := (0 : Int32)) rfl ?_
  refine js_bipush (v := (9 : Int32)) rfl ?_
  refine js_c4i rfl rfl ⟨rfl, rfl⟩ rfl rfl (t_M_isIn rfl) (by omega) ?_
  refine js_ifc (tgt := 27) rfl rfl (fun h => ?_) (fun h => ?_)
  · have hf := jif_t hf h
    refine jR_in rfl ⟨rfl, rfl, rfl⟩ rfl ?_
    refine js_iconst (v := (-1 : Int32)) rfl ?_
    obtain rfl := Option.some.inj hf
    exact js_iret rfl rfl
  · have hf := jif_f hf h
    refine js_aload_n rfl ?_
    refine js_getr rfl rfl rfl ?_
    refine js_iload_n rfl ?_
    obtain ⟨hb3, hf⟩ := jg_some hf
    refine js_iald rfl hb3 ?_
    refine js_iconst (v := (1 : Int32)) rfl ?_
    refine js_isub ?_
    refine js_goto (tgt := 28) rfl rfl ?_
    refine jR_in rfl ⟨rfl, rfl, rfl⟩ rfl ?_
    obtain rfl := Option.some.inj hf
    exact js_iret rfl rfl
/-! SwallowsAirModel.book(II)I -/
def f_M_book (a1 : Int32) (a2 : Int32) (M : jp_M) : Option (Int32 × jp_M) :=
  let M1 := jp_set M 104 (upd (M 104) 0 (0 : Int32))
  if jp_c .eq (f_M_isIn a1 (0 : Int32) ((M1 105 2) - (1 : Int32))) 0 = true then (
  some ((-1 : Int32), M1)) else (
  if jp_c .eq (f_M_isIn a2 (0 : Int32) (3 : Int32)) 0 = true then (
  some ((-1 : Int32), M1)) else (
  jg (jp_in (((4 : Int32) * a1) + a2) 600) (
  some ((M1 111 (Int32.toNatClampNeg (((4 : Int32) * a1) + a2))), M1))))
theorem t_M_book {Ln : Nat} {xs : Nat → Int32} {sv : jp_V} {a1 : Int32} {a2 : Int32} {w : Nat} {M : jp_M} {res : Int32 × jp_M} (hf : f_M_book a1 a2 M = some res) : jE (jZ (jK Ln xs sv)) 1 258 [(.inr (some 104)), (.inl a1), (.inl a2)] (jSH w) M (some (.inl res.1), jSH w, res.2) := by
  unfold f_M_book at hf
  refine jE_in (L0 := [some (.inr (some 104)), some (.inl a1), some (.inl a2)]) rfl (Nat.le_of_ble_eq_true rfl) rfl (fun d hd => ?_)
  refine jR_in rfl ⟨rfl, rfl, rfl⟩ rfl ?_
  refine js_aload_n rfl ?_
  refine js_iconst (v := (0 : Int32)) rfl ?_
  refine js_puti rfl rfl (Or.inl rfl) ?_
  refine js_aload_n rfl ?_
  refine js_iload_n rfl ?_
  refine js_iconst (v := (0 : Int32)) rfl ?_
  refine js_aload_n rfl ?_
  refine js_getr rfl rfl rfl ?_
  refine js_iconst (v := (2 : Int32)) rfl ?_
  refine js_iald rfl (by decide) ?_
  refine js_iconst (v := (1 : Int32)) rfl ?_
  refine js_isub ?_
  refine js_c4i rfl rfl ⟨rfl, rfl⟩ rfl rfl (t_M_isIn rfl) (by omega) ?_
  refine js_ifc (tgt := 45) rfl rfl (fun h => ?_) (fun h => ?_)
  · have hf := jif_t hf h
    refine jR_in rfl ⟨rfl, rfl, rfl⟩ rfl ?_
    refine js_iconst (v := (-1 : Int32)) rfl ?_
    obtain rfl := Option.some.inj hf
    exact js_iret rfl rfl
  · have hf := jif_f hf h
    refine js_aload_n rfl ?_
    refine js_iload_n rfl ?_
    refine js_iconst (v := (0 : Int32)) rfl ?_
    refine js_iconst (v := (3 : Int32)) rfl ?_
    refine js_c4i rfl rfl ⟨rfl, rfl⟩ rfl rfl (t_M_isIn rfl) (by omega) ?_
    refine js_ifc (tgt := 45) rfl rfl (fun h => ?_) (fun h => ?_)
    · have hf := jif_t hf h
      refine jR_in rfl ⟨rfl, rfl, rfl⟩ rfl ?_
      refine js_iconst (v := (-1 : Int32)) rfl ?_
      obtain rfl := Option.some.inj hf
      exact js_iret rfl rfl
    · have hf := jif_f hf h
      refine js_aload_n rfl ?_
      refine js_getr rfl rfl rfl ?_
      refine js_iconst (v := (4 : Int32)) rfl ?_
      refine js_iload_n rfl ?_
      refine js_imul ?_
      refine js_iload_n rfl ?_
      refine js_iadd ?_
      obtain ⟨hb4, hf⟩ := jg_some hf
      refine js_iald rfl hb4 ?_
      refine js_goto (tgt := 46) rfl rfl ?_
      refine jR_in rfl ⟨rfl, rfl, rfl⟩ rfl ?_
      obtain rfl := Option.some.inj hf
      exact js_iret rfl rfl
/-! SwallowsAirModel.would(IIIII)I -/
def f_M_would (a1 : Int32) (a2 : Int32) (a3 : Int32) (a4 : Int32) (a5 : Int32) (M : jp_M) : Option (Int32 × jp_M) :=
  let M1 := jp_set M 104 (upd (M 104) 0 (0 : Int32))
  if jp_c .lt a4 0 = true then (
  some ((-1 : Int32), M1)) else (
  if jp_c .ne (f_M_isTold a1 a2 a3 (a4 / (10 : Int32)) (a4 % (10 : Int32)) a5 M1) 0 = true then (
  (f_M_asks a1 a2 a3 (a4 % (10 : Int32)) a5 M1).bind fun q3 => (
  (f_M_leaveNow q3).bind fun q4 => (
  (f_M_canBe a3 (a4 / (10 : Int32)) (a4 % (10 : Int32)) q4.2).bind fun q5 => (
  if jp_c .eq q5 0 = true then (
  some (((-2 : Int32) - q4.1), q4.2)) else (
  some (q4.1, q4.2)))))) else (
  some ((-1 : Int32), M1)))
theorem t_M_would {Ln : Nat} {xs : Nat → Int32} {sv : jp_V} {a1 : Int32} {a2 : Int32} {a3 : Int32} {a4 : Int32} {a5 : Int32} {w : Nat} {M : jp_M} {res : Int32 × jp_M} (hf : f_M_would a1 a2 a3 a4 a5 M = some res) : jE (jZ (jK Ln xs sv)) 5 259 [(.inr (some 104)), (.inl a1), (.inl a2), (.inl a3), (.inl a4), (.inl a5)] (jSH w) M (some (.inl res.1), jSH w, res.2) := by
  unfold f_M_would at hf
  refine jE_in (L0 := [some (.inr (some 104)), some (.inl a1), some (.inl a2), some (.inl a3), some (.inl a4), some (.inl a5), none, none, none]) rfl (Nat.le_of_ble_eq_true rfl) rfl (fun d hd => ?_)
  refine jR_in rfl ⟨rfl, rfl, rfl⟩ rfl ?_
  refine js_aload_n rfl ?_
  refine js_iconst (v := (0 : Int32)) rfl ?_
  refine js_puti rfl rfl (Or.inl rfl) ?_
  refine js_iload rfl ?_
  refine js_bipush (v := (10 : Int32)) rfl ?_
  refine js_idiv (by decide) ?_
  refine js_istore rfl rfl ?_
  refine js_iload rfl ?_
  refine js_bipush (v := (10 : Int32)) rfl ?_
  refine js_irem (by decide) ?_
  refine js_istore rfl rfl ?_
  refine js_iload rfl ?_
  refine js_ifc (tgt := 40) rfl rfl (fun h => ?_) (fun h => ?_)
  · have hf := jif_t hf h
    refine jR_in rfl ⟨rfl, rfl, rfl⟩ rfl ?_
    refine js_iconst (v := (-1 : Int32)) rfl ?_
    obtain rfl := Option.some.inj hf
    exact js_iret rfl rfl
  · have hf := jif_f hf h
    refine js_aload_n rfl ?_
    refine js_iload_n rfl ?_
    refine js_iload_n rfl ?_
    refine js_iload_n rfl ?_
    refine js_iload rfl ?_
    refine js_iload rfl ?_
    refine js_iload rfl ?_
    refine js_c7i rfl rfl ⟨rfl, rfl⟩ rfl rfl (t_M_isTold rfl) (by omega) ?_
    refine js_ifc (tgt := 42) rfl rfl (fun h => ?_) (fun h => ?_)
    · have hf := jif_t hf h
      refine jR_in rfl ⟨rfl, rfl, rfl⟩ rfl ?_
      refine js_aload_n rfl ?_
      refine js_iload_n rfl ?_
      refine js_iload_n rfl ?_
      refine js_iload_n rfl ?_
      refine js_iload rfl ?_
      refine js_iload rfl ?_
      obtain ⟨q3, hc_3, hf⟩ := jbind hf
      refine js_c6v (w := 0) rfl rfl ⟨rfl, rfl⟩ rfl rfl (t_M_asks hc_3) (by omega) ?_
      refine js_aload_n rfl ?_
      obtain ⟨q4, hc_4, hf⟩ := jbind hf
      refine js_c1i rfl rfl ⟨rfl, rfl⟩ rfl rfl (t_M_leaveNow hc_4) (by omega) ?_
      refine js_istore rfl rfl ?_
      refine js_aload_n rfl ?_
      refine js_iload_n rfl ?_
      refine js_iload rfl ?_
      refine js_iload rfl ?_
      obtain ⟨q5, hc_5, hf⟩ := jbind hf
      refine js_c4i rfl rfl ⟨rfl, rfl⟩ rfl rfl (t_M_canBe hc_5) (by omega) ?_
      refine js_ifc (tgt := 76) rfl rfl (fun h => ?_) (fun h => ?_)
      · have hf := jif_t hf h
        refine jR_in rfl ⟨rfl, rfl, rfl⟩ rfl ?_
        refine js_bipush (v := (-2 : Int32)) rfl ?_
        refine js_iload rfl ?_
        refine js_isub ?_
        obtain rfl := Option.some.inj hf
        exact js_iret rfl rfl
      · have hf := jif_f hf h
        refine js_iload rfl ?_
        refine js_goto (tgt := 81) rfl rfl ?_
        refine jR_in rfl ⟨rfl, rfl, rfl⟩ rfl ?_
        obtain rfl := Option.some.inj hf
        exact js_iret rfl rfl
    · have hf := jif_f hf h
      refine js_iconst (v := (-1 : Int32)) rfl ?_
      obtain rfl := Option.some.inj hf
      exact js_iret rfl rfl
/-! SwallowsAirModel.thinks()V -/
def f_M_thinks_2  : Nat → Int32 → jp_M → Option (jp_M)
  | 0, _, _ => none
  | n + 1, l1, M =>
    if jp_c .ge l1 (184 : Int32) = true then (
    let M1 := jp_set M 104 (upd (M 104) 5 (1 : Int32))
    some M1) else (
    jg (jp_in l1 184) (
    jg (jp_in l1 184) (
    let M3 := jp_set M 107 (upd (M 107) (Int32.toNatClampNeg l1) (M 105 (Int32.toNatClampNeg l1)))
    f_M_thinks_2 n (l1 + (1 : Int32)) M3)))
theorem t_M_thinks_2 {Ln : Nat} {xs : Nat → Int32} {sv : jp_V} {d : Nat} (hd : 0 ≤ d)  : ∀ (n : Nat) (l1 : Int32) (w : Nat) (M : jp_M) {res : jp_M}, f_M_thinks_2 n  l1 M = some res → jR (jZ (jK Ln xs sv)) d 173 2 ([some (.inr (some 104)), some (.inl l1)], [], jSH w, M) (none, jSH w, res) := by
  intro n
  induction n with
  | zero =>
    intro l1 w M res hf
    cases hf
  | succ n ih =>
    intro l1 w M res hf
    rw [f_M_thinks_2] at hf
    refine jR_in rfl ⟨rfl, rfl, rfl⟩ rfl ?_
    refine js_iload_n rfl ?_
    refine js_sipush (v := (184 : Int32)) rfl ?_
    refine js_icmp (tgt := 27) rfl rfl (fun h => ?_) (fun h => ?_)
    · have hf := jif_t hf h
      refine jR_in rfl ⟨rfl, rfl, rfl⟩ rfl ?_
      refine js_aload_n rfl ?_
      refine js_iconst (v := (1 : Int32)) rfl ?_
      refine js_puti rfl rfl (Or.inr ⟨rfl, Or.inr rfl⟩) ?_
      obtain rfl := Option.some.inj hf
      exact js_ret rfl rfl
    · have hf := jif_f hf h
      refine js_aload_n rfl ?_
      refine js_getr rfl rfl rfl ?_
      refine js_iload_n rfl ?_
      refine js_aload_n rfl ?_
      refine js_getr rfl rfl rfl ?_
      refine js_iload_n rfl ?_
      obtain ⟨hb2, hf⟩ := jg_some hf
      refine js_iald rfl hb2 ?_
      obtain ⟨hb4, hf⟩ := jg_some hf
      refine js_iast rfl hb4 ?_
      refine js_iinc (v := (1 : Int32)) rfl rfl rfl rfl ?_
      refine js_goto (tgt := 2) rfl rfl ?_
      exact ih _ _ _ hf
def f_M_thinks (M : jp_M) : Option (jp_M) :=
  f_M_thinks_2 jFu (0 : Int32) M
theorem t_M_thinks {Ln : Nat} {xs : Nat → Int32} {sv : jp_V} {w : Nat} {M : jp_M} {res : jp_M} (hf : f_M_thinks M = some res) : jE (jZ (jK Ln xs sv)) 0 173 [(.inr (some 104))] (jSH w) M (none, jSH w, res) := by
  unfold f_M_thinks at hf
  refine jE_in (L0 := [some (.inr (some 104)), none]) rfl (Nat.le_of_ble_eq_true rfl) rfl (fun d hd => ?_)
  refine jR_in rfl ⟨rfl, rfl, rfl⟩ rfl ?_
  refine js_iconst (v := (0 : Int32)) rfl ?_
  refine js_istore_n rfl rfl ?_
  exact jS_out rfl ⟨rfl, rfl, rfl⟩ rfl (t_M_thinks_2 hd jFu _ _ _ hf)
/-! SwallowsAirModel.endsThought()V -/
def f_M_endsThought_2  : Nat → Int32 → jp_M → Option (jp_M)
  | 0, _, _ => none
  | n + 1, l1, M =>
    if jp_c .ge l1 (184 : Int32) = true then (
    let M1 := jp_set M 104 (upd (M 104) 5 (0 : Int32))
    some M1) else (
    jg (jp_in l1 184) (
    jg (jp_in l1 184) (
    let M3 := jp_set M 105 (upd (M 105) (Int32.toNatClampNeg l1) (M 107 (Int32.toNatClampNeg l1)))
    f_M_endsThought_2 n (l1 + (1 : Int32)) M3)))
theorem t_M_endsThought_2 {Ln : Nat} {xs : Nat → Int32} {sv : jp_V} {d : Nat} (hd : 0 ≤ d)  : ∀ (n : Nat) (l1 : Int32) (w : Nat) (M : jp_M) {res : jp_M}, f_M_endsThought_2 n  l1 M = some res → jR (jZ (jK Ln xs sv)) d 174 2 ([some (.inr (some 104)), some (.inl l1)], [], jSH w, M) (none, jSH w, res) := by
  intro n
  induction n with
  | zero =>
    intro l1 w M res hf
    cases hf
  | succ n ih =>
    intro l1 w M res hf
    rw [f_M_endsThought_2] at hf
    refine jR_in rfl ⟨rfl, rfl, rfl⟩ rfl ?_
    refine js_iload_n rfl ?_
    refine js_sipush (v := (184 : Int32)) rfl ?_
    refine js_icmp (tgt := 27) rfl rfl (fun h => ?_) (fun h => ?_)
    · have hf := jif_t hf h
      refine jR_in rfl ⟨rfl, rfl, rfl⟩ rfl ?_
      refine js_aload_n rfl ?_
      refine js_iconst (v := (0 : Int32)) rfl ?_
      refine js_puti rfl rfl (Or.inr ⟨rfl, Or.inl rfl⟩) ?_
      obtain rfl := Option.some.inj hf
      exact js_ret rfl rfl
    · have hf := jif_f hf h
      refine js_aload_n rfl ?_
      refine js_getr rfl rfl rfl ?_
      refine js_iload_n rfl ?_
      refine js_aload_n rfl ?_
      refine js_getr rfl rfl rfl ?_
      refine js_iload_n rfl ?_
      obtain ⟨hb2, hf⟩ := jg_some hf
      refine js_iald rfl hb2 ?_
      obtain ⟨hb4, hf⟩ := jg_some hf
      refine js_iast rfl hb4 ?_
      refine js_iinc (v := (1 : Int32)) rfl rfl rfl rfl ?_
      refine js_goto (tgt := 2) rfl rfl ?_
      exact ih _ _ _ hf
def f_M_endsThought (M : jp_M) : Option (jp_M) :=
  f_M_endsThought_2 jFu (0 : Int32) M
theorem t_M_endsThought {Ln : Nat} {xs : Nat → Int32} {sv : jp_V} {w : Nat} {M : jp_M} {res : jp_M} (hf : f_M_endsThought M = some res) : jE (jZ (jK Ln xs sv)) 0 174 [(.inr (some 104))] (jSH w) M (none, jSH w, res) := by
  unfold f_M_endsThought at hf
  refine jE_in (L0 := [some (.inr (some 104)), none]) rfl (Nat.le_of_ble_eq_true rfl) rfl (fun d hd => ?_)
  refine jR_in rfl ⟨rfl, rfl, rfl⟩ rfl ?_
  refine js_iconst (v := (0 : Int32)) rfl ?_
  refine js_istore_n rfl rfl ?_
  exact jS_out rfl ⟨rfl, rfl, rfl⟩ rfl (t_M_endsThought_2 hd jFu _ _ _ hf)
/-! SwallowsAirModel.goes(II)I -/
def f_M_goes_157  (s0 : Int32) (M : jp_M) : Option (Int32 × jp_M) :=
  (f_M_endsThought M).bind fun q1 => (
  some (s0, q1))
theorem t_M_goes_157 {Ln : Nat} {xs : Nat → Int32} {sv : jp_V} {d : Nat} (hd : 8 ≤ d)  (s0 : Int32) (o1 : Option jp_V) (o2 : Option jp_V) (o3 : Option jp_V) (o4 : Option jp_V) (o5 : Option jp_V) (w : Nat) (M : jp_M) {res : Int32 × jp_M} (hf : f_M_goes_157  s0 M = some res) : jR (jZ (jK Ln xs sv)) d 260 157 ([some (.inr (some 104)), o1, o2, o3, o4, o5], [.inl s0], jSH w, M) (some (.inl res.1), jSH w, res.2) := by
  unfold f_M_goes_157 at hf
  refine jR_in rfl ⟨rfl, rfl, rfl⟩ rfl ?_
  refine js_istore rfl rfl ?_
  refine js_aload_n rfl ?_
  obtain ⟨q1, hc_1, hf⟩ := jbind hf
  refine js_c1v (w := 0) rfl rfl ⟨rfl, rfl⟩ rfl rfl (t_M_endsThought hc_1) (by omega) ?_
  refine js_iload rfl ?_
  obtain rfl := Option.some.inj hf
  exact js_iret rfl rfl
def f_M_goes_89  : Nat → Int32 → Int32 → Int32 → Int32 → jp_M → Option (Int32 × jp_M)
  | 0, _, _, _, _, _ => none
  | n + 1, l2, l3, l4, l5, M =>
    if jp_c .ge l5 (M 104 7) = true then (
    if jp_c .ne l2 0 = true then (
    if jp_c .ne l2 (1 : Int32) = true then (
    if jp_c .ne l2 (2 : Int32) = true then (
    f_M_goes_157 l4 M) else (
    f_M_goes_157 l3 M)) else (
    f_M_goes_157 (M 105 5) M)) else (
    f_M_goes_157 (M 105 3) M)) else (
    jg (jp_in ((36 : Int32) + l5) 184) (
    f_M_goes_89 n l2 l3 (l4 + (M 105 (Int32.toNatClampNeg ((36 : Int32) + l5)))) (l5 + (1 : Int32)) M))
theorem t_M_goes_89 {Ln : Nat} {xs : Nat → Int32} {sv : jp_V} {d : Nat} (hd : 8 ≤ d)  : ∀ (n : Nat) (l2 : Int32) (l3 : Int32) (l4 : Int32) (l5 : Int32) (o1 : Option jp_V) (w : Nat) (M : jp_M) {res : Int32 × jp_M}, f_M_goes_89 n  l2 l3 l4 l5 M = some res → jR (jZ (jK Ln xs sv)) d 260 89 ([some (.inr (some 104)), o1, some (.inl l2), some (.inl l3), some (.inl l4), some (.inl l5)], [], jSH w, M) (some (.inl res.1), jSH w, res.2) := by
  intro n
  induction n with
  | zero =>
    intro l2 l3 l4 l5 o1 w M res hf
    cases hf
  | succ n ih =>
    intro l2 l3 l4 l5 o1 w M res hf
    rw [f_M_goes_89] at hf
    refine jR_in rfl ⟨rfl, rfl, rfl⟩ rfl ?_
    refine js_iload rfl ?_
    refine js_aload_n rfl ?_
    refine js_geti rfl rfl rfl ?_
    refine js_icmp (tgt := 119) rfl rfl (fun h => ?_) (fun h => ?_)
    · have hf := jif_t hf h
      refine jR_in rfl ⟨rfl, rfl, rfl⟩ rfl ?_
      refine js_iload_n rfl ?_
      refine js_ifc (tgt := 132) rfl rfl (fun h => ?_) (fun h => ?_)
      · have hf := jif_t hf h
        refine jR_in rfl ⟨rfl, rfl, rfl⟩ rfl ?_
        refine js_iload_n rfl ?_
        refine js_iconst (v := (1 : Int32)) rfl ?_
        refine js_icmp (tgt := 146) rfl rfl (fun h => ?_) (fun h => ?_)
        · have hf := jif_t hf h
          refine jR_in rfl ⟨rfl, rfl, rfl⟩ rfl ?_
          refine js_iload_n rfl ?_
          refine js_iconst (v := (2 : Int32)) rfl ?_
          refine js_icmp (tgt := 155) rfl rfl (fun h => ?_) (fun h => ?_)
          · have hf := jif_t hf h
            refine jR_in rfl ⟨rfl, rfl, rfl⟩ rfl ?_
            refine js_iload rfl ?_
            exact jS_out rfl ⟨rfl, rfl, rfl⟩ rfl (t_M_goes_157 hd _ _ _ _ _ _ _ _ hf)
          · have hf := jif_f hf h
            refine js_iload_n rfl ?_
            refine js_goto (tgt := 157) rfl rfl ?_
            exact t_M_goes_157 hd _ _ _ _ _ _ _ _ hf
        · have hf := jif_f hf h
          refine js_aload_n rfl ?_
          refine js_getr rfl rfl rfl ?_
          refine js_iconst (v := (5 : Int32)) rfl ?_
          refine js_iald rfl (by decide) ?_
          refine js_goto (tgt := 157) rfl rfl ?_
          exact t_M_goes_157 hd _ _ _ _ _ _ _ _ hf
      · have hf := jif_f hf h
        refine js_aload_n rfl ?_
        refine js_getr rfl rfl rfl ?_
        refine js_iconst (v := (3 : Int32)) rfl ?_
        refine js_iald rfl (by decide) ?_
        refine js_goto (tgt := 157) rfl rfl ?_
        exact t_M_goes_157 hd _ _ _ _ _ _ _ _ hf
    · have hf := jif_f hf h
      refine js_iload rfl ?_
      refine js_aload_n rfl ?_
      refine js_getr rfl rfl rfl ?_
      refine js_bipush (v := (36 : Int32)) rfl ?_
      refine js_iload rfl ?_
      refine js_iadd ?_
      obtain ⟨hb1, hf⟩ := jg_some hf
      refine js_iald rfl hb1 ?_
      refine js_iadd ?_
      refine js_istore rfl rfl ?_
      refine js_iinc (v := (1 : Int32)) rfl rfl rfl rfl ?_
      refine js_goto (tgt := 89) rfl rfl ?_
      exact ih _ _ _ _ _ _ _ hf
def f_M_goes_58  : Nat → Int32 → Int32 → Int32 → Int32 → jp_M → Option (Int32 × jp_M)
  | 0, _, _, _, _, _ => none
  | n + 1, l2, l3, l4, l5, M =>
    if jp_c .ge l5 (M 104 6) = true then (
    f_M_goes_89 jFu l2 l3 l4 (0 : Int32) M) else (
    jg (jp_in ((16 : Int32) + l5) 184) (
    f_M_goes_58 n l2 (l3 + (M 105 (Int32.toNatClampNeg ((16 : Int32) + l5)))) l4 (l5 + (1 : Int32)) M))
theorem t_M_goes_58 {Ln : Nat} {xs : Nat → Int32} {sv : jp_V} {d : Nat} (hd : 8 ≤ d)  : ∀ (n : Nat) (l2 : Int32) (l3 : Int32) (l4 : Int32) (l5 : Int32) (o1 : Option jp_V) (w : Nat) (M : jp_M) {res : Int32 × jp_M}, f_M_goes_58 n  l2 l3 l4 l5 M = some res → jR (jZ (jK Ln xs sv)) d 260 58 ([some (.inr (some 104)), o1, some (.inl l2), some (.inl l3), some (.inl l4), some (.inl l5)], [], jSH w, M) (some (.inl res.1), jSH w, res.2) := by
  intro n
  induction n with
  | zero =>
    intro l2 l3 l4 l5 o1 w M res hf
    cases hf
  | succ n ih =>
    intro l2 l3 l4 l5 o1 w M res hf
    rw [f_M_goes_58] at hf
    refine jR_in rfl ⟨rfl, rfl, rfl⟩ rfl ?_
    refine js_iload rfl ?_
    refine js_aload_n rfl ?_
    refine js_geti rfl rfl rfl ?_
    refine js_icmp (tgt := 86) rfl rfl (fun h => ?_) (fun h => ?_)
    · have hf := jif_t hf h
      refine jR_in rfl ⟨rfl, rfl, rfl⟩ rfl ?_
      refine js_iconst (v := (0 : Int32)) rfl ?_
      refine js_istore rfl rfl ?_
      exact jS_out rfl ⟨rfl, rfl, rfl⟩ rfl (t_M_goes_89 hd jFu _ _ _ _ _ _ _ hf)
    · have hf := jif_f hf h
      refine js_iload_n rfl ?_
      refine js_aload_n rfl ?_
      refine js_getr rfl rfl rfl ?_
      refine js_bipush (v := (16 : Int32)) rfl ?_
      refine js_iload rfl ?_
      refine js_iadd ?_
      obtain ⟨hb1, hf⟩ := jg_some hf
      refine js_iald rfl hb1 ?_
      refine js_iadd ?_
      refine js_istore_n rfl rfl ?_
      refine js_iinc (v := (1 : Int32)) rfl rfl rfl rfl ?_
      refine js_goto (tgt := 58) rfl rfl ?_
      exact ih _ _ _ _ _ _ _ hf
def f_M_goes_34  : Nat → Int32 → Int32 → Int32 → jp_M → Option (Int32 × jp_M)
  | 0, _, _, _, _ => none
  | n + 1, l1, l2, l3, M =>
    if jp_c .ge l3 l1 = true then (
    f_M_goes_58 jFu l2 (0 : Int32) (0 : Int32) (0 : Int32) M) else (
    (f_M_goesBy M).bind fun q1 => (
    f_M_goes_34 n l1 l2 (l3 + (1 : Int32)) (q1.2)))
theorem t_M_goes_34 {Ln : Nat} {xs : Nat → Int32} {sv : jp_V} {d : Nat} (hd : 8 ≤ d)  : ∀ (n : Nat) (l1 : Int32) (l2 : Int32) (l3 : Int32) (o4 : Option jp_V) (o5 : Option jp_V) (w : Nat) (M : jp_M) {res : Int32 × jp_M}, f_M_goes_34 n  l1 l2 l3 M = some res → jR (jZ (jK Ln xs sv)) d 260 34 ([some (.inr (some 104)), some (.inl l1), some (.inl l2), some (.inl l3), o4, o5], [], jSH w, M) (some (.inl res.1), jSH w, res.2) := by
  intro n
  induction n with
  | zero =>
    intro l1 l2 l3 o4 o5 w M res hf
    cases hf
  | succ n ih =>
    intro l1 l2 l3 o4 o5 w M res hf
    rw [f_M_goes_34] at hf
    refine jR_in rfl ⟨rfl, rfl, rfl⟩ rfl ?_
    refine js_iload_n rfl ?_
    refine js_iload_n rfl ?_
    refine js_icmp (tgt := 50) rfl rfl (fun h => ?_) (fun h => ?_)
    · have hf := jif_t hf h
      refine jR_in rfl ⟨rfl, rfl, rfl⟩ rfl ?_
      refine js_iconst (v := (0 : Int32)) rfl ?_
      refine js_istore_n rfl rfl ?_
      refine js_iconst (v := (0 : Int32)) rfl ?_
      refine js_istore rfl rfl ?_
      refine js_iconst (v := (0 : Int32)) rfl ?_
      refine js_istore rfl rfl ?_
      exact jS_out rfl ⟨rfl, rfl, rfl⟩ rfl (t_M_goes_58 hd jFu _ _ _ _ _ _ _ hf)
    · have hf := jif_f hf h
      refine js_aload_n rfl ?_
      obtain ⟨q1, hc_1, hf⟩ := jbind hf
      refine js_c1i rfl rfl ⟨rfl, rfl⟩ rfl rfl (t_M_goesBy hc_1) (by omega) ?_
      refine js_pop ?_
      refine js_iinc (v := (1 : Int32)) rfl rfl rfl rfl ?_
      refine js_goto (tgt := 34) rfl rfl ?_
      exact ih _ _ _ _ _ _ _ hf
def f_M_goes (a1 : Int32) (a2 : Int32) (M : jp_M) : Option (Int32 × jp_M) :=
  let M1 := jp_set M 104 (upd (M 104) 0 (0 : Int32))
  if jp_c .eq (f_M_isIn a1 (1 : Int32) (60 : Int32)) 0 = true then (
  some ((-1 : Int32), M1)) else (
  if jp_c .ne (f_M_isIn a2 (0 : Int32) (3 : Int32)) 0 = true then (
  (f_M_thinks M1).bind fun q4 => (
  f_M_goes_34 jFu a1 a2 (0 : Int32) q4)) else (
  some ((-1 : Int32), M1)))
theorem t_M_goes {Ln : Nat} {xs : Nat → Int32} {sv : jp_V} {a1 : Int32} {a2 : Int32} {w : Nat} {M : jp_M} {res : Int32 × jp_M} (hf : f_M_goes a1 a2 M = some res) : jE (jZ (jK Ln xs sv)) 8 260 [(.inr (some 104)), (.inl a1), (.inl a2)] (jSH w) M (some (.inl res.1), jSH w, res.2) := by
  unfold f_M_goes at hf
  refine jE_in (L0 := [some (.inr (some 104)), some (.inl a1), some (.inl a2), none, none, none]) rfl (Nat.le_of_ble_eq_true rfl) rfl (fun d hd => ?_)
  refine jR_in rfl ⟨rfl, rfl, rfl⟩ rfl ?_
  refine js_aload_n rfl ?_
  refine js_iconst (v := (0 : Int32)) rfl ?_
  refine js_puti rfl rfl (Or.inl rfl) ?_
  refine js_aload_n rfl ?_
  refine js_iload_n rfl ?_
  refine js_iconst (v := (1 : Int32)) rfl ?_
  refine js_bipush (v := (60 : Int32)) rfl ?_
  refine js_c4i rfl rfl ⟨rfl, rfl⟩ rfl rfl (t_M_isIn rfl) (by omega) ?_
  refine js_ifc (tgt := 26) rfl rfl (fun h => ?_) (fun h => ?_)
  · have hf := jif_t hf h
    refine jR_in rfl ⟨rfl, rfl, rfl⟩ rfl ?_
    refine js_iconst (v := (-1 : Int32)) rfl ?_
    obtain rfl := Option.some.inj hf
    exact js_iret rfl rfl
  · have hf := jif_f hf h
    refine js_aload_n rfl ?_
    refine js_iload_n rfl ?_
    refine js_iconst (v := (0 : Int32)) rfl ?_
    refine js_iconst (v := (3 : Int32)) rfl ?_
    refine js_c4i rfl rfl ⟨rfl, rfl⟩ rfl rfl (t_M_isIn rfl) (by omega) ?_
    refine js_ifc (tgt := 28) rfl rfl (fun h => ?_) (fun h => ?_)
    · have hf := jif_t hf h
      refine jR_in rfl ⟨rfl, rfl, rfl⟩ rfl ?_
      refine js_aload_n rfl ?_
      obtain ⟨q4, hc_4, hf⟩ := jbind hf
      refine js_c1v (w := 0) rfl rfl ⟨rfl, rfl⟩ rfl rfl (t_M_thinks hc_4) (by omega) ?_
      refine js_iconst (v := (0 : Int32)) rfl ?_
      refine js_istore_n rfl rfl ?_
      exact jS_out rfl ⟨rfl, rfl, rfl⟩ rfl (t_M_goes_34 hd jFu _ _ _ _ _ _ _ hf)
    · have hf := jif_f hf h
      refine js_iconst (v := (-1 : Int32)) rfl ?_
      obtain rfl := Option.some.inj hf
      exact js_iret rfl rfl
