def f_LAW_1554 (Ln : Nat) (xs : Nat → Int32) (c10 : Int32 → Nat → jp_M → Option (Int32 × Nat × jp_M)) (l3 : Int32) (w : Nat) (M : jp_M) : Option (Int32 × Nat × jp_M) :=
  c10 (l3 + (6 : Int32)) w M
set_option maxRecDepth 100000 in
theorem t_LAW_1554 {nc ns : Nat} (hg : nc ≤ 600000 ∧ ns ≤ 7302250) {Ln : Nat} {xs : Nat → Int32} {sv : jp_V} {d : Nat} (hd : 113 ≤ d) {c10 : Int32 → Nat → jp_M → Option (Int32 × Nat × jp_M)} (hc10 : ∀ (l3 : Int32) (w : Nat) (M : jp_M) (res : Int32 × Nat × jp_M), c10 l3 w M = some res → lR (600000, 7302250, nc, ns) (jZ (jK Ln xs sv)) d 315 18 ([some (.inr (some 2000)), some (.inr (some 0)), some (.inr (some 104)), some (.inl l3)], [], jSH w, M) (some (.inl res.1), jSH res.2.1, res.2.2)) (l3 : Int32) (w : Nat) (M : jp_M) {res : Int32 × Nat × jp_M} (hf : f_LAW_1554 Ln xs c10 l3 w M = some res) : lR (600000, 7302250, nc, ns) (jZ (jK Ln xs sv)) d 315 1554 ([some (.inr (some 2000)), some (.inr (some 0)), some (.inr (some 104)), some (.inl l3)], [], jSH w, M) (some (.inl res.1), jSH res.2.1, res.2.2) := by
  unfold f_LAW_1554 at hf
  refine lR_in rfl rfl rfl ?_
  refine ls_iinc (v := (6 : Int32)) rfl rfl rfl rfl ?_
  refine ls_goto (tgt := 18) rfl rfl ?_
  exact hc10 _ _ _ _ hf
def f_LAW_1523 (Ln : Nat) (xs : Nat → Int32) (c10 : Int32 → Nat → jp_M → Option (Int32 × Nat × jp_M)) (l3 : Int32) (s0 : Int32) (s2 : Int32) (w : Nat) (M : jp_M) : Option (Int32 × Nat × jp_M) :=
  (f_M_image s2 M).bind fun q1 => (
  if jp_c .eq s0 q1.1 = true then (
  f_LAW_1554 Ln xs c10 l3 w (q1.2)) else (
  some ((0 : Int32), w, q1.2)))
set_option maxRecDepth 100000 in
theorem t_LAW_1523 {nc ns : Nat} (hg : nc ≤ 600000 ∧ ns ≤ 7302250) {Ln : Nat} {xs : Nat → Int32} {sv : jp_V} {d : Nat} (hd : 113 ≤ d) {c10 : Int32 → Nat → jp_M → Option (Int32 × Nat × jp_M)} (hc10 : ∀ (l3 : Int32) (w : Nat) (M : jp_M) (res : Int32 × Nat × jp_M), c10 l3 w M = some res → lR (600000, 7302250, nc, ns) (jZ (jK Ln xs sv)) d 315 18 ([some (.inr (some 2000)), some (.inr (some 0)), some (.inr (some 104)), some (.inl l3)], [], jSH w, M) (some (.inl res.1), jSH res.2.1, res.2.2)) (l3 : Int32) (s0 : Int32) (s2 : Int32) (w : Nat) (M : jp_M) {res : Int32 × Nat × jp_M} (hf : f_LAW_1523 Ln xs c10 l3 s0 s2 w M = some res) : lR (600000, 7302250, nc, ns) (jZ (jK Ln xs sv)) d 315 1523 ([some (.inr (some 2000)), some (.inr (some 0)), some (.inr (some 104)), some (.inl l3)], [.inl s2, (.inr (some 104)), .inl s0], jSH w, M) (some (.inl res.1), jSH res.2.1, res.2.2) := by
  unfold f_LAW_1523 at hf
  refine lR_in rfl rfl rfl ?_
  obtain ⟨q1, hc_1, hf⟩ := jbind hf
  refine ls_c2i hg rfl rfl ⟨rfl, rfl⟩ rfl rfl (t_M_image hc_1) (by omega) ?_
  refine ls_icmp (tgt := 1554) rfl rfl (fun h => ?_) (fun h => ?_)
  · have hf := jif_t hf h
    exact t_LAW_1554 hg hd hc10 _ _ _ hf
  · have hf := jif_f hf h
    refine ls_iconst (v := (0 : Int32)) rfl ?_
    obtain rfl := Option.some.inj hf
    exact ls_iret rfl rfl
def f_LAW_1506 (Ln : Nat) (xs : Nat → Int32) (c10 : Int32 → Nat → jp_M → Option (Int32 × Nat × jp_M)) (l3 : Int32) (s1 : Int32) (w : Nat) (M : jp_M) : Option (Int32 × Nat × jp_M) :=
  (f_C_image s1 M).bind fun q1 => (
  jg (jp_in (l3 + (1 : Int32)) Ln) (
  if jp_c .eq (xs (Int32.toNatClampNeg (l3 + (1 : Int32)))) 0 = true then (
  f_LAW_1523 Ln xs c10 l3 (q1.1) (0 : Int32) w (q1.2)) else (
  f_LAW_1523 Ln xs c10 l3 (q1.1) (1 : Int32) w (q1.2))))
set_option maxRecDepth 100000 in
theorem t_LAW_1506 {nc ns : Nat} (hg : nc ≤ 600000 ∧ ns ≤ 7302250) {Ln : Nat} {xs : Nat → Int32} {sv : jp_V} {d : Nat} (hd : 113 ≤ d) {c10 : Int32 → Nat → jp_M → Option (Int32 × Nat × jp_M)} (hc10 : ∀ (l3 : Int32) (w : Nat) (M : jp_M) (res : Int32 × Nat × jp_M), c10 l3 w M = some res → lR (600000, 7302250, nc, ns) (jZ (jK Ln xs sv)) d 315 18 ([some (.inr (some 2000)), some (.inr (some 0)), some (.inr (some 104)), some (.inl l3)], [], jSH w, M) (some (.inl res.1), jSH res.2.1, res.2.2)) (l3 : Int32) (s1 : Int32) (w : Nat) (M : jp_M) {res : Int32 × Nat × jp_M} (hf : f_LAW_1506 Ln xs c10 l3 s1 w M = some res) : lR (600000, 7302250, nc, ns) (jZ (jK Ln xs sv)) d 315 1506 ([some (.inr (some 2000)), some (.inr (some 0)), some (.inr (some 104)), some (.inl l3)], [.inl s1, (.inr (some 0))], jSH w, M) (some (.inl res.1), jSH res.2.1, res.2.2) := by
  unfold f_LAW_1506 at hf
  refine lR_in rfl rfl rfl ?_
  obtain ⟨q1, hc_1, hf⟩ := jbind hf
  refine ls_c2i hg rfl rfl ⟨rfl, rfl⟩ rfl rfl (t_C_image hc_1) (by omega) ?_
  refine ls_aload_n rfl ?_
  refine ls_aload_n rfl ?_
  refine ls_iload_n rfl ?_
  refine ls_iconst (v := (1 : Int32)) rfl ?_
  refine ls_iadd ?_
  obtain ⟨hb2, hf⟩ := jg_some hf
  refine ls_ialdK rfl rfl hb2 ?_
  refine ls_ifc (tgt := 1522) rfl rfl (fun h => ?_) (fun h => ?_)
  · have hf := jif_t hf h
    refine lR_in rfl rfl rfl ?_
    refine ls_iconst (v := (0 : Int32)) rfl ?_
    exact lS_out rfl rfl rfl (t_LAW_1523 hg hd hc10 _ _ _ _ _ hf)
  · have hf := jif_f hf h
    refine ls_iconst (v := (1 : Int32)) rfl ?_
    refine ls_goto (tgt := 1523) rfl rfl ?_
    exact t_LAW_1523 hg hd hc10 _ _ _ _ _ hf
def f_LAW_18 (Ln : Nat) (xs : Nat → Int32) : Nat → Int32 → Nat → jp_M → Option (Int32 × Nat × jp_M)
  | 0, _, _, _ => none
  | n + 1, l3, w, M =>
    if jp_c .gt l3 ((Int32.ofNat Ln) - (6 : Int32)) = true then (
    some ((1 : Int32), w, M)) else (
    jg (jp_in l3 Ln) (
    if ((xs (Int32.toNatClampNeg l3)) &&& (63 : Int32)) = (0 : Int32) then (
    jg (jp_in (l3 + (1 : Int32)) Ln) (
    let q3 := f_C_state (xs (Int32.toNatClampNeg (l3 + (1 : Int32)))) M
    jg (jp_in (l3 + (1 : Int32)) Ln) (
    let q5 := f_M_state (xs (Int32.toNatClampNeg (l3 + (1 : Int32)))) q3.2
    if jp_c .eq q3.1 q5.1 = true then (
    f_LAW_1554 Ln xs (f_LAW_18 Ln xs n ) l3 w (q5.2)) else (
    some ((0 : Int32), w, q5.2))))) else if ((xs (Int32.toNatClampNeg l3)) &&& (63 : Int32)) = (1 : Int32) then (
    jg (jp_in (l3 + (1 : Int32)) Ln) (
    jg (jp_in (l3 + (2 : Int32)) Ln) (
    jg (jp_in (l3 + (3 : Int32)) Ln) (
    (f_C_person (xs (Int32.toNatClampNeg (l3 + (1 : Int32)))) (xs (Int32.toNatClampNeg (l3 + (2 : Int32)))) (xs (Int32.toNatClampNeg (l3 + (3 : Int32)))) M).bind fun q9 => (
    jg (jp_in (l3 + (1 : Int32)) Ln) (
    jg (jp_in (l3 + (2 : Int32)) Ln) (
    jg (jp_in (l3 + (3 : Int32)) Ln) (
    (f_M_person (xs (Int32.toNatClampNeg (l3 + (1 : Int32)))) (xs (Int32.toNatClampNeg (l3 + (2 : Int32)))) (xs (Int32.toNatClampNeg (l3 + (3 : Int32)))) q9.2).bind fun q13 => (
    if jp_c .eq q9.1 q13.1 = true then (
    f_LAW_1554 Ln xs (f_LAW_18 Ln xs n ) l3 w (q13.2)) else (
    some ((0 : Int32), w, q13.2))))))))))) else if ((xs (Int32.toNatClampNeg l3)) &&& (63 : Int32)) = (2 : Int32) then (
    jg (jp_in (l3 + (1 : Int32)) Ln) (
    jg (jp_in (l3 + (2 : Int32)) Ln) (
    (f_C_swallow (xs (Int32.toNatClampNeg (l3 + (1 : Int32)))) (xs (Int32.toNatClampNeg (l3 + (2 : Int32)))) M).bind fun q16 => (
    jg (jp_in (l3 + (1 : Int32)) Ln) (
    jg (jp_in (l3 + (2 : Int32)) Ln) (
    (f_M_swallow (xs (Int32.toNatClampNeg (l3 + (1 : Int32)))) (xs (Int32.toNatClampNeg (l3 + (2 : Int32)))) q16.2).bind fun q19 => (
    if jp_c .eq q16.1 q19.1 = true then (
    f_LAW_1554 Ln xs (f_LAW_18 Ln xs n ) l3 w (q19.2)) else (
    some ((0 : Int32), w, q19.2))))))))) else if ((xs (Int32.toNatClampNeg l3)) &&& (63 : Int32)) = (3 : Int32) then (
    jg (jp_in (l3 + (1 : Int32)) Ln) (
    jg (jp_in (l3 + (2 : Int32)) Ln) (
    jg (jp_in (l3 + (3 : Int32)) Ln) (
    (f_C_set (xs (Int32.toNatClampNeg (l3 + (1 : Int32)))) (xs (Int32.toNatClampNeg (l3 + (2 : Int32)))) (xs (Int32.toNatClampNeg (l3 + (3 : Int32)))) M).bind fun q23 => (
    jg (jp_in (l3 + (1 : Int32)) Ln) (
    jg (jp_in (l3 + (2 : Int32)) Ln) (
    jg (jp_in (l3 + (3 : Int32)) Ln) (
    (f_M_set (xs (Int32.toNatClampNeg (l3 + (1 : Int32)))) (xs (Int32.toNatClampNeg (l3 + (2 : Int32)))) (xs (Int32.toNatClampNeg (l3 + (3 : Int32)))) q23.2).bind fun q27 => (
    if jp_c .eq q23.1 q27.1 = true then (
    f_LAW_1554 Ln xs (f_LAW_18 Ln xs n ) l3 w (q27.2)) else (
    some ((0 : Int32), w, q27.2))))))))))) else if ((xs (Int32.toNatClampNeg l3)) &&& (63 : Int32)) = (4 : Int32) then (
    jg (jp_in (l3 + (1 : Int32)) Ln) (
    jg (jp_in (l3 + (2 : Int32)) Ln) (
    jg (jp_in (l3 + (3 : Int32)) Ln) (
    jg (jp_in (l3 + (4 : Int32)) Ln) (
    jg (jp_in (l3 + (5 : Int32)) Ln) (
    (f_C_ask (xs (Int32.toNatClampNeg (l3 + (1 : Int32)))) (xs (Int32.toNatClampNeg (l3 + (2 : Int32)))) (xs (Int32.toNatClampNeg (l3 + (3 : Int32)))) (xs (Int32.toNatClampNeg (l3 + (4 : Int32)))) (xs (Int32.toNatClampNeg (l3 + (5 : Int32)))) M).bind fun q33 => (
    jg (jp_in (l3 + (1 : Int32)) Ln) (
    jg (jp_in (l3 + (2 : Int32)) Ln) (
    jg (jp_in (l3 + (3 : Int32)) Ln) (
    jg (jp_in (l3 + (4 : Int32)) Ln) (
    jg (jp_in (l3 + (5 : Int32)) Ln) (
    (f_M_ask (xs (Int32.toNatClampNeg (l3 + (1 : Int32)))) (xs (Int32.toNatClampNeg (l3 + (2 : Int32)))) (xs (Int32.toNatClampNeg (l3 + (3 : Int32)))) (xs (Int32.toNatClampNeg (l3 + (4 : Int32)))) (xs (Int32.toNatClampNeg (l3 + (5 : Int32)))) q33.2).bind fun q39 => (
    if jp_c .eq q33.1 q39.1 = true then (
    f_LAW_1554 Ln xs (f_LAW_18 Ln xs n ) l3 w (q39.2)) else (
    some ((0 : Int32), w, q39.2))))))))))))))) else if ((xs (Int32.toNatClampNeg l3)) &&& (63 : Int32)) = (5 : Int32) then (
    jg (jp_in (l3 + (1 : Int32)) Ln) (
    jg (jp_in (l3 + (2 : Int32)) Ln) (
    jg (jp_in (l3 + (3 : Int32)) Ln) (
    jg (jp_in (l3 + (4 : Int32)) Ln) (
    jg (jp_in (l3 + (5 : Int32)) Ln) (
    (f_C_take (xs (Int32.toNatClampNeg (l3 + (1 : Int32)))) (xs (Int32.toNatClampNeg (l3 + (2 : Int32)))) (xs (Int32.toNatClampNeg (l3 + (3 : Int32)))) (xs (Int32.toNatClampNeg (l3 + (4 : Int32)))) (xs (Int32.toNatClampNeg (l3 + (5 : Int32)))) M).bind fun q45 => (
    jg (jp_in (l3 + (1 : Int32)) Ln) (
    jg (jp_in (l3 + (2 : Int32)) Ln) (
    jg (jp_in (l3 + (3 : Int32)) Ln) (
    jg (jp_in (l3 + (4 : Int32)) Ln) (
    jg (jp_in (l3 + (5 : Int32)) Ln) (
    (f_M_take (xs (Int32.toNatClampNeg (l3 + (1 : Int32)))) (xs (Int32.toNatClampNeg (l3 + (2 : Int32)))) (xs (Int32.toNatClampNeg (l3 + (3 : Int32)))) (xs (Int32.toNatClampNeg (l3 + (4 : Int32)))) (xs (Int32.toNatClampNeg (l3 + (5 : Int32)))) q45.2).bind fun q51 => (
    if jp_c .eq q45.1 q51.1 = true then (
    f_LAW_1554 Ln xs (f_LAW_18 Ln xs n ) l3 w (q51.2)) else (
    some ((0 : Int32), w, q51.2))))))))))))))) else if ((xs (Int32.toNatClampNeg l3)) &&& (63 : Int32)) = (6 : Int32) then (
    jg (jp_in (l3 + (1 : Int32)) Ln) (
    (f_C_ends (xs (Int32.toNatClampNeg (l3 + (1 : Int32)))) M).bind fun q53 => (
    jg (jp_in (l3 + (1 : Int32)) Ln) (
    (f_M_ends (xs (Int32.toNatClampNeg (l3 + (1 : Int32)))) q53.2).bind fun q55 => (
    if jp_c .eq q53.1 q55.1 = true then (
    f_LAW_1554 Ln xs (f_LAW_18 Ln xs n ) l3 w (q55.2)) else (
    some ((0 : Int32), w, q55.2))))))) else if ((xs (Int32.toNatClampNeg l3)) &&& (63 : Int32)) = (7 : Int32) then (
    jg (jp_in (l3 + (1 : Int32)) Ln) (
    jg (jp_in (l3 + (2 : Int32)) Ln) (
    (f_C_nest (xs (Int32.toNatClampNeg (l3 + (1 : Int32)))) (xs (Int32.toNatClampNeg (l3 + (2 : Int32)))) M).bind fun q58 => (
    jg (jp_in (l3 + (1 : Int32)) Ln) (
    jg (jp_in (l3 + (2 : Int32)) Ln) (
    (f_M_nest (xs (Int32.toNatClampNeg (l3 + (1 : Int32)))) (xs (Int32.toNatClampNeg (l3 + (2 : Int32)))) q58.2).bind fun q61 => (
    if jp_c .eq q58.1 q61.1 = true then (
    f_LAW_1554 Ln xs (f_LAW_18 Ln xs n ) l3 w (q61.2)) else (
    some ((0 : Int32), w, q61.2))))))))) else if ((xs (Int32.toNatClampNeg l3)) &&& (63 : Int32)) = (8 : Int32) then (
    jg (jp_in (l3 + (1 : Int32)) Ln) (
    (f_C_days (xs (Int32.toNatClampNeg (l3 + (1 : Int32)))) M).bind fun q63 => (
    jg (jp_in (l3 + (1 : Int32)) Ln) (
    (f_M_days (xs (Int32.toNatClampNeg (l3 + (1 : Int32)))) q63.2).bind fun q65 => (
    if jp_c .eq q63.1 q65.1 = true then (
    f_LAW_1554 Ln xs (f_LAW_18 Ln xs n ) l3 w (q65.2)) else (
    some ((0 : Int32), w, q65.2))))))) else if ((xs (Int32.toNatClampNeg l3)) &&& (63 : Int32)) = (9 : Int32) then (
    jg (jp_in (l3 + (1 : Int32)) Ln) (
    jg (jp_in (l3 + (2 : Int32)) Ln) (
    jg (jp_in (l3 + (3 : Int32)) Ln) (
    jg (jp_in (l3 + (4 : Int32)) Ln) (
    jg (jp_in (l3 + (5 : Int32)) Ln) (
    (f_C_feed (xs (Int32.toNatClampNeg (l3 + (1 : Int32)))) (xs (Int32.toNatClampNeg (l3 + (2 : Int32)))) (xs (Int32.toNatClampNeg (l3 + (3 : Int32)))) (xs (Int32.toNatClampNeg (l3 + (4 : Int32)))) (xs (Int32.toNatClampNeg (l3 + (5 : Int32)))) M).bind fun q71 => (
    jg (jp_in (l3 + (1 : Int32)) Ln) (
    jg (jp_in (l3 + (2 : Int32)) Ln) (
    jg (jp_in (l3 + (3 : Int32)) Ln) (
    jg (jp_in (l3 + (4 : Int32)) Ln) (
    jg (jp_in (l3 + (5 : Int32)) Ln) (
    (f_M_feed (xs (Int32.toNatClampNeg (l3 + (1 : Int32)))) (xs (Int32.toNatClampNeg (l3 + (2 : Int32)))) (xs (Int32.toNatClampNeg (l3 + (3 : Int32)))) (xs (Int32.toNatClampNeg (l3 + (4 : Int32)))) (xs (Int32.toNatClampNeg (l3 + (5 : Int32)))) q71.2).bind fun q77 => (
    if jp_c .eq q71.1 q77.1 = true then (
    f_LAW_1554 Ln xs (f_LAW_18 Ln xs n ) l3 w (q77.2)) else (
    some ((0 : Int32), w, q77.2))))))))))))))) else if ((xs (Int32.toNatClampNeg l3)) &&& (63 : Int32)) = (10 : Int32) then (
    jg (jp_in (l3 + (1 : Int32)) Ln) (
    let q79 := f_C_end (xs (Int32.toNatClampNeg (l3 + (1 : Int32)))) M
    jg (jp_in (l3 + (1 : Int32)) Ln) (
    let q81 := f_M_end (xs (Int32.toNatClampNeg (l3 + (1 : Int32)))) q79.2
    if jp_c .eq q79.1 q81.1 = true then (
    f_LAW_1554 Ln xs (f_LAW_18 Ln xs n ) l3 w (q81.2)) else (
    some ((0 : Int32), w, q81.2))))) else if ((xs (Int32.toNatClampNeg l3)) &&& (63 : Int32)) = (11 : Int32) then (
    jg (jp_in (l3 + (1 : Int32)) Ln) (
    (f_C_text (xs (Int32.toNatClampNeg (l3 + (1 : Int32)))) w M).bind fun q83 => (
    jg (jp_in (l3 + (1 : Int32)) Ln) (
    (f_M_text (xs (Int32.toNatClampNeg (l3 + (1 : Int32)))) q83.2.2).bind fun q85 => (
    if jp_c .eq q83.1 q85.1 = true then (
    f_LAW_1554 Ln xs (f_LAW_18 Ln xs n ) l3 (q83.2.1) (q85.2)) else (
    some ((0 : Int32), q83.2.1, q85.2))))))) else if ((xs (Int32.toNatClampNeg l3)) &&& (63 : Int32)) = (12 : Int32) then (
    jg (jp_in (l3 + (1 : Int32)) Ln) (
    jg (jp_in (l3 + (1 : Int32)) Ln) (
    let q89 := f_M_fault (xs (Int32.toNatClampNeg (l3 + (1 : Int32)))) M
    if jp_c .eq (f_C_fault (xs (Int32.toNatClampNeg (l3 + (1 : Int32)))) M) q89.1 = true then (
    f_LAW_1554 Ln xs (f_LAW_18 Ln xs n ) l3 w (q89.2)) else (
    some ((0 : Int32), w, q89.2))))) else if ((xs (Int32.toNatClampNeg l3)) &&& (63 : Int32)) = (13 : Int32) then (
    jg (jp_in (l3 + (1 : Int32)) Ln) (
    jg (jp_in (l3 + (2 : Int32)) Ln) (
    (f_C_of (xs (Int32.toNatClampNeg (l3 + (1 : Int32)))) (xs (Int32.toNatClampNeg (l3 + (2 : Int32)))) M).bind fun q92 => (
    jg (jp_in (l3 + (1 : Int32)) Ln) (
    jg (jp_in (l3 + (2 : Int32)) Ln) (
    (f_M_of (xs (Int32.toNatClampNeg (l3 + (1 : Int32)))) (xs (Int32.toNatClampNeg (l3 + (2 : Int32)))) M).bind fun q95 => (
    if jp_c .eq q92 q95.1 = true then (
    f_LAW_1554 Ln xs (f_LAW_18 Ln xs n ) l3 w (q95.2)) else (
    some ((0 : Int32), w, q95.2))))))))) else if ((xs (Int32.toNatClampNeg l3)) &&& (63 : Int32)) = (14 : Int32) then (
    jg (jp_in (l3 + (1 : Int32)) Ln) (
    jg (jp_in (l3 + (2 : Int32)) Ln) (
    (f_C_bird (xs (Int32.toNatClampNeg (l3 + (1 : Int32)))) (xs (Int32.toNatClampNeg (l3 + (2 : Int32)))) M).bind fun q98 => (
    jg (jp_in (l3 + (1 : Int32)) Ln) (
    jg (jp_in (l3 + (2 : Int32)) Ln) (
    (f_M_bird (xs (Int32.toNatClampNeg (l3 + (1 : Int32)))) (xs (Int32.toNatClampNeg (l3 + (2 : Int32)))) M).bind fun q101 => (
    if jp_c .eq q98 q101.1 = true then (
    f_LAW_1554 Ln xs (f_LAW_18 Ln xs n ) l3 w (q101.2)) else (
    some ((0 : Int32), w, q101.2))))))))) else if ((xs (Int32.toNatClampNeg l3)) &&& (63 : Int32)) = (15 : Int32) then (
    jg (jp_in (l3 + (1 : Int32)) Ln) (
    jg (jp_in (l3 + (2 : Int32)) Ln) (
    (f_C_use (xs (Int32.toNatClampNeg (l3 + (1 : Int32)))) (xs (Int32.toNatClampNeg (l3 + (2 : Int32)))) M).bind fun q104 => (
    jg (jp_in (l3 + (1 : Int32)) Ln) (
    jg (jp_in (l3 + (2 : Int32)) Ln) (
    (f_M_use (xs (Int32.toNatClampNeg (l3 + (1 : Int32)))) (xs (Int32.toNatClampNeg (l3 + (2 : Int32)))) q104.2).bind fun q107 => (
    if jp_c .eq q104.1 q107.1 = true then (
    f_LAW_1554 Ln xs (f_LAW_18 Ln xs n ) l3 w (q107.2)) else (
    some ((0 : Int32), w, q107.2))))))))) else if ((xs (Int32.toNatClampNeg l3)) &&& (63 : Int32)) = (16 : Int32) then (
    jg (jp_in (l3 + (1 : Int32)) Ln) (
    (f_C_lease (xs (Int32.toNatClampNeg (l3 + (1 : Int32)))) M).bind fun q109 => (
    jg (jp_in (l3 + (1 : Int32)) Ln) (
    (f_M_lease (xs (Int32.toNatClampNeg (l3 + (1 : Int32)))) M).bind fun q111 => (
    if jp_c .eq q109 q111.1 = true then (
    f_LAW_1554 Ln xs (f_LAW_18 Ln xs n ) l3 w (q111.2)) else (
    some ((0 : Int32), w, q111.2))))))) else if ((xs (Int32.toNatClampNeg l3)) &&& (63 : Int32)) = (17 : Int32) then (
    jg (jp_in (l3 + (1 : Int32)) Ln) (
    jg (jp_in (l3 + (2 : Int32)) Ln) (
    (f_C_book (xs (Int32.toNatClampNeg (l3 + (1 : Int32)))) (xs (Int32.toNatClampNeg (l3 + (2 : Int32)))) M).bind fun q114 => (
    jg (jp_in (l3 + (1 : Int32)) Ln) (
    jg (jp_in (l3 + (2 : Int32)) Ln) (
    (f_M_book (xs (Int32.toNatClampNeg (l3 + (1 : Int32)))) (xs (Int32.toNatClampNeg (l3 + (2 : Int32)))) M).bind fun q117 => (
    if jp_c .eq q114 q117.1 = true then (
    f_LAW_1554 Ln xs (f_LAW_18 Ln xs n ) l3 w (q117.2)) else (
    some ((0 : Int32), w, q117.2))))))))) else if ((xs (Int32.toNatClampNeg l3)) &&& (63 : Int32)) = (18 : Int32) then (
    jg (jp_in (l3 + (1 : Int32)) Ln) (
    jg (jp_in (l3 + (2 : Int32)) Ln) (
    jg (jp_in (l3 + (3 : Int32)) Ln) (
    jg (jp_in (l3 + (4 : Int32)) Ln) (
    jg (jp_in (l3 + (5 : Int32)) Ln) (
    (f_C_would (xs (Int32.toNatClampNeg (l3 + (1 : Int32)))) (xs (Int32.toNatClampNeg (l3 + (2 : Int32)))) (xs (Int32.toNatClampNeg (l3 + (3 : Int32)))) (xs (Int32.toNatClampNeg (l3 + (4 : Int32)))) (xs (Int32.toNatClampNeg (l3 + (5 : Int32)))) M).bind fun q123 => (
    jg (jp_in (l3 + (1 : Int32)) Ln) (
    jg (jp_in (l3 + (2 : Int32)) Ln) (
    jg (jp_in (l3 + (3 : Int32)) Ln) (
    jg (jp_in (l3 + (4 : Int32)) Ln) (
    jg (jp_in (l3 + (5 : Int32)) Ln) (
    (f_M_would (xs (Int32.toNatClampNeg (l3 + (1 : Int32)))) (xs (Int32.toNatClampNeg (l3 + (2 : Int32)))) (xs (Int32.toNatClampNeg (l3 + (3 : Int32)))) (xs (Int32.toNatClampNeg (l3 + (4 : Int32)))) (xs (Int32.toNatClampNeg (l3 + (5 : Int32)))) q123.2).bind fun q129 => (
    if jp_c .eq q123.1 q129.1 = true then (
    f_LAW_1554 Ln xs (f_LAW_18 Ln xs n ) l3 w (q129.2)) else (
    some ((0 : Int32), w, q129.2))))))))))))))) else if ((xs (Int32.toNatClampNeg l3)) &&& (63 : Int32)) = (19 : Int32) then (
    jg (jp_in (l3 + (1 : Int32)) Ln) (
    jg (jp_in (l3 + (2 : Int32)) Ln) (
    (f_C_goes (xs (Int32.toNatClampNeg (l3 + (1 : Int32)))) (xs (Int32.toNatClampNeg (l3 + (2 : Int32)))) M).bind fun q132 => (
    jg (jp_in (l3 + (1 : Int32)) Ln) (
    jg (jp_in (l3 + (2 : Int32)) Ln) (
    (f_M_goes (xs (Int32.toNatClampNeg (l3 + (1 : Int32)))) (xs (Int32.toNatClampNeg (l3 + (2 : Int32)))) q132.2).bind fun q135 => (
    if jp_c .eq q132.1 q135.1 = true then (
    f_LAW_1554 Ln xs (f_LAW_18 Ln xs n ) l3 w (q135.2)) else (
    some ((0 : Int32), w, q135.2))))))))) else if ((xs (Int32.toNatClampNeg l3)) &&& (63 : Int32)) = (20 : Int32) then (
    jg (jp_in (l3 + (1 : Int32)) Ln) (
    jg (jp_in (l3 + (2 : Int32)) Ln) (
    jg (jp_in (l3 + (3 : Int32)) Ln) (
    (f_C_through (xs (Int32.toNatClampNeg (l3 + (1 : Int32)))) (xs (Int32.toNatClampNeg (l3 + (2 : Int32)))) (xs (Int32.toNatClampNeg (l3 + (3 : Int32)))) M).bind fun q139 => (
    jg (jp_in (l3 + (1 : Int32)) Ln) (
    jg (jp_in (l3 + (2 : Int32)) Ln) (
    jg (jp_in (l3 + (3 : Int32)) Ln) (
    (f_M_through (xs (Int32.toNatClampNeg (l3 + (1 : Int32)))) (xs (Int32.toNatClampNeg (l3 + (2 : Int32)))) (xs (Int32.toNatClampNeg (l3 + (3 : Int32)))) q139.2).bind fun q143 => (
    if jp_c .eq q139.1 q143.1 = true then (
    f_LAW_1554 Ln xs (f_LAW_18 Ln xs n ) l3 w (q143.2)) else (
    some ((0 : Int32), w, q143.2))))))))))) else if ((xs (Int32.toNatClampNeg l3)) &&& (63 : Int32)) = (21 : Int32) then (
    jg (jp_in (l3 + (1 : Int32)) Ln) (
    (f_C_wide (xs (Int32.toNatClampNeg (l3 + (1 : Int32)))) M).bind fun q145 => (
    jg (jp_in (l3 + (1 : Int32)) Ln) (
    (f_M_wide (xs (Int32.toNatClampNeg (l3 + (1 : Int32)))) q145.2).bind fun q147 => (
    if jp_c .eq q145.1 q147.1 = true then (
    f_LAW_1554 Ln xs (f_LAW_18 Ln xs n ) l3 w (q147.2)) else (
    some ((0 : Int32), w, q147.2))))))) else if ((xs (Int32.toNatClampNeg l3)) &&& (63 : Int32)) = (22 : Int32) then (
    jg (jp_in (l3 + (1 : Int32)) Ln) (
    jg (jp_in (l3 + (2 : Int32)) Ln) (
    jg (jp_in (l3 + (3 : Int32)) Ln) (
    (f_C_wish (xs (Int32.toNatClampNeg (l3 + (1 : Int32)))) (xs (Int32.toNatClampNeg (l3 + (2 : Int32)))) (xs (Int32.toNatClampNeg (l3 + (3 : Int32)))) M).bind fun q151 => (
    jg (jp_in (l3 + (1 : Int32)) Ln) (
    jg (jp_in (l3 + (2 : Int32)) Ln) (
    jg (jp_in (l3 + (3 : Int32)) Ln) (
    (f_M_wish (xs (Int32.toNatClampNeg (l3 + (1 : Int32)))) (xs (Int32.toNatClampNeg (l3 + (2 : Int32)))) (xs (Int32.toNatClampNeg (l3 + (3 : Int32)))) q151.2).bind fun q155 => (
    if jp_c .eq q151.1 q155.1 = true then (
    f_LAW_1554 Ln xs (f_LAW_18 Ln xs n ) l3 w (q155.2)) else (
    some ((0 : Int32), w, q155.2))))))))))) else if ((xs (Int32.toNatClampNeg l3)) &&& (63 : Int32)) = (23 : Int32) then (
    jg (jp_in (l3 + (1 : Int32)) Ln) (
    (f_C_beside (xs (Int32.toNatClampNeg (l3 + (1 : Int32)))) M).bind fun q157 => (
    jg (jp_in (l3 + (1 : Int32)) Ln) (
    (f_M_beside (xs (Int32.toNatClampNeg (l3 + (1 : Int32)))) q157.2).bind fun q159 => (
    if jp_c .eq q157.1 q159.1 = true then (
    f_LAW_1554 Ln xs (f_LAW_18 Ln xs n ) l3 w (q159.2)) else (
    some ((0 : Int32), w, q159.2))))))) else if ((xs (Int32.toNatClampNeg l3)) &&& (63 : Int32)) = (24 : Int32) then (
    jg (jp_in (l3 + (1 : Int32)) Ln) (
    jg (jp_in (l3 + (2 : Int32)) Ln) (
    (f_C_kite (xs (Int32.toNatClampNeg (l3 + (1 : Int32)))) (xs (Int32.toNatClampNeg (l3 + (2 : Int32)))) M).bind fun q162 => (
    jg (jp_in (l3 + (1 : Int32)) Ln) (
    jg (jp_in (l3 + (2 : Int32)) Ln) (
    (f_M_kite (xs (Int32.toNatClampNeg (l3 + (1 : Int32)))) (xs (Int32.toNatClampNeg (l3 + (2 : Int32)))) q162.2).bind fun q165 => (
    if jp_c .eq q162.1 q165.1 = true then (
    f_LAW_1554 Ln xs (f_LAW_18 Ln xs n ) l3 w (q165.2)) else (
    some ((0 : Int32), w, q165.2))))))))) else if ((xs (Int32.toNatClampNeg l3)) &&& (63 : Int32)) = (25 : Int32) then (
    jg (jp_in (l3 + (1 : Int32)) Ln) (
    (f_C_strings (xs (Int32.toNatClampNeg (l3 + (1 : Int32)))) M).bind fun q167 => (
    jg (jp_in (l3 + (1 : Int32)) Ln) (
    (f_M_strings (xs (Int32.toNatClampNeg (l3 + (1 : Int32)))) q167.2).bind fun q169 => (
    if jp_c .eq q167.1 q169.1 = true then (
    f_LAW_1554 Ln xs (f_LAW_18 Ln xs n ) l3 w (q169.2)) else (
    some ((0 : Int32), w, q169.2))))))) else if ((xs (Int32.toNatClampNeg l3)) &&& (63 : Int32)) = (26 : Int32) then (
    jg (jp_in (l3 + (1 : Int32)) Ln) (
    jg (jp_in (l3 + (2 : Int32)) Ln) (
    jg (jp_in (l3 + (3 : Int32)) Ln) (
    (f_C_way (xs (Int32.toNatClampNeg (l3 + (1 : Int32)))) (xs (Int32.toNatClampNeg (l3 + (2 : Int32)))) (xs (Int32.toNatClampNeg (l3 + (3 : Int32)))) M).bind fun q173 => (
    jg (jp_in (l3 + (1 : Int32)) Ln) (
    jg (jp_in (l3 + (2 : Int32)) Ln) (
    jg (jp_in (l3 + (3 : Int32)) Ln) (
    (f_M_way (xs (Int32.toNatClampNeg (l3 + (1 : Int32)))) (xs (Int32.toNatClampNeg (l3 + (2 : Int32)))) (xs (Int32.toNatClampNeg (l3 + (3 : Int32)))) q173.2).bind fun q177 => (
    if jp_c .eq q173.1 q177.1 = true then (
    f_LAW_1554 Ln xs (f_LAW_18 Ln xs n ) l3 w (q177.2)) else (
    some ((0 : Int32), w, q177.2))))))))))) else if ((xs (Int32.toNatClampNeg l3)) &&& (63 : Int32)) = (27 : Int32) then (
    jg (jp_in (l3 + (1 : Int32)) Ln) (
    (f_C_eaves (xs (Int32.toNatClampNeg (l3 + (1 : Int32)))) M).bind fun q179 => (
    jg (jp_in (l3 + (1 : Int32)) Ln) (
    (f_M_eaves (xs (Int32.toNatClampNeg (l3 + (1 : Int32)))) q179.2).bind fun q181 => (
    if jp_c .eq q179.1 q181.1 = true then (
    f_LAW_1554 Ln xs (f_LAW_18 Ln xs n ) l3 w (q181.2)) else (
    some ((0 : Int32), w, q181.2))))))) else if ((xs (Int32.toNatClampNeg l3)) &&& (63 : Int32)) = (28 : Int32) then (
    jg (jp_in (l3 + (1 : Int32)) Ln) (
    jg (jp_in (l3 + (2 : Int32)) Ln) (
    (f_C_cites (xs (Int32.toNatClampNeg (l3 + (1 : Int32)))) (xs (Int32.toNatClampNeg (l3 + (2 : Int32)))) M).bind fun q184 => (
    jg (jp_in (l3 + (1 : Int32)) Ln) (
    jg (jp_in (l3 + (2 : Int32)) Ln) (
    (f_M_cites (xs (Int32.toNatClampNeg (l3 + (1 : Int32)))) (xs (Int32.toNatClampNeg (l3 + (2 : Int32)))) q184.2).bind fun q187 => (
    if jp_c .eq q184.1 q187.1 = true then (
    f_LAW_1554 Ln xs (f_LAW_18 Ln xs n ) l3 w (q187.2)) else (
    some ((0 : Int32), w, q187.2))))))))) else if ((xs (Int32.toNatClampNeg l3)) &&& (63 : Int32)) = (29 : Int32) then (
    jg (jp_in (l3 + (1 : Int32)) Ln) (
    jg (jp_in (l3 + (2 : Int32)) Ln) (
    (f_C_voice (xs (Int32.toNatClampNeg (l3 + (1 : Int32)))) (xs (Int32.toNatClampNeg (l3 + (2 : Int32)))) M).bind fun q190 => (
    jg (jp_in (l3 + (1 : Int32)) Ln) (
    jg (jp_in (l3 + (2 : Int32)) Ln) (
    (f_M_voice (xs (Int32.toNatClampNeg (l3 + (1 : Int32)))) (xs (Int32.toNatClampNeg (l3 + (2 : Int32)))) q190.2).bind fun q193 => (
    if jp_c .eq q190.1 q193.1 = true then (
    f_LAW_1554 Ln xs (f_LAW_18 Ln xs n ) l3 w (q193.2)) else (
    some ((0 : Int32), w, q193.2))))))))) else if ((xs (Int32.toNatClampNeg l3)) &&& (63 : Int32)) = (30 : Int32) then (
    jg (jp_in (l3 + (1 : Int32)) Ln) (
    (f_C_asked (xs (Int32.toNatClampNeg (l3 + (1 : Int32)))) M).bind fun q195 => (
    jg (jp_in (l3 + (1 : Int32)) Ln) (
    (f_M_asked (xs (Int32.toNatClampNeg (l3 + (1 : Int32)))) q195.2).bind fun q197 => (
    if jp_c .eq q195.1 q197.1 = true then (
    f_LAW_1554 Ln xs (f_LAW_18 Ln xs n ) l3 w (q197.2)) else (
    some ((0 : Int32), w, q197.2))))))) else if ((xs (Int32.toNatClampNeg l3)) &&& (63 : Int32)) = (31 : Int32) then (
    jg (jp_in (l3 + (1 : Int32)) Ln) (
    jg (jp_in (l3 + (2 : Int32)) Ln) (
    (f_C_upright (xs (Int32.toNatClampNeg (l3 + (1 : Int32)))) (xs (Int32.toNatClampNeg (l3 + (2 : Int32)))) M).bind fun q200 => (
    jg (jp_in (l3 + (1 : Int32)) Ln) (
    jg (jp_in (l3 + (2 : Int32)) Ln) (
    (f_M_upright (xs (Int32.toNatClampNeg (l3 + (1 : Int32)))) (xs (Int32.toNatClampNeg (l3 + (2 : Int32)))) q200.2).bind fun q203 => (
    if jp_c .eq q200.1 q203.1 = true then (
    f_LAW_1554 Ln xs (f_LAW_18 Ln xs n ) l3 w (q203.2)) else (
    some ((0 : Int32), w, q203.2))))))))) else if ((xs (Int32.toNatClampNeg l3)) &&& (63 : Int32)) = (32 : Int32) then (
    jg (jp_in (l3 + (1 : Int32)) Ln) (
    jg (jp_in (l3 + (2 : Int32)) Ln) (
    jg (jp_in (l3 + (3 : Int32)) Ln) (
    jg (jp_in (l3 + (4 : Int32)) Ln) (
    (f_C_point (xs (Int32.toNatClampNeg (l3 + (1 : Int32)))) (xs (Int32.toNatClampNeg (l3 + (2 : Int32)))) (xs (Int32.toNatClampNeg (l3 + (3 : Int32)))) (xs (Int32.toNatClampNeg (l3 + (4 : Int32)))) M).bind fun q208 => (
    jg (jp_in (l3 + (1 : Int32)) Ln) (
    jg (jp_in (l3 + (2 : Int32)) Ln) (
    jg (jp_in (l3 + (3 : Int32)) Ln) (
    jg (jp_in (l3 + (4 : Int32)) Ln) (
    (f_M_point (xs (Int32.toNatClampNeg (l3 + (1 : Int32)))) (xs (Int32.toNatClampNeg (l3 + (2 : Int32)))) (xs (Int32.toNatClampNeg (l3 + (3 : Int32)))) (xs (Int32.toNatClampNeg (l3 + (4 : Int32)))) q208.2).bind fun q213 => (
    if jp_c .eq q208.1 q213.1 = true then (
    f_LAW_1554 Ln xs (f_LAW_18 Ln xs n ) l3 w (q213.2)) else (
    some ((0 : Int32), w, q213.2))))))))))))) else if ((xs (Int32.toNatClampNeg l3)) &&& (63 : Int32)) = (33 : Int32) then (
    jg (jp_in (l3 + (1 : Int32)) Ln) (
    (f_C_arbiter (xs (Int32.toNatClampNeg (l3 + (1 : Int32)))) M).bind fun q215 => (
    jg (jp_in (l3 + (1 : Int32)) Ln) (
    (f_M_arbiter (xs (Int32.toNatClampNeg (l3 + (1 : Int32)))) q215.2).bind fun q217 => (
    if jp_c .eq q215.1 q217.1 = true then (
    f_LAW_1554 Ln xs (f_LAW_18 Ln xs n ) l3 w (q217.2)) else (
    some ((0 : Int32), w, q217.2))))))) else if ((xs (Int32.toNatClampNeg l3)) &&& (63 : Int32)) = (34 : Int32) then (
    jg (jp_in (l3 + (1 : Int32)) Ln) (
    jg (jp_in (l3 + (2 : Int32)) Ln) (
    jg (jp_in (l3 + (3 : Int32)) Ln) (
    (f_C_ball (xs (Int32.toNatClampNeg (l3 + (1 : Int32)))) (xs (Int32.toNatClampNeg (l3 + (2 : Int32)))) (xs (Int32.toNatClampNeg (l3 + (3 : Int32))))).bind fun q221 => (
    jg (jp_in (l3 + (1 : Int32)) Ln) (
    jg (jp_in (l3 + (2 : Int32)) Ln) (
    jg (jp_in (l3 + (3 : Int32)) Ln) (
    (f_M_ball (xs (Int32.toNatClampNeg (l3 + (1 : Int32)))) (xs (Int32.toNatClampNeg (l3 + (2 : Int32)))) (xs (Int32.toNatClampNeg (l3 + (3 : Int32)))) M).bind fun q225 => (
    if jp_c .eq q221 q225.1 = true then (
    f_LAW_1554 Ln xs (f_LAW_18 Ln xs n ) l3 w (q225.2)) else (
    some ((0 : Int32), w, q225.2))))))))))) else if ((xs (Int32.toNatClampNeg l3)) &&& (63 : Int32)) = (35 : Int32) then (
    jg (jp_in (l3 + (1 : Int32)) Ln) (
    (f_C_game (xs (Int32.toNatClampNeg (l3 + (1 : Int32)))) M).bind fun q227 => (
    jg (jp_in (l3 + (1 : Int32)) Ln) (
    (f_M_game (xs (Int32.toNatClampNeg (l3 + (1 : Int32)))) M).bind fun q229 => (
    if jp_c .eq q227 q229.1 = true then (
    f_LAW_1554 Ln xs (f_LAW_18 Ln xs n ) l3 w (q229.2)) else (
    some ((0 : Int32), w, q229.2))))))) else if ((xs (Int32.toNatClampNeg l3)) &&& (63 : Int32)) = (36 : Int32) then (
    jg (jp_in (l3 + (1 : Int32)) Ln) (
    (f_C_leaps (xs (Int32.toNatClampNeg (l3 + (1 : Int32)))) M).bind fun q231 => (
    jg (jp_in (l3 + (1 : Int32)) Ln) (
    (f_M_leaps (xs (Int32.toNatClampNeg (l3 + (1 : Int32)))) q231.2).bind fun q233 => (
    if jp_c .eq q231.1 q233.1 = true then (
    f_LAW_1554 Ln xs (f_LAW_18 Ln xs n ) l3 w (q233.2)) else (
    some ((0 : Int32), w, q233.2))))))) else if ((xs (Int32.toNatClampNeg l3)) &&& (63 : Int32)) = (37 : Int32) then (
    (f_C_undo M).bind fun q234 => (
    (f_M_undo q234.2).bind fun q235 => (
    if jp_c .eq q234.1 q235.1 = true then (
    f_LAW_1554 Ln xs (f_LAW_18 Ln xs n ) l3 w (q235.2)) else (
    some ((0 : Int32), w, q235.2))))) else if ((xs (Int32.toNatClampNeg l3)) &&& (63 : Int32)) = (38 : Int32) then (
    jg (jp_in (l3 + (1 : Int32)) Ln) (
    if jp_c .eq (xs (Int32.toNatClampNeg (l3 + (1 : Int32)))) 0 = true then (
    f_LAW_1506 Ln xs (f_LAW_18 Ln xs n ) l3 (0 : Int32) w M) else (
    f_LAW_1506 Ln xs (f_LAW_18 Ln xs n ) l3 (1 : Int32) w M))) else if ((xs (Int32.toNatClampNeg l3)) &&& (63 : Int32)) = (39 : Int32) then (
    jg (jp_in (l3 + (1 : Int32)) Ln) (
    (f_C_look (xs (Int32.toNatClampNeg (l3 + (1 : Int32)))) M).bind fun q238 => (
    jg (jp_in (l3 + (1 : Int32)) Ln) (
    (f_M_look (xs (Int32.toNatClampNeg (l3 + (1 : Int32)))) M).bind fun q240 => (
    if jp_c .eq q238 q240.1 = true then (
    f_LAW_1554 Ln xs (f_LAW_18 Ln xs n ) l3 w (q240.2)) else (
    some ((0 : Int32), w, q240.2))))))) else (
    f_LAW_1554 Ln xs (f_LAW_18 Ln xs n ) l3 w M)))
set_option maxHeartbeats 4000000 in
set_option maxRecDepth 100000 in
theorem t_LAW_18 {nc ns : Nat} (hg : nc ≤ 600000 ∧ ns ≤ 7302250) {Ln : Nat} {xs : Nat → Int32} {sv : jp_V} {d : Nat} (hd : 113 ≤ d)  : ∀ (n : Nat) (l3 : Int32) (w : Nat) (M : jp_M) {res : Int32 × Nat × jp_M}, f_LAW_18 Ln xs n  l3 w M = some res → lR (600000, 7302250, nc, ns) (jZ (jK Ln xs sv)) d 315 18 ([some (.inr (some 2000)), some (.inr (some 0)), some (.inr (some 104)), some (.inl l3)], [], jSH w, M) (some (.inl res.1), jSH res.2.1, res.2.2) := by
  intro n
  induction n with
  | zero =>
    intro l3 w M res hf
    cases hf
  | succ n ih =>
    intro l3 w M res hf
    rw [f_LAW_18] at hf
    refine lR_in rfl rfl rfl ?_
    refine ls_iload_n rfl ?_
    refine ls_aload_n rfl ?_
    refine ls_alenK (v := (Int32.ofNat Ln)) rfl rfl rfl ?_
    refine ls_bipush (v := (6 : Int32)) rfl ?_
    refine ls_isub ?_
    refine ls_icmp (tgt := 1560) rfl rfl (fun h => ?_) (fun h => ?_)
    · have hf := jif_t hf h
      refine lR_in rfl rfl rfl ?_
      refine ls_iconst (v := (1 : Int32)) rfl ?_
      obtain rfl := Option.some.inj hf
      exact ls_iret rfl rfl
    · have hf := jif_f hf h
      refine ls_aload_n rfl ?_
      refine ls_iload_n rfl ?_
      obtain ⟨hb1, hf⟩ := jg_some hf
      refine ls_ialdK rfl rfl hb1 ?_
      refine ls_bipush (v := (63 : Int32)) rfl ?_
      refine ls_iand ?_
      rcases jif_d hf with ⟨hk, hf⟩ | ⟨hk0, hf⟩
      · refine ls_tabIn (v := (0 : Int32)) (off := 175) (tgt := 208) hk rfl rfl rfl rfl ?_
        refine lR_in rfl rfl rfl ?_
        refine ls_aload_n rfl ?_
        refine ls_aload_n rfl ?_
        refine ls_iload_n rfl ?_
        refine ls_iconst (v := (1 : Int32)) rfl ?_
        refine ls_iadd ?_
        obtain ⟨hb2, hf⟩ := jg_some hf
        refine ls_ialdK rfl rfl hb2 ?_
        refine ls_c2i hg rfl rfl ⟨rfl, rfl⟩ rfl rfl (t_C_state rfl) (by omega) ?_
        refine ls_aload_n rfl ?_
        refine ls_aload_n rfl ?_
        refine ls_iload_n rfl ?_
        refine ls_iconst (v := (1 : Int32)) rfl ?_
        refine ls_iadd ?_
        obtain ⟨hb4, hf⟩ := jg_some hf
        refine ls_ialdK rfl rfl hb4 ?_
        refine ls_c2i hg rfl rfl ⟨rfl, rfl⟩ rfl rfl (t_M_state rfl) (by omega) ?_
        refine ls_icmp (tgt := 1554) rfl rfl (fun h => ?_) (fun h => ?_)
        · have hf := jif_t hf h
          exact t_LAW_1554 hg hd (fun l3 w M res hf => ih l3 w M hf) _ _ _ hf
        · have hf := jif_f hf h
          refine ls_iconst (v := (0 : Int32)) rfl ?_
          obtain rfl := Option.some.inj hf
          exact ls_iret rfl rfl
      · rcases jif_d hf with ⟨hk, hf⟩ | ⟨hk1, hf⟩
        · refine ls_tabIn (v := (1 : Int32)) (off := 198) (tgt := 231) hk rfl rfl rfl rfl ?_
          refine lR_in rfl rfl rfl ?_
          refine ls_aload_n rfl ?_
          refine ls_aload_n rfl ?_
          refine ls_iload_n rfl ?_
          refine ls_iconst (v := (1 : Int32)) rfl ?_
          refine ls_iadd ?_
          obtain ⟨hb6, hf⟩ := jg_some hf
          refine ls_ialdK rfl rfl hb6 ?_
          refine ls_aload_n rfl ?_
          refine ls_iload_n rfl ?_
          refine ls_iconst (v := (2 : Int32)) rfl ?_
          refine ls_iadd ?_
          obtain ⟨hb7, hf⟩ := jg_some hf
          refine ls_ialdK rfl rfl hb7 ?_
          refine ls_aload_n rfl ?_
          refine ls_iload_n rfl ?_
          refine ls_iconst (v := (3 : Int32)) rfl ?_
          refine ls_iadd ?_
          obtain ⟨hb8, hf⟩ := jg_some hf
          refine ls_ialdK rfl rfl hb8 ?_
          obtain ⟨q9, hc_9, hf⟩ := jbind hf
          refine ls_c4i hg rfl rfl ⟨rfl, rfl⟩ rfl rfl (t_C_person hc_9) (by omega) ?_
          refine ls_aload_n rfl ?_
          refine ls_aload_n rfl ?_
          refine ls_iload_n rfl ?_
          refine ls_iconst (v := (1 : Int32)) rfl ?_
          refine ls_iadd ?_
          obtain ⟨hb10, hf⟩ := jg_some hf
          refine ls_ialdK rfl rfl hb10 ?_
          refine ls_aload_n rfl ?_
          refine ls_iload_n rfl ?_
          refine ls_iconst (v := (2 : Int32)) rfl ?_
          refine ls_iadd ?_
          obtain ⟨hb11, hf⟩ := jg_some hf
          refine ls_ialdK rfl rfl hb11 ?_
          refine ls_aload_n rfl ?_
          refine ls_iload_n rfl ?_
          refine ls_iconst (v := (3 : Int32)) rfl ?_
          refine ls_iadd ?_
          obtain ⟨hb12, hf⟩ := jg_some hf
          refine ls_ialdK rfl rfl hb12 ?_
          obtain ⟨q13, hc_13, hf⟩ := jbind hf
          refine ls_c4i hg rfl rfl ⟨rfl, rfl⟩ rfl rfl (t_M_person hc_13) (by omega) ?_
          refine ls_icmp (tgt := 1554) rfl rfl (fun h => ?_) (fun h => ?_)
          · have hf := jif_t hf h
            exact t_LAW_1554 hg hd (fun l3 w M res hf => ih l3 w M hf) _ _ _ hf
          · have hf := jif_f hf h
            refine ls_iconst (v := (0 : Int32)) rfl ?_
            obtain rfl := Option.some.inj hf
            exact ls_iret rfl rfl
        · rcases jif_d hf with ⟨hk, hf⟩ | ⟨hk2, hf⟩
          · refine ls_tabIn (v := (2 : Int32)) (off := 241) (tgt := 274) hk rfl rfl rfl rfl ?_
            refine lR_in rfl rfl rfl ?_
            refine ls_aload_n rfl ?_
            refine ls_aload_n rfl ?_
            refine ls_iload_n rfl ?_
            refine ls_iconst (v := (1 : Int32)) rfl ?_
            refine ls_iadd ?_
            obtain ⟨hb14, hf⟩ := jg_some hf
            refine ls_ialdK rfl rfl hb14 ?_
            refine ls_aload_n rfl ?_
            refine ls_iload_n rfl ?_
            refine ls_iconst (v := (2 : Int32)) rfl ?_
            refine ls_iadd ?_
            obtain ⟨hb15, hf⟩ := jg_some hf
            refine ls_ialdK rfl rfl hb15 ?_
            obtain ⟨q16, hc_16, hf⟩ := jbind hf
            refine ls_c3i hg rfl rfl ⟨rfl, rfl⟩ rfl rfl (t_C_swallow hc_16) (by omega) ?_
            refine ls_aload_n rfl ?_
            refine ls_aload_n rfl ?_
            refine ls_iload_n rfl ?_
            refine ls_iconst (v := (1 : Int32)) rfl ?_
            refine ls_iadd ?_
            obtain ⟨hb17, hf⟩ := jg_some hf
            refine ls_ialdK rfl rfl hb17 ?_
            refine ls_aload_n rfl ?_
            refine ls_iload_n rfl ?_
            refine ls_iconst (v := (2 : Int32)) rfl ?_
            refine ls_iadd ?_
            obtain ⟨hb18, hf⟩ := jg_some hf
            refine ls_ialdK rfl rfl hb18 ?_
            obtain ⟨q19, hc_19, hf⟩ := jbind hf
            refine ls_c3i hg rfl rfl ⟨rfl, rfl⟩ rfl rfl (t_M_swallow hc_19) (by omega) ?_
            refine ls_icmp (tgt := 1554) rfl rfl (fun h => ?_) (fun h => ?_)
            · have hf := jif_t hf h
              exact t_LAW_1554 hg hd (fun l3 w M res hf => ih l3 w M hf) _ _ _ hf
            · have hf := jif_f hf h
              refine ls_iconst (v := (0 : Int32)) rfl ?_
              obtain rfl := Option.some.inj hf
              exact ls_iret rfl rfl
          · rcases jif_d hf with ⟨hk, hf⟩ | ⟨hk3, hf⟩
            · refine ls_tabIn (v := (3 : Int32)) (off := 274) (tgt := 307) hk rfl rfl rfl rfl ?_
              refine lR_in rfl rfl rfl ?_
              refine ls_aload_n rfl ?_
              refine ls_aload_n rfl ?_
              refine ls_iload_n rfl ?_
              refine ls_iconst (v := (1 : Int32)) rfl ?_
              refine ls_iadd ?_
              obtain ⟨hb20, hf⟩ := jg_some hf
              refine ls_ialdK rfl rfl hb20 ?_
              refine ls_aload_n rfl ?_
              refine ls_iload_n rfl ?_
              refine ls_iconst (v := (2 : Int32)) rfl ?_
              refine ls_iadd ?_
              obtain ⟨hb21, hf⟩ := jg_some hf
              refine ls_ialdK rfl rfl hb21 ?_
              refine ls_aload_n rfl ?_
              refine ls_iload_n rfl ?_
              refine ls_iconst (v := (3 : Int32)) rfl ?_
              refine ls_iadd ?_
              obtain ⟨hb22, hf⟩ := jg_some hf
              refine ls_ialdK rfl rfl hb22 ?_
              obtain ⟨q23, hc_23, hf⟩ := jbind hf
              refine ls_c4i hg rfl rfl ⟨rfl, rfl⟩ rfl rfl (t_C_set hc_23) (by omega) ?_
              refine ls_aload_n rfl ?_
              refine ls_aload_n rfl ?_
              refine ls_iload_n rfl ?_
              refine ls_iconst (v := (1 : Int32)) rfl ?_
              refine ls_iadd ?_
              obtain ⟨hb24, hf⟩ := jg_some hf
              refine ls_ialdK rfl rfl hb24 ?_
              refine ls_aload_n rfl ?_
              refine ls_iload_n rfl ?_
              refine ls_iconst (v := (2 : Int32)) rfl ?_
              refine ls_iadd ?_
              obtain ⟨hb25, hf⟩ := jg_some hf
              refine ls_ialdK rfl rfl hb25 ?_
              refine ls_aload_n rfl ?_
              refine ls_iload_n rfl ?_
              refine ls_iconst (v := (3 : Int32)) rfl ?_
              refine ls_iadd ?_
              obtain ⟨hb26, hf⟩ := jg_some hf
              refine ls_ialdK rfl rfl hb26 ?_
              obtain ⟨q27, hc_27, hf⟩ := jbind hf
              refine ls_c4i hg rfl rfl ⟨rfl, rfl⟩ rfl rfl (t_M_set hc_27) (by omega) ?_
              refine ls_icmp (tgt := 1554) rfl rfl (fun h => ?_) (fun h => ?_)
              · have hf := jif_t hf h
                exact t_LAW_1554 hg hd (fun l3 w M res hf => ih l3 w M hf) _ _ _ hf
              · have hf := jif_f hf h
                refine ls_iconst (v := (0 : Int32)) rfl ?_
                obtain rfl := Option.some.inj hf
                exact ls_iret rfl rfl
            · rcases jif_d hf with ⟨hk, hf⟩ | ⟨hk4, hf⟩
              · refine ls_tabIn (v := (4 : Int32)) (off := 317) (tgt := 350) hk rfl rfl rfl rfl ?_
                refine lR_in rfl rfl rfl ?_
                refine ls_aload_n rfl ?_
                refine ls_aload_n rfl ?_
                refine ls_iload_n rfl ?_
                refine ls_iconst (v := (1 : Int32)) rfl ?_
                refine ls_iadd ?_
                obtain ⟨hb28, hf⟩ := jg_some hf
                refine ls_ialdK rfl rfl hb28 ?_
                refine ls_aload_n rfl ?_
                refine ls_iload_n rfl ?_
                refine ls_iconst (v := (2 : Int32)) rfl ?_
                refine ls_iadd ?_
                obtain ⟨hb29, hf⟩ := jg_some hf
                refine ls_ialdK rfl rfl hb29 ?_
                refine ls_aload_n rfl ?_
                refine ls_iload_n rfl ?_
                refine ls_iconst (v := (3 : Int32)) rfl ?_
                refine ls_iadd ?_
                obtain ⟨hb30, hf⟩ := jg_some hf
                refine ls_ialdK rfl rfl hb30 ?_
                refine ls_aload_n rfl ?_
                refine ls_iload_n rfl ?_
                refine ls_iconst (v := (4 : Int32)) rfl ?_
                refine ls_iadd ?_
                obtain ⟨hb31, hf⟩ := jg_some hf
                refine ls_ialdK rfl rfl hb31 ?_
                refine ls_aload_n rfl ?_
                refine ls_iload_n rfl ?_
                refine ls_iconst (v := (5 : Int32)) rfl ?_
                refine ls_iadd ?_
                obtain ⟨hb32, hf⟩ := jg_some hf
                refine ls_ialdK rfl rfl hb32 ?_
                obtain ⟨q33, hc_33, hf⟩ := jbind hf
                refine ls_c6i hg rfl rfl ⟨rfl, rfl⟩ rfl rfl (t_C_ask hc_33) (by omega) ?_
                refine ls_aload_n rfl ?_
                refine ls_aload_n rfl ?_
                refine ls_iload_n rfl ?_
                refine ls_iconst (v := (1 : Int32)) rfl ?_
                refine ls_iadd ?_
                obtain ⟨hb34, hf⟩ := jg_some hf
                refine ls_ialdK rfl rfl hb34 ?_
                refine ls_aload_n rfl ?_
                refine ls_iload_n rfl ?_
                refine ls_iconst (v := (2 : Int32)) rfl ?_
                refine ls_iadd ?_
                obtain ⟨hb35, hf⟩ := jg_some hf
                refine ls_ialdK rfl rfl hb35 ?_
                refine ls_aload_n rfl ?_
                refine ls_iload_n rfl ?_
                refine ls_iconst (v := (3 : Int32)) rfl ?_
                refine ls_iadd ?_
                obtain ⟨hb36, hf⟩ := jg_some hf
                refine ls_ialdK rfl rfl hb36 ?_
                refine ls_aload_n rfl ?_
                refine ls_iload_n rfl ?_
                refine ls_iconst (v := (4 : Int32)) rfl ?_
                refine ls_iadd ?_
                obtain ⟨hb37, hf⟩ := jg_some hf
                refine ls_ialdK rfl rfl hb37 ?_
                refine ls_aload_n rfl ?_
                refine ls_iload_n rfl ?_
                refine ls_iconst (v := (5 : Int32)) rfl ?_
                refine ls_iadd ?_
                obtain ⟨hb38, hf⟩ := jg_some hf
                refine ls_ialdK rfl rfl hb38 ?_
                obtain ⟨q39, hc_39, hf⟩ := jbind hf
                refine ls_c6i hg rfl rfl ⟨rfl, rfl⟩ rfl rfl (t_M_ask hc_39) (by omega) ?_
                refine ls_icmp (tgt := 1554) rfl rfl (fun h => ?_) (fun h => ?_)
                · have hf := jif_t hf h
                  exact t_LAW_1554 hg hd (fun l3 w M res hf => ih l3 w M hf) _ _ _ hf
                · have hf := jif_f hf h
                  refine ls_iconst (v := (0 : Int32)) rfl ?_
                  obtain rfl := Option.some.inj hf
                  exact ls_iret rfl rfl
              · rcases jif_d hf with ⟨hk, hf⟩ | ⟨hk5, hf⟩
                · refine ls_tabIn (v := (5 : Int32)) (off := 380) (tgt := 413) hk rfl rfl rfl rfl ?_
                  refine lR_in rfl rfl rfl ?_
                  refine ls_aload_n rfl ?_
                  refine ls_aload_n rfl ?_
                  refine ls_iload_n rfl ?_
                  refine ls_iconst (v := (1 : Int32)) rfl ?_
                  refine ls_iadd ?_
                  obtain ⟨hb40, hf⟩ := jg_some hf
                  refine ls_ialdK rfl rfl hb40 ?_
                  refine ls_aload_n rfl ?_
                  refine ls_iload_n rfl ?_
                  refine ls_iconst (v := (2 : Int32)) rfl ?_
                  refine ls_iadd ?_
                  obtain ⟨hb41, hf⟩ := jg_some hf
                  refine ls_ialdK rfl rfl hb41 ?_
                  refine ls_aload_n rfl ?_
                  refine ls_iload_n rfl ?_
                  refine ls_iconst (v := (3 : Int32)) rfl ?_
                  refine ls_iadd ?_
                  obtain ⟨hb42, hf⟩ := jg_some hf
                  refine ls_ialdK rfl rfl hb42 ?_
                  refine ls_aload_n rfl ?_
                  refine ls_iload_n rfl ?_
                  refine ls_iconst (v := (4 : Int32)) rfl ?_
                  refine ls_iadd ?_
                  obtain ⟨hb43, hf⟩ := jg_some hf
                  refine ls_ialdK rfl rfl hb43 ?_
                  refine ls_aload_n rfl ?_
                  refine ls_iload_n rfl ?_
                  refine ls_iconst (v := (5 : Int32)) rfl ?_
                  refine ls_iadd ?_
                  obtain ⟨hb44, hf⟩ := jg_some hf
                  refine ls_ialdK rfl rfl hb44 ?_
                  obtain ⟨q45, hc_45, hf⟩ := jbind hf
                  refine ls_c6i hg rfl rfl ⟨rfl, rfl⟩ rfl rfl (t_C_take hc_45) (by omega) ?_
                  refine ls_aload_n rfl ?_
                  refine ls_aload_n rfl ?_
                  refine ls_iload_n rfl ?_
                  refine ls_iconst (v := (1 : Int32)) rfl ?_
                  refine ls_iadd ?_
                  obtain ⟨hb46, hf⟩ := jg_some hf
                  refine ls_ialdK rfl rfl hb46 ?_
                  refine ls_aload_n rfl ?_
                  refine ls_iload_n rfl ?_
                  refine ls_iconst (v := (2 : Int32)) rfl ?_
                  refine ls_iadd ?_
                  obtain ⟨hb47, hf⟩ := jg_some hf
                  refine ls_ialdK rfl rfl hb47 ?_
                  refine ls_aload_n rfl ?_
                  refine ls_iload_n rfl ?_
                  refine ls_iconst (v := (3 : Int32)) rfl ?_
                  refine ls_iadd ?_
                  obtain ⟨hb48, hf⟩ := jg_some hf
                  refine ls_ialdK rfl rfl hb48 ?_
                  refine ls_aload_n rfl ?_
                  refine ls_iload_n rfl ?_
                  refine ls_iconst (v := (4 : Int32)) rfl ?_
                  refine ls_iadd ?_
                  obtain ⟨hb49, hf⟩ := jg_some hf
                  refine ls_ialdK rfl rfl hb49 ?_
                  refine ls_aload_n rfl ?_
                  refine ls_iload_n rfl ?_
                  refine ls_iconst (v := (5 : Int32)) rfl ?_
                  refine ls_iadd ?_
                  obtain ⟨hb50, hf⟩ := jg_some hf
                  refine ls_ialdK rfl rfl hb50 ?_
                  obtain ⟨q51, hc_51, hf⟩ := jbind hf
                  refine ls_c6i hg rfl rfl ⟨rfl, rfl⟩ rfl rfl (t_M_take hc_51) (by omega) ?_
                  refine ls_icmp (tgt := 1554) rfl rfl (fun h => ?_) (fun h => ?_)
                  · have hf := jif_t hf h
                    exact t_LAW_1554 hg hd (fun l3 w M res hf => ih l3 w M hf) _ _ _ hf
                  · have hf := jif_f hf h
                    refine ls_iconst (v := (0 : Int32)) rfl ?_
                    obtain rfl := Option.some.inj hf
                    exact ls_iret rfl rfl
                · rcases jif_d hf with ⟨hk, hf⟩ | ⟨hk6, hf⟩
                  · refine ls_tabIn (v := (6 : Int32)) (off := 443) (tgt := 476) hk rfl rfl rfl rfl ?_
                    refine lR_in rfl rfl rfl ?_
                    refine ls_aload_n rfl ?_
                    refine ls_aload_n rfl ?_
                    refine ls_iload_n rfl ?_
                    refine ls_iconst (v := (1 : Int32)) rfl ?_
                    refine ls_iadd ?_
                    obtain ⟨hb52, hf⟩ := jg_some hf
                    refine ls_ialdK rfl rfl hb52 ?_
                    obtain ⟨q53, hc_53, hf⟩ := jbind hf
                    refine ls_c2i hg rfl rfl ⟨rfl, rfl⟩ rfl rfl (t_C_ends hc_53) (by omega) ?_
                    refine ls_aload_n rfl ?_
                    refine ls_aload_n rfl ?_
                    refine ls_iload_n rfl ?_
                    refine ls_iconst (v := (1 : Int32)) rfl ?_
                    refine ls_iadd ?_
                    obtain ⟨hb54, hf⟩ := jg_some hf
                    refine ls_ialdK rfl rfl hb54 ?_
                    obtain ⟨q55, hc_55, hf⟩ := jbind hf
                    refine ls_c2i hg rfl rfl ⟨rfl, rfl⟩ rfl rfl (t_M_ends hc_55) (by omega) ?_
                    refine ls_icmp (tgt := 1554) rfl rfl (fun h => ?_) (fun h => ?_)
                    · have hf := jif_t hf h
                      exact t_LAW_1554 hg hd (fun l3 w M res hf => ih l3 w M hf) _ _ _ hf
                    · have hf := jif_f hf h
                      refine ls_iconst (v := (0 : Int32)) rfl ?_
                      obtain rfl := Option.some.inj hf
                      exact ls_iret rfl rfl
                  · rcases jif_d hf with ⟨hk, hf⟩ | ⟨hk7, hf⟩
                    · refine ls_tabIn (v := (7 : Int32)) (off := 466) (tgt := 499) hk rfl rfl rfl rfl ?_
                      refine lR_in rfl rfl rfl ?_
                      refine ls_aload_n rfl ?_
                      refine ls_aload_n rfl ?_
                      refine ls_iload_n rfl ?_
                      refine ls_iconst (v := (1 : Int32)) rfl ?_
                      refine ls_iadd ?_
                      obtain ⟨hb56, hf⟩ := jg_some hf
                      refine ls_ialdK rfl rfl hb56 ?_
                      refine ls_aload_n rfl ?_
                      refine ls_iload_n rfl ?_
                      refine ls_iconst (v := (2 : Int32)) rfl ?_
                      refine ls_iadd ?_
                      obtain ⟨hb57, hf⟩ := jg_some hf
                      refine ls_ialdK rfl rfl hb57 ?_
                      obtain ⟨q58, hc_58, hf⟩ := jbind hf
                      refine ls_c3i hg rfl rfl ⟨rfl, rfl⟩ rfl rfl (t_C_nest hc_58) (by omega) ?_
                      refine ls_aload_n rfl ?_
                      refine ls_aload_n rfl ?_
                      refine ls_iload_n rfl ?_
                      refine ls_iconst (v := (1 : Int32)) rfl ?_
                      refine ls_iadd ?_
                      obtain ⟨hb59, hf⟩ := jg_some hf
                      refine ls_ialdK rfl rfl hb59 ?_
                      refine ls_aload_n rfl ?_
                      refine ls_iload_n rfl ?_
                      refine ls_iconst (v := (2 : Int32)) rfl ?_
                      refine ls_iadd ?_
                      obtain ⟨hb60, hf⟩ := jg_some hf
                      refine ls_ialdK rfl rfl hb60 ?_
                      obtain ⟨q61, hc_61, hf⟩ := jbind hf
                      refine ls_c3i hg rfl rfl ⟨rfl, rfl⟩ rfl rfl (t_M_nest hc_61) (by omega) ?_
                      refine ls_icmp (tgt := 1554) rfl rfl (fun h => ?_) (fun h => ?_)
                      · have hf := jif_t hf h
                        exact t_LAW_1554 hg hd (fun l3 w M res hf => ih l3 w M hf) _ _ _ hf
                      · have hf := jif_f hf h
                        refine ls_iconst (v := (0 : Int32)) rfl ?_
                        obtain rfl := Option.some.inj hf
                        exact ls_iret rfl rfl
                    · rcases jif_d hf with ⟨hk, hf⟩ | ⟨hk8, hf⟩
                      · refine ls_tabIn (v := (8 : Int32)) (off := 499) (tgt := 532) hk rfl rfl rfl rfl ?_
                        refine lR_in rfl rfl rfl ?_
                        refine ls_aload_n rfl ?_
                        refine ls_aload_n rfl ?_
                        refine ls_iload_n rfl ?_
                        refine ls_iconst (v := (1 : Int32)) rfl ?_
                        refine ls_iadd ?_
                        obtain ⟨hb62, hf⟩ := jg_some hf
                        refine ls_ialdK rfl rfl hb62 ?_
                        obtain ⟨q63, hc_63, hf⟩ := jbind hf
                        refine ls_c2i hg rfl rfl ⟨rfl, rfl⟩ rfl rfl (t_C_days hc_63) (by omega) ?_
                        refine ls_aload_n rfl ?_
                        refine ls_aload_n rfl ?_
                        refine ls_iload_n rfl ?_
                        refine ls_iconst (v := (1 : Int32)) rfl ?_
                        refine ls_iadd ?_
                        obtain ⟨hb64, hf⟩ := jg_some hf
                        refine ls_ialdK rfl rfl hb64 ?_
                        obtain ⟨q65, hc_65, hf⟩ := jbind hf
                        refine ls_c2i hg rfl rfl ⟨rfl, rfl⟩ rfl rfl (t_M_days hc_65) (by omega) ?_
                        refine ls_icmp (tgt := 1554) rfl rfl (fun h => ?_) (fun h => ?_)
                        · have hf := jif_t hf h
                          exact t_LAW_1554 hg hd (fun l3 w M res hf => ih l3 w M hf) _ _ _ hf
                        · have hf := jif_f hf h
                          refine ls_iconst (v := (0 : Int32)) rfl ?_
                          obtain rfl := Option.some.inj hf
                          exact ls_iret rfl rfl
                      · rcases jif_d hf with ⟨hk, hf⟩ | ⟨hk9, hf⟩
                        · refine ls_tabIn (v := (9 : Int32)) (off := 522) (tgt := 555) hk rfl rfl rfl rfl ?_
                          refine lR_in rfl rfl rfl ?_
                          refine ls_aload_n rfl ?_
                          refine ls_aload_n rfl ?_
                          refine ls_iload_n rfl ?_
                          refine ls_iconst (v := (1 : Int32)) rfl ?_
                          refine ls_iadd ?_
                          obtain ⟨hb66, hf⟩ := jg_some hf
                          refine ls_ialdK rfl rfl hb66 ?_
                          refine ls_aload_n rfl ?_
                          refine ls_iload_n rfl ?_
                          refine ls_iconst (v := (2 : Int32)) rfl ?_
                          refine ls_iadd ?_
                          obtain ⟨hb67, hf⟩ := jg_some hf
                          refine ls_ialdK rfl rfl hb67 ?_
                          refine ls_aload_n rfl ?_
                          refine ls_iload_n rfl ?_
                          refine ls_iconst (v := (3 : Int32)) rfl ?_
                          refine ls_iadd ?_
                          obtain ⟨hb68, hf⟩ := jg_some hf
                          refine ls_ialdK rfl rfl hb68 ?_
                          refine ls_aload_n rfl ?_
                          refine ls_iload_n rfl ?_
                          refine ls_iconst (v := (4 : Int32)) rfl ?_
                          refine ls_iadd ?_
                          obtain ⟨hb69, hf⟩ := jg_some hf
                          refine ls_ialdK rfl rfl hb69 ?_
                          refine ls_aload_n rfl ?_
                          refine ls_iload_n rfl ?_
                          refine ls_iconst (v := (5 : Int32)) rfl ?_
                          refine ls_iadd ?_
                          obtain ⟨hb70, hf⟩ := jg_some hf
                          refine ls_ialdK rfl rfl hb70 ?_
                          obtain ⟨q71, hc_71, hf⟩ := jbind hf
                          refine ls_c6i hg rfl rfl ⟨rfl, rfl⟩ rfl rfl (t_C_feed hc_71) (by omega) ?_
                          refine ls_aload_n rfl ?_
                          refine ls_aload_n rfl ?_
                          refine ls_iload_n rfl ?_
                          refine ls_iconst (v := (1 : Int32)) rfl ?_
                          refine ls_iadd ?_
                          obtain ⟨hb72, hf⟩ := jg_some hf
                          refine ls_ialdK rfl rfl hb72 ?_
                          refine ls_aload_n rfl ?_
                          refine ls_iload_n rfl ?_
                          refine ls_iconst (v := (2 : Int32)) rfl ?_
                          refine ls_iadd ?_
                          obtain ⟨hb73, hf⟩ := jg_some hf
                          refine ls_ialdK rfl rfl hb73 ?_
                          refine ls_aload_n rfl ?_
                          refine ls_iload_n rfl ?_
                          refine ls_iconst (v := (3 : Int32)) rfl ?_
                          refine ls_iadd ?_
                          obtain ⟨hb74, hf⟩ := jg_some hf
                          refine ls_ialdK rfl rfl hb74 ?_
                          refine ls_aload_n rfl ?_
                          refine ls_iload_n rfl ?_
                          refine ls_iconst (v := (4 : Int32)) rfl ?_
                          refine ls_iadd ?_
                          obtain ⟨hb75, hf⟩ := jg_some hf
                          refine ls_ialdK rfl rfl hb75 ?_
                          refine ls_aload_n rfl ?_
                          refine ls_iload_n rfl ?_
                          refine ls_iconst (v := (5 : Int32)) rfl ?_
                          refine ls_iadd ?_
                          obtain ⟨hb76, hf⟩ := jg_some hf
                          refine ls_ialdK rfl rfl hb76 ?_
                          obtain ⟨q77, hc_77, hf⟩ := jbind hf
                          refine ls_c6i hg rfl rfl ⟨rfl, rfl⟩ rfl rfl (t_M_feed hc_77) (by omega) ?_
                          refine ls_icmp (tgt := 1554) rfl rfl (fun h => ?_) (fun h => ?_)
                          · have hf := jif_t hf h
                            exact t_LAW_1554 hg hd (fun l3 w M res hf => ih l3 w M hf) _ _ _ hf
                          · have hf := jif_f hf h
                            refine ls_iconst (v := (0 : Int32)) rfl ?_
                            obtain rfl := Option.some.inj hf
                            exact ls_iret rfl rfl
                        · rcases jif_d hf with ⟨hk, hf⟩ | ⟨hk10, hf⟩
                          · refine ls_tabIn (v := (10 : Int32)) (off := 585) (tgt := 618) hk rfl rfl rfl rfl ?_
                            refine lR_in rfl rfl rfl ?_
                            refine ls_aload_n rfl ?_
                            refine ls_aload_n rfl ?_
                            refine ls_iload_n rfl ?_
                            refine ls_iconst (v := (1 : Int32)) rfl ?_
                            refine ls_iadd ?_
                            obtain ⟨hb78, hf⟩ := jg_some hf
                            refine ls_ialdK rfl rfl hb78 ?_
                            refine ls_c2i hg rfl rfl ⟨rfl, rfl⟩ rfl rfl (t_C_end rfl) (by omega) ?_
                            refine ls_aload_n rfl ?_
                            refine ls_aload_n rfl ?_
                            refine ls_iload_n rfl ?_
                            refine ls_iconst (v := (1 : Int32)) rfl ?_
                            refine ls_iadd ?_
                            obtain ⟨hb80, hf⟩ := jg_some hf
                            refine ls_ialdK rfl rfl hb80 ?_
                            refine ls_c2i hg rfl rfl ⟨rfl, rfl⟩ rfl rfl (t_M_end rfl) (by omega) ?_
                            refine ls_icmp (tgt := 1554) rfl rfl (fun h => ?_) (fun h => ?_)
                            · have hf := jif_t hf h
                              exact t_LAW_1554 hg hd (fun l3 w M res hf => ih l3 w M hf) _ _ _ hf
                            · have hf := jif_f hf h
                              refine ls_iconst (v := (0 : Int32)) rfl ?_
                              obtain rfl := Option.some.inj hf
                              exact ls_iret rfl rfl
                          · rcases jif_d hf with ⟨hk, hf⟩ | ⟨hk11, hf⟩
                            · refine ls_tabIn (v := (11 : Int32)) (off := 608) (tgt := 641) hk rfl rfl rfl rfl ?_
                              refine lR_in rfl rfl rfl ?_
                              refine ls_aload_n rfl ?_
                              refine ls_aload_n rfl ?_
                              refine ls_iload_n rfl ?_
                              refine ls_iconst (v := (1 : Int32)) rfl ?_
                              refine ls_iadd ?_
                              obtain ⟨hb82, hf⟩ := jg_some hf
                              refine ls_ialdK rfl rfl hb82 ?_
                              obtain ⟨q83, hc_83, hf⟩ := jbind hf
                              refine ls_c2i hg rfl rfl ⟨rfl, rfl⟩ rfl rfl (t_C_text hc_83) (by omega) ?_
                              refine ls_aload_n rfl ?_
                              refine ls_aload_n rfl ?_
                              refine ls_iload_n rfl ?_
                              refine ls_iconst (v := (1 : Int32)) rfl ?_
                              refine ls_iadd ?_
                              obtain ⟨hb84, hf⟩ := jg_some hf
                              refine ls_ialdK rfl rfl hb84 ?_
                              obtain ⟨q85, hc_85, hf⟩ := jbind hf
                              refine ls_c2i hg rfl rfl ⟨rfl, rfl⟩ rfl rfl (t_M_text hc_85) (by omega) ?_
                              refine ls_icmp (tgt := 1554) rfl rfl (fun h => ?_) (fun h => ?_)
                              · have hf := jif_t hf h
                                exact t_LAW_1554 hg hd (fun l3 w M res hf => ih l3 w M hf) _ _ _ hf
                              · have hf := jif_f hf h
                                refine ls_iconst (v := (0 : Int32)) rfl ?_
                                obtain rfl := Option.some.inj hf
                                exact ls_iret rfl rfl
                            · rcases jif_d hf with ⟨hk, hf⟩ | ⟨hk12, hf⟩
                              · refine ls_tabIn (v := (12 : Int32)) (off := 631) (tgt := 664) hk rfl rfl rfl rfl ?_
                                refine lR_in rfl rfl rfl ?_
                                refine ls_aload_n rfl ?_
                                refine ls_aload_n rfl ?_
                                refine ls_iload_n rfl ?_
                                refine ls_iconst (v := (1 : Int32)) rfl ?_
                                refine ls_iadd ?_
                                obtain ⟨hb86, hf⟩ := jg_some hf
                                refine ls_ialdK rfl rfl hb86 ?_
                                refine ls_c2i hg rfl rfl ⟨rfl, rfl⟩ rfl rfl (t_C_fault rfl) (by omega) ?_
                                refine ls_aload_n rfl ?_
                                refine ls_aload_n rfl ?_
                                refine ls_iload_n rfl ?_
                                refine ls_iconst (v := (1 : Int32)) rfl ?_
                                refine ls_iadd ?_
                                obtain ⟨hb88, hf⟩ := jg_some hf
                                refine ls_ialdK rfl rfl hb88 ?_
                                refine ls_c2i hg rfl rfl ⟨rfl, rfl⟩ rfl rfl (t_M_fault rfl) (by omega) ?_
                                refine ls_icmp (tgt := 1554) rfl rfl (fun h => ?_) (fun h => ?_)
                                · have hf := jif_t hf h
                                  exact t_LAW_1554 hg hd (fun l3 w M res hf => ih l3 w M hf) _ _ _ hf
                                · have hf := jif_f hf h
                                  refine ls_iconst (v := (0 : Int32)) rfl ?_
                                  obtain rfl := Option.some.inj hf
                                  exact ls_iret rfl rfl
                              · rcases jif_d hf with ⟨hk, hf⟩ | ⟨hk13, hf⟩
                                · refine ls_tabIn (v := (13 : Int32)) (off := 654) (tgt := 687) hk rfl rfl rfl rfl ?_
                                  refine lR_in rfl rfl rfl ?_
                                  refine ls_aload_n rfl ?_
                                  refine ls_aload_n rfl ?_
                                  refine ls_iload_n rfl ?_
                                  refine ls_iconst (v := (1 : Int32)) rfl ?_
                                  refine ls_iadd ?_
                                  obtain ⟨hb90, hf⟩ := jg_some hf
                                  refine ls_ialdK rfl rfl hb90 ?_
                                  refine ls_aload_n rfl ?_
                                  refine ls_iload_n rfl ?_
                                  refine ls_iconst (v := (2 : Int32)) rfl ?_
                                  refine ls_iadd ?_
                                  obtain ⟨hb91, hf⟩ := jg_some hf
                                  refine ls_ialdK rfl rfl hb91 ?_
                                  obtain ⟨q92, hc_92, hf⟩ := jbind hf
                                  refine ls_c3i hg rfl rfl ⟨rfl, rfl⟩ rfl rfl (t_C_of hc_92) (by omega) ?_
                                  refine ls_aload_n rfl ?_
                                  refine ls_aload_n rfl ?_
                                  refine ls_iload_n rfl ?_
                                  refine ls_iconst (v := (1 : Int32)) rfl ?_
                                  refine ls_iadd ?_
                                  obtain ⟨hb93, hf⟩ := jg_some hf
                                  refine ls_ialdK rfl rfl hb93 ?_
                                  refine ls_aload_n rfl ?_
                                  refine ls_iload_n rfl ?_
                                  refine ls_iconst (v := (2 : Int32)) rfl ?_
                                  refine ls_iadd ?_
                                  obtain ⟨hb94, hf⟩ := jg_some hf
                                  refine ls_ialdK rfl rfl hb94 ?_
                                  obtain ⟨q95, hc_95, hf⟩ := jbind hf
                                  refine ls_c3i hg rfl rfl ⟨rfl, rfl⟩ rfl rfl (t_M_of hc_95) (by omega) ?_
                                  refine ls_icmp (tgt := 1554) rfl rfl (fun h => ?_) (fun h => ?_)
                                  · have hf := jif_t hf h
                                    exact t_LAW_1554 hg hd (fun l3 w M res hf => ih l3 w M hf) _ _ _ hf
                                  · have hf := jif_f hf h
                                    refine ls_iconst (v := (0 : Int32)) rfl ?_
                                    obtain rfl := Option.some.inj hf
                                    exact ls_iret rfl rfl
                                · rcases jif_d hf with ⟨hk, hf⟩ | ⟨hk14, hf⟩
                                  · refine ls_tabIn (v := (14 : Int32)) (off := 687) (tgt := 720) hk rfl rfl rfl rfl ?_
                                    refine lR_in rfl rfl rfl ?_
                                    refine ls_aload_n rfl ?_
                                    refine ls_aload_n rfl ?_
                                    refine ls_iload_n rfl ?_
                                    refine ls_iconst (v := (1 : Int32)) rfl ?_
                                    refine ls_iadd ?_
                                    obtain ⟨hb96, hf⟩ := jg_some hf
                                    refine ls_ialdK rfl rfl hb96 ?_
                                    refine ls_aload_n rfl ?_
                                    refine ls_iload_n rfl ?_
                                    refine ls_iconst (v := (2 : Int32)) rfl ?_
                                    refine ls_iadd ?_
                                    obtain ⟨hb97, hf⟩ := jg_some hf
                                    refine ls_ialdK rfl rfl hb97 ?_
                                    obtain ⟨q98, hc_98, hf⟩ := jbind hf
                                    refine ls_c3i hg rfl rfl ⟨rfl, rfl⟩ rfl rfl (t_C_bird hc_98) (by omega) ?_
                                    refine ls_aload_n rfl ?_
                                    refine ls_aload_n rfl ?_
                                    refine ls_iload_n rfl ?_
                                    refine ls_iconst (v := (1 : Int32)) rfl ?_
                                    refine ls_iadd ?_
                                    obtain ⟨hb99, hf⟩ := jg_some hf
                                    refine ls_ialdK rfl rfl hb99 ?_
                                    refine ls_aload_n rfl ?_
                                    refine ls_iload_n rfl ?_
                                    refine ls_iconst (v := (2 : Int32)) rfl ?_
                                    refine ls_iadd ?_
                                    obtain ⟨hb100, hf⟩ := jg_some hf
                                    refine ls_ialdK rfl rfl hb100 ?_
                                    obtain ⟨q101, hc_101, hf⟩ := jbind hf
                                    refine ls_c3i hg rfl rfl ⟨rfl, rfl⟩ rfl rfl (t_M_bird hc_101) (by omega) ?_
                                    refine ls_icmp (tgt := 1554) rfl rfl (fun h => ?_) (fun h => ?_)
                                    · have hf := jif_t hf h
                                      exact t_LAW_1554 hg hd (fun l3 w M res hf => ih l3 w M hf) _ _ _ hf
                                    · have hf := jif_f hf h
                                      refine ls_iconst (v := (0 : Int32)) rfl ?_
                                      obtain rfl := Option.some.inj hf
                                      exact ls_iret rfl rfl
                                  · rcases jif_d hf with ⟨hk, hf⟩ | ⟨hk15, hf⟩
                                    · refine ls_tabIn (v := (15 : Int32)) (off := 720) (tgt := 753) hk rfl rfl rfl rfl ?_
                                      refine lR_in rfl rfl rfl ?_
                                      refine ls_aload_n rfl ?_
                                      refine ls_aload_n rfl ?_
                                      refine ls_iload_n rfl ?_
                                      refine ls_iconst (v := (1 : Int32)) rfl ?_
                                      refine ls_iadd ?_
                                      obtain ⟨hb102, hf⟩ := jg_some hf
                                      refine ls_ialdK rfl rfl hb102 ?_
                                      refine ls_aload_n rfl ?_
                                      refine ls_iload_n rfl ?_
                                      refine ls_iconst (v := (2 : Int32)) rfl ?_
                                      refine ls_iadd ?_
                                      obtain ⟨hb103, hf⟩ := jg_some hf
                                      refine ls_ialdK rfl rfl hb103 ?_
                                      obtain ⟨q104, hc_104, hf⟩ := jbind hf
                                      refine ls_c3i hg rfl rfl ⟨rfl, rfl⟩ rfl rfl (t_C_use hc_104) (by omega) ?_
                                      refine ls_aload_n rfl ?_
                                      refine ls_aload_n rfl ?_
                                      refine ls_iload_n rfl ?_
                                      refine ls_iconst (v := (1 : Int32)) rfl ?_
                                      refine ls_iadd ?_
                                      obtain ⟨hb105, hf⟩ := jg_some hf
                                      refine ls_ialdK rfl rfl hb105 ?_
                                      refine ls_aload_n rfl ?_
                                      refine ls_iload_n rfl ?_
                                      refine ls_iconst (v := (2 : Int32)) rfl ?_
                                      refine ls_iadd ?_
                                      obtain ⟨hb106, hf⟩ := jg_some hf
                                      refine ls_ialdK rfl rfl hb106 ?_
                                      obtain ⟨q107, hc_107, hf⟩ := jbind hf
                                      refine ls_c3i hg rfl rfl ⟨rfl, rfl⟩ rfl rfl (t_M_use hc_107) (by omega) ?_
                                      refine ls_icmp (tgt := 1554) rfl rfl (fun h => ?_) (fun h => ?_)
                                      · have hf := jif_t hf h
                                        exact t_LAW_1554 hg hd (fun l3 w M res hf => ih l3 w M hf) _ _ _ hf
                                      · have hf := jif_f hf h
                                        refine ls_iconst (v := (0 : Int32)) rfl ?_
                                        obtain rfl := Option.some.inj hf
                                        exact ls_iret rfl rfl
                                    · rcases jif_d hf with ⟨hk, hf⟩ | ⟨hk16, hf⟩
                                      · refine ls_tabIn (v := (16 : Int32)) (off := 753) (tgt := 786) hk rfl rfl rfl rfl ?_
                                        refine lR_in rfl rfl rfl ?_
                                        refine ls_aload_n rfl ?_
                                        refine ls_aload_n rfl ?_
                                        refine ls_iload_n rfl ?_
                                        refine ls_iconst (v := (1 : Int32)) rfl ?_
                                        refine ls_iadd ?_
                                        obtain ⟨hb108, hf⟩ := jg_some hf
                                        refine ls_ialdK rfl rfl hb108 ?_
                                        obtain ⟨q109, hc_109, hf⟩ := jbind hf
                                        refine ls_c2i hg rfl rfl ⟨rfl, rfl⟩ rfl rfl (t_C_lease hc_109) (by omega) ?_
                                        refine ls_aload_n rfl ?_
                                        refine ls_aload_n rfl ?_
                                        refine ls_iload_n rfl ?_
                                        refine ls_iconst (v := (1 : Int32)) rfl ?_
                                        refine ls_iadd ?_
                                        obtain ⟨hb110, hf⟩ := jg_some hf
                                        refine ls_ialdK rfl rfl hb110 ?_
                                        obtain ⟨q111, hc_111, hf⟩ := jbind hf
                                        refine ls_c2i hg rfl rfl ⟨rfl, rfl⟩ rfl rfl (t_M_lease hc_111) (by omega) ?_
                                        refine ls_icmp (tgt := 1554) rfl rfl (fun h => ?_) (fun h => ?_)
                                        · have hf := jif_t hf h
                                          exact t_LAW_1554 hg hd (fun l3 w M res hf => ih l3 w M hf) _ _ _ hf
                                        · have hf := jif_f hf h
                                          refine ls_iconst (v := (0 : Int32)) rfl ?_
                                          obtain rfl := Option.some.inj hf
                                          exact ls_iret rfl rfl
                                      · rcases jif_d hf with ⟨hk, hf⟩ | ⟨hk17, hf⟩
                                        · refine ls_tabIn (v := (17 : Int32)) (off := 776) (tgt := 809) hk rfl rfl rfl rfl ?_
                                          refine lR_in rfl rfl rfl ?_
                                          refine ls_aload_n rfl ?_
                                          refine ls_aload_n rfl ?_
                                          refine ls_iload_n rfl ?_
                                          refine ls_iconst (v := (1 : Int32)) rfl ?_
                                          refine ls_iadd ?_
                                          obtain ⟨hb112, hf⟩ := jg_some hf
                                          refine ls_ialdK rfl rfl hb112 ?_
                                          refine ls_aload_n rfl ?_
                                          refine ls_iload_n rfl ?_
                                          refine ls_iconst (v := (2 : Int32)) rfl ?_
                                          refine ls_iadd ?_
                                          obtain ⟨hb113, hf⟩ := jg_some hf
                                          refine ls_ialdK rfl rfl hb113 ?_
                                          obtain ⟨q114, hc_114, hf⟩ := jbind hf
                                          refine ls_c3i hg rfl rfl ⟨rfl, rfl⟩ rfl rfl (t_C_book hc_114) (by omega) ?_
                                          refine ls_aload_n rfl ?_
                                          refine ls_aload_n rfl ?_
                                          refine ls_iload_n rfl ?_
                                          refine ls_iconst (v := (1 : Int32)) rfl ?_
                                          refine ls_iadd ?_
                                          obtain ⟨hb115, hf⟩ := jg_some hf
                                          refine ls_ialdK rfl rfl hb115 ?_
                                          refine ls_aload_n rfl ?_
                                          refine ls_iload_n rfl ?_
                                          refine ls_iconst (v := (2 : Int32)) rfl ?_
                                          refine ls_iadd ?_
                                          obtain ⟨hb116, hf⟩ := jg_some hf
                                          refine ls_ialdK rfl rfl hb116 ?_
                                          obtain ⟨q117, hc_117, hf⟩ := jbind hf
                                          refine ls_c3i hg rfl rfl ⟨rfl, rfl⟩ rfl rfl (t_M_book hc_117) (by omega) ?_
                                          refine ls_icmp (tgt := 1554) rfl rfl (fun h => ?_) (fun h => ?_)
                                          · have hf := jif_t hf h
                                            exact t_LAW_1554 hg hd (fun l3 w M res hf => ih l3 w M hf) _ _ _ hf
                                          · have hf := jif_f hf h
                                            refine ls_iconst (v := (0 : Int32)) rfl ?_
                                            obtain rfl := Option.some.inj hf
                                            exact ls_iret rfl rfl
                                        · rcases jif_d hf with ⟨hk, hf⟩ | ⟨hk18, hf⟩
                                          · refine ls_tabIn (v := (18 : Int32)) (off := 809) (tgt := 842) hk rfl rfl rfl rfl ?_
                                            refine lR_in rfl rfl rfl ?_
                                            refine ls_aload_n rfl ?_
                                            refine ls_aload_n rfl ?_
                                            refine ls_iload_n rfl ?_
                                            refine ls_iconst (v := (1 : Int32)) rfl ?_
                                            refine ls_iadd ?_
                                            obtain ⟨hb118, hf⟩ := jg_some hf
                                            refine ls_ialdK rfl rfl hb118 ?_
                                            refine ls_aload_n rfl ?_
                                            refine ls_iload_n rfl ?_
                                            refine ls_iconst (v := (2 : Int32)) rfl ?_
                                            refine ls_iadd ?_
                                            obtain ⟨hb119, hf⟩ := jg_some hf
                                            refine ls_ialdK rfl rfl hb119 ?_
                                            refine ls_aload_n rfl ?_
                                            refine ls_iload_n rfl ?_
                                            refine ls_iconst (v := (3 : Int32)) rfl ?_
                                            refine ls_iadd ?_
                                            obtain ⟨hb120, hf⟩ := jg_some hf
                                            refine ls_ialdK rfl rfl hb120 ?_
                                            refine ls_aload_n rfl ?_
                                            refine ls_iload_n rfl ?_
                                            refine ls_iconst (v := (4 : Int32)) rfl ?_
                                            refine ls_iadd ?_
                                            obtain ⟨hb121, hf⟩ := jg_some hf
                                            refine ls_ialdK rfl rfl hb121 ?_
                                            refine ls_aload_n rfl ?_
                                            refine ls_iload_n rfl ?_
                                            refine ls_iconst (v := (5 : Int32)) rfl ?_
                                            refine ls_iadd ?_
                                            obtain ⟨hb122, hf⟩ := jg_some hf
                                            refine ls_ialdK rfl rfl hb122 ?_
                                            obtain ⟨q123, hc_123, hf⟩ := jbind hf
                                            refine ls_c6i hg rfl rfl ⟨rfl, rfl⟩ rfl rfl (t_C_would hc_123) (by omega) ?_
                                            refine ls_aload_n rfl ?_
                                            refine ls_aload_n rfl ?_
                                            refine ls_iload_n rfl ?_
                                            refine ls_iconst (v := (1 : Int32)) rfl ?_
                                            refine ls_iadd ?_
                                            obtain ⟨hb124, hf⟩ := jg_some hf
                                            refine ls_ialdK rfl rfl hb124 ?_
                                            refine ls_aload_n rfl ?_
                                            refine ls_iload_n rfl ?_
                                            refine ls_iconst (v := (2 : Int32)) rfl ?_
                                            refine ls_iadd ?_
                                            obtain ⟨hb125, hf⟩ := jg_some hf
                                            refine ls_ialdK rfl rfl hb125 ?_
                                            refine ls_aload_n rfl ?_
                                            refine ls_iload_n rfl ?_
                                            refine ls_iconst (v := (3 : Int32)) rfl ?_
                                            refine ls_iadd ?_
                                            obtain ⟨hb126, hf⟩ := jg_some hf
                                            refine ls_ialdK rfl rfl hb126 ?_
                                            refine ls_aload_n rfl ?_
                                            refine ls_iload_n rfl ?_
                                            refine ls_iconst (v := (4 : Int32)) rfl ?_
                                            refine ls_iadd ?_
                                            obtain ⟨hb127, hf⟩ := jg_some hf
                                            refine ls_ialdK rfl rfl hb127 ?_
                                            refine ls_aload_n rfl ?_
                                            refine ls_iload_n rfl ?_
                                            refine ls_iconst (v := (5 : Int32)) rfl ?_
                                            refine ls_iadd ?_
                                            obtain ⟨hb128, hf⟩ := jg_some hf
                                            refine ls_ialdK rfl rfl hb128 ?_
                                            obtain ⟨q129, hc_129, hf⟩ := jbind hf
                                            refine ls_c6i hg rfl rfl ⟨rfl, rfl⟩ rfl rfl (t_M_would hc_129) (by omega) ?_
                                            refine ls_icmp (tgt := 1554) rfl rfl (fun h => ?_) (fun h => ?_)
                                            · have hf := jif_t hf h
                                              exact t_LAW_1554 hg hd (fun l3 w M res hf => ih l3 w M hf) _ _ _ hf
                                            · have hf := jif_f hf h
                                              refine ls_iconst (v := (0 : Int32)) rfl ?_
                                              obtain rfl := Option.some.inj hf
                                              exact ls_iret rfl rfl
                                          · rcases jif_d hf with ⟨hk, hf⟩ | ⟨hk19, hf⟩
                                            · refine ls_tabIn (v := (19 : Int32)) (off := 872) (tgt := 905) hk rfl rfl rfl rfl ?_
                                              refine lR_in rfl rfl rfl ?_
                                              refine ls_aload_n rfl ?_
                                              refine ls_aload_n rfl ?_
                                              refine ls_iload_n rfl ?_
                                              refine ls_iconst (v := (1 : Int32)) rfl ?_
                                              refine ls_iadd ?_
                                              obtain ⟨hb130, hf⟩ := jg_some hf
                                              refine ls_ialdK rfl rfl hb130 ?_
                                              refine ls_aload_n rfl ?_
                                              refine ls_iload_n rfl ?_
                                              refine ls_iconst (v := (2 : Int32)) rfl ?_
                                              refine ls_iadd ?_
                                              obtain ⟨hb131, hf⟩ := jg_some hf
                                              refine ls_ialdK rfl rfl hb131 ?_
                                              obtain ⟨q132, hc_132, hf⟩ := jbind hf
                                              refine ls_c3i hg rfl rfl ⟨rfl, rfl⟩ rfl rfl (t_C_goes hc_132) (by omega) ?_
                                              refine ls_aload_n rfl ?_
                                              refine ls_aload_n rfl ?_
                                              refine ls_iload_n rfl ?_
                                              refine ls_iconst (v := (1 : Int32)) rfl ?_
                                              refine ls_iadd ?_
                                              obtain ⟨hb133, hf⟩ := jg_some hf
                                              refine ls_ialdK rfl rfl hb133 ?_
                                              refine ls_aload_n rfl ?_
                                              refine ls_iload_n rfl ?_
                                              refine ls_iconst (v := (2 : Int32)) rfl ?_
                                              refine ls_iadd ?_
                                              obtain ⟨hb134, hf⟩ := jg_some hf
                                              refine ls_ialdK rfl rfl hb134 ?_
                                              obtain ⟨q135, hc_135, hf⟩ := jbind hf
                                              refine ls_c3i hg rfl rfl ⟨rfl, rfl⟩ rfl rfl (t_M_goes hc_135) (by omega) ?_
                                              refine ls_icmp (tgt := 1554) rfl rfl (fun h => ?_) (fun h => ?_)
                                              · have hf := jif_t hf h
                                                exact t_LAW_1554 hg hd (fun l3 w M res hf => ih l3 w M hf) _ _ _ hf
                                              · have hf := jif_f hf h
                                                refine ls_iconst (v := (0 : Int32)) rfl ?_
                                                obtain rfl := Option.some.inj hf
                                                exact ls_iret rfl rfl
                                            · rcases jif_d hf with ⟨hk, hf⟩ | ⟨hk20, hf⟩
                                              · refine ls_tabIn (v := (20 : Int32)) (off := 905) (tgt := 938) hk rfl rfl rfl rfl ?_
                                                refine lR_in rfl rfl rfl ?_
                                                refine ls_aload_n rfl ?_
                                                refine ls_aload_n rfl ?_
                                                refine ls_iload_n rfl ?_
                                                refine ls_iconst (v := (1 : Int32)) rfl ?_
                                                refine ls_iadd ?_
                                                obtain ⟨hb136, hf⟩ := jg_some hf
                                                refine ls_ialdK rfl rfl hb136 ?_
                                                refine ls_aload_n rfl ?_
                                                refine ls_iload_n rfl ?_
                                                refine ls_iconst (v := (2 : Int32)) rfl ?_
                                                refine ls_iadd ?_
                                                obtain ⟨hb137, hf⟩ := jg_some hf
                                                refine ls_ialdK rfl rfl hb137 ?_
                                                refine ls_aload_n rfl ?_
                                                refine ls_iload_n rfl ?_
                                                refine ls_iconst (v := (3 : Int32)) rfl ?_
                                                refine ls_iadd ?_
                                                obtain ⟨hb138, hf⟩ := jg_some hf
                                                refine ls_ialdK rfl rfl hb138 ?_
                                                obtain ⟨q139, hc_139, hf⟩ := jbind hf
                                                refine ls_c4i hg rfl rfl ⟨rfl, rfl⟩ rfl rfl (t_C_through hc_139) (by omega) ?_
                                                refine ls_aload_n rfl ?_
                                                refine ls_aload_n rfl ?_
                                                refine ls_iload_n rfl ?_
                                                refine ls_iconst (v := (1 : Int32)) rfl ?_
                                                refine ls_iadd ?_
                                                obtain ⟨hb140, hf⟩ := jg_some hf
                                                refine ls_ialdK rfl rfl hb140 ?_
                                                refine ls_aload_n rfl ?_
                                                refine ls_iload_n rfl ?_
                                                refine ls_iconst (v := (2 : Int32)) rfl ?_
                                                refine ls_iadd ?_
                                                obtain ⟨hb141, hf⟩ := jg_some hf
                                                refine ls_ialdK rfl rfl hb141 ?_
                                                refine ls_aload_n rfl ?_
                                                refine ls_iload_n rfl ?_
                                                refine ls_iconst (v := (3 : Int32)) rfl ?_
                                                refine ls_iadd ?_
                                                obtain ⟨hb142, hf⟩ := jg_some hf
                                                refine ls_ialdK rfl rfl hb142 ?_
                                                obtain ⟨q143, hc_143, hf⟩ := jbind hf
                                                refine ls_c4i hg rfl rfl ⟨rfl, rfl⟩ rfl rfl (t_M_through hc_143) (by omega) ?_
                                                refine ls_icmp (tgt := 1554) rfl rfl (fun h => ?_) (fun h => ?_)
                                                · have hf := jif_t hf h
                                                  exact t_LAW_1554 hg hd (fun l3 w M res hf => ih l3 w M hf) _ _ _ hf
                                                · have hf := jif_f hf h
                                                  refine ls_iconst (v := (0 : Int32)) rfl ?_
                                                  obtain rfl := Option.some.inj hf
                                                  exact ls_iret rfl rfl
                                              · rcases jif_d hf with ⟨hk, hf⟩ | ⟨hk21, hf⟩
                                                · refine ls_tabIn (v := (21 : Int32)) (off := 948) (tgt := 981) hk rfl rfl rfl rfl ?_
                                                  refine lR_in rfl rfl rfl ?_
                                                  refine ls_aload_n rfl ?_
                                                  refine ls_aload_n rfl ?_
                                                  refine ls_iload_n rfl ?_
                                                  refine ls_iconst (v := (1 : Int32)) rfl ?_
                                                  refine ls_iadd ?_
                                                  obtain ⟨hb144, hf⟩ := jg_some hf
                                                  refine ls_ialdK rfl rfl hb144 ?_
                                                  obtain ⟨q145, hc_145, hf⟩ := jbind hf
                                                  refine ls_c2i hg rfl rfl ⟨rfl, rfl⟩ rfl rfl (t_C_wide hc_145) (by omega) ?_
                                                  refine ls_aload_n rfl ?_
                                                  refine ls_aload_n rfl ?_
                                                  refine ls_iload_n rfl ?_
                                                  refine ls_iconst (v := (1 : Int32)) rfl ?_
                                                  refine ls_iadd ?_
                                                  obtain ⟨hb146, hf⟩ := jg_some hf
                                                  refine ls_ialdK rfl rfl hb146 ?_
                                                  obtain ⟨q147, hc_147, hf⟩ := jbind hf
                                                  refine ls_c2i hg rfl rfl ⟨rfl, rfl⟩ rfl rfl (t_M_wide hc_147) (by omega) ?_
                                                  refine ls_icmp (tgt := 1554) rfl rfl (fun h => ?_) (fun h => ?_)
                                                  · have hf := jif_t hf h
                                                    exact t_LAW_1554 hg hd (fun l3 w M res hf => ih l3 w M hf) _ _ _ hf
                                                  · have hf := jif_f hf h
                                                    refine ls_iconst (v := (0 : Int32)) rfl ?_
                                                    obtain rfl := Option.some.inj hf
                                                    exact ls_iret rfl rfl
                                                · rcases jif_d hf with ⟨hk, hf⟩ | ⟨hk22, hf⟩
                                                  · refine ls_tabIn (v := (22 : Int32)) (off := 971) (tgt := 1004) hk rfl rfl rfl rfl ?_
                                                    refine lR_in rfl rfl rfl ?_
                                                    refine ls_aload_n rfl ?_
                                                    refine ls_aload_n rfl ?_
                                                    refine ls_iload_n rfl ?_
                                                    refine ls_iconst (v := (1 : Int32)) rfl ?_
                                                    refine ls_iadd ?_
                                                    obtain ⟨hb148, hf⟩ := jg_some hf
                                                    refine ls_ialdK rfl rfl hb148 ?_
                                                    refine ls_aload_n rfl ?_
                                                    refine ls_iload_n rfl ?_
                                                    refine ls_iconst (v := (2 : Int32)) rfl ?_
                                                    refine ls_iadd ?_
                                                    obtain ⟨hb149, hf⟩ := jg_some hf
                                                    refine ls_ialdK rfl rfl hb149 ?_
                                                    refine ls_aload_n rfl ?_
                                                    refine ls_iload_n rfl ?_
                                                    refine ls_iconst (v := (3 : Int32)) rfl ?_
                                                    refine ls_iadd ?_
                                                    obtain ⟨hb150, hf⟩ := jg_some hf
                                                    refine ls_ialdK rfl rfl hb150 ?_
                                                    obtain ⟨q151, hc_151, hf⟩ := jbind hf
                                                    refine ls_c4i hg rfl rfl ⟨rfl, rfl⟩ rfl rfl (t_C_wish hc_151) (by omega) ?_
                                                    refine ls_aload_n rfl ?_
                                                    refine ls_aload_n rfl ?_
                                                    refine ls_iload_n rfl ?_
                                                    refine ls_iconst (v := (1 : Int32)) rfl ?_
                                                    refine ls_iadd ?_
                                                    obtain ⟨hb152, hf⟩ := jg_some hf
                                                    refine ls_ialdK rfl rfl hb152 ?_
                                                    refine ls_aload_n rfl ?_
                                                    refine ls_iload_n rfl ?_
                                                    refine ls_iconst (v := (2 : Int32)) rfl ?_
                                                    refine ls_iadd ?_
                                                    obtain ⟨hb153, hf⟩ := jg_some hf
                                                    refine ls_ialdK rfl rfl hb153 ?_
                                                    refine ls_aload_n rfl ?_
                                                    refine ls_iload_n rfl ?_
                                                    refine ls_iconst (v := (3 : Int32)) rfl ?_
                                                    refine ls_iadd ?_
                                                    obtain ⟨hb154, hf⟩ := jg_some hf
                                                    refine ls_ialdK rfl rfl hb154 ?_
                                                    obtain ⟨q155, hc_155, hf⟩ := jbind hf
                                                    refine ls_c4i hg rfl rfl ⟨rfl, rfl⟩ rfl rfl (t_M_wish hc_155) (by omega) ?_
                                                    refine ls_icmp (tgt := 1554) rfl rfl (fun h => ?_) (fun h => ?_)
                                                    · have hf := jif_t hf h
                                                      exact t_LAW_1554 hg hd (fun l3 w M res hf => ih l3 w M hf) _ _ _ hf
                                                    · have hf := jif_f hf h
                                                      refine ls_iconst (v := (0 : Int32)) rfl ?_
                                                      obtain rfl := Option.some.inj hf
                                                      exact ls_iret rfl rfl
                                                  · rcases jif_d hf with ⟨hk, hf⟩ | ⟨hk23, hf⟩
                                                    · refine ls_tabIn (v := (23 : Int32)) (off := 1014) (tgt := 1047) hk rfl rfl rfl rfl ?_
                                                      refine lR_in rfl rfl rfl ?_
                                                      refine ls_aload_n rfl ?_
                                                      refine ls_aload_n rfl ?_
                                                      refine ls_iload_n rfl ?_
                                                      refine ls_iconst (v := (1 : Int32)) rfl ?_
                                                      refine ls_iadd ?_
                                                      obtain ⟨hb156, hf⟩ := jg_some hf
                                                      refine ls_ialdK rfl rfl hb156 ?_
                                                      obtain ⟨q157, hc_157, hf⟩ := jbind hf
                                                      refine ls_c2i hg rfl rfl ⟨rfl, rfl⟩ rfl rfl (t_C_beside hc_157) (by omega) ?_
                                                      refine ls_aload_n rfl ?_
                                                      refine ls_aload_n rfl ?_
                                                      refine ls_iload_n rfl ?_
                                                      refine ls_iconst (v := (1 : Int32)) rfl ?_
                                                      refine ls_iadd ?_
                                                      obtain ⟨hb158, hf⟩ := jg_some hf
                                                      refine ls_ialdK rfl rfl hb158 ?_
                                                      obtain ⟨q159, hc_159, hf⟩ := jbind hf
                                                      refine ls_c2i hg rfl rfl ⟨rfl, rfl⟩ rfl rfl (t_M_beside hc_159) (by omega) ?_
                                                      refine ls_icmp (tgt := 1554) rfl rfl (fun h => ?_) (fun h => ?_)
                                                      · have hf := jif_t hf h
                                                        exact t_LAW_1554 hg hd (fun l3 w M res hf => ih l3 w M hf) _ _ _ hf
                                                      · have hf := jif_f hf h
                                                        refine ls_iconst (v := (0 : Int32)) rfl ?_
                                                        obtain rfl := Option.some.inj hf
                                                        exact ls_iret rfl rfl
                                                    · rcases jif_d hf with ⟨hk, hf⟩ | ⟨hk24, hf⟩
                                                      · refine ls_tabIn (v := (24 : Int32)) (off := 1037) (tgt := 1070) hk rfl rfl rfl rfl ?_
                                                        refine lR_in rfl rfl rfl ?_
                                                        refine ls_aload_n rfl ?_
                                                        refine ls_aload_n rfl ?_
                                                        refine ls_iload_n rfl ?_
                                                        refine ls_iconst (v := (1 : Int32)) rfl ?_
                                                        refine ls_iadd ?_
                                                        obtain ⟨hb160, hf⟩ := jg_some hf
                                                        refine ls_ialdK rfl rfl hb160 ?_
                                                        refine ls_aload_n rfl ?_
                                                        refine ls_iload_n rfl ?_
                                                        refine ls_iconst (v := (2 : Int32)) rfl ?_
                                                        refine ls_iadd ?_
                                                        obtain ⟨hb161, hf⟩ := jg_some hf
                                                        refine ls_ialdK rfl rfl hb161 ?_
                                                        obtain ⟨q162, hc_162, hf⟩ := jbind hf
                                                        refine ls_c3i hg rfl rfl ⟨rfl, rfl⟩ rfl rfl (t_C_kite hc_162) (by omega) ?_
                                                        refine ls_aload_n rfl ?_
                                                        refine ls_aload_n rfl ?_
                                                        refine ls_iload_n rfl ?_
                                                        refine ls_iconst (v := (1 : Int32)) rfl ?_
                                                        refine ls_iadd ?_
                                                        obtain ⟨hb163, hf⟩ := jg_some hf
                                                        refine ls_ialdK rfl rfl hb163 ?_
                                                        refine ls_aload_n rfl ?_
                                                        refine ls_iload_n rfl ?_
                                                        refine ls_iconst (v := (2 : Int32)) rfl ?_
                                                        refine ls_iadd ?_
                                                        obtain ⟨hb164, hf⟩ := jg_some hf
                                                        refine ls_ialdK rfl rfl hb164 ?_
                                                        obtain ⟨q165, hc_165, hf⟩ := jbind hf
                                                        refine ls_c3i hg rfl rfl ⟨rfl, rfl⟩ rfl rfl (t_M_kite hc_165) (by omega) ?_
                                                        refine ls_icmp (tgt := 1554) rfl rfl (fun h => ?_) (fun h => ?_)
                                                        · have hf := jif_t hf h
                                                          exact t_LAW_1554 hg hd (fun l3 w M res hf => ih l3 w M hf) _ _ _ hf
                                                        · have hf := jif_f hf h
                                                          refine ls_iconst (v := (0 : Int32)) rfl ?_
                                                          obtain rfl := Option.some.inj hf
                                                          exact ls_iret rfl rfl
                                                      · rcases jif_d hf with ⟨hk, hf⟩ | ⟨hk25, hf⟩
                                                        · refine ls_tabIn (v := (25 : Int32)) (off := 1070) (tgt := 1103) hk rfl rfl rfl rfl ?_
                                                          refine lR_in rfl rfl rfl ?_
                                                          refine ls_aload_n rfl ?_
                                                          refine ls_aload_n rfl ?_
                                                          refine ls_iload_n rfl ?_
                                                          refine ls_iconst (v := (1 : Int32)) rfl ?_
                                                          refine ls_iadd ?_
                                                          obtain ⟨hb166, hf⟩ := jg_some hf
                                                          refine ls_ialdK rfl rfl hb166 ?_
                                                          obtain ⟨q167, hc_167, hf⟩ := jbind hf
                                                          refine ls_c2i hg rfl rfl ⟨rfl, rfl⟩ rfl rfl (t_C_strings hc_167) (by omega) ?_
                                                          refine ls_aload_n rfl ?_
                                                          refine ls_aload_n rfl ?_
                                                          refine ls_iload_n rfl ?_
                                                          refine ls_iconst (v := (1 : Int32)) rfl ?_
                                                          refine ls_iadd ?_
                                                          obtain ⟨hb168, hf⟩ := jg_some hf
                                                          refine ls_ialdK rfl rfl hb168 ?_
                                                          obtain ⟨q169, hc_169, hf⟩ := jbind hf
                                                          refine ls_c2i hg rfl rfl ⟨rfl, rfl⟩ rfl rfl (t_M_strings hc_169) (by omega) ?_
                                                          refine ls_icmp (tgt := 1554) rfl rfl (fun h => ?_) (fun h => ?_)
                                                          · have hf := jif_t hf h
                                                            exact t_LAW_1554 hg hd (fun l3 w M res hf => ih l3 w M hf) _ _ _ hf
                                                          · have hf := jif_f hf h
                                                            refine ls_iconst (v := (0 : Int32)) rfl ?_
                                                            obtain rfl := Option.some.inj hf
                                                            exact ls_iret rfl rfl
                                                        · rcases jif_d hf with ⟨hk, hf⟩ | ⟨hk26, hf⟩
                                                          · refine ls_tabIn (v := (26 : Int32)) (off := 1093) (tgt := 1126) hk rfl rfl rfl rfl ?_
                                                            refine lR_in rfl rfl rfl ?_
                                                            refine ls_aload_n rfl ?_
                                                            refine ls_aload_n rfl ?_
                                                            refine ls_iload_n rfl ?_
                                                            refine ls_iconst (v := (1 : Int32)) rfl ?_
                                                            refine ls_iadd ?_
                                                            obtain ⟨hb170, hf⟩ := jg_some hf
                                                            refine ls_ialdK rfl rfl hb170 ?_
                                                            refine ls_aload_n rfl ?_
                                                            refine ls_iload_n rfl ?_
                                                            refine ls_iconst (v := (2 : Int32)) rfl ?_
                                                            refine ls_iadd ?_
                                                            obtain ⟨hb171, hf⟩ := jg_some hf
                                                            refine ls_ialdK rfl rfl hb171 ?_
                                                            refine ls_aload_n rfl ?_
                                                            refine ls_iload_n rfl ?_
                                                            refine ls_iconst (v := (3 : Int32)) rfl ?_
                                                            refine ls_iadd ?_
                                                            obtain ⟨hb172, hf⟩ := jg_some hf
                                                            refine ls_ialdK rfl rfl hb172 ?_
                                                            obtain ⟨q173, hc_173, hf⟩ := jbind hf
                                                            refine ls_c4i hg rfl rfl ⟨rfl, rfl⟩ rfl rfl (t_C_way hc_173) (by omega) ?_
                                                            refine ls_aload_n rfl ?_
                                                            refine ls_aload_n rfl ?_
                                                            refine ls_iload_n rfl ?_
                                                            refine ls_iconst (v := (1 : Int32)) rfl ?_
                                                            refine ls_iadd ?_
                                                            obtain ⟨hb174, hf⟩ := jg_some hf
                                                            refine ls_ialdK rfl rfl hb174 ?_
                                                            refine ls_aload_n rfl ?_
                                                            refine ls_iload_n rfl ?_
                                                            refine ls_iconst (v := (2 : Int32)) rfl ?_
                                                            refine ls_iadd ?_
                                                            obtain ⟨hb175, hf⟩ := jg_some hf
                                                            refine ls_ialdK rfl rfl hb175 ?_
                                                            refine ls_aload_n rfl ?_
                                                            refine ls_iload_n rfl ?_
                                                            refine ls_iconst (v := (3 : Int32)) rfl ?_
                                                            refine ls_iadd ?_
                                                            obtain ⟨hb176, hf⟩ := jg_some hf
                                                            refine ls_ialdK rfl rfl hb176 ?_
                                                            obtain ⟨q177, hc_177, hf⟩ := jbind hf
                                                            refine ls_c4i hg rfl rfl ⟨rfl, rfl⟩ rfl rfl (t_M_way hc_177) (by omega) ?_
                                                            refine ls_icmp (tgt := 1554) rfl rfl (fun h => ?_) (fun h => ?_)
                                                            · have hf := jif_t hf h
                                                              exact t_LAW_1554 hg hd (fun l3 w M res hf => ih l3 w M hf) _ _ _ hf
                                                            · have hf := jif_f hf h
                                                              refine ls_iconst (v := (0 : Int32)) rfl ?_
                                                              obtain rfl := Option.some.inj hf
                                                              exact ls_iret rfl rfl
                                                          · rcases jif_d hf with ⟨hk, hf⟩ | ⟨hk27, hf⟩
                                                            · refine ls_tabIn (v := (27 : Int32)) (off := 1136) (tgt := 1169) hk rfl rfl rfl rfl ?_
                                                              refine lR_in rfl rfl rfl ?_
                                                              refine ls_aload_n rfl ?_
                                                              refine ls_aload_n rfl ?_
                                                              refine ls_iload_n rfl ?_
                                                              refine ls_iconst (v := (1 : Int32)) rfl ?_
                                                              refine ls_iadd ?_
                                                              obtain ⟨hb178, hf⟩ := jg_some hf
                                                              refine ls_ialdK rfl rfl hb178 ?_
                                                              obtain ⟨q179, hc_179, hf⟩ := jbind hf
                                                              refine ls_c2i hg rfl rfl ⟨rfl, rfl⟩ rfl rfl (t_C_eaves hc_179) (by omega) ?_
                                                              refine ls_aload_n rfl ?_
                                                              refine ls_aload_n rfl ?_
                                                              refine ls_iload_n rfl ?_
                                                              refine ls_iconst (v := (1 : Int32)) rfl ?_
                                                              refine ls_iadd ?_
                                                              obtain ⟨hb180, hf⟩ := jg_some hf
                                                              refine ls_ialdK rfl rfl hb180 ?_
                                                              obtain ⟨q181, hc_181, hf⟩ := jbind hf
                                                              refine ls_c2i hg rfl rfl ⟨rfl, rfl⟩ rfl rfl (t_M_eaves hc_181) (by omega) ?_
                                                              refine ls_icmp (tgt := 1554) rfl rfl (fun h => ?_) (fun h => ?_)
                                                              · have hf := jif_t hf h
                                                                exact t_LAW_1554 hg hd (fun l3 w M res hf => ih l3 w M hf) _ _ _ hf
                                                              · have hf := jif_f hf h
                                                                refine ls_iconst (v := (0 : Int32)) rfl ?_
                                                                obtain rfl := Option.some.inj hf
                                                                exact ls_iret rfl rfl
                                                            · rcases jif_d hf with ⟨hk, hf⟩ | ⟨hk28, hf⟩
                                                              · refine ls_tabIn (v := (28 : Int32)) (off := 1159) (tgt := 1192) hk rfl rfl rfl rfl ?_
                                                                refine lR_in rfl rfl rfl ?_
                                                                refine ls_aload_n rfl ?_
                                                                refine ls_aload_n rfl ?_
                                                                refine ls_iload_n rfl ?_
                                                                refine ls_iconst (v := (1 : Int32)) rfl ?_
                                                                refine ls_iadd ?_
                                                                obtain ⟨hb182, hf⟩ := jg_some hf
                                                                refine ls_ialdK rfl rfl hb182 ?_
                                                                refine ls_aload_n rfl ?_
                                                                refine ls_iload_n rfl ?_
                                                                refine ls_iconst (v := (2 : Int32)) rfl ?_
                                                                refine ls_iadd ?_
                                                                obtain ⟨hb183, hf⟩ := jg_some hf
                                                                refine ls_ialdK rfl rfl hb183 ?_
                                                                obtain ⟨q184, hc_184, hf⟩ := jbind hf
                                                                refine ls_c3i hg rfl rfl ⟨rfl, rfl⟩ rfl rfl (t_C_cites hc_184) (by omega) ?_
                                                                refine ls_aload_n rfl ?_
                                                                refine ls_aload_n rfl ?_
                                                                refine ls_iload_n rfl ?_
                                                                refine ls_iconst (v := (1 : Int32)) rfl ?_
                                                                refine ls_iadd ?_
                                                                obtain ⟨hb185, hf⟩ := jg_some hf
                                                                refine ls_ialdK rfl rfl hb185 ?_
                                                                refine ls_aload_n rfl ?_
                                                                refine ls_iload_n rfl ?_
                                                                refine ls_iconst (v := (2 : Int32)) rfl ?_
                                                                refine ls_iadd ?_
                                                                obtain ⟨hb186, hf⟩ := jg_some hf
                                                                refine ls_ialdK rfl rfl hb186 ?_
                                                                obtain ⟨q187, hc_187, hf⟩ := jbind hf
                                                                refine ls_c3i hg rfl rfl ⟨rfl, rfl⟩ rfl rfl (t_M_cites hc_187) (by omega) ?_
                                                                refine ls_icmp (tgt := 1554) rfl rfl (fun h => ?_) (fun h => ?_)
                                                                · have hf := jif_t hf h
                                                                  exact t_LAW_1554 hg hd (fun l3 w M res hf => ih l3 w M hf) _ _ _ hf
                                                                · have hf := jif_f hf h
                                                                  refine ls_iconst (v := (0 : Int32)) rfl ?_
                                                                  obtain rfl := Option.some.inj hf
                                                                  exact ls_iret rfl rfl
                                                              · rcases jif_d hf with ⟨hk, hf⟩ | ⟨hk29, hf⟩
                                                                · refine ls_tabIn (v := (29 : Int32)) (off := 1192) (tgt := 1225) hk rfl rfl rfl rfl ?_
                                                                  refine lR_in rfl rfl rfl ?_
                                                                  refine ls_aload_n rfl ?_
                                                                  refine ls_aload_n rfl ?_
                                                                  refine ls_iload_n rfl ?_
                                                                  refine ls_iconst (v := (1 : Int32)) rfl ?_
                                                                  refine ls_iadd ?_
                                                                  obtain ⟨hb188, hf⟩ := jg_some hf
                                                                  refine ls_ialdK rfl rfl hb188 ?_
                                                                  refine ls_aload_n rfl ?_
                                                                  refine ls_iload_n rfl ?_
                                                                  refine ls_iconst (v := (2 : Int32)) rfl ?_
                                                                  refine ls_iadd ?_
                                                                  obtain ⟨hb189, hf⟩ := jg_some hf
                                                                  refine ls_ialdK rfl rfl hb189 ?_
                                                                  obtain ⟨q190, hc_190, hf⟩ := jbind hf
                                                                  refine ls_c3i hg rfl rfl ⟨rfl, rfl⟩ rfl rfl (t_C_voice hc_190) (by omega) ?_
                                                                  refine ls_aload_n rfl ?_
                                                                  refine ls_aload_n rfl ?_
                                                                  refine ls_iload_n rfl ?_
                                                                  refine ls_iconst (v := (1 : Int32)) rfl ?_
                                                                  refine ls_iadd ?_
                                                                  obtain ⟨hb191, hf⟩ := jg_some hf
                                                                  refine ls_ialdK rfl rfl hb191 ?_
                                                                  refine ls_aload_n rfl ?_
                                                                  refine ls_iload_n rfl ?_
                                                                  refine ls_iconst (v := (2 : Int32)) rfl ?_
                                                                  refine ls_iadd ?_
                                                                  obtain ⟨hb192, hf⟩ := jg_some hf
                                                                  refine ls_ialdK rfl rfl hb192 ?_
                                                                  obtain ⟨q193, hc_193, hf⟩ := jbind hf
                                                                  refine ls_c3i hg rfl rfl ⟨rfl, rfl⟩ rfl rfl (t_M_voice hc_193) (by omega) ?_
                                                                  refine ls_icmp (tgt := 1554) rfl rfl (fun h => ?_) (fun h => ?_)
                                                                  · have hf := jif_t hf h
                                                                    exact t_LAW_1554 hg hd (fun l3 w M res hf => ih l3 w M hf) _ _ _ hf
                                                                  · have hf := jif_f hf h
                                                                    refine ls_iconst (v := (0 : Int32)) rfl ?_
                                                                    obtain rfl := Option.some.inj hf
                                                                    exact ls_iret rfl rfl
                                                                · rcases jif_d hf with ⟨hk, hf⟩ | ⟨hk30, hf⟩
                                                                  · refine ls_tabIn (v := (30 : Int32)) (off := 1225) (tgt := 1258) hk rfl rfl rfl rfl ?_
                                                                    refine lR_in rfl rfl rfl ?_
                                                                    refine ls_aload_n rfl ?_
                                                                    refine ls_aload_n rfl ?_
                                                                    refine ls_iload_n rfl ?_
                                                                    refine ls_iconst (v := (1 : Int32)) rfl ?_
                                                                    refine ls_iadd ?_
                                                                    obtain ⟨hb194, hf⟩ := jg_some hf
                                                                    refine ls_ialdK rfl rfl hb194 ?_
                                                                    obtain ⟨q195, hc_195, hf⟩ := jbind hf
                                                                    refine ls_c2i hg rfl rfl ⟨rfl, rfl⟩ rfl rfl (t_C_asked hc_195) (by omega) ?_
                                                                    refine ls_aload_n rfl ?_
                                                                    refine ls_aload_n rfl ?_
                                                                    refine ls_iload_n rfl ?_
                                                                    refine ls_iconst (v := (1 : Int32)) rfl ?_
                                                                    refine ls_iadd ?_
                                                                    obtain ⟨hb196, hf⟩ := jg_some hf
                                                                    refine ls_ialdK rfl rfl hb196 ?_
                                                                    obtain ⟨q197, hc_197, hf⟩ := jbind hf
                                                                    refine ls_c2i hg rfl rfl ⟨rfl, rfl⟩ rfl rfl (t_M_asked hc_197) (by omega) ?_
                                                                    refine ls_icmp (tgt := 1554) rfl rfl (fun h => ?_) (fun h => ?_)
                                                                    · have hf := jif_t hf h
                                                                      exact t_LAW_1554 hg hd (fun l3 w M res hf => ih l3 w M hf) _ _ _ hf
                                                                    · have hf := jif_f hf h
                                                                      refine ls_iconst (v := (0 : Int32)) rfl ?_
                                                                      obtain rfl := Option.some.inj hf
                                                                      exact ls_iret rfl rfl
                                                                  · rcases jif_d hf with ⟨hk, hf⟩ | ⟨hk31, hf⟩
                                                                    · refine ls_tabIn (v := (31 : Int32)) (off := 1248) (tgt := 1281) hk rfl rfl rfl rfl ?_
                                                                      refine lR_in rfl rfl rfl ?_
                                                                      refine ls_aload_n rfl ?_
                                                                      refine ls_aload_n rfl ?_
                                                                      refine ls_iload_n rfl ?_
                                                                      refine ls_iconst (v := (1 : Int32)) rfl ?_
                                                                      refine ls_iadd ?_
                                                                      obtain ⟨hb198, hf⟩ := jg_some hf
                                                                      refine ls_ialdK rfl rfl hb198 ?_
                                                                      refine ls_aload_n rfl ?_
                                                                      refine ls_iload_n rfl ?_
                                                                      refine ls_iconst (v := (2 : Int32)) rfl ?_
                                                                      refine ls_iadd ?_
                                                                      obtain ⟨hb199, hf⟩ := jg_some hf
                                                                      refine ls_ialdK rfl rfl hb199 ?_
                                                                      obtain ⟨q200, hc_200, hf⟩ := jbind hf
                                                                      refine ls_c3i hg rfl rfl ⟨rfl, rfl⟩ rfl rfl (t_C_upright hc_200) (by omega) ?_
                                                                      refine ls_aload_n rfl ?_
                                                                      refine ls_aload_n rfl ?_
                                                                      refine ls_iload_n rfl ?_
                                                                      refine ls_iconst (v := (1 : Int32)) rfl ?_
                                                                      refine ls_iadd ?_
                                                                      obtain ⟨hb201, hf⟩ := jg_some hf
                                                                      refine ls_ialdK rfl rfl hb201 ?_
                                                                      refine ls_aload_n rfl ?_
                                                                      refine ls_iload_n rfl ?_
                                                                      refine ls_iconst (v := (2 : Int32)) rfl ?_
                                                                      refine ls_iadd ?_
                                                                      obtain ⟨hb202, hf⟩ := jg_some hf
                                                                      refine ls_ialdK rfl rfl hb202 ?_
                                                                      obtain ⟨q203, hc_203, hf⟩ := jbind hf
                                                                      refine ls_c3i hg rfl rfl ⟨rfl, rfl⟩ rfl rfl (t_M_upright hc_203) (by omega) ?_
                                                                      refine ls_icmp (tgt := 1554) rfl rfl (fun h => ?_) (fun h => ?_)
                                                                      · have hf := jif_t hf h
                                                                        exact t_LAW_1554 hg hd (fun l3 w M res hf => ih l3 w M hf) _ _ _ hf
                                                                      · have hf := jif_f hf h
                                                                        refine ls_iconst (v := (0 : Int32)) rfl ?_
                                                                        obtain rfl := Option.some.inj hf
                                                                        exact ls_iret rfl rfl
                                                                    · rcases jif_d hf with ⟨hk, hf⟩ | ⟨hk32, hf⟩
                                                                      · refine ls_tabIn (v := (32 : Int32)) (off := 1281) (tgt := 1314) hk rfl rfl rfl rfl ?_
                                                                        refine lR_in rfl rfl rfl ?_
                                                                        refine ls_aload_n rfl ?_
                                                                        refine ls_aload_n rfl ?_
                                                                        refine ls_iload_n rfl ?_
                                                                        refine ls_iconst (v := (1 : Int32)) rfl ?_
                                                                        refine ls_iadd ?_
                                                                        obtain ⟨hb204, hf⟩ := jg_some hf
                                                                        refine ls_ialdK rfl rfl hb204 ?_
                                                                        refine ls_aload_n rfl ?_
                                                                        refine ls_iload_n rfl ?_
                                                                        refine ls_iconst (v := (2 : Int32)) rfl ?_
                                                                        refine ls_iadd ?_
                                                                        obtain ⟨hb205, hf⟩ := jg_some hf
                                                                        refine ls_ialdK rfl rfl hb205 ?_
                                                                        refine ls_aload_n rfl ?_
                                                                        refine ls_iload_n rfl ?_
                                                                        refine ls_iconst (v := (3 : Int32)) rfl ?_
                                                                        refine ls_iadd ?_
                                                                        obtain ⟨hb206, hf⟩ := jg_some hf
                                                                        refine ls_ialdK rfl rfl hb206 ?_
                                                                        refine ls_aload_n rfl ?_
                                                                        refine ls_iload_n rfl ?_
                                                                        refine ls_iconst (v := (4 : Int32)) rfl ?_
                                                                        refine ls_iadd ?_
                                                                        obtain ⟨hb207, hf⟩ := jg_some hf
                                                                        refine ls_ialdK rfl rfl hb207 ?_
                                                                        obtain ⟨q208, hc_208, hf⟩ := jbind hf
                                                                        refine ls_c5i hg rfl rfl ⟨rfl, rfl⟩ rfl rfl (t_C_point hc_208) (by omega) ?_
                                                                        refine ls_aload_n rfl ?_
                                                                        refine ls_aload_n rfl ?_
                                                                        refine ls_iload_n rfl ?_
                                                                        refine ls_iconst (v := (1 : Int32)) rfl ?_
                                                                        refine ls_iadd ?_
                                                                        obtain ⟨hb209, hf⟩ := jg_some hf
                                                                        refine ls_ialdK rfl rfl hb209 ?_
                                                                        refine ls_aload_n rfl ?_
                                                                        refine ls_iload_n rfl ?_
                                                                        refine ls_iconst (v := (2 : Int32)) rfl ?_
                                                                        refine ls_iadd ?_
                                                                        obtain ⟨hb210, hf⟩ := jg_some hf
                                                                        refine ls_ialdK rfl rfl hb210 ?_
                                                                        refine ls_aload_n rfl ?_
                                                                        refine ls_iload_n rfl ?_
                                                                        refine ls_iconst (v := (3 : Int32)) rfl ?_
                                                                        refine ls_iadd ?_
                                                                        obtain ⟨hb211, hf⟩ := jg_some hf
                                                                        refine ls_ialdK rfl rfl hb211 ?_
                                                                        refine ls_aload_n rfl ?_
                                                                        refine ls_iload_n rfl ?_
                                                                        refine ls_iconst (v := (4 : Int32)) rfl ?_
                                                                        refine ls_iadd ?_
                                                                        obtain ⟨hb212, hf⟩ := jg_some hf
                                                                        refine ls_ialdK rfl rfl hb212 ?_
                                                                        obtain ⟨q213, hc_213, hf⟩ := jbind hf
                                                                        refine ls_c5i hg rfl rfl ⟨rfl, rfl⟩ rfl rfl (t_M_point hc_213) (by omega) ?_
                                                                        refine ls_icmp (tgt := 1554) rfl rfl (fun h => ?_) (fun h => ?_)
                                                                        · have hf := jif_t hf h
                                                                          exact t_LAW_1554 hg hd (fun l3 w M res hf => ih l3 w M hf) _ _ _ hf
                                                                        · have hf := jif_f hf h
                                                                          refine ls_iconst (v := (0 : Int32)) rfl ?_
                                                                          obtain rfl := Option.some.inj hf
                                                                          exact ls_iret rfl rfl
                                                                      · rcases jif_d hf with ⟨hk, hf⟩ | ⟨hk33, hf⟩
                                                                        · refine ls_tabIn (v := (33 : Int32)) (off := 1334) (tgt := 1367) hk rfl rfl rfl rfl ?_
                                                                          refine lR_in rfl rfl rfl ?_
                                                                          refine ls_aload_n rfl ?_
                                                                          refine ls_aload_n rfl ?_
                                                                          refine ls_iload_n rfl ?_
                                                                          refine ls_iconst (v := (1 : Int32)) rfl ?_
                                                                          refine ls_iadd ?_
                                                                          obtain ⟨hb214, hf⟩ := jg_some hf
                                                                          refine ls_ialdK rfl rfl hb214 ?_
                                                                          obtain ⟨q215, hc_215, hf⟩ := jbind hf
                                                                          refine ls_c2i hg rfl rfl ⟨rfl, rfl⟩ rfl rfl (t_C_arbiter hc_215) (by omega) ?_
                                                                          refine ls_aload_n rfl ?_
                                                                          refine ls_aload_n rfl ?_
                                                                          refine ls_iload_n rfl ?_
                                                                          refine ls_iconst (v := (1 : Int32)) rfl ?_
                                                                          refine ls_iadd ?_
                                                                          obtain ⟨hb216, hf⟩ := jg_some hf
                                                                          refine ls_ialdK rfl rfl hb216 ?_
                                                                          obtain ⟨q217, hc_217, hf⟩ := jbind hf
                                                                          refine ls_c2i hg rfl rfl ⟨rfl, rfl⟩ rfl rfl (t_M_arbiter hc_217) (by omega) ?_
                                                                          refine ls_icmp (tgt := 1554) rfl rfl (fun h => ?_) (fun h => ?_)
                                                                          · have hf := jif_t hf h
                                                                            exact t_LAW_1554 hg hd (fun l3 w M res hf => ih l3 w M hf) _ _ _ hf
                                                                          · have hf := jif_f hf h
                                                                            refine ls_iconst (v := (0 : Int32)) rfl ?_
                                                                            obtain rfl := Option.some.inj hf
                                                                            exact ls_iret rfl rfl
                                                                        · rcases jif_d hf with ⟨hk, hf⟩ | ⟨hk34, hf⟩
                                                                          · refine ls_tabIn (v := (34 : Int32)) (off := 1357) (tgt := 1390) hk rfl rfl rfl rfl ?_
                                                                            refine lR_in rfl rfl rfl ?_
                                                                            refine ls_aload_n rfl ?_
                                                                            refine ls_aload_n rfl ?_
                                                                            refine ls_iload_n rfl ?_
                                                                            refine ls_iconst (v := (1 : Int32)) rfl ?_
                                                                            refine ls_iadd ?_
                                                                            obtain ⟨hb218, hf⟩ := jg_some hf
                                                                            refine ls_ialdK rfl rfl hb218 ?_
                                                                            refine ls_aload_n rfl ?_
                                                                            refine ls_iload_n rfl ?_
                                                                            refine ls_iconst (v := (2 : Int32)) rfl ?_
                                                                            refine ls_iadd ?_
                                                                            obtain ⟨hb219, hf⟩ := jg_some hf
                                                                            refine ls_ialdK rfl rfl hb219 ?_
                                                                            refine ls_aload_n rfl ?_
                                                                            refine ls_iload_n rfl ?_
                                                                            refine ls_iconst (v := (3 : Int32)) rfl ?_
                                                                            refine ls_iadd ?_
                                                                            obtain ⟨hb220, hf⟩ := jg_some hf
                                                                            refine ls_ialdK rfl rfl hb220 ?_
                                                                            obtain ⟨q221, hc_221, hf⟩ := jbind hf
                                                                            refine ls_c4i hg rfl rfl ⟨rfl, rfl⟩ rfl rfl (t_C_ball hc_221) (by omega) ?_
                                                                            refine ls_aload_n rfl ?_
                                                                            refine ls_aload_n rfl ?_
                                                                            refine ls_iload_n rfl ?_
                                                                            refine ls_iconst (v := (1 : Int32)) rfl ?_
                                                                            refine ls_iadd ?_
                                                                            obtain ⟨hb222, hf⟩ := jg_some hf
                                                                            refine ls_ialdK rfl rfl hb222 ?_
                                                                            refine ls_aload_n rfl ?_
                                                                            refine ls_iload_n rfl ?_
                                                                            refine ls_iconst (v := (2 : Int32)) rfl ?_
                                                                            refine ls_iadd ?_
                                                                            obtain ⟨hb223, hf⟩ := jg_some hf
                                                                            refine ls_ialdK rfl rfl hb223 ?_
                                                                            refine ls_aload_n rfl ?_
                                                                            refine ls_iload_n rfl ?_
                                                                            refine ls_iconst (v := (3 : Int32)) rfl ?_
                                                                            refine ls_iadd ?_
                                                                            obtain ⟨hb224, hf⟩ := jg_some hf
                                                                            refine ls_ialdK rfl rfl hb224 ?_
                                                                            obtain ⟨q225, hc_225, hf⟩ := jbind hf
                                                                            refine ls_c4i hg rfl rfl ⟨rfl, rfl⟩ rfl rfl (t_M_ball hc_225) (by omega) ?_
                                                                            refine ls_icmp (tgt := 1554) rfl rfl (fun h => ?_) (fun h => ?_)
                                                                            · have hf := jif_t hf h
                                                                              exact t_LAW_1554 hg hd (fun l3 w M res hf => ih l3 w M hf) _ _ _ hf
                                                                            · have hf := jif_f hf h
                                                                              refine ls_iconst (v := (0 : Int32)) rfl ?_
                                                                              obtain rfl := Option.some.inj hf
                                                                              exact ls_iret rfl rfl
                                                                          · rcases jif_d hf with ⟨hk, hf⟩ | ⟨hk35, hf⟩
                                                                            · refine ls_tabIn (v := (35 : Int32)) (off := 1400) (tgt := 1433) hk rfl rfl rfl rfl ?_
                                                                              refine lR_in rfl rfl rfl ?_
                                                                              refine ls_aload_n rfl ?_
                                                                              refine ls_aload_n rfl ?_
                                                                              refine ls_iload_n rfl ?_
                                                                              refine ls_iconst (v := (1 : Int32)) rfl ?_
                                                                              refine ls_iadd ?_
                                                                              obtain ⟨hb226, hf⟩ := jg_some hf
                                                                              refine ls_ialdK rfl rfl hb226 ?_
                                                                              obtain ⟨q227, hc_227, hf⟩ := jbind hf
                                                                              refine ls_c2i hg rfl rfl ⟨rfl, rfl⟩ rfl rfl (t_C_game hc_227) (by omega) ?_
                                                                              refine ls_aload_n rfl ?_
                                                                              refine ls_aload_n rfl ?_
                                                                              refine ls_iload_n rfl ?_
                                                                              refine ls_iconst (v := (1 : Int32)) rfl ?_
                                                                              refine ls_iadd ?_
                                                                              obtain ⟨hb228, hf⟩ := jg_some hf
                                                                              refine ls_ialdK rfl rfl hb228 ?_
                                                                              obtain ⟨q229, hc_229, hf⟩ := jbind hf
                                                                              refine ls_c2i hg rfl rfl ⟨rfl, rfl⟩ rfl rfl (t_M_game hc_229) (by omega) ?_
                                                                              refine ls_icmp (tgt := 1554) rfl rfl (fun h => ?_) (fun h => ?_)
                                                                              · have hf := jif_t hf h
                                                                                exact t_LAW_1554 hg hd (fun l3 w M res hf => ih l3 w M hf) _ _ _ hf
                                                                              · have hf := jif_f hf h
                                                                                refine ls_iconst (v := (0 : Int32)) rfl ?_
                                                                                obtain rfl := Option.some.inj hf
                                                                                exact ls_iret rfl rfl
                                                                            · rcases jif_d hf with ⟨hk, hf⟩ | ⟨hk36, hf⟩
                                                                              · refine ls_tabIn (v := (36 : Int32)) (off := 1423) (tgt := 1456) hk rfl rfl rfl rfl ?_
                                                                                refine lR_in rfl rfl rfl ?_
                                                                                refine ls_aload_n rfl ?_
                                                                                refine ls_aload_n rfl ?_
                                                                                refine ls_iload_n rfl ?_
                                                                                refine ls_iconst (v := (1 : Int32)) rfl ?_
                                                                                refine ls_iadd ?_
                                                                                obtain ⟨hb230, hf⟩ := jg_some hf
                                                                                refine ls_ialdK rfl rfl hb230 ?_
                                                                                obtain ⟨q231, hc_231, hf⟩ := jbind hf
                                                                                refine ls_c2i hg rfl rfl ⟨rfl, rfl⟩ rfl rfl (t_C_leaps hc_231) (by omega) ?_
                                                                                refine ls_aload_n rfl ?_
                                                                                refine ls_aload_n rfl ?_
                                                                                refine ls_iload_n rfl ?_
                                                                                refine ls_iconst (v := (1 : Int32)) rfl ?_
                                                                                refine ls_iadd ?_
                                                                                obtain ⟨hb232, hf⟩ := jg_some hf
                                                                                refine ls_ialdK rfl rfl hb232 ?_
                                                                                obtain ⟨q233, hc_233, hf⟩ := jbind hf
                                                                                refine ls_c2i hg rfl rfl ⟨rfl, rfl⟩ rfl rfl (t_M_leaps hc_233) (by omega) ?_
                                                                                refine ls_icmp (tgt := 1554) rfl rfl (fun h => ?_) (fun h => ?_)
                                                                                · have hf := jif_t hf h
                                                                                  exact t_LAW_1554 hg hd (fun l3 w M res hf => ih l3 w M hf) _ _ _ hf
                                                                                · have hf := jif_f hf h
                                                                                  refine ls_iconst (v := (0 : Int32)) rfl ?_
                                                                                  obtain rfl := Option.some.inj hf
                                                                                  exact ls_iret rfl rfl
                                                                              · rcases jif_d hf with ⟨hk, hf⟩ | ⟨hk37, hf⟩
                                                                                · refine ls_tabIn (v := (37 : Int32)) (off := 1446) (tgt := 1479) hk rfl rfl rfl rfl ?_
                                                                                  refine lR_in rfl rfl rfl ?_
                                                                                  refine ls_aload_n rfl ?_
                                                                                  obtain ⟨q234, hc_234, hf⟩ := jbind hf
                                                                                  refine ls_c1i hg rfl rfl ⟨rfl, rfl⟩ rfl rfl (t_C_undo hc_234) (by omega) ?_
                                                                                  refine ls_aload_n rfl ?_
                                                                                  obtain ⟨q235, hc_235, hf⟩ := jbind hf
                                                                                  refine ls_c1i hg rfl rfl ⟨rfl, rfl⟩ rfl rfl (t_M_undo hc_235) (by omega) ?_
                                                                                  refine ls_icmp (tgt := 1554) rfl rfl (fun h => ?_) (fun h => ?_)
                                                                                  · have hf := jif_t hf h
                                                                                    exact t_LAW_1554 hg hd (fun l3 w M res hf => ih l3 w M hf) _ _ _ hf
                                                                                  · have hf := jif_f hf h
                                                                                    refine ls_iconst (v := (0 : Int32)) rfl ?_
                                                                                    obtain rfl := Option.some.inj hf
                                                                                    exact ls_iret rfl rfl
                                                                                · rcases jif_d hf with ⟨hk, hf⟩ | ⟨hk38, hf⟩
                                                                                  · refine ls_tabIn (v := (38 : Int32)) (off := 1459) (tgt := 1492) hk rfl rfl rfl rfl ?_
                                                                                    refine lR_in rfl rfl rfl ?_
                                                                                    refine ls_aload_n rfl ?_
                                                                                    refine ls_aload_n rfl ?_
                                                                                    refine ls_iload_n rfl ?_
                                                                                    refine ls_iconst (v := (1 : Int32)) rfl ?_
                                                                                    refine ls_iadd ?_
                                                                                    obtain ⟨hb236, hf⟩ := jg_some hf
                                                                                    refine ls_ialdK rfl rfl hb236 ?_
                                                                                    refine ls_ifc (tgt := 1505) rfl rfl (fun h => ?_) (fun h => ?_)
                                                                                    · have hf := jif_t hf h
                                                                                      refine lR_in rfl rfl rfl ?_
                                                                                      refine ls_iconst (v := (0 : Int32)) rfl ?_
                                                                                      exact lS_out rfl rfl rfl (t_LAW_1506 hg hd (fun l3 w M res hf => ih l3 w M hf) _ _ _ _ hf)
                                                                                    · have hf := jif_f hf h
                                                                                      refine ls_iconst (v := (1 : Int32)) rfl ?_
                                                                                      refine ls_goto (tgt := 1506) rfl rfl ?_
                                                                                      exact t_LAW_1506 hg hd (fun l3 w M res hf => ih l3 w M hf) _ _ _ _ hf
                                                                                  · rcases jif_d hf with ⟨hk, hf⟩ | ⟨hk39, hf⟩
                                                                                    · refine ls_tabIn (v := (39 : Int32)) (off := 1498) (tgt := 1531) hk rfl rfl rfl rfl ?_
                                                                                      refine lR_in rfl rfl rfl ?_
                                                                                      refine ls_aload_n rfl ?_
                                                                                      refine ls_aload_n rfl ?_
                                                                                      refine ls_iload_n rfl ?_
                                                                                      refine ls_iconst (v := (1 : Int32)) rfl ?_
                                                                                      refine ls_iadd ?_
                                                                                      obtain ⟨hb237, hf⟩ := jg_some hf
                                                                                      refine ls_ialdK rfl rfl hb237 ?_
                                                                                      obtain ⟨q238, hc_238, hf⟩ := jbind hf
                                                                                      refine ls_c2i hg rfl rfl ⟨rfl, rfl⟩ rfl rfl (t_C_look hc_238) (by omega) ?_
                                                                                      refine ls_aload_n rfl ?_
                                                                                      refine ls_aload_n rfl ?_
                                                                                      refine ls_iload_n rfl ?_
                                                                                      refine ls_iconst (v := (1 : Int32)) rfl ?_
                                                                                      refine ls_iadd ?_
                                                                                      obtain ⟨hb239, hf⟩ := jg_some hf
                                                                                      refine ls_ialdK rfl rfl hb239 ?_
                                                                                      obtain ⟨q240, hc_240, hf⟩ := jbind hf
                                                                                      refine ls_c2i hg rfl rfl ⟨rfl, rfl⟩ rfl rfl (t_M_look hc_240) (by omega) ?_
                                                                                      refine ls_icmp (tgt := 1554) rfl rfl (fun h => ?_) (fun h => ?_)
                                                                                      · have hf := jif_t hf h
                                                                                        exact t_LAW_1554 hg hd (fun l3 w M res hf => ih l3 w M hf) _ _ _ hf
                                                                                      · have hf := jif_f hf h
                                                                                        refine ls_iconst (v := (0 : Int32)) rfl ?_
                                                                                        obtain rfl := Option.some.inj hf
                                                                                        exact ls_iret rfl rfl
                                                                                    · refine ls_tabOut (tgt := 1554) (jsw_0 hk0 hk1 hk2 hk3 hk4 hk5 hk6 hk7 hk8 hk9 hk10 hk11 hk12 hk13 hk14 hk15 hk16 hk17 hk18 hk19 hk20 hk21 hk22 hk23 hk24 hk25 hk26 hk27 hk28 hk29 hk30 hk31 hk32 hk33 hk34 hk35 hk36 hk37 hk38 hk39) rfl rfl ?_
                                                                                      exact t_LAW_1554 hg hd (fun l3 w M res hf => ih l3 w M hf) _ _ _ hf
