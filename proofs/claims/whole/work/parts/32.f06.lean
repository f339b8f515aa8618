/-! SwallowsAirModel.readTurn()I -/
def f_M_readTurn (M : jp_M) : Option (Int32 × jp_M) :=
  (f_M_readTold (27 : Int32) (0 : Int32) (9 : Int32) M).bind fun q1 => (
  if jp_c .ne q1.1 (-1 : Int32) = true then (
  (f_M_readTold (28 : Int32) (0 : Int32) ((q1.2 104 7) - (1 : Int32)) q1.2).bind fun q2 => (
  if jp_c .ne q2.1 (-1 : Int32) = true then (
  jg (jp_in ((10 : Int32) + q1.1) 20) (
  let M3 := jp_set q2.2 123 (upd (q2.2 123) (Int32.toNatClampNeg ((10 : Int32) + q1.1)) (q2.1 + (1 : Int32)))
  (f_M_readMark (59 : Int32) M3).bind fun q5 => (
  some (q5.1, q5.2)))) else (
  some ((-1 : Int32), q2.2)))) else (
  some ((-1 : Int32), q1.2)))
theorem t_M_readTurn {Ln : Nat} {xs : Nat → Int32} {sv : jp_V} {w : Nat} {M : jp_M} {res : Int32 × jp_M} (hf : f_M_readTurn M = some res) : jE (jZ (jK Ln xs sv)) 5 218 [(.inr (some 104))] (jSH w) M (some (.inl res.1), jSH w, res.2) := by
  unfold f_M_readTurn at hf
  refine jE_in (L0 := [some (.inr (some 104)), none, none]) rfl (Nat.le_of_ble_eq_true rfl) rfl (fun d hd => ?_)
  refine jR_in rfl ⟨rfl, rfl, rfl⟩ rfl ?_
  refine js_aload_n rfl ?_
  refine js_bipush (v := (27 : Int32)) rfl ?_
  refine js_iconst (v := (0 : Int32)) rfl ?_
  refine js_bipush (v := (9 : Int32)) rfl ?_
  obtain ⟨q1, hc_1, hf⟩ := jbind hf
  refine js_c4i rfl rfl ⟨rfl, rfl⟩ rfl rfl (t_M_readTold hc_1) (by omega) ?_
  refine js_istore_n rfl rfl ?_
  refine js_iload_n rfl ?_
  refine js_iconst (v := (-1 : Int32)) rfl ?_
  refine js_icmp (tgt := 17) rfl rfl (fun h => ?_) (fun h => ?_)
  · have hf := jif_t hf h
    refine jR_in rfl ⟨rfl, rfl, rfl⟩ rfl ?_
    refine js_aload_n rfl ?_
    refine js_bipush (v := (28 : Int32)) rfl ?_
    refine js_iconst (v := (0 : Int32)) rfl ?_
    refine js_aload_n rfl ?_
    refine js_geti rfl rfl rfl ?_
    refine js_iconst (v := (1 : Int32)) rfl ?_
    refine js_isub ?_
    obtain ⟨q2, hc_2, hf⟩ := jbind hf
    refine js_c4i rfl rfl ⟨rfl, rfl⟩ rfl rfl (t_M_readTold hc_2) (by omega) ?_
    refine js_istore_n rfl rfl ?_
    refine js_iload_n rfl ?_
    refine js_iconst (v := (-1 : Int32)) rfl ?_
    refine js_icmp (tgt := 38) rfl rfl (fun h => ?_) (fun h => ?_)
    · have hf := jif_t hf h
      refine jR_in rfl ⟨rfl, rfl, rfl⟩ rfl ?_
      refine js_aload_n rfl ?_
      refine js_getr rfl rfl rfl ?_
      refine js_bipush (v := (10 : Int32)) rfl ?_
      refine js_iload_n rfl ?_
      refine js_iadd ?_
      refine js_iload_n rfl ?_
      refine js_iconst (v := (1 : Int32)) rfl ?_
      refine js_iadd ?_
      obtain ⟨hb4, hf⟩ := jg_some hf
      refine js_iast rfl hb4 ?_
      refine js_aload_n rfl ?_
      refine js_bipush (v := (59 : Int32)) rfl ?_
      obtain ⟨q5, hc_5, hf⟩ := jbind hf
      refine js_c2i rfl rfl ⟨rfl, rfl⟩ rfl rfl (t_M_readMark hc_5) (by omega) ?_
      obtain rfl := Option.some.inj hf
      exact js_iret rfl rfl
    · have hf := jif_f hf h
      refine js_iconst (v := (-1 : Int32)) rfl ?_
      obtain rfl := Option.some.inj hf
      exact js_iret rfl rfl
  · have hf := jif_f hf h
    refine js_iconst (v := (-1 : Int32)) rfl ?_
    obtain rfl := Option.some.inj hf
    exact js_iret rfl rfl
/-! SwallowsAirModel.readLease()I -/
def f_M_readLease_26  : Nat → Int32 → jp_M → Option (Int32 × jp_M)
  | 0, _, _ => none
  | n + 1, l1, M =>
    if jp_c .eq (f_M_isWord (27 : Int32) M) 0 = true then (
    if jp_c .ne (M 104 16) 0 = true then (
    let q2 := f_M_errs (1 : Int32) M
    some (q2.1, q2.2)) else (
    some (l1, M))) else (
    if jp_c .ne l1 (16 : Int32) = true then (
    (f_M_readTurn M).bind fun q3 => (
    if jp_c .ne q3.1 (-1 : Int32) = true then (
    f_M_readLease_26 n (l1 + (1 : Int32)) (q3.2)) else (
    some ((-1 : Int32), q3.2)))) else (
    let q4 := f_M_errs (3 : Int32) M
    some (q4.1, q4.2)))
theorem t_M_readLease_26 {Ln : Nat} {xs : Nat → Int32} {sv : jp_V} {d : Nat} (hd : 6 ≤ d)  : ∀ (n : Nat) (l1 : Int32) (w : Nat) (M : jp_M) {res : Int32 × jp_M}, f_M_readLease_26 n  l1 M = some res → jR (jZ (jK Ln xs sv)) d 219 26 ([some (.inr (some 104)), some (.inl l1)], [], jSH w, M) (some (.inl res.1), jSH w, res.2) := by
  intro n
  induction n with
  | zero =>
    intro l1 w M res hf
    cases hf
  | succ n ih =>
    intro l1 w M res hf
    rw [f_M_readLease_26] at hf
    refine jR_in rfl ⟨rfl, rfl, rfl⟩ rfl ?_
    refine js_aload_n rfl ?_
    refine js_bipush (v := (27 : Int32)) rfl ?_
    refine js_c2i rfl rfl ⟨rfl, rfl⟩ rfl rfl (t_M_isWord rfl) (by omega) ?_
    refine js_ifc (tgt := 64) rfl rfl (fun h => ?_) (fun h => ?_)
    · have hf := jif_t hf h
      refine jR_in rfl ⟨rfl, rfl, rfl⟩ rfl ?_
      refine js_aload_n rfl ?_
      refine js_geti rfl rfl rfl ?_
      refine js_ifc (tgt := 75) rfl rfl (fun h => ?_) (fun h => ?_)
      · have hf := jif_t hf h
        refine jR_in rfl ⟨rfl, rfl, rfl⟩ rfl ?_
        refine js_aload_n rfl ?_
        refine js_iconst (v := (1 : Int32)) rfl ?_
        refine js_c2i rfl rfl ⟨rfl, rfl⟩ rfl rfl (t_M_errs rfl) (by omega) ?_
        obtain rfl := Option.some.inj hf
        exact js_iret rfl rfl
      · have hf := jif_f hf h
        refine js_iload_n rfl ?_
        refine js_goto (tgt := 80) rfl rfl ?_
        refine jR_in rfl ⟨rfl, rfl, rfl⟩ rfl ?_
        obtain rfl := Option.some.inj hf
        exact js_iret rfl rfl
    · have hf := jif_f hf h
      refine js_iload_n rfl ?_
      refine js_bipush (v := (16 : Int32)) rfl ?_
      refine js_icmp (tgt := 47) rfl rfl (fun h => ?_) (fun h => ?_)
      · have hf := jif_t hf h
        refine jR_in rfl ⟨rfl, rfl, rfl⟩ rfl ?_
        refine js_aload_n rfl ?_
        obtain ⟨q3, hc_3, hf⟩ := jbind hf
        refine js_c1i rfl rfl ⟨rfl, rfl⟩ rfl rfl (t_M_readTurn hc_3) (by omega) ?_
        refine js_iconst (v := (-1 : Int32)) rfl ?_
        refine js_icmp (tgt := 57) rfl rfl (fun h => ?_) (fun h => ?_)
        · have hf := jif_t hf h
          refine jR_in rfl ⟨rfl, rfl, rfl⟩ rfl ?_
          refine js_iload_n rfl ?_
          refine js_iconst (v := (1 : Int32)) rfl ?_
          refine js_iadd ?_
          refine js_istore_n rfl rfl ?_
          refine js_goto (tgt := 26) rfl rfl ?_
          exact ih _ _ _ hf
        · have hf := jif_f hf h
          refine js_iconst (v := (-1 : Int32)) rfl ?_
          obtain rfl := Option.some.inj hf
          exact js_iret rfl rfl
      · have hf := jif_f hf h
        refine js_aload_n rfl ?_
        refine js_iconst (v := (3 : Int32)) rfl ?_
        refine js_c2i rfl rfl ⟨rfl, rfl⟩ rfl rfl (t_M_errs rfl) (by omega) ?_
        obtain rfl := Option.some.inj hf
        exact js_iret rfl rfl
def f_M_readLease_2  : Nat → Int32 → jp_M → Option (Int32 × jp_M)
  | 0, _, _ => none
  | n + 1, l1, M =>
    if jp_c .ge l1 (10 : Int32) = true then (
    f_M_readLease_26 jFu (0 : Int32) M) else (
    jg (jp_in ((10 : Int32) + l1) 20) (
    let M1 := jp_set M 123 (upd (M 123) (Int32.toNatClampNeg ((10 : Int32) + l1)) (0 : Int32))
    f_M_readLease_2 n (l1 + (1 : Int32)) M1))
theorem t_M_readLease_2 {Ln : Nat} {xs : Nat → Int32} {sv : jp_V} {d : Nat} (hd : 6 ≤ d)  : ∀ (n : Nat) (l1 : Int32) (w : Nat) (M : jp_M) {res : Int32 × jp_M}, f_M_readLease_2 n  l1 M = some res → jR (jZ (jK Ln xs sv)) d 219 2 ([some (.inr (some 104)), some (.inl l1)], [], jSH w, M) (some (.inl res.1), jSH w, res.2) := by
  intro n
  induction n with
  | zero =>
    intro l1 w M res hf
    cases hf
  | succ n ih =>
    intro l1 w M res hf
    rw [f_M_readLease_2] at hf
    refine jR_in rfl ⟨rfl, rfl, rfl⟩ rfl ?_
    refine js_iload_n rfl ?_
    refine js_bipush (v := (10 : Int32)) rfl ?_
    refine js_icmp (tgt := 24) rfl rfl (fun h => ?_) (fun h => ?_)
    · have hf := jif_t hf h
      refine jR_in rfl ⟨rfl, rfl, rfl⟩ rfl ?_
      refine js_iconst (v := (0 : Int32)) rfl ?_
      refine js_istore_n rfl rfl ?_
      exact jS_out rfl ⟨rfl, rfl, rfl⟩ rfl (t_M_readLease_26 hd jFu _ _ _ hf)
    · have hf := jif_f hf h
      refine js_aload_n rfl ?_
      refine js_getr rfl rfl rfl ?_
      refine js_bipush (v := (10 : Int32)) rfl ?_
      refine js_iload_n rfl ?_
      refine js_iadd ?_
      refine js_iconst (v := (0 : Int32)) rfl ?_
      obtain ⟨hb2, hf⟩ := jg_some hf
      refine js_iast rfl hb2 ?_
      refine js_iinc (v := (1 : Int32)) rfl rfl rfl rfl ?_
      refine js_goto (tgt := 2) rfl rfl ?_
      exact ih _ _ _ hf
def f_M_readLease (M : jp_M) : Option (Int32 × jp_M) :=
  f_M_readLease_2 jFu (0 : Int32) M
theorem t_M_readLease {Ln : Nat} {xs : Nat → Int32} {sv : jp_V} {w : Nat} {M : jp_M} {res : Int32 × jp_M} (hf : f_M_readLease M = some res) : jE (jZ (jK Ln xs sv)) 6 219 [(.inr (some 104))] (jSH w) M (some (.inl res.1), jSH w, res.2) := by
  unfold f_M_readLease at hf
  refine jE_in (L0 := [some (.inr (some 104)), none]) rfl (Nat.le_of_ble_eq_true rfl) rfl (fun d hd => ?_)
  refine jR_in rfl ⟨rfl, rfl, rfl⟩ rfl ?_
  refine js_iconst (v := (0 : Int32)) rfl ?_
  refine js_istore_n rfl rfl ?_
  exact jS_out rfl ⟨rfl, rfl, rfl⟩ rfl (t_M_readLease_2 hd jFu _ _ _ hf)
/-! SwallowsAirModel.readCite()I -/
def f_M_readCite_58  (l1 : Int32) (M : jp_M) : Option (Int32 × jp_M) :=
  (f_M_readNumber (0 : Int32) (15 : Int32) M).bind fun q1 => (
  if jp_c .ne q1.1 (-1 : Int32) = true then (
  jg (jp_in ((16 : Int32) + l1) 32) (
  jg (jp_in ((16 : Int32) + l1) 32) (
  let M3 := jp_set q1.2 124 (upd (q1.2 124) (Int32.toNatClampNeg ((16 : Int32) + l1)) ((q1.2 124 (Int32.toNatClampNeg ((16 : Int32) + l1))) ||| ((1 : Int32) <<< (q1.1 &&& 31))))
  (f_M_readMark (59 : Int32) M3).bind fun q5 => (
  some (q5.1, q5.2))))) else (
  some ((-1 : Int32), q1.2)))
theorem t_M_readCite_58 {Ln : Nat} {xs : Nat → Int32} {sv : jp_V} {d : Nat} (hd : 5 ≤ d)  (l1 : Int32) (o2 : Option jp_V) (w : Nat) (M : jp_M) {res : Int32 × jp_M} (hf : f_M_readCite_58  l1 M = some res) : jR (jZ (jK Ln xs sv)) d 220 58 ([some (.inr (some 104)), some (.inl l1), o2], [], jSH w, M) (some (.inl res.1), jSH w, res.2) := by
  unfold f_M_readCite_58 at hf
  refine jR_in rfl ⟨rfl, rfl, rfl⟩ rfl ?_
  refine js_aload_n rfl ?_
  refine js_iconst (v := (0 : Int32)) rfl ?_
  refine js_bipush (v := (15 : Int32)) rfl ?_
  obtain ⟨q1, hc_1, hf⟩ := jbind hf
  refine js_c3i rfl rfl ⟨rfl, rfl⟩ rfl rfl (t_M_readNumber hc_1) (by omega) ?_
  refine js_istore_n rfl rfl ?_
  refine js_iload_n rfl ?_
  refine js_iconst (v := (-1 : Int32)) rfl ?_
  refine js_icmp (tgt := 73) rfl rfl (fun h => ?_) (fun h => ?_)
  · have hf := jif_t hf h
    refine jR_in rfl ⟨rfl, rfl, rfl⟩ rfl ?_
    refine js_aload_n rfl ?_
    refine js_getr rfl rfl rfl ?_
    refine js_bipush (v := (16 : Int32)) rfl ?_
    refine js_iload_n rfl ?_
    refine js_iadd ?_
    refine js_aload_n rfl ?_
    refine js_getr rfl rfl rfl ?_
    refine js_bipush (v := (16 : Int32)) rfl ?_
    refine js_iload_n rfl ?_
    refine js_iadd ?_
    obtain ⟨hb2, hf⟩ := jg_some hf
    refine js_iald rfl hb2 ?_
    refine js_iconst (v := (1 : Int32)) rfl ?_
    refine js_iload_n rfl ?_
    refine js_ishl ?_
    refine js_ior ?_
    obtain ⟨hb4, hf⟩ := jg_some hf
    refine js_iast rfl hb4 ?_
    refine js_aload_n rfl ?_
    refine js_bipush (v := (59 : Int32)) rfl ?_
    obtain ⟨q5, hc_5, hf⟩ := jbind hf
    refine js_c2i rfl rfl ⟨rfl, rfl⟩ rfl rfl (t_M_readMark hc_5) (by omega) ?_
    obtain rfl := Option.some.inj hf
    exact js_iret rfl rfl
  · have hf := jif_f hf h
    refine js_iconst (v := (-1 : Int32)) rfl ?_
    obtain rfl := Option.some.inj hf
    exact js_iret rfl rfl
def f_M_readCite (M : jp_M) : Option (Int32 × jp_M) :=
  (f_M_readTold (29 : Int32) (0 : Int32) (15 : Int32) M).bind fun q1 => (
  if jp_c .ne q1.1 (-1 : Int32) = true then (
  if jp_c .ne (f_M_isWord (30 : Int32) q1.2) 0 = true then (
  (f_M_reads q1.2).bind fun q3 => (
  if jp_c .ne (q3 104 16) (3 : Int32) = true then (
  f_M_readCite_58 (q1.1) q3) else (
  if jp_c .ne (q3 104 17) q1.1 = true then (
  f_M_readCite_58 (q1.1) q3) else (
  let q4 := f_M_errs (2 : Int32) q3
  some (q4.1, q4.2))))) else (
  let q5 := f_M_errs (1 : Int32) q1.2
  some (q5.1, q5.2))) else (
  some ((-1 : Int32), q1.2)))
theorem t_M_readCite {Ln : Nat} {xs : Nat → Int32} {sv : jp_V} {w : Nat} {M : jp_M} {res : Int32 × jp_M} (hf : f_M_readCite M = some res) : jE (jZ (jK Ln xs sv)) 5 220 [(.inr (some 104))] (jSH w) M (some (.inl res.1), jSH w, res.2) := by
  unfold f_M_readCite at hf
  refine jE_in (L0 := [some (.inr (some 104)), none, none]) rfl (Nat.le_of_ble_eq_true rfl) rfl (fun d hd => ?_)
  refine jR_in rfl ⟨rfl, rfl, rfl⟩ rfl ?_
  refine js_aload_n rfl ?_
  refine js_bipush (v := (29 : Int32)) rfl ?_
  refine js_iconst (v := (0 : Int32)) rfl ?_
  refine js_bipush (v := (15 : Int32)) rfl ?_
  obtain ⟨q1, hc_1, hf⟩ := jbind hf
  refine js_c4i rfl rfl ⟨rfl, rfl⟩ rfl rfl (t_M_readTold hc_1) (by omega) ?_
  refine js_istore_n rfl rfl ?_
  refine js_iload_n rfl ?_
  refine js_iconst (v := (-1 : Int32)) rfl ?_
  refine js_icmp (tgt := 17) rfl rfl (fun h => ?_) (fun h => ?_)
  · have hf := jif_t hf h
    refine jR_in rfl ⟨rfl, rfl, rfl⟩ rfl ?_
    refine js_aload_n rfl ?_
    refine js_bipush (v := (30 : Int32)) rfl ?_
    refine js_c2i rfl rfl ⟨rfl, rfl⟩ rfl rfl (t_M_isWord rfl) (by omega) ?_
    refine js_ifc (tgt := 32) rfl rfl (fun h => ?_) (fun h => ?_)
    · have hf := jif_t hf h
      refine jR_in rfl ⟨rfl, rfl, rfl⟩ rfl ?_
      refine js_aload_n rfl ?_
      obtain ⟨q3, hc_3, hf⟩ := jbind hf
      refine js_c1v (w := 0) rfl rfl ⟨rfl, rfl⟩ rfl rfl (t_M_reads hc_3) (by omega) ?_
      refine js_aload_n rfl ?_
      refine js_geti rfl rfl rfl ?_
      refine js_iconst (v := (3 : Int32)) rfl ?_
      refine js_icmp (tgt := 58) rfl rfl (fun h => ?_) (fun h => ?_)
      · have hf := jif_t hf h
        exact t_M_readCite_58 hd _ _ _ _ hf
      · have hf := jif_f hf h
        refine js_aload_n rfl ?_
        refine js_geti rfl rfl rfl ?_
        refine js_iload_n rfl ?_
        refine js_icmp (tgt := 58) rfl rfl (fun h => ?_) (fun h => ?_)
        · have hf := jif_t hf h
          exact t_M_readCite_58 hd _ _ _ _ hf
        · have hf := jif_f hf h
          refine js_aload_n rfl ?_
          refine js_iconst (v := (2 : Int32)) rfl ?_
          refine js_c2i rfl rfl ⟨rfl, rfl⟩ rfl rfl (t_M_errs rfl) (by omega) ?_
          obtain rfl := Option.some.inj hf
          exact js_iret rfl rfl
    · have hf := jif_f hf h
      refine js_aload_n rfl ?_
      refine js_iconst (v := (1 : Int32)) rfl ?_
      refine js_c2i rfl rfl ⟨rfl, rfl⟩ rfl rfl (t_M_errs rfl) (by omega) ?_
      obtain rfl := Option.some.inj hf
      exact js_iret rfl rfl
  · have hf := jif_f hf h
    refine js_iconst (v := (-1 : Int32)) rfl ?_
    obtain rfl := Option.some.inj hf
    exact js_iret rfl rfl
/-! SwallowsAirModel.readCites()I -/
def f_M_readCites_26  : Nat → Int32 → jp_M → Option (Int32 × jp_M)
  | 0, _, _ => none
  | n + 1, l1, M =>
    if jp_c .eq (f_M_isWord (29 : Int32) M) 0 = true then (
    if jp_c .ne (M 104 16) 0 = true then (
    let q2 := f_M_errs (1 : Int32) M
    some (q2.1, q2.2)) else (
    some (l1, M))) else (
    if jp_c .ne l1 (16 : Int32) = true then (
    (f_M_readCite M).bind fun q3 => (
    if jp_c .ne q3.1 (-1 : Int32) = true then (
    f_M_readCites_26 n (l1 + (1 : Int32)) (q3.2)) else (
    some ((-1 : Int32), q3.2)))) else (
    let q4 := f_M_errs (3 : Int32) M
    some (q4.1, q4.2)))
theorem t_M_readCites_26 {Ln : Nat} {xs : Nat → Int32} {sv : jp_V} {d : Nat} (hd : 6 ≤ d)  : ∀ (n : Nat) (l1 : Int32) (w : Nat) (M : jp_M) {res : Int32 × jp_M}, f_M_readCites_26 n  l1 M = some res → jR (jZ (jK Ln xs sv)) d 221 26 ([some (.inr (some 104)), some (.inl l1)], [], jSH w, M) (some (.inl res.1), jSH w, res.2) := by
  intro n
  induction n with
  | zero =>
    intro l1 w M res hf
    cases hf
  | succ n ih =>
    intro l1 w M res hf
    rw [f_M_readCites_26] at hf
    refine jR_in rfl ⟨rfl, rfl, rfl⟩ rfl ?_
    refine js_aload_n rfl ?_
    refine js_bipush (v := (29 : Int32)) rfl ?_
    refine js_c2i rfl rfl ⟨rfl, rfl⟩ rfl rfl (t_M_isWord rfl) (by omega) ?_
    refine js_ifc (tgt := 64) rfl rfl (fun h => ?_) (fun h => ?_)
    · have hf := jif_t hf h
      refine jR_in rfl ⟨rfl, rfl, rfl⟩ rfl ?_
      refine js_aload_n rfl ?_
      refine js_geti rfl rfl rfl ?_
      refine js_ifc (tgt := 75) rfl rfl (fun h => ?_) (fun h => ?_)
      · have hf := jif_t hf h
        refine jR_in rfl ⟨rfl, rfl, rfl⟩ rfl ?_
        refine js_aload_n rfl ?_
        refine js_iconst (v := (1 : Int32)) rfl ?_
        refine js_c2i rfl rfl ⟨rfl, rfl⟩ rfl rfl (t_M_errs rfl) (by omega) ?_
        obtain rfl := Option.some.inj hf
        exact js_iret rfl rfl
      · have hf := jif_f hf h
        refine js_iload_n rfl ?_
        refine js_goto (tgt := 80) rfl rfl ?_
        refine jR_in rfl ⟨rfl, rfl, rfl⟩ rfl ?_
        obtain rfl := Option.some.inj hf
        exact js_iret rfl rfl
    · have hf := jif_f hf h
      refine js_iload_n rfl ?_
      refine js_bipush (v := (16 : Int32)) rfl ?_
      refine js_icmp (tgt := 47) rfl rfl (fun h => ?_) (fun h => ?_)
      · have hf := jif_t hf h
        refine jR_in rfl ⟨rfl, rfl, rfl⟩ rfl ?_
        refine js_aload_n rfl ?_
        obtain ⟨q3, hc_3, hf⟩ := jbind hf
        refine js_c1i rfl rfl ⟨rfl, rfl⟩ rfl rfl (t_M_readCite hc_3) (by omega) ?_
        refine js_iconst (v := (-1 : Int32)) rfl ?_
        refine js_icmp (tgt := 57) rfl rfl (fun h => ?_) (fun h => ?_)
        · have hf := jif_t hf h
          refine jR_in rfl ⟨rfl, rfl, rfl⟩ rfl ?_
          refine js_iload_n rfl ?_
          refine js_iconst (v := (1 : Int32)) rfl ?_
          refine js_iadd ?_
          refine js_istore_n rfl rfl ?_
          refine js_goto (tgt := 26) rfl rfl ?_
          exact ih _ _ _ hf
        · have hf := jif_f hf h
          refine js_iconst (v := (-1 : Int32)) rfl ?_
          obtain rfl := Option.some.inj hf
          exact js_iret rfl rfl
      · have hf := jif_f hf h
        refine js_aload_n rfl ?_
        refine js_iconst (v := (3 : Int32)) rfl ?_
        refine js_c2i rfl rfl ⟨rfl, rfl⟩ rfl rfl (t_M_errs rfl) (by omega) ?_
        obtain rfl := Option.some.inj hf
        exact js_iret rfl rfl
def f_M_readCites_2  : Nat → Int32 → jp_M → Option (Int32 × jp_M)
  | 0, _, _ => none
  | n + 1, l1, M =>
    if jp_c .ge l1 (16 : Int32) = true then (
    f_M_readCites_26 jFu (0 : Int32) M) else (
    jg (jp_in ((16 : Int32) + l1) 32) (
    let M1 := jp_set M 124 (upd (M 124) (Int32.toNatClampNeg ((16 : Int32) + l1)) (0 : Int32))
    f_M_readCites_2 n (l1 + (1 : Int32)) M1))
theorem t_M_readCites_2 {Ln : Nat} {xs : Nat → Int32} {sv : jp_V} {d : Nat} (hd : 6 ≤ d)  : ∀ (n : Nat) (l1 : Int32) (w : Nat) (M : jp_M) {res : Int32 × jp_M}, f_M_readCites_2 n  l1 M = some res → jR (jZ (jK Ln xs sv)) d 221 2 ([some (.inr (some 104)), some (.inl l1)], [], jSH w, M) (some (.inl res.1), jSH w, res.2) := by
  intro n
  induction n with
  | zero =>
    intro l1 w M res hf
    cases hf
  | succ n ih =>
    intro l1 w M res hf
    rw [f_M_readCites_2] at hf
    refine jR_in rfl ⟨rfl, rfl, rfl⟩ rfl ?_
    refine js_iload_n rfl ?_
    refine js_bipush (v := (16 : Int32)) rfl ?_
    refine js_icmp (tgt := 24) rfl rfl (fun h => ?_) (fun h => ?_)
    · have hf := jif_t hf h
      refine jR_in rfl ⟨rfl, rfl, rfl⟩ rfl ?_
      refine js_iconst (v := (0 : Int32)) rfl ?_
      refine js_istore_n rfl rfl ?_
      exact jS_out rfl ⟨rfl, rfl, rfl⟩ rfl (t_M_readCites_26 hd jFu _ _ _ hf)
    · have hf := jif_f hf h
      refine js_aload_n rfl ?_
      refine js_getr rfl rfl rfl ?_
      refine js_bipush (v := (16 : Int32)) rfl ?_
      refine js_iload_n rfl ?_
      refine js_iadd ?_
      refine js_iconst (v := (0 : Int32)) rfl ?_
      obtain ⟨hb2, hf⟩ := jg_some hf
      refine js_iast rfl hb2 ?_
      refine js_iinc (v := (1 : Int32)) rfl rfl rfl rfl ?_
      refine js_goto (tgt := 2) rfl rfl ?_
      exact ih _ _ _ hf
def f_M_readCites (M : jp_M) : Option (Int32 × jp_M) :=
  f_M_readCites_2 jFu (0 : Int32) M
theorem t_M_readCites {Ln : Nat} {xs : Nat → Int32} {sv : jp_V} {w : Nat} {M : jp_M} {res : Int32 × jp_M} (hf : f_M_readCites M = some res) : jE (jZ (jK Ln xs sv)) 6 221 [(.inr (some 104))] (jSH w) M (some (.inl res.1), jSH w, res.2) := by
  unfold f_M_readCites at hf
  refine jE_in (L0 := [some (.inr (some 104)), none]) rfl (Nat.le_of_ble_eq_true rfl) rfl (fun d hd => ?_)
  refine jR_in rfl ⟨rfl, rfl, rfl⟩ rfl ?_
  refine js_iconst (v := (0 : Int32)) rfl ?_
  refine js_istore_n rfl rfl ?_
  exact jS_out rfl ⟨rfl, rfl, rfl⟩ rfl (t_M_readCites_2 hd jFu _ _ _ hf)
/-! SwallowsAirModel.isLineWord()Z -/
def f_M_isLineWord (M : jp_M) : Int32 :=
  if jp_c .ne (M 104 16) (2 : Int32) = true then (
  (0 : Int32)) else (
  if jp_c .eq (f_M_isIn (M 104 17) (0 : Int32) (2 : Int32)) 0 = true then (
  (0 : Int32)) else (
  (1 : Int32)))
theorem t_M_isLineWord {Ln : Nat} {xs : Nat → Int32} {sv : jp_V} {w : Nat} {M : jp_M} {res : Int32} (hf : f_M_isLineWord M = res) : jE (jZ (jK Ln xs sv)) 1 209 [(.inr (some 104))] (jSH w) M (some (.inl res), jSH w, M) := by
  unfold f_M_isLineWord at hf
  refine jE_in (L0 := [some (.inr (some 104))]) rfl (Nat.le_of_ble_eq_true rfl) rfl (fun d hd => ?_)
  refine jR_in rfl ⟨rfl, rfl, rfl⟩ rfl ?_
  refine js_aload_n rfl ?_
  refine js_geti rfl rfl rfl ?_
  refine js_iconst (v := (2 : Int32)) rfl ?_
  refine js_icmp (tgt := 25) rfl rfl (fun h => ?_) (fun h => ?_)
  · have hf := jif_t hf h
    refine jR_in rfl ⟨rfl, rfl, rfl⟩ rfl ?_
    refine js_iconst (v := (0 : Int32)) rfl ?_
    subst hf
    exact js_iret rfl rfl
  · have hf := jif_f hf h
    refine js_aload_n rfl ?_
    refine js_aload_n rfl ?_
    refine js_geti rfl rfl rfl ?_
    refine js_iconst (v := (0 : Int32)) rfl ?_
    refine js_iconst (v := (2 : Int32)) rfl ?_
    refine js_c4i rfl rfl ⟨rfl, rfl⟩ rfl rfl (t_M_isIn rfl) (by omega) ?_
    refine js_ifc (tgt := 25) rfl rfl (fun h => ?_) (fun h => ?_)
    · have hf := jif_t hf h
      refine jR_in rfl ⟨rfl, rfl, rfl⟩ rfl ?_
      refine js_iconst (v := (0 : Int32)) rfl ?_
      subst hf
      exact js_iret rfl rfl
    · have hf := jif_f hf h
      refine js_iconst (v := (1 : Int32)) rfl ?_
      refine js_goto (tgt := 26) rfl rfl ?_
      refine jR_in rfl ⟨rfl, rfl, rfl⟩ rfl ?_
      subst hf
      exact js_iret rfl rfl
theorem b_M_isLineWord {M : jp_M} {res : Int32} (hf : f_M_isLineWord M = res) : res = 0 ∨ res = 1 := by
  unfold f_M_isLineWord at hf
  rcases jif_d hf with ⟨h, hf⟩ | ⟨h, hf⟩
  · subst hf
    exact Or.inl rfl
  · rcases jif_d hf with ⟨h, hf⟩ | ⟨h, hf⟩
    · subst hf
      exact Or.inl rfl
    · subst hf
      exact Or.inr rfl
/-! SwallowsAirModel.canAsk(I)Z -/
def f_M_canAsk (a1 : Int32) : Int32 :=
  (f_M_isIn a1 (7 : Int32) (16 : Int32))
theorem t_M_canAsk {Ln : Nat} {xs : Nat → Int32} {sv : jp_V} {a1 : Int32} {w : Nat} {M : jp_M} {res : Int32} (hf : f_M_canAsk a1 = res) : jE (jZ (jK Ln xs sv)) 1 201 [(.inr (some 104)), (.inl a1)] (jSH w) M (some (.inl res), jSH w, M) := by
  unfold f_M_canAsk at hf
  refine jE_in (L0 := [some (.inr (some 104)), some (.inl a1)]) rfl (Nat.le_of_ble_eq_true rfl) rfl (fun d hd => ?_)
  refine jR_in rfl ⟨rfl, rfl, rfl⟩ rfl ?_
  refine js_aload_n rfl ?_
  refine js_iload_n rfl ?_
  refine js_bipush (v := (7 : Int32)) rfl ?_
  refine js_bipush (v := (16 : Int32)) rfl ?_
  refine js_c4i rfl rfl ⟨rfl, rfl⟩ rfl rfl (t_M_isIn rfl) (by omega) ?_
  subst hf
  exact js_iret (jbool (b_M_isIn rfl)) rfl
theorem b_M_canAsk {a1 : Int32} {res : Int32} (hf : f_M_canAsk a1 = res) : res = 0 ∨ res = 1 := by
  unfold f_M_canAsk at hf
  subst hf
  exact (b_M_isIn rfl)
/-! SwallowsAirModel.emits(II)V -/
def f_M_emits (a1 : Int32) (a2 : Int32) (M : jp_M) : Option (jp_M) :=
  jg (jp_in ((800 : Int32) + (M 104 27)) 1200) (
  let M1 := jp_set M 119 (upd (M 119) (Int32.toNatClampNeg ((800 : Int32) + (M 104 27))) a1)
  jg (jp_in ((800 : Int32) + (M1 104 27)) 1200) (
  let M3 := jp_set M1 120 (upd (M1 120) (Int32.toNatClampNeg ((800 : Int32) + (M1 104 27))) a2)
  let M5 := jp_set M3 104 (upd (M3 104) 27 ((M3 104 27) + (1 : Int32)))
  some M5))
theorem t_M_emits {Ln : Nat} {xs : Nat → Int32} {sv : jp_V} {a1 : Int32} {a2 : Int32} {w : Nat} {M : jp_M} {res : jp_M} (hf : f_M_emits a1 a2 M = some res) : jE (jZ (jK Ln xs sv)) 0 200 [(.inr (some 104)), (.inl a1), (.inl a2)] (jSH w) M (none, jSH w, res) := by
  unfold f_M_emits at hf
  refine jE_in (L0 := [some (.inr (some 104)), some (.inl a1), some (.inl a2)]) rfl (Nat.le_of_ble_eq_true rfl) rfl (fun d hd => ?_)
  refine jR_in rfl ⟨rfl, rfl, rfl⟩ rfl ?_
  refine js_aload_n rfl ?_
  refine js_getr rfl rfl rfl ?_
  refine js_sipush (v := (800 : Int32)) rfl ?_
  refine js_aload_n rfl ?_
  refine js_geti rfl rfl rfl ?_
  refine js_iadd ?_
  refine js_iload_n rfl ?_
  obtain ⟨hb2, hf⟩ := jg_some hf
  refine js_iast rfl hb2 ?_
  refine js_aload_n rfl ?_
  refine js_getr rfl rfl rfl ?_
  refine js_sipush (v := (800 : Int32)) rfl ?_
  refine js_aload_n rfl ?_
  refine js_geti rfl rfl rfl ?_
  refine js_iadd ?_
  refine js_iload_n rfl ?_
  obtain ⟨hb4, hf⟩ := jg_some hf
  refine js_iast rfl hb4 ?_
  refine js_aload_n rfl ?_
  refine js_aload_n rfl ?_
  refine js_geti rfl rfl rfl ?_
  refine js_iconst (v := (1 : Int32)) rfl ?_
  refine js_iadd ?_
  refine js_puti rfl rfl (Or.inl rfl) ?_
  obtain rfl := Option.some.inj hf
  exact js_ret rfl rfl
/-! SwallowsAirModel.readUnit()I -/
def f_M_readUnit_71  (s1 : Int32) (s2 : Int32) (M : jp_M) : Option (Int32 × jp_M) :=
  (f_M_emits s1 s2 M).bind fun q1 => (
  (f_M_reads q1).bind fun q2 => (
  some ((0 : Int32), q2)))
theorem t_M_readUnit_71 {Ln : Nat} {xs : Nat → Int32} {sv : jp_V} {d : Nat} (hd : 3 ≤ d)  (s1 : Int32) (s2 : Int32) (o1 : Option jp_V) (w : Nat) (M : jp_M) {res : Int32 × jp_M} (hf : f_M_readUnit_71  s1 s2 M = some res) : jR (jZ (jK Ln xs sv)) d 202 71 ([some (.inr (some 104)), o1], [.inl s2, .inl s1, (.inr (some 104))], jSH w, M) (some (.inl res.1), jSH w, res.2) := by
  unfold f_M_readUnit_71 at hf
  refine jR_in rfl ⟨rfl, rfl, rfl⟩ rfl ?_
  obtain ⟨q1, hc_1, hf⟩ := jbind hf
  refine js_c3v (w := 0) rfl rfl ⟨rfl, rfl⟩ rfl rfl (t_M_emits hc_1) (by omega) ?_
  refine js_aload_n rfl ?_
  obtain ⟨q2, hc_2, hf⟩ := jbind hf
  refine js_c1v (w := 0) rfl rfl ⟨rfl, rfl⟩ rfl rfl (t_M_reads hc_2) (by omega) ?_
  refine js_iconst (v := (0 : Int32)) rfl ?_
  obtain rfl := Option.some.inj hf
  exact js_iret rfl rfl
def f_M_readUnit_53  (l1 : Int32) (s1 : Int32) (M : jp_M) : Option (Int32 × jp_M) :=
  if jp_c .eq l1 0 = true then (
  f_M_readUnit_71 s1 (M 104 17) M) else (
  f_M_readUnit_71 s1 ((M 104 17) - (7 : Int32)) M)
theorem t_M_readUnit_53 {Ln : Nat} {xs : Nat → Int32} {sv : jp_V} {d : Nat} (hd : 3 ≤ d)  (l1 : Int32) (s1 : Int32) (w : Nat) (M : jp_M) {res : Int32 × jp_M} (hf : f_M_readUnit_53  l1 s1 M = some res) : jR (jZ (jK Ln xs sv)) d 202 53 ([some (.inr (some 104)), some (.inl l1)], [.inl s1, (.inr (some 104))], jSH w, M) (some (.inl res.1), jSH w, res.2) := by
  unfold f_M_readUnit_53 at hf
  refine jR_in rfl ⟨rfl, rfl, rfl⟩ rfl ?_
  refine js_iload_n rfl ?_
  refine js_ifc (tgt := 67) rfl rfl (fun h => ?_) (fun h => ?_)
  · have hf := jif_t hf h
    refine jR_in rfl ⟨rfl, rfl, rfl⟩ rfl ?_
    refine js_aload_n rfl ?_
    refine js_geti rfl rfl rfl ?_
    exact jS_out rfl ⟨rfl, rfl, rfl⟩ rfl (t_M_readUnit_71 hd _ _ _ _ _ hf)
  · have hf := jif_f hf h
    refine js_aload_n rfl ?_
    refine js_geti rfl rfl rfl ?_
    refine js_bipush (v := (7 : Int32)) rfl ?_
    refine js_isub ?_
    refine js_goto (tgt := 71) rfl rfl ?_
    exact t_M_readUnit_71 hd _ _ _ _ _ hf
def f_M_readUnit_43  (l1 : Int32) (M : jp_M) : Option (Int32 × jp_M) :=
  if jp_c .eq l1 0 = true then (
  f_M_readUnit_53 l1 (0 : Int32) M) else (
  f_M_readUnit_53 l1 (1 : Int32) M)
theorem t_M_readUnit_43 {Ln : Nat} {xs : Nat → Int32} {sv : jp_V} {d : Nat} (hd : 3 ≤ d)  (l1 : Int32) (w : Nat) (M : jp_M) {res : Int32 × jp_M} (hf : f_M_readUnit_43  l1 M = some res) : jR (jZ (jK Ln xs sv)) d 202 43 ([some (.inr (some 104)), some (.inl l1)], [], jSH w, M) (some (.inl res.1), jSH w, res.2) := by
  unfold f_M_readUnit_43 at hf
  refine jR_in rfl ⟨rfl, rfl, rfl⟩ rfl ?_
  refine js_aload_n rfl ?_
  refine js_iload_n rfl ?_
  refine js_ifc (tgt := 52) rfl rfl (fun h => ?_) (fun h => ?_)
  · have hf := jif_t hf h
    refine jR_in rfl ⟨rfl, rfl, rfl⟩ rfl ?_
    refine js_iconst (v := (0 : Int32)) rfl ?_
    exact jS_out rfl ⟨rfl, rfl, rfl⟩ rfl (t_M_readUnit_53 hd _ _ _ _ hf)
  · have hf := jif_f hf h
    refine js_iconst (v := (1 : Int32)) rfl ?_
    refine js_goto (tgt := 53) rfl rfl ?_
    exact t_M_readUnit_53 hd _ _ _ _ hf
def f_M_readUnit_24  (s0 : Int32) (M : jp_M) : Option (Int32 × jp_M) :=
  if jp_c .ne s0 0 = true then (
  f_M_readUnit_43 s0 M) else (
  if jp_c .eq (M 104 16) (3 : Int32) = true then (
  f_M_readUnit_43 s0 M) else (
  let q1 := f_M_errs (1 : Int32) M
  some (q1.1, q1.2)))
theorem t_M_readUnit_24 {Ln : Nat} {xs : Nat → Int32} {sv : jp_V} {d : Nat} (hd : 3 ≤ d)  (s0 : Int32) (o1 : Option jp_V) (w : Nat) (M : jp_M) {res : Int32 × jp_M} (hf : f_M_readUnit_24  s0 M = some res) : jR (jZ (jK Ln xs sv)) d 202 24 ([some (.inr (some 104)), o1], [.inl s0], jSH w, M) (some (.inl res.1), jSH w, res.2) := by
  unfold f_M_readUnit_24 at hf
  refine jR_in rfl ⟨rfl, rfl, rfl⟩ rfl ?_
  refine js_istore_n rfl rfl ?_
  refine js_iload_n rfl ?_
  refine js_ifc (tgt := 43) rfl rfl (fun h => ?_) (fun h => ?_)
  · have hf := jif_t hf h
    exact t_M_readUnit_43 hd _ _ _ hf
  · have hf := jif_f hf h
    refine js_aload_n rfl ?_
    refine js_geti rfl rfl rfl ?_
    refine js_iconst (v := (3 : Int32)) rfl ?_
    refine js_icmp (tgt := 43) rfl rfl (fun h => ?_) (fun h => ?_)
    · have hf := jif_t hf h
      exact t_M_readUnit_43 hd _ _ _ hf
    · have hf := jif_f hf h
      refine js_aload_n rfl ?_
      refine js_iconst (v := (1 : Int32)) rfl ?_
      refine js_c2i rfl rfl ⟨rfl, rfl⟩ rfl rfl (t_M_errs rfl) (by omega) ?_
      obtain rfl := Option.some.inj hf
      exact js_iret rfl rfl
def f_M_readUnit_23  (M : jp_M) : Option (Int32 × jp_M) :=
  f_M_readUnit_24 (0 : Int32) M
theorem t_M_readUnit_23 {Ln : Nat} {xs : Nat → Int32} {sv : jp_V} {d : Nat} (hd : 3 ≤ d)  (o1 : Option jp_V) (w : Nat) (M : jp_M) {res : Int32 × jp_M} (hf : f_M_readUnit_23  M = some res) : jR (jZ (jK Ln xs sv)) d 202 23 ([some (.inr (some 104)), o1], [], jSH w, M) (some (.inl res.1), jSH w, res.2) := by
  unfold f_M_readUnit_23 at hf
  refine jR_in rfl ⟨rfl, rfl, rfl⟩ rfl ?_
  refine js_iconst (v := (0 : Int32)) rfl ?_
  exact jS_out rfl ⟨rfl, rfl, rfl⟩ rfl (t_M_readUnit_24 hd _ _ _ _ hf)
def f_M_readUnit (M : jp_M) : Option (Int32 × jp_M) :=
  if jp_c .ne (M 104 16) (2 : Int32) = true then (
  f_M_readUnit_23 M) else (
  if jp_c .eq (f_M_canAsk (M 104 17)) 0 = true then (
  f_M_readUnit_23 M) else (
  f_M_readUnit_24 (1 : Int32) M))
theorem t_M_readUnit {Ln : Nat} {xs : Nat → Int32} {sv : jp_V} {w : Nat} {M : jp_M} {res : Int32 × jp_M} (hf : f_M_readUnit M = some res) : jE (jZ (jK Ln xs sv)) 3 202 [(.inr (some 104))] (jSH w) M (some (.inl res.1), jSH w, res.2) := by
  unfold f_M_readUnit at hf
  refine jE_in (L0 := [some (.inr (some 104)), none]) rfl (Nat.le_of_ble_eq_true rfl) rfl (fun d hd => ?_)
  refine jR_in rfl ⟨rfl, rfl, rfl⟩ rfl ?_
  refine js_aload_n rfl ?_
  refine js_geti rfl rfl rfl ?_
  refine js_iconst (v := (2 : Int32)) rfl ?_
  refine js_icmp (tgt := 23) rfl rfl (fun h => ?_) (fun h => ?_)
  · have hf := jif_t hf h
    exact t_M_readUnit_23 hd _ _ _ hf
  · have hf := jif_f hf h
    refine js_aload_n rfl ?_
    refine js_aload_n rfl ?_
    refine js_geti rfl rfl rfl ?_
    refine js_c2i rfl rfl ⟨rfl, rfl⟩ rfl rfl (t_M_canAsk rfl) (by omega) ?_
    refine js_ifc (tgt := 23) rfl rfl (fun h => ?_) (fun h => ?_)
    · have hf := jif_t hf h
      exact t_M_readUnit_23 hd _ _ _ hf
    · have hf := jif_f hf h
      refine js_iconst (v := (1 : Int32)) rfl ?_
      refine js_goto (tgt := 24) rfl rfl ?_
      exact t_M_readUnit_24 hd _ _ _ _ hf
/-! SwallowsAirModel.readProduct()I -/
def f_M_readProduct_94 (c6 : jp_M → Option (Int32 × jp_M)) (s1 : Int32) (M : jp_M) : Option (Int32 × jp_M) :=
  (f_M_emits s1 (0 : Int32) M).bind fun q1 => (
  c6 q1)
theorem t_M_readProduct_94 {Ln : Nat} {xs : Nat → Int32} {sv : jp_V} {d : Nat} (hd : 4 ≤ d) {c6 : jp_M → Option (Int32 × jp_M)} (hc6 : ∀ (o1 : Option jp_V) (w : Nat) (M : jp_M) (res : Int32 × jp_M), c6 M = some res → jR (jZ (jK Ln xs sv)) d 203 10 ([some (.inr (some 104)), o1], [], jSH w, M) (some (.inl res.1), jSH w, res.2)) (s1 : Int32) (o1 : Option jp_V) (w : Nat) (M : jp_M) {res : Int32 × jp_M} (hf : f_M_readProduct_94 c6 s1 M = some res) : jR (jZ (jK Ln xs sv)) d 203 94 ([some (.inr (some 104)), o1], [.inl s1, (.inr (some 104))], jSH w, M) (some (.inl res.1), jSH w, res.2) := by
  unfold f_M_readProduct_94 at hf
  refine jR_in rfl ⟨rfl, rfl, rfl⟩ rfl ?_
  refine js_iconst (v := (0 : Int32)) rfl ?_
  obtain ⟨q1, hc_1, hf⟩ := jbind hf
  refine js_c3v (w := 0) rfl rfl ⟨rfl, rfl⟩ rfl rfl (t_M_emits hc_1) (by omega) ?_
  refine js_goto (tgt := 10) rfl rfl ?_
  exact hc6 _ _ _ _ hf
def f_M_readProduct_74 (c6 : jp_M → Option (Int32 × jp_M)) (l1 : Int32) (M : jp_M) : Option (Int32 × jp_M) :=
  (f_M_readUnit M).bind fun q1 => (
  if jp_c .ne q1.1 (-1 : Int32) = true then (
  if jp_c .eq l1 0 = true then (
  f_M_readProduct_94 c6 (5 : Int32) (q1.2)) else (
  f_M_readProduct_94 c6 (4 : Int32) (q1.2))) else (
  some ((-1 : Int32), q1.2)))
theorem t_M_readProduct_74 {Ln : Nat} {xs : Nat → Int32} {sv : jp_V} {d : Nat} (hd : 4 ≤ d) {c6 : jp_M → Option (Int32 × jp_M)} (hc6 : ∀ (o1 : Option jp_V) (w : Nat) (M : jp_M) (res : Int32 × jp_M), c6 M = some res → jR (jZ (jK Ln xs sv)) d 203 10 ([some (.inr (some 104)), o1], [], jSH w, M) (some (.inl res.1), jSH w, res.2)) (l1 : Int32) (w : Nat) (M : jp_M) {res : Int32 × jp_M} (hf : f_M_readProduct_74 c6 l1 M = some res) : jR (jZ (jK Ln xs sv)) d 203 74 ([some (.inr (some 104)), some (.inl l1)], [], jSH w, M) (some (.inl res.1), jSH w, res.2) := by
  unfold f_M_readProduct_74 at hf
  refine jR_in rfl ⟨rfl, rfl, rfl⟩ rfl ?_
  refine js_aload_n rfl ?_
  obtain ⟨q1, hc_1, hf⟩ := jbind hf
  refine js_c1i rfl rfl ⟨rfl, rfl⟩ rfl rfl (t_M_readUnit hc_1) (by omega) ?_
  refine js_iconst (v := (-1 : Int32)) rfl ?_
  refine js_icmp (tgt := 84) rfl rfl (fun h => ?_) (fun h => ?_)
  · have hf := jif_t hf h
    refine jR_in rfl ⟨rfl, rfl, rfl⟩ rfl ?_
    refine js_aload_n rfl ?_
    refine js_iload_n rfl ?_
    refine js_ifc (tgt := 93) rfl rfl (fun h => ?_) (fun h => ?_)
    · have hf := jif_t hf h
      refine jR_in rfl ⟨rfl, rfl, rfl⟩ rfl ?_
      refine js_iconst (v := (5 : Int32)) rfl ?_
      exact jS_out rfl ⟨rfl, rfl, rfl⟩ rfl (t_M_readProduct_94 hd hc6 _ _ _ _ hf)
    · have hf := jif_f hf h
      refine js_iconst (v := (4 : Int32)) rfl ?_
      refine js_goto (tgt := 94) rfl rfl ?_
      exact t_M_readProduct_94 hd hc6 _ _ _ _ hf
  · have hf := jif_f hf h
    refine js_iconst (v := (-1 : Int32)) rfl ?_
    obtain rfl := Option.some.inj hf
    exact js_iret rfl rfl
def f_M_readProduct_57 (c6 : jp_M → Option (Int32 × jp_M)) (l1 : Int32) (M : jp_M) : Option (Int32 × jp_M) :=
  if jp_c .ne l1 0 = true then (
  f_M_readProduct_74 c6 l1 M) else (
  if jp_c .ne (M 104 17) 0 = true then (
  f_M_readProduct_74 c6 l1 M) else (
  let q1 := f_M_errs (2 : Int32) M
  some (q1.1, q1.2)))
theorem t_M_readProduct_57 {Ln : Nat} {xs : Nat → Int32} {sv : jp_V} {d : Nat} (hd : 4 ≤ d) {c6 : jp_M → Option (Int32 × jp_M)} (hc6 : ∀ (o1 : Option jp_V) (w : Nat) (M : jp_M) (res : Int32 × jp_M), c6 M = some res → jR (jZ (jK Ln xs sv)) d 203 10 ([some (.inr (some 104)), o1], [], jSH w, M) (some (.inl res.1), jSH w, res.2)) (l1 : Int32) (w : Nat) (M : jp_M) {res : Int32 × jp_M} (hf : f_M_readProduct_57 c6 l1 M = some res) : jR (jZ (jK Ln xs sv)) d 203 57 ([some (.inr (some 104)), some (.inl l1)], [], jSH w, M) (some (.inl res.1), jSH w, res.2) := by
  unfold f_M_readProduct_57 at hf
  refine jR_in rfl ⟨rfl, rfl, rfl⟩ rfl ?_
  refine js_iload_n rfl ?_
  refine js_ifc (tgt := 74) rfl rfl (fun h => ?_) (fun h => ?_)
  · have hf := jif_t hf h
    exact t_M_readProduct_74 hd hc6 _ _ _ hf
  · have hf := jif_f hf h
    refine js_aload_n rfl ?_
    refine js_geti rfl rfl rfl ?_
    refine js_ifc (tgt := 74) rfl rfl (fun h => ?_) (fun h => ?_)
    · have hf := jif_t hf h
      exact t_M_readProduct_74 hd hc6 _ _ _ hf
    · have hf := jif_f hf h
      refine js_aload_n rfl ?_
      refine js_iconst (v := (2 : Int32)) rfl ?_
      refine js_c2i rfl rfl ⟨rfl, rfl⟩ rfl rfl (t_M_errs rfl) (by omega) ?_
      obtain rfl := Option.some.inj hf
      exact js_iret rfl rfl
def f_M_readProduct_28 (c6 : jp_M → Option (Int32 × jp_M)) (M : jp_M) : Option (Int32 × jp_M) :=
  (f_M_reads M).bind fun q2 => (
  if jp_c .ne (f_M_isSign (42 : Int32) M) 0 = true then (
  f_M_readProduct_57 c6 (f_M_isSign (42 : Int32) M) q2) else (
  if jp_c .eq (q2 104 16) (3 : Int32) = true then (
  f_M_readProduct_57 c6 (f_M_isSign (42 : Int32) M) q2) else (
  let q3 := f_M_errs (1 : Int32) q2
  some (q3.1, q3.2))))
theorem t_M_readProduct_28 {Ln : Nat} {xs : Nat → Int32} {sv : jp_V} {d : Nat} (hd : 4 ≤ d) {c6 : jp_M → Option (Int32 × jp_M)} (hc6 : ∀ (o1 : Option jp_V) (w : Nat) (M : jp_M) (res : Int32 × jp_M), c6 M = some res → jR (jZ (jK Ln xs sv)) d 203 10 ([some (.inr (some 104)), o1], [], jSH w, M) (some (.inl res.1), jSH w, res.2)) (o1 : Option jp_V) (w : Nat) (M : jp_M) {res : Int32 × jp_M} (hf : f_M_readProduct_28 c6 M = some res) : jR (jZ (jK Ln xs sv)) d 203 28 ([some (.inr (some 104)), o1], [], jSH w, M) (some (.inl res.1), jSH w, res.2) := by
  unfold f_M_readProduct_28 at hf
  refine jR_in rfl ⟨rfl, rfl, rfl⟩ rfl ?_
  refine js_aload_n rfl ?_
  refine js_bipush (v := (42 : Int32)) rfl ?_
  refine js_c2i rfl rfl ⟨rfl, rfl⟩ rfl rfl (t_M_isSign rfl) (by omega) ?_
  refine js_istore_n rfl rfl ?_
  refine js_aload_n rfl ?_
  obtain ⟨q2, hc_2, hf⟩ := jbind hf
  refine js_c1v (w := 0) rfl rfl ⟨rfl, rfl⟩ rfl rfl (t_M_reads hc_2) (by omega) ?_
  refine js_iload_n rfl ?_
  refine js_ifc (tgt := 57) rfl rfl (fun h => ?_) (fun h => ?_)
  · have hf := jif_t hf h
    exact t_M_readProduct_57 hd hc6 _ _ _ hf
  · have hf := jif_f hf h
    refine js_aload_n rfl ?_
    refine js_geti rfl rfl rfl ?_
    refine js_iconst (v := (3 : Int32)) rfl ?_
    refine js_icmp (tgt := 57) rfl rfl (fun h => ?_) (fun h => ?_)
    · have hf := jif_t hf h
      exact t_M_readProduct_57 hd hc6 _ _ _ hf
    · have hf := jif_f hf h
      refine js_aload_n rfl ?_
      refine js_iconst (v := (1 : Int32)) rfl ?_
      refine js_c2i rfl rfl ⟨rfl, rfl⟩ rfl rfl (t_M_errs rfl) (by omega) ?_
      obtain rfl := Option.some.inj hf
      exact js_iret rfl rfl
def f_M_readProduct_10  : Nat → jp_M → Option (Int32 × jp_M)
  | 0, _ => none
  | n + 1, M =>
    if jp_c .ne (f_M_isSign (42 : Int32) M) 0 = true then (
    f_M_readProduct_28 (f_M_readProduct_10 n ) M) else (
    if jp_c .eq (f_M_isSign (47 : Int32) M) 0 = true then (
    some ((0 : Int32), M)) else (
    f_M_readProduct_28 (f_M_readProduct_10 n ) M))
theorem t_M_readProduct_10 {Ln : Nat} {xs : Nat → Int32} {sv : jp_V} {d : Nat} (hd : 4 ≤ d)  : ∀ (n : Nat) (o1 : Option jp_V) (w : Nat) (M : jp_M) {res : Int32 × jp_M}, f_M_readProduct_10 n  M = some res → jR (jZ (jK Ln xs sv)) d 203 10 ([some (.inr (some 104)), o1], [], jSH w, M) (some (.inl res.1), jSH w, res.2) := by
  intro n
  induction n with
  | zero =>
    intro o1 w M res hf
    cases hf
  | succ n ih =>
    intro o1 w M res hf
    rw [f_M_readProduct_10] at hf
    refine jR_in rfl ⟨rfl, rfl, rfl⟩ rfl ?_
    refine js_aload_n rfl ?_
    refine js_bipush (v := (42 : Int32)) rfl ?_
    refine js_c2i rfl rfl ⟨rfl, rfl⟩ rfl rfl (t_M_isSign rfl) (by omega) ?_
    refine js_ifc (tgt := 28) rfl rfl (fun h => ?_) (fun h => ?_)
    · have hf := jif_t hf h
      exact t_M_readProduct_28 hd (fun o1 w M res hf => ih o1 w M hf) _ _ _ hf
    · have hf := jif_f hf h
      refine js_aload_n rfl ?_
      refine js_bipush (v := (47 : Int32)) rfl ?_
      refine js_c2i rfl rfl ⟨rfl, rfl⟩ rfl rfl (t_M_isSign rfl) (by omega) ?_
      refine js_ifc (tgt := 101) rfl rfl (fun h => ?_) (fun h => ?_)
      · have hf := jif_t hf h
        refine jR_in rfl ⟨rfl, rfl, rfl⟩ rfl ?_
        refine js_iconst (v := (0 : Int32)) rfl ?_
        obtain rfl := Option.some.inj hf
        exact js_iret rfl rfl
      · have hf := jif_f hf h
        exact jS_out rfl ⟨rfl, rfl, rfl⟩ rfl (t_M_readProduct_28 hd (fun o1 w M res hf => ih o1 w M hf) _ _ _ hf)
def f_M_readProduct (M : jp_M) : Option (Int32 × jp_M) :=
  (f_M_readUnit M).bind fun q1 => (
  if jp_c .ne q1.1 (-1 : Int32) = true then (
  f_M_readProduct_10 jFu (q1.2)) else (
  some ((-1 : Int32), q1.2)))
theorem t_M_readProduct {Ln : Nat} {xs : Nat → Int32} {sv : jp_V} {w : Nat} {M : jp_M} {res : Int32 × jp_M} (hf : f_M_readProduct M = some res) : jE (jZ (jK Ln xs sv)) 4 203 [(.inr (some 104))] (jSH w) M (some (.inl res.1), jSH w, res.2) := by
  unfold f_M_readProduct at hf
  refine jE_in (L0 := [some (.inr (some 104)), none]) rfl (Nat.le_of_ble_eq_true rfl) rfl (fun d hd => ?_)
  refine jR_in rfl ⟨rfl, rfl, rfl⟩ rfl ?_
  refine js_aload_n rfl ?_
  obtain ⟨q1, hc_1, hf⟩ := jbind hf
  refine js_c1i rfl rfl ⟨rfl, rfl⟩ rfl rfl (t_M_readUnit hc_1) (by omega) ?_
  refine js_iconst (v := (-1 : Int32)) rfl ?_
  refine js_icmp (tgt := 10) rfl rfl (fun h => ?_) (fun h => ?_)
  · have hf := jif_t hf h
    exact t_M_readProduct_10 hd jFu _ _ _ hf
  · have hf := jif_f hf h
    refine js_iconst (v := (-1 : Int32)) rfl ?_
    obtain rfl := Option.some.inj hf
    exact js_iret rfl rfl
/-! SwallowsAirModel.readSum()I -/
def f_M_readSum_42 (c6 : jp_M → Option (Int32 × jp_M)) (s0 : Int32) (M : jp_M) : Option (Int32 × jp_M) :=
  (f_M_reads M).bind fun q1 => (
  (f_M_readProduct q1).bind fun q2 => (
  if jp_c .ne q2.1 (-1 : Int32) = true then (
  (f_M_emits s0 (0 : Int32) q2.2).bind fun q3 => (
  c6 q3)) else (
  some ((-1 : Int32), q2.2))))
theorem t_M_readSum_42 {Ln : Nat} {xs : Nat → Int32} {sv : jp_V} {d : Nat} (hd : 5 ≤ d) {c6 : jp_M → Option (Int32 × jp_M)} (hc6 : ∀ (o1 : Option jp_V) (w : Nat) (M : jp_M) (res : Int32 × jp_M), c6 M = some res → jR (jZ (jK Ln xs sv)) d 204 10 ([some (.inr (some 104)), o1], [], jSH w, M) (some (.inl res.1), jSH w, res.2)) (s0 : Int32) (o1 : Option jp_V) (w : Nat) (M : jp_M) {res : Int32 × jp_M} (hf : f_M_readSum_42 c6 s0 M = some res) : jR (jZ (jK Ln xs sv)) d 204 42 ([some (.inr (some 104)), o1], [.inl s0], jSH w, M) (some (.inl res.1), jSH w, res.2) := by
  unfold f_M_readSum_42 at hf
  refine jR_in rfl ⟨rfl, rfl, rfl⟩ rfl ?_
  refine js_istore_n rfl rfl ?_
  refine js_aload_n rfl ?_
  obtain ⟨q1, hc_1, hf⟩ := jbind hf
  refine js_c1v (w := 0) rfl rfl ⟨rfl, rfl⟩ rfl rfl (t_M_reads hc_1) (by omega) ?_
  refine js_aload_n rfl ?_
  obtain ⟨q2, hc_2, hf⟩ := jbind hf
  refine js_c1i rfl rfl ⟨rfl, rfl⟩ rfl rfl (t_M_readProduct hc_2) (by omega) ?_
  refine js_iconst (v := (-1 : Int32)) rfl ?_
  refine js_icmp (tgt := 57) rfl rfl (fun h => ?_) (fun h => ?_)
  · have hf := jif_t hf h
    refine jR_in rfl ⟨rfl, rfl, rfl⟩ rfl ?_
    refine js_aload_n rfl ?_
    refine js_iload_n rfl ?_
    refine js_iconst (v := (0 : Int32)) rfl ?_
    obtain ⟨q3, hc_3, hf⟩ := jbind hf
    refine js_c3v (w := 0) rfl rfl ⟨rfl, rfl⟩ rfl rfl (t_M_emits hc_3) (by omega) ?_
    refine js_goto (tgt := 10) rfl rfl ?_
    exact hc6 _ _ _ _ hf
  · have hf := jif_f hf h
    refine js_iconst (v := (-1 : Int32)) rfl ?_
    obtain rfl := Option.some.inj hf
    exact js_iret rfl rfl
def f_M_readSum_28 (c6 : jp_M → Option (Int32 × jp_M)) (M : jp_M) : Option (Int32 × jp_M) :=
  if jp_c .ne (M 104 17) (43 : Int32) = true then (
  f_M_readSum_42 c6 (3 : Int32) M) else (
  f_M_readSum_42 c6 (2 : Int32) M)
theorem t_M_readSum_28 {Ln : Nat} {xs : Nat → Int32} {sv : jp_V} {d : Nat} (hd : 5 ≤ d) {c6 : jp_M → Option (Int32 × jp_M)} (hc6 : ∀ (o1 : Option jp_V) (w : Nat) (M : jp_M) (res : Int32 × jp_M), c6 M = some res → jR (jZ (jK Ln xs sv)) d 204 10 ([some (.inr (some 104)), o1], [], jSH w, M) (some (.inl res.1), jSH w, res.2)) (o1 : Option jp_V) (w : Nat) (M : jp_M) {res : Int32 × jp_M} (hf : f_M_readSum_28 c6 M = some res) : jR (jZ (jK Ln xs sv)) d 204 28 ([some (.inr (some 104)), o1], [], jSH w, M) (some (.inl res.1), jSH w, res.2) := by
  unfold f_M_readSum_28 at hf
  refine jR_in rfl ⟨rfl, rfl, rfl⟩ rfl ?_
  refine js_aload_n rfl ?_
  refine js_geti rfl rfl rfl ?_
  refine js_bipush (v := (43 : Int32)) rfl ?_
  refine js_icmp (tgt := 41) rfl rfl (fun h => ?_) (fun h => ?_)
  · have hf := jif_t hf h
    refine jR_in rfl ⟨rfl, rfl, rfl⟩ rfl ?_
    refine js_iconst (v := (3 : Int32)) rfl ?_
    exact jS_out rfl ⟨rfl, rfl, rfl⟩ rfl (t_M_readSum_42 hd hc6 _ _ _ _ hf)
  · have hf := jif_f hf h
    refine js_iconst (v := (2 : Int32)) rfl ?_
    refine js_goto (tgt := 42) rfl rfl ?_
    exact t_M_readSum_42 hd hc6 _ _ _ _ hf
def f_M_readSum_10  : Nat → jp_M → Option (Int32 × jp_M)
  | 0, _ => none
  | n + 1, M =>
    if jp_c .ne (f_M_isSign (43 : Int32) M) 0 = true then (
    f_M_readSum_28 (f_M_readSum_10 n ) M) else (
    if jp_c .eq (f_M_isSign (45 : Int32) M) 0 = true then (
    some ((0 : Int32), M)) else (
    f_M_readSum_28 (f_M_readSum_10 n ) M))
theorem t_M_readSum_10 {Ln : Nat} {xs : Nat → Int32} {sv : jp_V} {d : Nat} (hd : 5 ≤ d)  : ∀ (n : Nat) (o1 : Option jp_V) (w : Nat) (M : jp_M) {res : Int32 × jp_M}, f_M_readSum_10 n  M = some res → jR (jZ (jK Ln xs sv)) d 204 10 ([some (.inr (some 104)), o1], [], jSH w, M) (some (.inl res.1), jSH w, res.2) := by
  intro n
  induction n with
  | zero =>
    intro o1 w M res hf
    cases hf
  | succ n ih =>
    intro o1 w M res hf
    rw [f_M_readSum_10] at hf
    refine jR_in rfl ⟨rfl, rfl, rfl⟩ rfl ?_
    refine js_aload_n rfl ?_
    refine js_bipush (v := (43 : Int32)) rfl ?_
    refine js_c2i rfl rfl ⟨rfl, rfl⟩ rfl rfl (t_M_isSign rfl) (by omega) ?_
    refine js_ifc (tgt := 28) rfl rfl (fun h => ?_) (fun h => ?_)
    · have hf := jif_t hf h
      exact t_M_readSum_28 hd (fun o1 w M res hf => ih o1 w M hf) _ _ _ hf
    · have hf := jif_f hf h
      refine js_aload_n rfl ?_
      refine js_bipush (v := (45 : Int32)) rfl ?_
      refine js_c2i rfl rfl ⟨rfl, rfl⟩ rfl rfl (t_M_isSign rfl) (by omega) ?_
      refine js_ifc (tgt := 66) rfl rfl (fun h => ?_) (fun h => ?_)
      · have hf := jif_t hf h
        refine jR_in rfl ⟨rfl, rfl, rfl⟩ rfl ?_
        refine js_iconst (v := (0 : Int32)) rfl ?_
        obtain rfl := Option.some.inj hf
        exact js_iret rfl rfl
      · have hf := jif_f hf h
        exact jS_out rfl ⟨rfl, rfl, rfl⟩ rfl (t_M_readSum_28 hd (fun o1 w M res hf => ih o1 w M hf) _ _ _ hf)
def f_M_readSum (M : jp_M) : Option (Int32 × jp_M) :=
  (f_M_readProduct M).bind fun q1 => (
  if jp_c .ne q1.1 (-1 : Int32) = true then (
  f_M_readSum_10 jFu (q1.2)) else (
  some ((-1 : Int32), q1.2)))
theorem t_M_readSum {Ln : Nat} {xs : Nat → Int32} {sv : jp_V} {w : Nat} {M : jp_M} {res : Int32 × jp_M} (hf : f_M_readSum M = some res) : jE (jZ (jK Ln xs sv)) 5 204 [(.inr (some 104))] (jSH w) M (some (.inl res.1), jSH w, res.2) := by
  unfold f_M_readSum at hf
  refine jE_in (L0 := [some (.inr (some 104)), none]) rfl (Nat.le_of_ble_eq_true rfl) rfl (fun d hd => ?_)
  refine jR_in rfl ⟨rfl, rfl, rfl⟩ rfl ?_
  refine js_aload_n rfl ?_
  obtain ⟨q1, hc_1, hf⟩ := jbind hf
  refine js_c1i rfl rfl ⟨rfl, rfl⟩ rfl rfl (t_M_readProduct hc_1) (by omega) ?_
  refine js_iconst (v := (-1 : Int32)) rfl ?_
  refine js_icmp (tgt := 10) rfl rfl (fun h => ?_) (fun h => ?_)
  · have hf := jif_t hf h
    exact t_M_readSum_10 hd jFu _ _ _ hf
  · have hf := jif_f hf h
    refine js_iconst (v := (-1 : Int32)) rfl ?_
    obtain rfl := Option.some.inj hf
    exact js_iret rfl rfl
/-! SwallowsAirModel.waits(I)V -/
def f_M_waits (a1 : Int32) (M : jp_M) : Option (jp_M) :=
  jg (jp_in (M 104 30) 40) (
  let M1 := jp_set M 121 (upd (M 121) (Int32.toNatClampNeg (M 104 30)) a1)
  let M3 := jp_set M1 104 (upd (M1 104) 30 ((M1 104 30) + (1 : Int32)))
  some M3)
theorem t_M_waits {Ln : Nat} {xs : Nat → Int32} {sv : jp_V} {a1 : Int32} {w : Nat} {M : jp_M} {res : jp_M} (hf : f_M_waits a1 M = some res) : jE (jZ (jK Ln xs sv)) 0 206 [(.inr (some 104)), (.inl a1)] (jSH w) M (none, jSH w, res) := by
  unfold f_M_waits at hf
  refine jE_in (L0 := [some (.inr (some 104)), some (.inl a1)]) rfl (Nat.le_of_ble_eq_true rfl) rfl (fun d hd => ?_)
  refine jR_in rfl ⟨rfl, rfl, rfl⟩ rfl ?_
  refine js_aload_n rfl ?_
  refine js_getr rfl rfl rfl ?_
  refine js_aload_n rfl ?_
  refine js_geti rfl rfl rfl ?_
  refine js_iload_n rfl ?_
  obtain ⟨hb2, hf⟩ := jg_some hf
  refine js_iast rfl hb2 ?_
  refine js_aload_n rfl ?_
  refine js_aload_n rfl ?_
  refine js_geti rfl rfl rfl ?_
  refine js_iconst (v := (1 : Int32)) rfl ?_
  refine js_iadd ?_
  refine js_puti rfl rfl (Or.inl rfl) ?_
  obtain rfl := Option.some.inj hf
  exact js_ret rfl rfl
/-! SwallowsAirModel.readCompared()I -/
def f_M_readCompared_73  (s0 : Int32) (M : jp_M) : Option (Int32 × jp_M) :=
  (f_M_reads M).bind fun q1 => (
  (f_M_readSum q1).bind fun q2 => (
  if jp_c .ne q2.1 (-1 : Int32) = true then (
  (f_M_emits s0 (0 : Int32) q2.2).bind fun q3 => (
  some ((0 : Int32), q3))) else (
  some ((-1 : Int32), q2.2))))
theorem t_M_readCompared_73 {Ln : Nat} {xs : Nat → Int32} {sv : jp_V} {d : Nat} (hd : 6 ≤ d)  (s0 : Int32) (o1 : Option jp_V) (w : Nat) (M : jp_M) {res : Int32 × jp_M} (hf : f_M_readCompared_73  s0 M = some res) : jR (jZ (jK Ln xs sv)) d 205 73 ([some (.inr (some 104)), o1], [.inl s0], jSH w, M) (some (.inl res.1), jSH w, res.2) := by
  unfold f_M_readCompared_73 at hf
  refine jR_in rfl ⟨rfl, rfl, rfl⟩ rfl ?_
  refine js_istore_n rfl rfl ?_
  refine js_aload_n rfl ?_
  obtain ⟨q1, hc_1, hf⟩ := jbind hf
  refine js_c1v (w := 0) rfl rfl ⟨rfl, rfl⟩ rfl rfl (t_M_reads hc_1) (by omega) ?_
  refine js_aload_n rfl ?_
  obtain ⟨q2, hc_2, hf⟩ := jbind hf
  refine js_c1i rfl rfl ⟨rfl, rfl⟩ rfl rfl (t_M_readSum hc_2) (by omega) ?_
  refine js_iconst (v := (-1 : Int32)) rfl ?_
  refine js_icmp (tgt := 88) rfl rfl (fun h => ?_) (fun h => ?_)
  · have hf := jif_t hf h
    refine jR_in rfl ⟨rfl, rfl, rfl⟩ rfl ?_
    refine js_aload_n rfl ?_
    refine js_iload_n rfl ?_
    refine js_iconst (v := (0 : Int32)) rfl ?_
    obtain ⟨q3, hc_3, hf⟩ := jbind hf
    refine js_c3v (w := 0) rfl rfl ⟨rfl, rfl⟩ rfl rfl (t_M_emits hc_3) (by omega) ?_
    refine js_iconst (v := (0 : Int32)) rfl ?_
    obtain rfl := Option.some.inj hf
    exact js_iret rfl rfl
  · have hf := jif_f hf h
    refine js_iconst (v := (-1 : Int32)) rfl ?_
    obtain rfl := Option.some.inj hf
    exact js_iret rfl rfl
def f_M_readCompared_43  (M : jp_M) : Option (Int32 × jp_M) :=
  if jp_c .ne (M 104 17) (60 : Int32) = true then (
  if jp_c .ne (M 104 17) (61 : Int32) = true then (
  f_M_readCompared_73 (8 : Int32) M) else (
  f_M_readCompared_73 (7 : Int32) M)) else (
  f_M_readCompared_73 (6 : Int32) M)
theorem t_M_readCompared_43 {Ln : Nat} {xs : Nat → Int32} {sv : jp_V} {d : Nat} (hd : 6 ≤ d)  (o1 : Option jp_V) (w : Nat) (M : jp_M) {res : Int32 × jp_M} (hf : f_M_readCompared_43  M = some res) : jR (jZ (jK Ln xs sv)) d 205 43 ([some (.inr (some 104)), o1], [], jSH w, M) (some (.inl res.1), jSH w, res.2) := by
  unfold f_M_readCompared_43 at hf
  refine jR_in rfl ⟨rfl, rfl, rfl⟩ rfl ?_
  refine js_aload_n rfl ?_
  refine js_geti rfl rfl rfl ?_
  refine js_bipush (v := (60 : Int32)) rfl ?_
  refine js_icmp (tgt := 57) rfl rfl (fun h => ?_) (fun h => ?_)
  · have hf := jif_t hf h
    refine jR_in rfl ⟨rfl, rfl, rfl⟩ rfl ?_
    refine js_aload_n rfl ?_
    refine js_geti rfl rfl rfl ?_
    refine js_bipush (v := (61 : Int32)) rfl ?_
    refine js_icmp (tgt := 71) rfl rfl (fun h => ?_) (fun h => ?_)
    · have hf := jif_t hf h
      refine jR_in rfl ⟨rfl, rfl, rfl⟩ rfl ?_
      refine js_bipush (v := (8 : Int32)) rfl ?_
      exact jS_out rfl ⟨rfl, rfl, rfl⟩ rfl (t_M_readCompared_73 hd _ _ _ _ hf)
    · have hf := jif_f hf h
      refine js_bipush (v := (7 : Int32)) rfl ?_
      refine js_goto (tgt := 73) rfl rfl ?_
      exact t_M_readCompared_73 hd _ _ _ _ hf
  · have hf := jif_f hf h
    refine js_bipush (v := (6 : Int32)) rfl ?_
    refine js_goto (tgt := 73) rfl rfl ?_
    exact t_M_readCompared_73 hd _ _ _ _ hf
def f_M_readCompared (M : jp_M) : Option (Int32 × jp_M) :=
  (f_M_readSum M).bind fun q1 => (
  if jp_c .ne q1.1 (-1 : Int32) = true then (
  if jp_c .ne (f_M_isSign (60 : Int32) q1.2) 0 = true then (
  f_M_readCompared_43 (q1.2)) else (
  if jp_c .ne (f_M_isSign (61 : Int32) q1.2) 0 = true then (
  f_M_readCompared_43 (q1.2)) else (
  if jp_c .ne (f_M_isSign (62 : Int32) q1.2) 0 = true then (
  f_M_readCompared_43 (q1.2)) else (
  let q5 := f_M_errs (1 : Int32) q1.2
  some (q5.1, q5.2))))) else (
  some ((-1 : Int32), q1.2)))
theorem t_M_readCompared {Ln : Nat} {xs : Nat → Int32} {sv : jp_V} {w : Nat} {M : jp_M} {res : Int32 × jp_M} (hf : f_M_readCompared M = some res) : jE (jZ (jK Ln xs sv)) 6 205 [(.inr (some 104))] (jSH w) M (some (.inl res.1), jSH w, res.2) := by
  unfold f_M_readCompared at hf
  refine jE_in (L0 := [some (.inr (some 104)), none]) rfl (Nat.le_of_ble_eq_true rfl) rfl (fun d hd => ?_)
  refine jR_in rfl ⟨rfl, rfl, rfl⟩ rfl ?_
  refine js_aload_n rfl ?_
  obtain ⟨q1, hc_1, hf⟩ := jbind hf
  refine js_c1i rfl rfl ⟨rfl, rfl⟩ rfl rfl (t_M_readSum hc_1) (by omega) ?_
  refine js_iconst (v := (-1 : Int32)) rfl ?_
  refine js_icmp (tgt := 10) rfl rfl (fun h => ?_) (fun h => ?_)
  · have hf := jif_t hf h
    refine jR_in rfl ⟨rfl, rfl, rfl⟩ rfl ?_
    refine js_aload_n rfl ?_
    refine js_bipush (v := (60 : Int32)) rfl ?_
    refine js_c2i rfl rfl ⟨rfl, rfl⟩ rfl rfl (t_M_isSign rfl) (by omega) ?_
    refine js_ifc (tgt := 43) rfl rfl (fun h => ?_) (fun h => ?_)
    · have hf := jif_t hf h
      exact t_M_readCompared_43 hd _ _ _ hf
    · have hf := jif_f hf h
      refine js_aload_n rfl ?_
      refine js_bipush (v := (61 : Int32)) rfl ?_
      refine js_c2i rfl rfl ⟨rfl, rfl⟩ rfl rfl (t_M_isSign rfl) (by omega) ?_
      refine js_ifc (tgt := 43) rfl rfl (fun h => ?_) (fun h => ?_)
      · have hf := jif_t hf h
        exact t_M_readCompared_43 hd _ _ _ hf
      · have hf := jif_f hf h
        refine js_aload_n rfl ?_
        refine js_bipush (v := (62 : Int32)) rfl ?_
        refine js_c2i rfl rfl ⟨rfl, rfl⟩ rfl rfl (t_M_isSign rfl) (by omega) ?_
        refine js_ifc (tgt := 43) rfl rfl (fun h => ?_) (fun h => ?_)
        · have hf := jif_t hf h
          exact t_M_readCompared_43 hd _ _ _ hf
        · have hf := jif_f hf h
          refine js_aload_n rfl ?_
          refine js_iconst (v := (1 : Int32)) rfl ?_
          refine js_c2i rfl rfl ⟨rfl, rfl⟩ rfl rfl (t_M_errs rfl) (by omega) ?_
          obtain rfl := Option.some.inj hf
          exact js_iret rfl rfl
  · have hf := jif_f hf h
    refine js_iconst (v := (-1 : Int32)) rfl ?_
    obtain rfl := Option.some.inj hf
    exact js_iret rfl rfl
/-! SwallowsAirModel.settles(I)V -/
def f_M_settles_0  : Nat → Int32 → jp_M → Option (jp_M)
  | 0, _, _ => none
  | n + 1, l1, M =>
    if jp_c .le (M 104 30) 0 = true then (
    some M) else (
    jg (jp_in ((M 104 30) - (1 : Int32)) 40) (
    if jp_c .ne (M 121 (Int32.toNatClampNeg ((M 104 30) - (1 : Int32)))) l1 = true then (
    some M) else (
    let M2 := jp_set M 104 (upd (M 104) 30 ((M 104 30) - (1 : Int32)))
    (f_M_emits l1 (0 : Int32) M2).bind fun q3 => (
    if jp_c .ne l1 (9 : Int32) = true then (
    f_M_settles_0 n l1 q3) else (
    let M4 := jp_set q3 104 (upd (q3 104) 28 ((q3 104 28) - (1 : Int32)))
    f_M_settles_0 n l1 M4)))))
theorem t_M_settles_0 {Ln : Nat} {xs : Nat → Int32} {sv : jp_V} {d : Nat} (hd : 1 ≤ d)  : ∀ (n : Nat) (l1 : Int32) (w : Nat) (M : jp_M) {res : jp_M}, f_M_settles_0 n  l1 M = some res → jR (jZ (jK Ln xs sv)) d 207 0 ([some (.inr (some 104)), some (.inl l1)], [], jSH w, M) (none, jSH w, res) := by
  intro n
  induction n with
  | zero =>
    intro l1 w M res hf
    cases hf
  | succ n ih =>
    intro l1 w M res hf
    rw [f_M_settles_0] at hf
    refine jR_in rfl ⟨rfl, rfl, rfl⟩ rfl ?_
    refine js_aload_n rfl ?_
    refine js_geti rfl rfl rfl ?_
    refine js_ifc (tgt := 57) rfl rfl (fun h => ?_) (fun h => ?_)
    · have hf := jif_t hf h
      refine jR_in rfl ⟨rfl, rfl, rfl⟩ rfl ?_
      obtain rfl := Option.some.inj hf
      exact js_ret rfl rfl
    · have hf := jif_f hf h
      refine js_aload_n rfl ?_
      refine js_getr rfl rfl rfl ?_
      refine js_aload_n rfl ?_
      refine js_geti rfl rfl rfl ?_
      refine js_iconst (v := (1 : Int32)) rfl ?_
      refine js_isub ?_
      obtain ⟨hb1, hf⟩ := jg_some hf
      refine js_iald rfl hb1 ?_
      refine js_iload_n rfl ?_
      refine js_icmp (tgt := 57) rfl rfl (fun h => ?_) (fun h => ?_)
      · have hf := jif_t hf h
        refine jR_in rfl ⟨rfl, rfl, rfl⟩ rfl ?_
        obtain rfl := Option.some.inj hf
        exact js_ret rfl rfl
      · have hf := jif_f hf h
        refine js_aload_n rfl ?_
        refine js_aload_n rfl ?_
        refine js_geti rfl rfl rfl ?_
        refine js_iconst (v := (1 : Int32)) rfl ?_
        refine js_isub ?_
        refine js_puti rfl rfl (Or.inl rfl) ?_
        refine js_aload_n rfl ?_
        refine js_iload_n rfl ?_
        refine js_iconst (v := (0 : Int32)) rfl ?_
        obtain ⟨q3, hc_3, hf⟩ := jbind hf
        refine js_c3v (w := 0) rfl rfl ⟨rfl, rfl⟩ rfl rfl (t_M_emits hc_3) (by omega) ?_
        refine js_iload_n rfl ?_
        refine js_bipush (v := (9 : Int32)) rfl ?_
        refine js_icmp (tgt := 0) rfl rfl (fun h => ?_) (fun h => ?_)
        · have hf := jif_t hf h
          exact ih _ _ _ hf
        · have hf := jif_f hf h
          refine js_aload_n rfl ?_
          refine js_aload_n rfl ?_
          refine js_geti rfl rfl rfl ?_
          refine js_iconst (v := (1 : Int32)) rfl ?_
          refine js_isub ?_
          refine js_puti rfl rfl (Or.inl rfl) ?_
          refine js_goto (tgt := 0) rfl rfl ?_
          exact ih _ _ _ hf
def f_M_settles (a1 : Int32) (M : jp_M) : Option (jp_M) :=
  f_M_settles_0 jFu a1 M
theorem t_M_settles {Ln : Nat} {xs : Nat → Int32} {sv : jp_V} {a1 : Int32} {w : Nat} {M : jp_M} {res : jp_M} (hf : f_M_settles a1 M = some res) : jE (jZ (jK Ln xs sv)) 1 207 [(.inr (some 104)), (.inl a1)] (jSH w) M (none, jSH w, res) := by
  unfold f_M_settles at hf
  refine jE_in (L0 := [some (.inr (some 104)), some (.inl a1)]) rfl (Nat.le_of_ble_eq_true rfl) rfl (fun d hd => ?_)
  exact t_M_settles_0 hd jFu _ _ _ hf
/-! SwallowsAirModel.readAny()I -/
def f_M_readAny_78 (c7 : Int32 → Int32 → jp_M → Option (Int32 × jp_M)) (l1 : Int32) (l2 : Int32) (s1 : Int32) (M : jp_M) : Option (Int32 × jp_M) :=
  (f_M_waits s1 M).bind fun q1 => (
  (f_M_reads q1).bind fun q2 => (
  c7 l1 l2 q2))
theorem t_M_readAny_78 {Ln : Nat} {xs : Nat → Int32} {sv : jp_V} {d : Nat} (hd : 7 ≤ d) {c7 : Int32 → Int32 → jp_M → Option (Int32 × jp_M)} (hc7 : ∀ (l1 : Int32) (l2 : Int32) (o3 : Option jp_V) (w : Nat) (M : jp_M) (res : Int32 × jp_M), c7 l1 l2 M = some res → jR (jZ (jK Ln xs sv)) d 208 9 ([some (.inr (some 104)), some (.inl l1), some (.inl l2), o3], [], jSH w, M) (some (.inl res.1), jSH w, res.2)) (l1 : Int32) (l2 : Int32) (s1 : Int32) (o3 : Option jp_V) (w : Nat) (M : jp_M) {res : Int32 × jp_M} (hf : f_M_readAny_78 c7 l1 l2 s1 M = some res) : jR (jZ (jK Ln xs sv)) d 208 78 ([some (.inr (some 104)), some (.inl l1), some (.inl l2), o3], [.inl s1, (.inr (some 104))], jSH w, M) (some (.inl res.1), jSH w, res.2) := by
  unfold f_M_readAny_78 at hf
  refine jR_in rfl ⟨rfl, rfl, rfl⟩ rfl ?_
  obtain ⟨q1, hc_1, hf⟩ := jbind hf
  refine js_c2v (w := 0) rfl rfl ⟨rfl, rfl⟩ rfl rfl (t_M_waits hc_1) (by omega) ?_
  refine js_aload_n rfl ?_
  obtain ⟨q2, hc_2, hf⟩ := jbind hf
  refine js_c1v (w := 0) rfl rfl ⟨rfl, rfl⟩ rfl rfl (t_M_reads hc_2) (by omega) ?_
  refine js_goto (tgt := 9) rfl rfl ?_
  exact hc7 _ _ _ _ _ _ hf
def f_M_readAny_66 (c7 : Int32 → Int32 → jp_M → Option (Int32 × jp_M)) (l1 : Int32) (l2 : Int32) (l3 : Int32) (M : jp_M) : Option (Int32 × jp_M) :=
  if jp_c .eq l3 0 = true then (
  f_M_readAny_78 c7 l1 l2 (12 : Int32) M) else (
  f_M_readAny_78 c7 l1 l2 (9 : Int32) M)
theorem t_M_readAny_66 {Ln : Nat} {xs : Nat → Int32} {sv : jp_V} {d : Nat} (hd : 7 ≤ d) {c7 : Int32 → Int32 → jp_M → Option (Int32 × jp_M)} (hc7 : ∀ (l1 : Int32) (l2 : Int32) (o3 : Option jp_V) (w : Nat) (M : jp_M) (res : Int32 × jp_M), c7 l1 l2 M = some res → jR (jZ (jK Ln xs sv)) d 208 9 ([some (.inr (some 104)), some (.inl l1), some (.inl l2), o3], [], jSH w, M) (some (.inl res.1), jSH w, res.2)) (l1 : Int32) (l2 : Int32) (l3 : Int32) (w : Nat) (M : jp_M) {res : Int32 × jp_M} (hf : f_M_readAny_66 c7 l1 l2 l3 M = some res) : jR (jZ (jK Ln xs sv)) d 208 66 ([some (.inr (some 104)), some (.inl l1), some (.inl l2), some (.inl l3)], [], jSH w, M) (some (.inl res.1), jSH w, res.2) := by
  unfold f_M_readAny_66 at hf
  refine jR_in rfl ⟨rfl, rfl, rfl⟩ rfl ?_
  refine js_aload_n rfl ?_
  refine js_iload_n rfl ?_
  refine js_ifc (tgt := 76) rfl rfl (fun h => ?_) (fun h => ?_)
  · have hf := jif_t hf h
    refine jR_in rfl ⟨rfl, rfl, rfl⟩ rfl ?_
    refine js_bipush (v := (12 : Int32)) rfl ?_
    exact jS_out rfl ⟨rfl, rfl, rfl⟩ rfl (t_M_readAny_78 hd hc7 _ _ _ _ _ _ hf)
  · have hf := jif_f hf h
    refine js_bipush (v := (9 : Int32)) rfl ?_
    refine js_goto (tgt := 78) rfl rfl ?_
    exact t_M_readAny_78 hd hc7 _ _ _ _ _ _ hf
def f_M_readAny_33 (c7 : Int32 → Int32 → jp_M → Option (Int32 × jp_M)) (l1 : Int32) (l2 : Int32) (l3 : Int32) (M : jp_M) : Option (Int32 × jp_M) :=
  if jp_c .ne (M 104 28) (8 : Int32) = true then (
  let M1 := jp_set M 104 (upd (M 104) 28 ((M 104 28) + (1 : Int32)))
  if jp_c .ne l3 0 = true then (
  f_M_readAny_66 c7 l1 l2 l3 M1) else (
  f_M_readAny_66 c7 (l1 + (1 : Int32)) l2 l3 M1)) else (
  let q2 := f_M_errs (3 : Int32) M
  some (q2.1, q2.2))
theorem t_M_readAny_33 {Ln : Nat} {xs : Nat → Int32} {sv : jp_V} {d : Nat} (hd : 7 ≤ d) {c7 : Int32 → Int32 → jp_M → Option (Int32 × jp_M)} (hc7 : ∀ (l1 : Int32) (l2 : Int32) (o3 : Option jp_V) (w : Nat) (M : jp_M) (res : Int32 × jp_M), c7 l1 l2 M = some res → jR (jZ (jK Ln xs sv)) d 208 9 ([some (.inr (some 104)), some (.inl l1), some (.inl l2), o3], [], jSH w, M) (some (.inl res.1), jSH w, res.2)) (l1 : Int32) (l2 : Int32) (l3 : Int32) (w : Nat) (M : jp_M) {res : Int32 × jp_M} (hf : f_M_readAny_33 c7 l1 l2 l3 M = some res) : jR (jZ (jK Ln xs sv)) d 208 33 ([some (.inr (some 104)), some (.inl l1), some (.inl l2), some (.inl l3)], [], jSH w, M) (some (.inl res.1), jSH w, res.2) := by
  unfold f_M_readAny_33 at hf
  refine jR_in rfl ⟨rfl, rfl, rfl⟩ rfl ?_
  refine js_aload_n rfl ?_
  refine js_geti rfl rfl rfl ?_
  refine js_bipush (v := (8 : Int32)) rfl ?_
  refine js_icmp (tgt := 48) rfl rfl (fun h => ?_) (fun h => ?_)
  · have hf := jif_t hf h
    refine jR_in rfl ⟨rfl, rfl, rfl⟩ rfl ?_
    refine js_aload_n rfl ?_
    refine js_aload_n rfl ?_
    refine js_geti rfl rfl rfl ?_
    refine js_iconst (v := (1 : Int32)) rfl ?_
    refine js_iadd ?_
    refine js_puti rfl rfl (Or.inl rfl) ?_
    refine js_iload_n rfl ?_
    refine js_ifc (tgt := 66) rfl rfl (fun h => ?_) (fun h => ?_)
    · have hf := jif_t hf h
      exact t_M_readAny_66 hd hc7 _ _ _ _ _ hf
    · have hf := jif_f hf h
      refine js_iload_n rfl ?_
      refine js_iconst (v := (1 : Int32)) rfl ?_
      refine js_iadd ?_
      refine js_istore_n rfl rfl ?_
      exact jS_out rfl ⟨rfl, rfl, rfl⟩ rfl (t_M_readAny_66 hd hc7 _ _ _ _ _ hf)
  · have hf := jif_f hf h
    refine js_aload_n rfl ?_
    refine js_iconst (v := (3 : Int32)) rfl ?_
    refine js_c2i rfl rfl ⟨rfl, rfl⟩ rfl rfl (t_M_errs rfl) (by omega) ?_
    obtain rfl := Option.some.inj hf
    exact js_iret rfl rfl
def f_M_readAny_9  : Nat → Int32 → Int32 → jp_M → Option (Int32 × jp_M)
  | 0, _, _, _ => none
  | n + 1, l1, l2, M =>
    if jp_c .eq l2 0 = true then (
    if jp_c .eq (f_M_isWord (5 : Int32) M) 0 = true then (
    if jp_c .eq (f_M_isWord (4 : Int32) M) 0 = true then (
    (f_M_settles (10 : Int32) M).bind fun q3 => (
    (f_M_settles (11 : Int32) q3).bind fun q4 => (
    if jp_c .ne l1 0 = true then (
    if jp_c .ne (f_M_isSign (41 : Int32) q4) 0 = true then (
    let M6 := jp_set q4 104 (upd (q4 104) 30 ((q4 104 30) - (1 : Int32)))
    let M7 := jp_set M6 104 (upd (M6 104) 28 ((M6 104 28) - (1 : Int32)))
    (f_M_settles (9 : Int32) M7).bind fun q8 => (
    (f_M_reads q8).bind fun q9 => (
    f_M_readAny_9 n (l1 - (1 : Int32)) l2 q9))) else (
    let q10 := f_M_errs (1 : Int32) q4
    some (q10.1, q10.2))) else (
    some ((0 : Int32), q4))))) else (
    (f_M_settles (10 : Int32) M).bind fun q11 => (
    (f_M_settles (11 : Int32) q11).bind fun q12 => (
    (f_M_waits (11 : Int32) q12).bind fun q13 => (
    (f_M_reads q13).bind fun q14 => (
    f_M_readAny_9 n l1 (1 : Int32) q14)))))) else (
    (f_M_settles (10 : Int32) M).bind fun q15 => (
    (f_M_waits (10 : Int32) q15).bind fun q16 => (
    (f_M_reads q16).bind fun q17 => (
    f_M_readAny_9 n l1 (1 : Int32) q17))))) else (
    if jp_c .ne (f_M_isWord (6 : Int32) M) 0 = true then (
    f_M_readAny_33 (f_M_readAny_9 n ) l1 l2 (f_M_isWord (6 : Int32) M) M) else (
    if jp_c .eq (f_M_isSign (40 : Int32) M) 0 = true then (
    (f_M_readCompared M).bind fun q20 => (
    if jp_c .ne q20.1 (-1 : Int32) = true then (
    (f_M_settles (9 : Int32) q20.2).bind fun q21 => (
    f_M_readAny_9 n l1 (0 : Int32) q21)) else (
    some ((-1 : Int32), q20.2)))) else (
    f_M_readAny_33 (f_M_readAny_9 n ) l1 l2 (f_M_isWord (6 : Int32) M) M)))
theorem t_M_readAny_9 {Ln : Nat} {xs : Nat → Int32} {sv : jp_V} {d : Nat} (hd : 7 ≤ d)  : ∀ (n : Nat) (l1 : Int32) (l2 : Int32) (o3 : Option jp_V) (w : Nat) (M : jp_M) {res : Int32 × jp_M}, f_M_readAny_9 n  l1 l2 M = some res → jR (jZ (jK Ln xs sv)) d 208 9 ([some (.inr (some 104)), some (.inl l1), some (.inl l2), o3], [], jSH w, M) (some (.inl res.1), jSH w, res.2) := by
  intro n
  induction n with
  | zero =>
    intro l1 l2 o3 w M res hf
    cases hf
  | succ n ih =>
    intro l1 l2 o3 w M res hf
    rw [f_M_readAny_9] at hf
    refine jR_in rfl ⟨rfl, rfl, rfl⟩ rfl ?_
    refine js_iload_n rfl ?_
    refine js_ifc (tgt := 109) rfl rfl (fun h => ?_) (fun h => ?_)
    · have hf := jif_t hf h
      refine jR_in rfl ⟨rfl, rfl, rfl⟩ rfl ?_
      refine js_aload_n rfl ?_
      refine js_iconst (v := (5 : Int32)) rfl ?_
      refine js_c2i rfl rfl ⟨rfl, rfl⟩ rfl rfl (t_M_isWord rfl) (by omega) ?_
      refine js_ifc (tgt := 138) rfl rfl (fun h => ?_) (fun h => ?_)
      · have hf := jif_t hf h
        refine jR_in rfl ⟨rfl, rfl, rfl⟩ rfl ?_
        refine js_aload_n rfl ?_
        refine js_iconst (v := (4 : Int32)) rfl ?_
        refine js_c2i rfl rfl ⟨rfl, rfl⟩ rfl rfl (t_M_isWord rfl) (by omega) ?_
        refine js_ifc (tgt := 173) rfl rfl (fun h => ?_) (fun h => ?_)
        · have hf := jif_t hf h
          refine jR_in rfl ⟨rfl, rfl, rfl⟩ rfl ?_
          refine js_aload_n rfl ?_
          refine js_bipush (v := (10 : Int32)) rfl ?_
          obtain ⟨q3, hc_3, hf⟩ := jbind hf
          refine js_c2v (w := 0) rfl rfl ⟨rfl, rfl⟩ rfl rfl (t_M_settles hc_3) (by omega) ?_
          refine js_aload_n rfl ?_
          refine js_bipush (v := (11 : Int32)) rfl ?_
          obtain ⟨q4, hc_4, hf⟩ := jbind hf
          refine js_c2v (w := 0) rfl rfl ⟨rfl, rfl⟩ rfl rfl (t_M_settles hc_4) (by omega) ?_
          refine js_iload_n rfl ?_
          refine js_ifc (tgt := 191) rfl rfl (fun h => ?_) (fun h => ?_)
          · have hf := jif_t hf h
            refine jR_in rfl ⟨rfl, rfl, rfl⟩ rfl ?_
            refine js_aload_n rfl ?_
            refine js_bipush (v := (41 : Int32)) rfl ?_
            refine js_c2i rfl rfl ⟨rfl, rfl⟩ rfl rfl (t_M_isSign rfl) (by omega) ?_
            refine js_ifc (tgt := 206) rfl rfl (fun h => ?_) (fun h => ?_)
            · have hf := jif_t hf h
              refine jR_in rfl ⟨rfl, rfl, rfl⟩ rfl ?_
              refine js_aload_n rfl ?_
              refine js_aload_n rfl ?_
              refine js_geti rfl rfl rfl ?_
              refine js_iconst (v := (1 : Int32)) rfl ?_
              refine js_isub ?_
              refine js_puti rfl rfl (Or.inl rfl) ?_
              refine js_iload_n rfl ?_
              refine js_iconst (v := (1 : Int32)) rfl ?_
              refine js_isub ?_
              refine js_istore_n rfl rfl ?_
              refine js_aload_n rfl ?_
              refine js_aload_n rfl ?_
              refine js_geti rfl rfl rfl ?_
              refine js_iconst (v := (1 : Int32)) rfl ?_
              refine js_isub ?_
              refine js_puti rfl rfl (Or.inl rfl) ?_
              refine js_aload_n rfl ?_
              refine js_bipush (v := (9 : Int32)) rfl ?_
              obtain ⟨q8, hc_8, hf⟩ := jbind hf
              refine js_c2v (w := 0) rfl rfl ⟨rfl, rfl⟩ rfl rfl (t_M_settles hc_8) (by omega) ?_
              refine js_aload_n rfl ?_
              obtain ⟨q9, hc_9, hf⟩ := jbind hf
              refine js_c1v (w := 0) rfl rfl ⟨rfl, rfl⟩ rfl rfl (t_M_reads hc_9) (by omega) ?_
              refine js_goto (tgt := 9) rfl rfl ?_
              exact ih _ _ _ _ _ hf
            · have hf := jif_f hf h
              refine js_aload_n rfl ?_
              refine js_iconst (v := (1 : Int32)) rfl ?_
              refine js_c2i rfl rfl ⟨rfl, rfl⟩ rfl rfl (t_M_errs rfl) (by omega) ?_
              obtain rfl := Option.some.inj hf
              exact js_iret rfl rfl
          · have hf := jif_f hf h
            refine js_iconst (v := (0 : Int32)) rfl ?_
            obtain rfl := Option.some.inj hf
            exact js_iret rfl rfl
        · have hf := jif_f hf h
          refine js_aload_n rfl ?_
          refine js_bipush (v := (10 : Int32)) rfl ?_
          obtain ⟨q11, hc_11, hf⟩ := jbind hf
          refine js_c2v (w := 0) rfl rfl ⟨rfl, rfl⟩ rfl rfl (t_M_settles hc_11) (by omega) ?_
          refine js_aload_n rfl ?_
          refine js_bipush (v := (11 : Int32)) rfl ?_
          obtain ⟨q12, hc_12, hf⟩ := jbind hf
          refine js_c2v (w := 0) rfl rfl ⟨rfl, rfl⟩ rfl rfl (t_M_settles hc_12) (by omega) ?_
          refine js_aload_n rfl ?_
          refine js_bipush (v := (11 : Int32)) rfl ?_
          obtain ⟨q13, hc_13, hf⟩ := jbind hf
          refine js_c2v (w := 0) rfl rfl ⟨rfl, rfl⟩ rfl rfl (t_M_waits hc_13) (by omega) ?_
          refine js_aload_n rfl ?_
          obtain ⟨q14, hc_14, hf⟩ := jbind hf
          refine js_c1v (w := 0) rfl rfl ⟨rfl, rfl⟩ rfl rfl (t_M_reads hc_14) (by omega) ?_
          refine js_iconst (v := (1 : Int32)) rfl ?_
          refine js_istore_n rfl rfl ?_
          refine js_goto (tgt := 9) rfl rfl ?_
          exact ih _ _ _ _ _ hf
      · have hf := jif_f hf h
        refine js_aload_n rfl ?_
        refine js_bipush (v := (10 : Int32)) rfl ?_
        obtain ⟨q15, hc_15, hf⟩ := jbind hf
        refine js_c2v (w := 0) rfl rfl ⟨rfl, rfl⟩ rfl rfl (t_M_settles hc_15) (by omega) ?_
        refine js_aload_n rfl ?_
        refine js_bipush (v := (10 : Int32)) rfl ?_
        obtain ⟨q16, hc_16, hf⟩ := jbind hf
        refine js_c2v (w := 0) rfl rfl ⟨rfl, rfl⟩ rfl rfl (t_M_waits hc_16) (by omega) ?_
        refine js_aload_n rfl ?_
        obtain ⟨q17, hc_17, hf⟩ := jbind hf
        refine js_c1v (w := 0) rfl rfl ⟨rfl, rfl⟩ rfl rfl (t_M_reads hc_17) (by omega) ?_
        refine js_iconst (v := (1 : Int32)) rfl ?_
        refine js_istore_n rfl rfl ?_
        refine js_goto (tgt := 9) rfl rfl ?_
        exact ih _ _ _ _ _ hf
    · have hf := jif_f hf h
      refine js_aload_n rfl ?_
      refine js_bipush (v := (6 : Int32)) rfl ?_
      refine js_c2i rfl rfl ⟨rfl, rfl⟩ rfl rfl (t_M_isWord rfl) (by omega) ?_
      refine js_istore_n rfl rfl ?_
      refine js_iload_n rfl ?_
      refine js_ifc (tgt := 33) rfl rfl (fun h => ?_) (fun h => ?_)
      · have hf := jif_t hf h
        exact t_M_readAny_33 hd (fun l1 l2 o3 w M res hf => ih l1 l2 o3 w M hf) _ _ _ _ _ hf
      · have hf := jif_f hf h
        refine js_aload_n rfl ?_
        refine js_bipush (v := (40 : Int32)) rfl ?_
        refine js_c2i rfl rfl ⟨rfl, rfl⟩ rfl rfl (t_M_isSign rfl) (by omega) ?_
        refine js_ifc (tgt := 88) rfl rfl (fun h => ?_) (fun h => ?_)
        · have hf := jif_t hf h
          refine jR_in rfl ⟨rfl, rfl, rfl⟩ rfl ?_
          refine js_aload_n rfl ?_
          obtain ⟨q20, hc_20, hf⟩ := jbind hf
          refine js_c1i rfl rfl ⟨rfl, rfl⟩ rfl rfl (t_M_readCompared hc_20) (by omega) ?_
          refine js_iconst (v := (-1 : Int32)) rfl ?_
          refine js_icmp (tgt := 98) rfl rfl (fun h => ?_) (fun h => ?_)
          · have hf := jif_t hf h
            refine jR_in rfl ⟨rfl, rfl, rfl⟩ rfl ?_
            refine js_aload_n rfl ?_
            refine js_bipush (v := (9 : Int32)) rfl ?_
            obtain ⟨q21, hc_21, hf⟩ := jbind hf
            refine js_c2v (w := 0) rfl rfl ⟨rfl, rfl⟩ rfl rfl (t_M_settles hc_21) (by omega) ?_
            refine js_iconst (v := (0 : Int32)) rfl ?_
            refine js_istore_n rfl rfl ?_
            refine js_goto (tgt := 9) rfl rfl ?_
            exact ih _ _ _ _ _ hf
          · have hf := jif_f hf h
            refine js_iconst (v := (-1 : Int32)) rfl ?_
            obtain rfl := Option.some.inj hf
            exact js_iret rfl rfl
        · have hf := jif_f hf h
          exact jS_out rfl ⟨rfl, rfl, rfl⟩ rfl (t_M_readAny_33 hd (fun l1 l2 o3 w M res hf => ih l1 l2 o3 w M hf) _ _ _ _ _ hf)
def f_M_readAny (M : jp_M) : Option (Int32 × jp_M) :=
  let M1 := jp_set M 104 (upd (M 104) 30 (0 : Int32))
  f_M_readAny_9 jFu (0 : Int32) (1 : Int32) M1
theorem t_M_readAny {Ln : Nat} {xs : Nat → Int32} {sv : jp_V} {w : Nat} {M : jp_M} {res : Int32 × jp_M} (hf : f_M_readAny M = some res) : jE (jZ (jK Ln xs sv)) 7 208 [(.inr (some 104))] (jSH w) M (some (.inl res.1), jSH w, res.2) := by
  unfold f_M_readAny at hf
  refine jE_in (L0 := [some (.inr (some 104)), none, none, none]) rfl (Nat.le_of_ble_eq_true rfl) rfl (fun d hd => ?_)
  refine jR_in rfl ⟨rfl, rfl, rfl⟩ rfl ?_
  refine js_iconst (v := (0 : Int32)) rfl ?_
  refine js_istore_n rfl rfl ?_
  refine js_aload_n rfl ?_
  refine js_iconst (v := (0 : Int32)) rfl ?_
  refine js_puti rfl rfl (Or.inl rfl) ?_
  refine js_iconst (v := (1 : Int32)) rfl ?_
  refine js_istore_n rfl rfl ?_
  exact jS_out rfl ⟨rfl, rfl, rfl⟩ rfl (t_M_readAny_9 hd jFu _ _ _ _ _ hf)
/-! SwallowsAirModel.readLaw()I -/
def f_M_readLaw_92 (c2 : Int32 → jp_M → Option (Int32 × jp_M)) (l1 : Int32) (l2 : Int32) (M : jp_M) : Option (Int32 × jp_M) :=
  jg (jp_in l2 48) (
  let M1 := jp_set M 118 (upd (M 118) (Int32.toNatClampNeg l2) (M 104 27))
  if jp_c .ne (f_M_isSign (59 : Int32) M1) 0 = true then (
  (f_M_reads M1).bind fun q4 => (
  c2 (l1 + (1 : Int32)) q4)) else (
  let q5 := f_M_errs (1 : Int32) M1
  some (q5.1, q5.2)))
theorem t_M_readLaw_92 {Ln : Nat} {xs : Nat → Int32} {sv : jp_V} {d : Nat} (hd : 8 ≤ d) {c2 : Int32 → jp_M → Option (Int32 × jp_M)} (hc2 : ∀ (l1 : Int32) (o2 : Option jp_V) (w : Nat) (M : jp_M) (res : Int32 × jp_M), c2 l1 M = some res → jR (jZ (jK Ln xs sv)) d 210 2 ([some (.inr (some 104)), some (.inl l1), o2], [], jSH w, M) (some (.inl res.1), jSH w, res.2)) (l1 : Int32) (l2 : Int32) (w : Nat) (M : jp_M) {res : Int32 × jp_M} (hf : f_M_readLaw_92 c2 l1 l2 M = some res) : jR (jZ (jK Ln xs sv)) d 210 92 ([some (.inr (some 104)), some (.inl l1), some (.inl l2)], [], jSH w, M) (some (.inl res.1), jSH w, res.2) := by
  unfold f_M_readLaw_92 at hf
  refine jR_in rfl ⟨rfl, rfl, rfl⟩ rfl ?_
  refine js_aload_n rfl ?_
  refine js_getr rfl rfl rfl ?_
  refine js_iload_n rfl ?_
  refine js_aload_n rfl ?_
  refine js_geti rfl rfl rfl ?_
  obtain ⟨hb2, hf⟩ := jg_some hf
  refine js_iast rfl hb2 ?_
  refine js_aload_n rfl ?_
  refine js_bipush (v := (59 : Int32)) rfl ?_
  refine js_c2i rfl rfl ⟨rfl, rfl⟩ rfl rfl (t_M_isSign rfl) (by omega) ?_
  refine js_ifc (tgt := 117) rfl rfl (fun h => ?_) (fun h => ?_)
  · have hf := jif_t hf h
    refine jR_in rfl ⟨rfl, rfl, rfl⟩ rfl ?_
    refine js_aload_n rfl ?_
    obtain ⟨q4, hc_4, hf⟩ := jbind hf
    refine js_c1v (w := 0) rfl rfl ⟨rfl, rfl⟩ rfl rfl (t_M_reads hc_4) (by omega) ?_
    refine js_iload_n rfl ?_
    refine js_iconst (v := (1 : Int32)) rfl ?_
    refine js_iadd ?_
    refine js_istore_n rfl rfl ?_
    refine js_goto (tgt := 2) rfl rfl ?_
    exact hc2 _ _ _ _ _ hf
  · have hf := jif_f hf h
    refine js_aload_n rfl ?_
    refine js_iconst (v := (1 : Int32)) rfl ?_
    refine js_c2i rfl rfl ⟨rfl, rfl⟩ rfl rfl (t_M_errs rfl) (by omega) ?_
    obtain rfl := Option.some.inj hf
    exact js_iret rfl rfl
def f_M_readLaw_2  : Nat → Int32 → jp_M → Option (Int32 × jp_M)
  | 0, _, _ => none
  | n + 1, l1, M =>
    if jp_c .eq (f_M_isLineWord M) 0 = true then (
    if jp_c .ne (M 104 16) 0 = true then (
    let q2 := f_M_errs (1 : Int32) M
    some (q2.1, q2.2)) else (
    some (l1, M))) else (
    if jp_c .ne l1 (16 : Int32) = true then (
    jg (jp_in ((32 : Int32) + l1) 48) (
    let M3 := jp_set M 115 (upd (M 115) (Int32.toNatClampNeg ((32 : Int32) + l1)) (M 104 17))
    (f_M_reads M3).bind fun q5 => (
    jg (jp_in ((32 : Int32) + l1) 48) (
    let M6 := jp_set q5 116 (upd (q5 116) (Int32.toNatClampNeg ((32 : Int32) + l1)) (q5 104 27))
    (f_M_readSum M6).bind fun q8 => (
    if jp_c .ne q8.1 (-1 : Int32) = true then (
    jg (jp_in ((32 : Int32) + l1) 48) (
    let M9 := jp_set q8.2 117 (upd (q8.2 117) (Int32.toNatClampNeg ((32 : Int32) + l1)) (q8.2 104 27))
    if jp_c .eq (f_M_isWord (3 : Int32) M9) 0 = true then (
    f_M_readLaw_92 (f_M_readLaw_2 n ) l1 ((32 : Int32) + l1) M9) else (
    (f_M_reads M9).bind fun q12 => (
    (f_M_readAny q12).bind fun q13 => (
    if jp_c .ne q13.1 (-1 : Int32) = true then (
    f_M_readLaw_92 (f_M_readLaw_2 n ) l1 ((32 : Int32) + l1) (q13.2)) else (
    some ((-1 : Int32), q13.2))))))) else (
    some ((-1 : Int32), q8.2))))))) else (
    let q14 := f_M_errs (3 : Int32) M
    some (q14.1, q14.2)))
theorem t_M_readLaw_2 {Ln : Nat} {xs : Nat → Int32} {sv : jp_V} {d : Nat} (hd : 8 ≤ d)  : ∀ (n : Nat) (l1 : Int32) (o2 : Option jp_V) (w : Nat) (M : jp_M) {res : Int32 × jp_M}, f_M_readLaw_2 n  l1 M = some res → jR (jZ (jK Ln xs sv)) d 210 2 ([some (.inr (some 104)), some (.inl l1), o2], [], jSH w, M) (some (.inl res.1), jSH w, res.2) := by
  intro n
  induction n with
  | zero =>
    intro l1 o2 w M res hf
    cases hf
  | succ n ih =>
    intro l1 o2 w M res hf
    rw [f_M_readLaw_2] at hf
    refine jR_in rfl ⟨rfl, rfl, rfl⟩ rfl ?_
    refine js_aload_n rfl ?_
    refine js_c1i rfl rfl ⟨rfl, rfl⟩ rfl rfl (t_M_isLineWord rfl) (by omega) ?_
    refine js_ifc (tgt := 128) rfl rfl (fun h => ?_) (fun h => ?_)
    · have hf := jif_t hf h
      refine jR_in rfl ⟨rfl, rfl, rfl⟩ rfl ?_
      refine js_aload_n rfl ?_
      refine js_geti rfl rfl rfl ?_
      refine js_ifc (tgt := 139) rfl rfl (fun h => ?_) (fun h => ?_)
      · have hf := jif_t hf h
        refine jR_in rfl ⟨rfl, rfl, rfl⟩ rfl ?_
        refine js_aload_n rfl ?_
        refine js_iconst (v := (1 : Int32)) rfl ?_
        refine js_c2i rfl rfl ⟨rfl, rfl⟩ rfl rfl (t_M_errs rfl) (by omega) ?_
        obtain rfl := Option.some.inj hf
        exact js_iret rfl rfl
      · have hf := jif_f hf h
        refine js_iload_n rfl ?_
        refine js_goto (tgt := 144) rfl rfl ?_
        refine jR_in rfl ⟨rfl, rfl, rfl⟩ rfl ?_
        obtain rfl := Option.some.inj hf
        exact js_iret rfl rfl
    · have hf := jif_f hf h
      refine js_iload_n rfl ?_
      refine js_bipush (v := (16 : Int32)) rfl ?_
      refine js_icmp (tgt := 21) rfl rfl (fun h => ?_) (fun h => ?_)
      · have hf := jif_t hf h
        refine jR_in rfl ⟨rfl, rfl, rfl⟩ rfl ?_
        refine js_bipush (v := (32 : Int32)) rfl ?_
        refine js_iload_n rfl ?_
        refine js_iadd ?_
        refine js_istore_n rfl rfl ?_
        refine js_aload_n rfl ?_
        refine js_getr rfl rfl rfl ?_
        refine js_iload_n rfl ?_
        refine js_aload_n rfl ?_
        refine js_geti rfl rfl rfl ?_
        obtain ⟨hb4, hf⟩ := jg_some hf
        refine js_iast rfl hb4 ?_
        refine js_aload_n rfl ?_
        obtain ⟨q5, hc_5, hf⟩ := jbind hf
        refine js_c1v (w := 0) rfl rfl ⟨rfl, rfl⟩ rfl rfl (t_M_reads hc_5) (by omega) ?_
        refine js_aload_n rfl ?_
        refine js_getr rfl rfl rfl ?_
        refine js_iload_n rfl ?_
        refine js_aload_n rfl ?_
        refine js_geti rfl rfl rfl ?_
        obtain ⟨hb7, hf⟩ := jg_some hf
        refine js_iast rfl hb7 ?_
        refine js_aload_n rfl ?_
        obtain ⟨q8, hc_8, hf⟩ := jbind hf
        refine js_c1i rfl rfl ⟨rfl, rfl⟩ rfl rfl (t_M_readSum hc_8) (by omega) ?_
        refine js_iconst (v := (-1 : Int32)) rfl ?_
        refine js_icmp (tgt := 60) rfl rfl (fun h => ?_) (fun h => ?_)
        · have hf := jif_t hf h
          refine jR_in rfl ⟨rfl, rfl, rfl⟩ rfl ?_
          refine js_aload_n rfl ?_
          refine js_getr rfl rfl rfl ?_
          refine js_iload_n rfl ?_
          refine js_aload_n rfl ?_
          refine js_geti rfl rfl rfl ?_
          obtain ⟨hb10, hf⟩ := jg_some hf
          refine js_iast rfl hb10 ?_
          refine js_aload_n rfl ?_
          refine js_iconst (v := (3 : Int32)) rfl ?_
          refine js_c2i rfl rfl ⟨rfl, rfl⟩ rfl rfl (t_M_isWord rfl) (by omega) ?_
          refine js_ifc (tgt := 92) rfl rfl (fun h => ?_) (fun h => ?_)
          · have hf := jif_t hf h
            exact t_M_readLaw_92 hd (fun l1 o2 w M res hf => ih l1 o2 w M hf) _ _ _ _ hf
          · have hf := jif_f hf h
            refine js_aload_n rfl ?_
            obtain ⟨q12, hc_12, hf⟩ := jbind hf
            refine js_c1v (w := 0) rfl rfl ⟨rfl, rfl⟩ rfl rfl (t_M_reads hc_12) (by omega) ?_
            refine js_aload_n rfl ?_
            obtain ⟨q13, hc_13, hf⟩ := jbind hf
            refine js_c1i rfl rfl ⟨rfl, rfl⟩ rfl rfl (t_M_readAny hc_13) (by omega) ?_
            refine js_iconst (v := (-1 : Int32)) rfl ?_
            refine js_icmp (tgt := 92) rfl rfl (fun h => ?_) (fun h => ?_)
            · have hf := jif_t hf h
              exact t_M_readLaw_92 hd (fun l1 o2 w M res hf => ih l1 o2 w M hf) _ _ _ _ hf
            · have hf := jif_f hf h
              refine js_iconst (v := (-1 : Int32)) rfl ?_
              obtain rfl := Option.some.inj hf
              exact js_iret rfl rfl
        · have hf := jif_f hf h
          refine js_iconst (v := (-1 : Int32)) rfl ?_
          obtain rfl := Option.some.inj hf
          exact js_iret rfl rfl
      · have hf := jif_f hf h
        refine js_aload_n rfl ?_
        refine js_iconst (v := (3 : Int32)) rfl ?_
        refine js_c2i rfl rfl ⟨rfl, rfl⟩ rfl rfl (t_M_errs rfl) (by omega) ?_
        obtain rfl := Option.some.inj hf
        exact js_iret rfl rfl
def f_M_readLaw (M : jp_M) : Option (Int32 × jp_M) :=
  f_M_readLaw_2 jFu (0 : Int32) M
theorem t_M_readLaw {Ln : Nat} {xs : Nat → Int32} {sv : jp_V} {w : Nat} {M : jp_M} {res : Int32 × jp_M} (hf : f_M_readLaw M = some res) : jE (jZ (jK Ln xs sv)) 8 210 [(.inr (some 104))] (jSH w) M (some (.inl res.1), jSH w, res.2) := by
  unfold f_M_readLaw at hf
  refine jE_in (L0 := [some (.inr (some 104)), none, none]) rfl (Nat.le_of_ble_eq_true rfl) rfl (fun d hd => ?_)
  refine jR_in rfl ⟨rfl, rfl, rfl⟩ rfl ?_
  refine js_iconst (v := (0 : Int32)) rfl ?_
  refine js_istore_n rfl rfl ?_
  exact jS_out rfl ⟨rfl, rfl, rfl⟩ rfl (t_M_readLaw_2 hd jFu _ _ _ _ hf)
/-! SwallowsAirModel.readsText(I)I -/
def f_M_readsText (a1 : Int32) (M : jp_M) : Option (Int32 × jp_M) :=
  let M1 := jp_set M 104 (upd (M 104) 26 (0 : Int32))
  (f_M_reads M1).bind fun q2 => (
  if jp_c .ne a1 (1 : Int32) = true then (
  if jp_c .ne a1 (2 : Int32) = true then (
  if jp_c .ne a1 (3 : Int32) = true then (
  (f_M_readLaw q2).bind fun q3 => (
  some (q3.1, q3.2))) else (
  (f_M_readCites q2).bind fun q4 => (
  some (q4.1, q4.2)))) else (
  (f_M_readLease q2).bind fun q5 => (
  some (q5.1, q5.2)))) else (
  (f_M_readPetitions q2).bind fun q6 => (
  some (q6.1, q6.2))))
theorem t_M_readsText {Ln : Nat} {xs : Nat → Int32} {sv : jp_V} {a1 : Int32} {w : Nat} {M : jp_M} {res : Int32 × jp_M} (hf : f_M_readsText a1 M = some res) : jE (jZ (jK Ln xs sv)) 9 222 [(.inr (some 104)), (.inl a1)] (jSH w) M (some (.inl res.1), jSH w, res.2) := by
  unfold f_M_readsText at hf
  refine jE_in (L0 := [some (.inr (some 104)), some (.inl a1)]) rfl (Nat.le_of_ble_eq_true rfl) rfl (fun d hd => ?_)
  refine jR_in rfl ⟨rfl, rfl, rfl⟩ rfl ?_
  refine js_aload_n rfl ?_
  refine js_iconst (v := (0 : Int32)) rfl ?_
  refine js_puti rfl rfl (Or.inl rfl) ?_
  refine js_aload_n rfl ?_
  obtain ⟨q2, hc_2, hf⟩ := jbind hf
  refine js_c1v (w := 0) rfl rfl ⟨rfl, rfl⟩ rfl rfl (t_M_reads hc_2) (by omega) ?_
  refine js_iload_n rfl ?_
  refine js_iconst (v := (1 : Int32)) rfl ?_
  refine js_icmp (tgt := 19) rfl rfl (fun h => ?_) (fun h => ?_)
  · have hf := jif_t hf h
    refine jR_in rfl ⟨rfl, rfl, rfl⟩ rfl ?_
    refine js_iload_n rfl ?_
    refine js_iconst (v := (2 : Int32)) rfl ?_
    refine js_icmp (tgt := 29) rfl rfl (fun h => ?_) (fun h => ?_)
    · have hf := jif_t hf h
      refine jR_in rfl ⟨rfl, rfl, rfl⟩ rfl ?_
      refine js_iload_n rfl ?_
      refine js_iconst (v := (3 : Int32)) rfl ?_
      refine js_icmp (tgt := 41) rfl rfl (fun h => ?_) (fun h => ?_)
      · have hf := jif_t hf h
        refine jR_in rfl ⟨rfl, rfl, rfl⟩ rfl ?_
        refine js_aload_n rfl ?_
        obtain ⟨q3, hc_3, hf⟩ := jbind hf
        refine js_c1i rfl rfl ⟨rfl, rfl⟩ rfl rfl (t_M_readLaw hc_3) (by omega) ?_
        obtain rfl := Option.some.inj hf
        exact js_iret rfl rfl
      · have hf := jif_f hf h
        refine js_aload_n rfl ?_
        obtain ⟨q4, hc_4, hf⟩ := jbind hf
        refine js_c1i rfl rfl ⟨rfl, rfl⟩ rfl rfl (t_M_readCites hc_4) (by omega) ?_
        refine js_goto (tgt := 45) rfl rfl ?_
        refine jR_in rfl ⟨rfl, rfl, rfl⟩ rfl ?_
        obtain rfl := Option.some.inj hf
        exact js_iret rfl rfl
    · have hf := jif_f hf h
      refine js_aload_n rfl ?_
      obtain ⟨q5, hc_5, hf⟩ := jbind hf
      refine js_c1i rfl rfl ⟨rfl, rfl⟩ rfl rfl (t_M_readLease hc_5) (by omega) ?_
      obtain rfl := Option.some.inj hf
      exact js_iret rfl rfl
  · have hf := jif_f hf h
    refine js_aload_n rfl ?_
    obtain ⟨q6, hc_6, hf⟩ := jbind hf
    refine js_c1i rfl rfl ⟨rfl, rfl⟩ rfl rfl (t_M_readPetitions hc_6) (by omega) ?_
    obtain rfl := Option.some.inj hf
    exact js_iret rfl rfl
/-! SwallowsAirModel.takesLaw(I)V -/
def f_M_takesLaw_107  : Nat → Int32 → Int32 → jp_M → Option (jp_M)
  | 0, _, _, _ => none
  | n + 1, l1, l2, M =>
    if jp_c .ge l2 (M 104 27) = true then (
    jg (jp_in (M 104 26) 2) (
    let M1 := jp_set M 114 (upd (M 114) (Int32.toNatClampNeg (M 104 26)) l1)
    some M1)) else (
    jg (jp_in ((800 : Int32) + l2) 1200) (
    jg (jp_in (((400 : Int32) * (M 104 26)) + l2) 1200) (
    let M4 := jp_set M 119 (upd (M 119) (Int32.toNatClampNeg (((400 : Int32) * (M 104 26)) + l2)) (M 119 (Int32.toNatClampNeg ((800 : Int32) + l2))))
    jg (jp_in ((800 : Int32) + l2) 1200) (
    jg (jp_in (((400 : Int32) * (M4 104 26)) + l2) 1200) (
    let M7 := jp_set M4 120 (upd (M4 120) (Int32.toNatClampNeg (((400 : Int32) * (M4 104 26)) + l2)) (M4 120 (Int32.toNatClampNeg ((800 : Int32) + l2))))
    f_M_takesLaw_107 n l1 (l2 + (1 : Int32)) M7)))))
theorem t_M_takesLaw_107 {Ln : Nat} {xs : Nat → Int32} {sv : jp_V} {d : Nat} (hd : 0 ≤ d)  : ∀ (n : Nat) (l1 : Int32) (l2 : Int32) (w : Nat) (M : jp_M) {res : jp_M}, f_M_takesLaw_107 n  l1 l2 M = some res → jR (jZ (jK Ln xs sv)) d 211 107 ([some (.inr (some 104)), some (.inl l1), some (.inl l2)], [], jSH w, M) (none, jSH w, res) := by
  intro n
  induction n with
  | zero =>
    intro l1 l2 w M res hf
    cases hf
  | succ n ih =>
    intro l1 l2 w M res hf
    rw [f_M_takesLaw_107] at hf
    refine jR_in rfl ⟨rfl, rfl, rfl⟩ rfl ?_
    refine js_iload_n rfl ?_
    refine js_aload_n rfl ?_
    refine js_geti rfl rfl rfl ?_
    refine js_icmp (tgt := 171) rfl rfl (fun h => ?_) (fun h => ?_)
    · have hf := jif_t hf h
      refine jR_in rfl ⟨rfl, rfl, rfl⟩ rfl ?_
      refine js_aload_n rfl ?_
      refine js_getr rfl rfl rfl ?_
      refine js_aload_n rfl ?_
      refine js_geti rfl rfl rfl ?_
      refine js_iload_n rfl ?_
      obtain ⟨hb2, hf⟩ := jg_some hf
      refine js_iast rfl hb2 ?_
      obtain rfl := Option.some.inj hf
      exact js_ret rfl rfl
    · have hf := jif_f hf h
      refine js_aload_n rfl ?_
      refine js_getr rfl rfl rfl ?_
      refine js_sipush (v := (400 : Int32)) rfl ?_
      refine js_aload_n rfl ?_
      refine js_geti rfl rfl rfl ?_
      refine js_imul ?_
      refine js_iload_n rfl ?_
      refine js_iadd ?_
      refine js_aload_n rfl ?_
      refine js_getr rfl rfl rfl ?_
      refine js_sipush (v := (800 : Int32)) rfl ?_
      refine js_iload_n rfl ?_
      refine js_iadd ?_
      obtain ⟨hb3, hf⟩ := jg_some hf
      refine js_iald rfl hb3 ?_
      obtain ⟨hb5, hf⟩ := jg_some hf
      refine js_iast rfl hb5 ?_
      refine js_aload_n rfl ?_
      refine js_getr rfl rfl rfl ?_
      refine js_sipush (v := (400 : Int32)) rfl ?_
      refine js_aload_n rfl ?_
      refine js_geti rfl rfl rfl ?_
      refine js_imul ?_
      refine js_iload_n rfl ?_
      refine js_iadd ?_
      refine js_aload_n rfl ?_
      refine js_getr rfl rfl rfl ?_
      refine js_sipush (v := (800 : Int32)) rfl ?_
      refine js_iload_n rfl ?_
      refine js_iadd ?_
      obtain ⟨hb6, hf⟩ := jg_some hf
      refine js_iald rfl hb6 ?_
      obtain ⟨hb8, hf⟩ := jg_some hf
      refine js_iast rfl hb8 ?_
      refine js_iinc (v := (1 : Int32)) rfl rfl rfl rfl ?_
      refine js_goto (tgt := 107) rfl rfl ?_
      exact ih _ _ _ _ hf
def f_M_takesLaw_2  : Nat → Int32 → Int32 → jp_M → Option (jp_M)
  | 0, _, _, _ => none
  | n + 1, l1, l2, M =>
    if jp_c .ge l2 l1 = true then (
    f_M_takesLaw_107 jFu l1 (0 : Int32) M) else (
    jg (jp_in ((32 : Int32) + l2) 48) (
    jg (jp_in (((16 : Int32) * (M 104 26)) + l2) 48) (
    let M2 := jp_set M 115 (upd (M 115) (Int32.toNatClampNeg (((16 : Int32) * (M 104 26)) + l2)) (M 115 (Int32.toNatClampNeg ((32 : Int32) + l2))))
    jg (jp_in ((32 : Int32) + l2) 48) (
    jg (jp_in (((16 : Int32) * (M2 104 26)) + l2) 48) (
    let M5 := jp_set M2 116 (upd (M2 116) (Int32.toNatClampNeg (((16 : Int32) * (M2 104 26)) + l2)) (M2 116 (Int32.toNatClampNeg ((32 : Int32) + l2))))
    jg (jp_in ((32 : Int32) + l2) 48) (
    jg (jp_in (((16 : Int32) * (M5 104 26)) + l2) 48) (
    let M8 := jp_set M5 117 (upd (M5 117) (Int32.toNatClampNeg (((16 : Int32) * (M5 104 26)) + l2)) (M5 117 (Int32.toNatClampNeg ((32 : Int32) + l2))))
    jg (jp_in ((32 : Int32) + l2) 48) (
    jg (jp_in (((16 : Int32) * (M8 104 26)) + l2) 48) (
    let M11 := jp_set M8 118 (upd (M8 118) (Int32.toNatClampNeg (((16 : Int32) * (M8 104 26)) + l2)) (M8 118 (Int32.toNatClampNeg ((32 : Int32) + l2))))
    f_M_takesLaw_2 n l1 (l2 + (1 : Int32)) M11)))))))))
theorem t_M_takesLaw_2 {Ln : Nat} {xs : Nat → Int32} {sv : jp_V} {d : Nat} (hd : 0 ≤ d)  : ∀ (n : Nat) (l1 : Int32) (l2 : Int32) (w : Nat) (M : jp_M) {res : jp_M}, f_M_takesLaw_2 n  l1 l2 M = some res → jR (jZ (jK Ln xs sv)) d 211 2 ([some (.inr (some 104)), some (.inl l1), some (.inl l2)], [], jSH w, M) (none, jSH w, res) := by
  intro n
  induction n with
  | zero =>
    intro l1 l2 w M res hf
    cases hf
  | succ n ih =>
    intro l1 l2 w M res hf
    rw [f_M_takesLaw_2] at hf
    refine jR_in rfl ⟨rfl, rfl, rfl⟩ rfl ?_
    refine js_iload_n rfl ?_
    refine js_iload_n rfl ?_
    refine js_icmp (tgt := 105) rfl rfl (fun h => ?_) (fun h => ?_)
    · have hf := jif_t hf h
      refine jR_in rfl ⟨rfl, rfl, rfl⟩ rfl ?_
      refine js_iconst (v := (0 : Int32)) rfl ?_
      refine js_istore_n rfl rfl ?_
      exact jS_out rfl ⟨rfl, rfl, rfl⟩ rfl (t_M_takesLaw_107 hd jFu _ _ _ _ hf)
    · have hf := jif_f hf h
      refine js_aload_n rfl ?_
      refine js_getr rfl rfl rfl ?_
      refine js_bipush (v := (16 : Int32)) rfl ?_
      refine js_aload_n rfl ?_
      refine js_geti rfl rfl rfl ?_
      refine js_imul ?_
      refine js_iload_n rfl ?_
      refine js_iadd ?_
      refine js_aload_n rfl ?_
      refine js_getr rfl rfl rfl ?_
      refine js_bipush (v := (32 : Int32)) rfl ?_
      refine js_iload_n rfl ?_
      refine js_iadd ?_
      obtain ⟨hb1, hf⟩ := jg_some hf
      refine js_iald rfl hb1 ?_
      obtain ⟨hb3, hf⟩ := jg_some hf
      refine js_iast rfl hb3 ?_
      refine js_aload_n rfl ?_
      refine js_getr rfl rfl rfl ?_
      refine js_bipush (v := (16 : Int32)) rfl ?_
      refine js_aload_n rfl ?_
      refine js_geti rfl rfl rfl ?_
      refine js_imul ?_
      refine js_iload_n rfl ?_
      refine js_iadd ?_
      refine js_aload_n rfl ?_
      refine js_getr rfl rfl rfl ?_
      refine js_bipush (v := (32 : Int32)) rfl ?_
      refine js_iload_n rfl ?_
      refine js_iadd ?_
      obtain ⟨hb4, hf⟩ := jg_some hf
      refine js_iald rfl hb4 ?_
      obtain ⟨hb6, hf⟩ := jg_some hf
      refine js_iast rfl hb6 ?_
      refine js_aload_n rfl ?_
      refine js_getr rfl rfl rfl ?_
      refine js_bipush (v := (16 : Int32)) rfl ?_
      refine js_aload_n rfl ?_
      refine js_geti rfl rfl rfl ?_
      refine js_imul ?_
      refine js_iload_n rfl ?_
      refine js_iadd ?_
      refine js_aload_n rfl ?_
      refine js_getr rfl rfl rfl ?_
      refine js_bipush (v := (32 : Int32)) rfl ?_
      refine js_iload_n rfl ?_
      refine js_iadd ?_
      obtain ⟨hb7, hf⟩ := jg_some hf
      refine js_iald rfl hb7 ?_
      obtain ⟨hb9, hf⟩ := jg_some hf
      refine js_iast rfl hb9 ?_
      refine js_aload_n rfl ?_
      refine js_getr rfl rfl rfl ?_
      refine js_bipush (v := (16 : Int32)) rfl ?_
      refine js_aload_n rfl ?_
      refine js_geti rfl rfl rfl ?_
      refine js_imul ?_
      refine js_iload_n rfl ?_
      refine js_iadd ?_
      refine js_aload_n rfl ?_
      refine js_getr rfl rfl rfl ?_
      refine js_bipush (v := (32 : Int32)) rfl ?_
      refine js_iload_n rfl ?_
      refine js_iadd ?_
      obtain ⟨hb10, hf⟩ := jg_some hf
      refine js_iald rfl hb10 ?_
      obtain ⟨hb12, hf⟩ := jg_some hf
      refine js_iast rfl hb12 ?_
      refine js_iinc (v := (1 : Int32)) rfl rfl rfl rfl ?_
      refine js_goto (tgt := 2) rfl rfl ?_
      exact ih _ _ _ _ hf
def f_M_takesLaw (a1 : Int32) (M : jp_M) : Option (jp_M) :=
  f_M_takesLaw_2 jFu a1 (0 : Int32) M
theorem t_M_takesLaw {Ln : Nat} {xs : Nat → Int32} {sv : jp_V} {a1 : Int32} {w : Nat} {M : jp_M} {res : jp_M} (hf : f_M_takesLaw a1 M = some res) : jE (jZ (jK Ln xs sv)) 0 211 [(.inr (some 104)), (.inl a1)] (jSH w) M (none, jSH w, res) := by
  unfold f_M_takesLaw at hf
  refine jE_in (L0 := [some (.inr (some 104)), some (.inl a1), none]) rfl (Nat.le_of_ble_eq_true rfl) rfl (fun d hd => ?_)
  refine jR_in rfl ⟨rfl, rfl, rfl⟩ rfl ?_
  refine js_iconst (v := (0 : Int32)) rfl ?_
  refine js_istore_n rfl rfl ?_
  exact jS_out rfl ⟨rfl, rfl, rfl⟩ rfl (t_M_takesLaw_2 hd jFu _ _ _ _ hf)
/-! SwallowsAirModel.takesOther(II)V -/
def f_M_takesOther_7  : Nat → Int32 → Int32 → jp_M → Option (jp_M)
  | 0, _, _, _ => none
  | n + 1, l2, l3, M =>
    if jp_c .ge l3 (16 : Int32) = true then (
    let M1 := jp_set M 104 (upd (M 104) 39 l2)
    some M1) else (
    jg (jp_in ((16 : Int32) + l3) 32) (
    jg (jp_in l3 32) (
    let M3 := jp_set M 124 (upd (M 124) (Int32.toNatClampNeg l3) (M 124 (Int32.toNatClampNeg ((16 : Int32) + l3))))
    f_M_takesOther_7 n l2 (l3 + (1 : Int32)) M3)))
theorem t_M_takesOther_7 {Ln : Nat} {xs : Nat → Int32} {sv : jp_V} {d : Nat} (hd : 0 ≤ d)  : ∀ (n : Nat) (l2 : Int32) (l3 : Int32) (o1 : Option jp_V) (w : Nat) (M : jp_M) {res : jp_M}, f_M_takesOther_7 n  l2 l3 M = some res → jR (jZ (jK Ln xs sv)) d 223 7 ([some (.inr (some 104)), o1, some (.inl l2), some (.inl l3)], [], jSH w, M) (none, jSH w, res) := by
  intro n
  induction n with
  | zero =>
    intro l2 l3 o1 w M res hf
    cases hf
  | succ n ih =>
    intro l2 l3 o1 w M res hf
    rw [f_M_takesOther_7] at hf
    refine jR_in rfl ⟨rfl, rfl, rfl⟩ rfl ?_
    refine js_iload_n rfl ?_
    refine js_bipush (v := (16 : Int32)) rfl ?_
    refine js_icmp (tgt := 34) rfl rfl (fun h => ?_) (fun h => ?_)
    · have hf := jif_t hf h
      refine jR_in rfl ⟨rfl, rfl, rfl⟩ rfl ?_
      refine js_aload_n rfl ?_
      refine js_iload_n rfl ?_
      refine js_puti rfl rfl (Or.inl rfl) ?_
      obtain rfl := Option.some.inj hf
      exact js_ret rfl rfl
    · have hf := jif_f hf h
      refine js_aload_n rfl ?_
      refine js_getr rfl rfl rfl ?_
      refine js_iload_n rfl ?_
      refine js_aload_n rfl ?_
      refine js_getr rfl rfl rfl ?_
      refine js_bipush (v := (16 : Int32)) rfl ?_
      refine js_iload_n rfl ?_
      refine js_iadd ?_
      obtain ⟨hb2, hf⟩ := jg_some hf
      refine js_iald rfl hb2 ?_
      obtain ⟨hb4, hf⟩ := jg_some hf
      refine js_iast rfl hb4 ?_
      refine js_iinc (v := (1 : Int32)) rfl rfl rfl rfl ?_
      refine js_goto (tgt := 7) rfl rfl ?_
      exact ih _ _ _ _ _ hf
def f_M_takesOther_47  : Nat → Int32 → Int32 → jp_M → Option (jp_M)
  | 0, _, _, _ => none
  | n + 1, l2, l3, M =>
    if jp_c .ge l3 ((7 : Int32) * l2) = true then (
    let M1 := jp_set M 104 (upd (M 104) 35 l2)
    let M2 := jp_set M1 104 (upd (M1 104) 3 (0 : Int32))
    some M2) else (
    jg (jp_in ((112 : Int32) + l3) 224) (
    jg (jp_in l3 224) (
    let M4 := jp_set M 122 (upd (M 122) (Int32.toNatClampNeg l3) (M 122 (Int32.toNatClampNeg ((112 : Int32) + l3))))
    f_M_takesOther_47 n l2 (l3 + (1 : Int32)) M4)))
theorem t_M_takesOther_47 {Ln : Nat} {xs : Nat → Int32} {sv : jp_V} {d : Nat} (hd : 0 ≤ d)  : ∀ (n : Nat) (l2 : Int32) (l3 : Int32) (o1 : Option jp_V) (w : Nat) (M : jp_M) {res : jp_M}, f_M_takesOther_47 n  l2 l3 M = some res → jR (jZ (jK Ln xs sv)) d 223 47 ([some (.inr (some 104)), o1, some (.inl l2), some (.inl l3)], [], jSH w, M) (none, jSH w, res) := by
  intro n
  induction n with
  | zero =>
    intro l2 l3 o1 w M res hf
    cases hf
  | succ n ih =>
    intro l2 l3 o1 w M res hf
    rw [f_M_takesOther_47] at hf
    refine jR_in rfl ⟨rfl, rfl, rfl⟩ rfl ?_
    refine js_iload_n rfl ?_
    refine js_bipush (v := (7 : Int32)) rfl ?_
    refine js_iload_n rfl ?_
    refine js_imul ?_
    refine js_icmp (tgt := 76) rfl rfl (fun h => ?_) (fun h => ?_)
    · have hf := jif_t hf h
      refine jR_in rfl ⟨rfl, rfl, rfl⟩ rfl ?_
      refine js_aload_n rfl ?_
      refine js_iload_n rfl ?_
      refine js_puti rfl rfl (Or.inl rfl) ?_
      refine js_goto (tgt := 118) rfl rfl ?_
      refine jR_in rfl ⟨rfl, rfl, rfl⟩ rfl ?_
      refine js_aload_n rfl ?_
      refine js_iconst (v := (0 : Int32)) rfl ?_
      refine js_puti rfl rfl (Or.inl rfl) ?_
      obtain rfl := Option.some.inj hf
      exact js_ret rfl rfl
    · have hf := jif_f hf h
      refine js_aload_n rfl ?_
      refine js_getr rfl rfl rfl ?_
      refine js_iload_n rfl ?_
      refine js_aload_n rfl ?_
      refine js_getr rfl rfl rfl ?_
      refine js_bipush (v := (112 : Int32)) rfl ?_
      refine js_iload_n rfl ?_
      refine js_iadd ?_
      obtain ⟨hb3, hf⟩ := jg_some hf
      refine js_iald rfl hb3 ?_
      obtain ⟨hb5, hf⟩ := jg_some hf
      refine js_iast rfl hb5 ?_
      refine js_iinc (v := (1 : Int32)) rfl rfl rfl rfl ?_
      refine js_goto (tgt := 47) rfl rfl ?_
      exact ih _ _ _ _ _ hf
def f_M_takesOther_86  : Nat → Int32 → Int32 → jp_M → Option (jp_M)
  | 0, _, _, _ => none
  | n + 1, l2, l3, M =>
    if jp_c .ge l3 (10 : Int32) = true then (
    let M1 := jp_set M 104 (upd (M 104) 37 l2)
    let M2 := jp_set M1 104 (upd (M1 104) 3 (0 : Int32))
    some M2) else (
    jg (jp_in ((10 : Int32) + l3) 20) (
    jg (jp_in l3 20) (
    let M4 := jp_set M 123 (upd (M 123) (Int32.toNatClampNeg l3) (M 123 (Int32.toNatClampNeg ((10 : Int32) + l3))))
    f_M_takesOther_86 n l2 (l3 + (1 : Int32)) M4)))
theorem t_M_takesOther_86 {Ln : Nat} {xs : Nat → Int32} {sv : jp_V} {d : Nat} (hd : 0 ≤ d)  : ∀ (n : Nat) (l2 : Int32) (l3 : Int32) (o1 : Option jp_V) (w : Nat) (M : jp_M) {res : jp_M}, f_M_takesOther_86 n  l2 l3 M = some res → jR (jZ (jK Ln xs sv)) d 223 86 ([some (.inr (some 104)), o1, some (.inl l2), some (.inl l3)], [], jSH w, M) (none, jSH w, res) := by
  intro n
  induction n with
  | zero =>
    intro l2 l3 o1 w M res hf
    cases hf
  | succ n ih =>
    intro l2 l3 o1 w M res hf
    rw [f_M_takesOther_86] at hf
    refine jR_in rfl ⟨rfl, rfl, rfl⟩ rfl ?_
    refine js_iload_n rfl ?_
    refine js_bipush (v := (10 : Int32)) rfl ?_
    refine js_icmp (tgt := 113) rfl rfl (fun h => ?_) (fun h => ?_)
    · have hf := jif_t hf h
      refine jR_in rfl ⟨rfl, rfl, rfl⟩ rfl ?_
      refine js_aload_n rfl ?_
      refine js_iload_n rfl ?_
      refine js_puti rfl rfl (Or.inl rfl) ?_
      refine js_aload_n rfl ?_
      refine js_iconst (v := (0 : Int32)) rfl ?_
      refine js_puti rfl rfl (Or.inl rfl) ?_
      obtain rfl := Option.some.inj hf
      exact js_ret rfl rfl
    · have hf := jif_f hf h
      refine js_aload_n rfl ?_
      refine js_getr rfl rfl rfl ?_
      refine js_iload_n rfl ?_
      refine js_aload_n rfl ?_
      refine js_getr rfl rfl rfl ?_
      refine js_bipush (v := (10 : Int32)) rfl ?_
      refine js_iload_n rfl ?_
      refine js_iadd ?_
      obtain ⟨hb3, hf⟩ := jg_some hf
      refine js_iald rfl hb3 ?_
      obtain ⟨hb5, hf⟩ := jg_some hf
      refine js_iast rfl hb5 ?_
      refine js_iinc (v := (1 : Int32)) rfl rfl rfl rfl ?_
      refine js_goto (tgt := 86) rfl rfl ?_
      exact ih _ _ _ _ _ hf
def f_M_takesOther (a1 : Int32) (a2 : Int32) (M : jp_M) : Option (jp_M) :=
  if jp_c .ne a1 (3 : Int32) = true then (
  if jp_c .ne a1 (1 : Int32) = true then (
  f_M_takesOther_86 jFu a2 (0 : Int32) M) else (
  f_M_takesOther_47 jFu a2 (0 : Int32) M)) else (
  f_M_takesOther_7 jFu a2 (0 : Int32) M)
theorem t_M_takesOther {Ln : Nat} {xs : Nat → Int32} {sv : jp_V} {a1 : Int32} {a2 : Int32} {w : Nat} {M : jp_M} {res : jp_M} (hf : f_M_takesOther a1 a2 M = some res) : jE (jZ (jK Ln xs sv)) 0 223 [(.inr (some 104)), (.inl a1), (.inl a2)] (jSH w) M (none, jSH w, res) := by
  unfold f_M_takesOther at hf
  refine jE_in (L0 := [some (.inr (some 104)), some (.inl a1), some (.inl a2), none]) rfl (Nat.le_of_ble_eq_true rfl) rfl (fun d hd => ?_)
  refine jR_in rfl ⟨rfl, rfl, rfl⟩ rfl ?_
  refine js_iload_n rfl ?_
  refine js_iconst (v := (3 : Int32)) rfl ?_
  refine js_icmp (tgt := 40) rfl rfl (fun h => ?_) (fun h => ?_)
  · have hf := jif_t hf h
    refine jR_in rfl ⟨rfl, rfl, rfl⟩ rfl ?_
    refine js_iload_n rfl ?_
    refine js_iconst (v := (1 : Int32)) rfl ?_
    refine js_icmp (tgt := 84) rfl rfl (fun h => ?_) (fun h => ?_)
    · have hf := jif_t hf h
      refine jR_in rfl ⟨rfl, rfl, rfl⟩ rfl ?_
      refine js_iconst (v := (0 : Int32)) rfl ?_
      refine js_istore_n rfl rfl ?_
      exact jS_out rfl ⟨rfl, rfl, rfl⟩ rfl (t_M_takesOther_86 hd jFu _ _ _ _ _ hf)
    · have hf := jif_f hf h
      refine js_iconst (v := (0 : Int32)) rfl ?_
      refine js_istore_n rfl rfl ?_
      exact jS_out rfl ⟨rfl, rfl, rfl⟩ rfl (t_M_takesOther_47 hd jFu _ _ _ _ _ hf)
  · have hf := jif_f hf h
    refine js_iconst (v := (0 : Int32)) rfl ?_
    refine js_istore_n rfl rfl ?_
    exact jS_out rfl ⟨rfl, rfl, rfl⟩ rfl (t_M_takesOther_7 hd jFu _ _ _ _ _ hf)
/-! SwallowsAirModel.text(I)I -/
def f_M_text_69  (l1 : Int32) (l2 : Int32) (M : jp_M) : Option (Int32 × jp_M) :=
  let M1 := jp_set M 104 (upd (M 104) 13 (0 : Int32))
  if jp_c .ne l2 (-1 : Int32) = true then (
  if jp_c .ne l1 0 = true then (
  (f_M_takesOther l1 l2 M1).bind fun q2 => (
  some (l2, q2))) else (
  (f_M_takesLaw l2 M1).bind fun q3 => (
  some (l2, q3)))) else (
  some ((-1 : Int32), M1))
theorem t_M_text_69 {Ln : Nat} {xs : Nat → Int32} {sv : jp_V} {d : Nat} (hd : 10 ≤ d)  (l1 : Int32) (l2 : Int32) (w : Nat) (M : jp_M) {res : Int32 × jp_M} (hf : f_M_text_69  l1 l2 M = some res) : jR (jZ (jK Ln xs sv)) d 224 69 ([some (.inr (some 104)), some (.inl l1), some (.inl l2)], [], jSH w, M) (some (.inl res.1), jSH w, res.2) := by
  unfold f_M_text_69 at hf
  refine jR_in rfl ⟨rfl, rfl, rfl⟩ rfl ?_
  refine js_aload_n rfl ?_
  refine js_iconst (v := (0 : Int32)) rfl ?_
  refine js_puti rfl rfl (Or.inl rfl) ?_
  refine js_iload_n rfl ?_
  refine js_iconst (v := (-1 : Int32)) rfl ?_
  refine js_icmp (tgt := 81) rfl rfl (fun h => ?_) (fun h => ?_)
  · have hf := jif_t hf h
    refine jR_in rfl ⟨rfl, rfl, rfl⟩ rfl ?_
    refine js_iload_n rfl ?_
    refine js_ifc (tgt := 93) rfl rfl (fun h => ?_) (fun h => ?_)
    · have hf := jif_t hf h
      refine jR_in rfl ⟨rfl, rfl, rfl⟩ rfl ?_
      refine js_aload_n rfl ?_
      refine js_iload_n rfl ?_
      refine js_iload_n rfl ?_
      obtain ⟨q2, hc_2, hf⟩ := jbind hf
      refine js_c3v (w := 0) rfl rfl ⟨rfl, rfl⟩ rfl rfl (t_M_takesOther hc_2) (by omega) ?_
      refine js_iload_n rfl ?_
      obtain rfl := Option.some.inj hf
      exact js_iret rfl rfl
    · have hf := jif_f hf h
      refine js_aload_n rfl ?_
      refine js_iload_n rfl ?_
      obtain ⟨q3, hc_3, hf⟩ := jbind hf
      refine js_c2v (w := 0) rfl rfl ⟨rfl, rfl⟩ rfl rfl (t_M_takesLaw hc_3) (by omega) ?_
      refine js_goto (tgt := 99) rfl rfl ?_
      refine jR_in rfl ⟨rfl, rfl, rfl⟩ rfl ?_
      refine js_iload_n rfl ?_
      obtain rfl := Option.some.inj hf
      exact js_iret rfl rfl
  · have hf := jif_f hf h
    refine js_iconst (v := (-1 : Int32)) rfl ?_
    obtain rfl := Option.some.inj hf
    exact js_iret rfl rfl
def f_M_text (a1 : Int32) (M : jp_M) : Option (Int32 × jp_M) :=
  let M1 := jp_set M 104 (upd (M 104) 0 (0 : Int32))
  let M2 := jp_set M1 104 (upd (M1 104) 33 (0 : Int32))
  let M3 := jp_set M2 104 (upd (M2 104) 34 (-1 : Int32))
  let M4 := jp_set M3 104 (upd (M3 104) 14 (0 : Int32))
  let M5 := jp_set M4 104 (upd (M4 104) 27 (0 : Int32))
  let M6 := jp_set M5 104 (upd (M5 104) 28 (0 : Int32))
  if jp_c .eq (f_M_isIn a1 (0 : Int32) (3 : Int32)) 0 = true then (
  f_M_text_69 a1 (-1 : Int32) M6) else (
  (f_M_readsText a1 M6).bind fun q8 => (
  if jp_c .ne q8.1 (-1 : Int32) = true then (
  f_M_text_69 a1 (q8.1) (q8.2)) else (
  let M9 := jp_set q8.2 104 (upd (q8.2 104) 33 (q8.2 104 31))
  let M10 := jp_set M9 104 (upd (M9 104) 34 (M9 104 32))
  f_M_text_69 a1 (q8.1) M10)))
theorem t_M_text {Ln : Nat} {xs : Nat → Int32} {sv : jp_V} {a1 : Int32} {w : Nat} {M : jp_M} {res : Int32 × jp_M} (hf : f_M_text a1 M = some res) : jE (jZ (jK Ln xs sv)) 10 224 [(.inr (some 104)), (.inl a1)] (jSH w) M (some (.inl res.1), jSH w, res.2) := by
  unfold f_M_text at hf
  refine jE_in (L0 := [some (.inr (some 104)), some (.inl a1), none]) rfl (Nat.le_of_ble_eq_true rfl) rfl (fun d hd => ?_)
  refine jR_in rfl ⟨rfl, rfl, rfl⟩ rfl ?_
  refine js_aload_n rfl ?_
  refine js_iconst (v := (0 : Int32)) rfl ?_
  refine js_puti rfl rfl (Or.inl rfl) ?_
  refine js_aload_n rfl ?_
  refine js_iconst (v := (0 : Int32)) rfl ?_
  refine js_puti rfl rfl (Or.inl rfl) ?_
  refine js_aload_n rfl ?_
  refine js_iconst (v := (-1 : Int32)) rfl ?_
  refine js_puti rfl rfl (Or.inl rfl) ?_
  refine js_aload_n rfl ?_
  refine js_iconst (v := (0 : Int32)) rfl ?_
  refine js_puti rfl rfl (Or.inl rfl) ?_
  refine js_aload_n rfl ?_
  refine js_iconst (v := (0 : Int32)) rfl ?_
  refine js_puti rfl rfl (Or.inl rfl) ?_
  refine js_aload_n rfl ?_
  refine js_iconst (v := (0 : Int32)) rfl ?_
  refine js_puti rfl rfl (Or.inl rfl) ?_
  refine js_iconst (v := (-1 : Int32)) rfl ?_
  refine js_istore_n rfl rfl ?_
  refine js_aload_n rfl ?_
  refine js_iload_n rfl ?_
  refine js_iconst (v := (0 : Int32)) rfl ?_
  refine js_iconst (v := (3 : Int32)) rfl ?_
  refine js_c4i rfl rfl ⟨rfl, rfl⟩ rfl rfl (t_M_isIn rfl) (by omega) ?_
  refine js_ifc (tgt := 69) rfl rfl (fun h => ?_) (fun h => ?_)
  · have hf := jif_t hf h
    exact t_M_text_69 hd _ _ _ _ hf
  · have hf := jif_f hf h
    refine js_aload_n rfl ?_
    refine js_iload_n rfl ?_
    obtain ⟨q8, hc_8, hf⟩ := jbind hf
    refine js_c2i rfl rfl ⟨rfl, rfl⟩ rfl rfl (t_M_readsText hc_8) (by omega) ?_
    refine js_istore_n rfl rfl ?_
    refine js_iload_n rfl ?_
    refine js_iconst (v := (-1 : Int32)) rfl ?_
    refine js_icmp (tgt := 69) rfl rfl (fun h => ?_) (fun h => ?_)
    · have hf := jif_t hf h
      exact t_M_text_69 hd _ _ _ _ hf
    · have hf := jif_f hf h
      refine js_aload_n rfl ?_
      refine js_aload_n rfl ?_
      refine js_geti rfl rfl rfl ?_
      refine js_puti rfl rfl (Or.inl rfl) ?_
      refine js_aload_n rfl ?_
      refine js_aload_n rfl ?_
      refine js_geti rfl rfl rfl ?_
      refine js_puti rfl rfl (Or.inl rfl) ?_
      exact jS_out rfl ⟨rfl, rfl, rfl⟩ rfl (t_M_text_69 hd _ _ _ _ hf)
/-! SwallowsAirModel.fault(I)I -/
def f_M_fault (a1 : Int32) (M : jp_M) : Int32 × jp_M :=
  let M1 := jp_set M 104 (upd (M 104) 0 (0 : Int32))
  if jp_c .ne a1 0 = true then (
  if jp_c .ne a1 (1 : Int32) = true then (
  ((-1 : Int32), M1)) else (
  ((M1 104 34), M1))) else (
  ((M1 104 33), M1))
theorem t_M_fault {Ln : Nat} {xs : Nat → Int32} {sv : jp_V} {a1 : Int32} {w : Nat} {M : jp_M} {res : Int32 × jp_M} (hf : f_M_fault a1 M = res) : jE (jZ (jK Ln xs sv)) 0 225 [(.inr (some 104)), (.inl a1)] (jSH w) M (some (.inl res.1), jSH w, res.2) := by
  unfold f_M_fault at hf
  refine jE_in (L0 := [some (.inr (some 104)), some (.inl a1)]) rfl (Nat.le_of_ble_eq_true rfl) rfl (fun d hd => ?_)
  refine jR_in rfl ⟨rfl, rfl, rfl⟩ rfl ?_
  refine js_aload_n rfl ?_
  refine js_iconst (v := (0 : Int32)) rfl ?_
  refine js_puti rfl rfl (Or.inl rfl) ?_
  refine js_iload_n rfl ?_
  refine js_ifc (tgt := 16) rfl rfl (fun h => ?_) (fun h => ?_)
  · have hf := jif_t hf h
    refine jR_in rfl ⟨rfl, rfl, rfl⟩ rfl ?_
    refine js_iload_n rfl ?_
    refine js_iconst (v := (1 : Int32)) rfl ?_
    refine js_icmp (tgt := 28) rfl rfl (fun h => ?_) (fun h => ?_)
    · have hf := jif_t hf h
      refine jR_in rfl ⟨rfl, rfl, rfl⟩ rfl ?_
      refine js_iconst (v := (-1 : Int32)) rfl ?_
      subst hf
      exact js_iret rfl rfl
    · have hf := jif_f hf h
      refine js_aload_n rfl ?_
      refine js_geti rfl rfl rfl ?_
      refine js_goto (tgt := 29) rfl rfl ?_
      refine jR_in rfl ⟨rfl, rfl, rfl⟩ rfl ?_
      subst hf
      exact js_iret rfl rfl
  · have hf := jif_f hf h
    refine js_aload_n rfl ?_
    refine js_geti rfl rfl rfl ?_
    refine js_goto (tgt := 29) rfl rfl ?_
    refine jR_in rfl ⟨rfl, rfl, rfl⟩ rfl ?_
    subst hf
    exact js_iret rfl rfl
/-! SwallowsAirModel.isTold(IIIIII)Z -/
def f_M_isTold (a1 : Int32) (a2 : Int32) (a3 : Int32) (a4 : Int32) (a5 : Int32) (a6 : Int32) (M : jp_M) : Int32 :=
  if jp_c .eq (f_M_isPerson a1 M) 0 = true then (
  (0 : Int32)) else (
  if jp_c .eq (f_M_isIn a2 (0 : Int32) (5 : Int32)) 0 = true then (
  (0 : Int32)) else (
  if jp_c .eq (f_M_isIn a3 (0 : Int32) (9 : Int32)) 0 = true then (
  (0 : Int32)) else (
  if jp_c .eq (f_M_isIn a4 (0 : Int32) a5) 0 = true then (
  (0 : Int32)) else (
  if jp_c .eq (f_M_isIn a5 (0 : Int32) (7 : Int32)) 0 = true then (
  (0 : Int32)) else (
  if jp_c .eq (f_M_isIn a6 (1 : Int32) (30 : Int32)) 0 = true then (
  (0 : Int32)) else (
  (1 : Int32)))))))
theorem t_M_isTold {Ln : Nat} {xs : Nat → Int32} {sv : jp_V} {a1 : Int32} {a2 : Int32} {a3 : Int32} {a4 : Int32} {a5 : Int32} {a6 : Int32} {w : Nat} {M : jp_M} {res : Int32} (hf : f_M_isTold a1 a2 a3 a4 a5 a6 M = res) : jE (jZ (jK Ln xs sv)) 1 237 [(.inr (some 104)), (.inl a1), (.inl a2), (.inl a3), (.inl a4), (.inl a5), (.inl a6)] (jSH w) M (some (.inl res), jSH w, M) := by
  unfold f_M_isTold at hf
  refine jE_in (L0 := [some (.inr (some 104)), some (.inl a1), some (.inl a2), some (.inl a3), some (.inl a4), some (.inl a5), some (.inl a6)]) rfl (Nat.le_of_ble_eq_true rfl) rfl (fun d hd => ?_)
  refine jR_in rfl ⟨rfl, rfl, rfl⟩ rfl ?_
  refine js_aload_n rfl ?_
  refine js_iload_n rfl ?_
  refine js_c2i rfl rfl ⟨rfl, rfl⟩ rfl rfl (t_M_isPerson rfl) (by omega) ?_
  refine js_ifc (tgt := 69) rfl rfl (fun h => ?_) (fun h => ?_)
  · have hf := jif_t hf h
    refine jR_in rfl ⟨rfl, rfl, rfl⟩ rfl ?_
    refine js_iconst (v := (0 : Int32)) rfl ?_
    subst hf
    exact js_iret rfl rfl
  · have hf := jif_f hf h
    refine js_aload_n rfl ?_
    refine js_iload_n rfl ?_
    refine js_iconst (v := (0 : Int32)) rfl ?_
    refine js_iconst (v := (5 : Int32)) rfl ?_
    refine js_c4i rfl rfl ⟨rfl, rfl⟩ rfl rfl (t_M_isIn rfl) (by omega) ?_
    refine js_ifc (tgt := 69) rfl rfl (fun h => ?_) (fun h => ?_)
    · have hf := jif_t hf h
      refine jR_in rfl ⟨rfl, rfl, rfl⟩ rfl ?_
      refine js_iconst (v := (0 : Int32)) rfl ?_
      subst hf
      exact js_iret rfl rfl
    · have hf := jif_f hf h
      refine js_aload_n rfl ?_
      refine js_iload_n rfl ?_
      refine js_iconst (v := (0 : Int32)) rfl ?_
      refine js_bipush (v := (9 : Int32)) rfl ?_
      refine js_c4i rfl rfl ⟨rfl, rfl⟩ rfl rfl (t_M_isIn rfl) (by omega) ?_
      refine js_ifc (tgt := 69) rfl rfl (fun h => ?_) (fun h => ?_)
      · have hf := jif_t hf h
        refine jR_in rfl ⟨rfl, rfl, rfl⟩ rfl ?_
        refine js_iconst (v := (0 : Int32)) rfl ?_
        subst hf
        exact js_iret rfl rfl
      · have hf := jif_f hf h
        refine js_aload_n rfl ?_
        refine js_iload rfl ?_
        refine js_iconst (v := (0 : Int32)) rfl ?_
        refine js_iload rfl ?_
        refine js_c4i rfl rfl ⟨rfl, rfl⟩ rfl rfl (t_M_isIn rfl) (by omega) ?_
        refine js_ifc (tgt := 69) rfl rfl (fun h => ?_) (fun h => ?_)
        · have hf := jif_t hf h
          refine jR_in rfl ⟨rfl, rfl, rfl⟩ rfl ?_
          refine js_iconst (v := (0 : Int32)) rfl ?_
          subst hf
          exact js_iret rfl rfl
        · have hf := jif_f hf h
          refine js_aload_n rfl ?_
          refine js_iload rfl ?_
          refine js_iconst (v := (0 : Int32)) rfl ?_
          refine js_bipush (v := (7 : Int32)) rfl ?_
          refine js_c4i rfl rfl ⟨rfl, rfl⟩ rfl rfl (t_M_isIn rfl) (by omega) ?_
          refine js_ifc (tgt := 69) rfl rfl (fun h => ?_) (fun h => ?_)
          · have hf := jif_t hf h
            refine jR_in rfl ⟨rfl, rfl, rfl⟩ rfl ?_
            refine js_iconst (v := (0 : Int32)) rfl ?_
            subst hf
            exact js_iret rfl rfl
          · have hf := jif_f hf h
            refine js_aload_n rfl ?_
            refine js_iload rfl ?_
            refine js_iconst (v := (1 : Int32)) rfl ?_
            refine js_bipush (v := (30 : Int32)) rfl ?_
            refine js_c4i rfl rfl ⟨rfl, rfl⟩ rfl rfl (t_M_isIn rfl) (by omega) ?_
            refine js_ifc (tgt := 69) rfl rfl (fun h => ?_) (fun h => ?_)
            · have hf := jif_t hf h
              refine jR_in rfl ⟨rfl, rfl, rfl⟩ rfl ?_
              refine js_iconst (v := (0 : Int32)) rfl ?_
              subst hf
              exact js_iret rfl rfl
            · have hf := jif_f hf h
              refine js_iconst (v := (1 : Int32)) rfl ?_
              refine js_goto (tgt := 70) rfl rfl ?_
              refine jR_in rfl ⟨rfl, rfl, rfl⟩ rfl ?_
              subst hf
              exact js_iret rfl rfl
theorem b_M_isTold {a1 : Int32} {a2 : Int32} {a3 : Int32} {a4 : Int32} {a5 : Int32} {a6 : Int32} {M : jp_M} {res : Int32} (hf : f_M_isTold a1 a2 a3 a4 a5 a6 M = res) : res = 0 ∨ res = 1 := by
  unfold f_M_isTold at hf
  rcases jif_d hf with ⟨h, hf⟩ | ⟨h, hf⟩
  · subst hf
    exact Or.inl rfl
  · rcases jif_d hf with ⟨h, hf⟩ | ⟨h, hf⟩
    · subst hf
      exact Or.inl rfl
    · rcases jif_d hf with ⟨h, hf⟩ | ⟨h, hf⟩
      · subst hf
        exact Or.inl rfl
      · rcases jif_d hf with ⟨h, hf⟩ | ⟨h, hf⟩
        · subst hf
          exact Or.inl rfl
        · rcases jif_d hf with ⟨h, hf⟩ | ⟨h, hf⟩
          · subst hf
            exact Or.inl rfl
          · rcases jif_d hf with ⟨h, hf⟩ | ⟨h, hf⟩
            · subst hf
              exact Or.inl rfl
            · subst hf
              exact Or.inr rfl
/-! SwallowsAirModel.useAt(I)I -/
def f_M_useAt (a1 : Int32) : Int32 :=
  ((56 : Int32) + ((8 : Int32) * a1))
theorem t_M_useAt {Ln : Nat} {xs : Nat → Int32} {sv : jp_V} {a1 : Int32} {w : Nat} {M : jp_M} {res : Int32} (hf : f_M_useAt a1 = res) : jE (jZ (jK Ln xs sv)) 0 180 [(.inr (some 104)), (.inl a1)] (jSH w) M (some (.inl res), jSH w, M) := by
  unfold f_M_useAt at hf
  refine jE_in (L0 := [some (.inr (some 104)), some (.inl a1)]) rfl (Nat.le_of_ble_eq_true rfl) rfl (fun d hd => ?_)
  refine jR_in rfl ⟨rfl, rfl, rfl⟩ rfl ?_
  refine js_bipush (v := (56 : Int32)) rfl ?_
  refine js_bipush (v := (8 : Int32)) rfl ?_
  refine js_iload_n rfl ?_
  refine js_imul ?_
  refine js_iadd ?_
  subst hf
  exact js_iret rfl rfl
/-! SwallowsAirModel.useOf(II)I -/
def f_M_useOf_60 (c2 : Int32 → Int32 → Int32 → jp_M → Option (Int32)) (l1 : Int32) (l2 : Int32) (l3 : Int32) (M : jp_M) : Option (Int32) :=
  c2 l1 l2 (l3 + (1 : Int32)) M
theorem t_M_useOf_60 {Ln : Nat} {xs : Nat → Int32} {sv : jp_V} {d : Nat} (hd : 1 ≤ d) {c2 : Int32 → Int32 → Int32 → jp_M → Option (Int32)} (hc2 : ∀ (l1 : Int32) (l2 : Int32) (l3 : Int32) (o4 : Option jp_V) (w : Nat) (M : jp_M) (res : Int32), c2 l1 l2 l3 M = some res → jR (jZ (jK Ln xs sv)) d 181 2 ([some (.inr (some 104)), some (.inl l1), some (.inl l2), some (.inl l3), o4], [], jSH w, M) (some (.inl res), jSH w, M)) (l1 : Int32) (l2 : Int32) (l3 : Int32) (o4 : Option jp_V) (w : Nat) (M : jp_M) {res : Int32} (hf : f_M_useOf_60 c2 l1 l2 l3 M = some res) : jR (jZ (jK Ln xs sv)) d 181 60 ([some (.inr (some 104)), some (.inl l1), some (.inl l2), some (.inl l3), o4], [], jSH w, M) (some (.inl res), jSH w, M) := by
  unfold f_M_useOf_60 at hf
  refine jR_in rfl ⟨rfl, rfl, rfl⟩ rfl ?_
  refine js_iinc (v := (1 : Int32)) rfl rfl rfl rfl ?_
  refine js_goto (tgt := 2) rfl rfl ?_
  exact hc2 _ _ _ _ _ _ _ hf
def f_M_useOf_2  : Nat → Int32 → Int32 → Int32 → jp_M → Option (Int32)
  | 0, _, _, _, _ => none
  | n + 1, l1, l2, l3, M =>
    if jp_c .ge l3 (M 105 5) = true then (
    some (-1 : Int32)) else (
    jg (jp_in ((f_M_useAt l3) + (3 : Int32)) 184) (
    if jp_c .ne (M 105 (Int32.toNatClampNeg ((f_M_useAt l3) + (3 : Int32)))) l1 = true then (
    f_M_useOf_60 (f_M_useOf_2 n ) l1 l2 l3 M) else (
    jg (jp_in ((f_M_useAt l3) + (4 : Int32)) 184) (
    jg (jp_in ((f_M_useAt l3) + (5 : Int32)) 184) (
    if jp_c .eq (f_M_isIn l2 (M 105 (Int32.toNatClampNeg ((f_M_useAt l3) + (4 : Int32)))) (M 105 (Int32.toNatClampNeg ((f_M_useAt l3) + (5 : Int32))))) 0 = true then (
    f_M_useOf_60 (f_M_useOf_2 n ) l1 l2 l3 M) else (
    some l3))))))
theorem t_M_useOf_2 {Ln : Nat} {xs : Nat → Int32} {sv : jp_V} {d : Nat} (hd : 1 ≤ d)  : ∀ (n : Nat) (l1 : Int32) (l2 : Int32) (l3 : Int32) (o4 : Option jp_V) (w : Nat) (M : jp_M) {res : Int32}, f_M_useOf_2 n  l1 l2 l3 M = some res → jR (jZ (jK Ln xs sv)) d 181 2 ([some (.inr (some 104)), some (.inl l1), some (.inl l2), some (.inl l3), o4], [], jSH w, M) (some (.inl res), jSH w, M) := by
  intro n
  induction n with
  | zero =>
    intro l1 l2 l3 o4 w M res hf
    cases hf
  | succ n ih =>
    intro l1 l2 l3 o4 w M res hf
    rw [f_M_useOf_2] at hf
    refine jR_in rfl ⟨rfl, rfl, rfl⟩ rfl ?_
    refine js_iload_n rfl ?_
    refine js_aload_n rfl ?_
    refine js_getr rfl rfl rfl ?_
    refine js_iconst (v := (5 : Int32)) rfl ?_
    refine js_iald rfl (by decide) ?_
    refine js_icmp (tgt := 66) rfl rfl (fun h => ?_) (fun h => ?_)
    · have hf := jif_t hf h
      refine jR_in rfl ⟨rfl, rfl, rfl⟩ rfl ?_
      refine js_iconst (v := (-1 : Int32)) rfl ?_
      obtain rfl := Option.some.inj hf
      exact js_iret rfl rfl
    · have hf := jif_f hf h
      refine js_aload_n rfl ?_
      refine js_iload_n rfl ?_
      refine js_c2i rfl rfl ⟨rfl, rfl⟩ rfl rfl (t_M_useAt rfl) (by omega) ?_
      refine js_istore rfl rfl ?_
      refine js_aload_n rfl ?_
      refine js_getr rfl rfl rfl ?_
      refine js_iload rfl ?_
      refine js_iconst (v := (3 : Int32)) rfl ?_
      refine js_iadd ?_
      obtain ⟨hb2, hf⟩ := jg_some hf
      refine js_iald rfl hb2 ?_
      refine js_iload_n rfl ?_
      refine js_icmp (tgt := 60) rfl rfl (fun h => ?_) (fun h => ?_)
      · have hf := jif_t hf h
        exact t_M_useOf_60 hd (fun l1 l2 l3 o4 w M res hf => ih l1 l2 l3 o4 w M hf) _ _ _ _ _ _ hf
      · have hf := jif_f hf h
        refine js_aload_n rfl ?_
        refine js_iload_n rfl ?_
        refine js_aload_n rfl ?_
        refine js_getr rfl rfl rfl ?_
        refine js_iload rfl ?_
        refine js_iconst (v := (4 : Int32)) rfl ?_
        refine js_iadd ?_
        obtain ⟨hb3, hf⟩ := jg_some hf
        refine js_iald rfl hb3 ?_
        refine js_aload_n rfl ?_
        refine js_getr rfl rfl rfl ?_
        refine js_iload rfl ?_
        refine js_iconst (v := (5 : Int32)) rfl ?_
        refine js_iadd ?_
        obtain ⟨hb4, hf⟩ := jg_some hf
        refine js_iald rfl hb4 ?_
        refine js_c4i rfl rfl ⟨rfl, rfl⟩ rfl rfl (t_M_isIn rfl) (by omega) ?_
        refine js_ifc (tgt := 60) rfl rfl (fun h => ?_) (fun h => ?_)
        · have hf := jif_t hf h
          exact t_M_useOf_60 hd (fun l1 l2 l3 o4 w M res hf => ih l1 l2 l3 o4 w M hf) _ _ _ _ _ _ hf
        · have hf := jif_f hf h
          refine js_iload_n rfl ?_
          obtain rfl := Option.some.inj hf
          exact js_iret rfl rfl
def f_M_useOf (a1 : Int32) (a2 : Int32) (M : jp_M) : Option (Int32) :=
  f_M_useOf_2 jFu a1 a2 (0 : Int32) M
theorem t_M_useOf {Ln : Nat} {xs : Nat → Int32} {sv : jp_V} {a1 : Int32} {a2 : Int32} {w : Nat} {M : jp_M} {res : Int32} (hf : f_M_useOf a1 a2 M = some res) : jE (jZ (jK Ln xs sv)) 1 181 [(.inr (some 104)), (.inl a1), (.inl a2)] (jSH w) M (some (.inl res), jSH w, M) := by
  unfold f_M_useOf at hf
  refine jE_in (L0 := [some (.inr (some 104)), some (.inl a1), some (.inl a2), none, none]) rfl (Nat.le_of_ble_eq_true rfl) rfl (fun d hd => ?_)
  refine jR_in rfl ⟨rfl, rfl, rfl⟩ rfl ?_
  refine js_iconst (v := (0 : Int32)) rfl ?_
  refine js_istore_n rfl rfl ?_
  exact jS_out rfl ⟨rfl, rfl, rfl⟩ rfl (t_M_useOf_2 hd jFu _ _ _ _ _ _ hf)
/-! SwallowsAirModel.isFree(II)Z -/
def f_M_isFree (a1 : Int32) (a2 : Int32) (M : jp_M) : Option (Int32) :=
  (f_M_useOf a1 a2 M).bind fun q1 => (
  if jp_c .ne q1 (-1 : Int32) = true then (
  some (0 : Int32)) else (
  some (1 : Int32)))
theorem t_M_isFree {Ln : Nat} {xs : Nat → Int32} {sv : jp_V} {a1 : Int32} {a2 : Int32} {w : Nat} {M : jp_M} {res : Int32} (hf : f_M_isFree a1 a2 M = some res) : jE (jZ (jK Ln xs sv)) 2 182 [(.inr (some 104)), (.inl a1), (.inl a2)] (jSH w) M (some (.inl res), jSH w, M) := by
  unfold f_M_isFree at hf
  refine jE_in (L0 := [some (.inr (some 104)), some (.inl a1), some (.inl a2)]) rfl (Nat.le_of_ble_eq_true rfl) rfl (fun d hd => ?_)
  refine jR_in rfl ⟨rfl, rfl, rfl⟩ rfl ?_
  refine js_aload_n rfl ?_
  refine js_iload_n rfl ?_
  refine js_iload_n rfl ?_
  obtain ⟨q1, hc_1, hf⟩ := jbind hf
  refine js_c3i rfl rfl ⟨rfl, rfl⟩ rfl rfl (t_M_useOf hc_1) (by omega) ?_
  refine js_iconst (v := (-1 : Int32)) rfl ?_
  refine js_icmp (tgt := 14) rfl rfl (fun h => ?_) (fun h => ?_)
  · have hf := jif_t hf h
    refine jR_in rfl ⟨rfl, rfl, rfl⟩ rfl ?_
    refine js_iconst (v := (0 : Int32)) rfl ?_
    obtain rfl := Option.some.inj hf
    exact js_iret rfl rfl
  · have hf := jif_f hf h
    refine js_iconst (v := (1 : Int32)) rfl ?_
    refine js_goto (tgt := 15) rfl rfl ?_
    refine jR_in rfl ⟨rfl, rfl, rfl⟩ rfl ?_
    obtain rfl := Option.some.inj hf
    exact js_iret rfl rfl
theorem b_M_isFree {a1 : Int32} {a2 : Int32} {M : jp_M} {res : Int32} (hf : f_M_isFree a1 a2 M = some res) : res = 0 ∨ res = 1 := by
  unfold f_M_isFree at hf
  obtain ⟨q1, hc_1, hf⟩ := jbind hf
  rcases jif_d hf with ⟨h, hf⟩ | ⟨h, hf⟩
  · obtain rfl := Option.some.inj hf
    exact Or.inl rfl
  · obtain rfl := Option.some.inj hf
    exact Or.inr rfl
/-! SwallowsAirModel.canBe(III)Z -/
def f_M_canBe_3  : Nat → Int32 → Int32 → Int32 → jp_M → Option (Int32)
  | 0, _, _, _, _ => none
  | n + 1, l1, l3, l4, M =>
    if jp_c .gt l4 l3 = true then (
    if jp_c .ge (M 105 5) (16 : Int32) = true then (
    some (0 : Int32)) else (
    some (1 : Int32))) else (
    (f_M_isFree l1 l4 M).bind fun q1 => (
    if jp_c .ne q1 0 = true then (
    f_M_canBe_3 n l1 l3 (l4 + (1 : Int32)) M) else (
    some (0 : Int32))))
theorem t_M_canBe_3 {Ln : Nat} {xs : Nat → Int32} {sv : jp_V} {d : Nat} (hd : 3 ≤ d)  : ∀ (n : Nat) (l1 : Int32) (l3 : Int32) (l4 : Int32) (o2 : Option jp_V) (w : Nat) (M : jp_M) {res : Int32}, f_M_canBe_3 n  l1 l3 l4 M = some res → jR (jZ (jK Ln xs sv)) d 238 3 ([some (.inr (some 104)), some (.inl l1), o2, some (.inl l3), some (.inl l4)], [], jSH w, M) (some (.inl res), jSH w, M) := by
  intro n
  induction n with
  | zero =>
    intro l1 l3 l4 o2 w M res hf
    cases hf
  | succ n ih =>
    intro l1 l3 l4 o2 w M res hf
    rw [f_M_canBe_3] at hf
    refine jR_in rfl ⟨rfl, rfl, rfl⟩ rfl ?_
    refine js_iload rfl ?_
    refine js_iload_n rfl ?_
    refine js_icmp (tgt := 27) rfl rfl (fun h => ?_) (fun h => ?_)
    · have hf := jif_t hf h
      refine jR_in rfl ⟨rfl, rfl, rfl⟩ rfl ?_
      refine js_aload_n rfl ?_
      refine js_getr rfl rfl rfl ?_
      refine js_iconst (v := (5 : Int32)) rfl ?_
      refine js_iald rfl (by decide) ?_
      refine js_bipush (v := (16 : Int32)) rfl ?_
      refine js_icmp (tgt := 42) rfl rfl (fun h => ?_) (fun h => ?_)
      · have hf := jif_t hf h
        refine jR_in rfl ⟨rfl, rfl, rfl⟩ rfl ?_
        refine js_iconst (v := (0 : Int32)) rfl ?_
        obtain rfl := Option.some.inj hf
        exact js_iret rfl rfl
      · have hf := jif_f hf h
        refine js_iconst (v := (1 : Int32)) rfl ?_
        refine js_goto (tgt := 43) rfl rfl ?_
        refine jR_in rfl ⟨rfl, rfl, rfl⟩ rfl ?_
        obtain rfl := Option.some.inj hf
        exact js_iret rfl rfl
    · have hf := jif_f hf h
      refine js_aload_n rfl ?_
      refine js_iload_n rfl ?_
      refine js_iload rfl ?_
      obtain ⟨q1, hc_1, hf⟩ := jbind hf
      refine js_c3i rfl rfl ⟨rfl, rfl⟩ rfl rfl (t_M_isFree hc_1) (by omega) ?_
      refine js_ifc (tgt := 21) rfl rfl (fun h => ?_) (fun h => ?_)
      · have hf := jif_t hf h
        refine jR_in rfl ⟨rfl, rfl, rfl⟩ rfl ?_
        refine js_iinc (v := (1 : Int32)) rfl rfl rfl rfl ?_
        refine js_goto (tgt := 3) rfl rfl ?_
        exact ih _ _ _ _ _ _ hf
      · have hf := jif_f hf h
        refine js_iconst (v := (0 : Int32)) rfl ?_
        obtain rfl := Option.some.inj hf
        exact js_iret rfl rfl
theorem b_M_canBe_3  : ∀ (n : Nat) (l1 : Int32) (l3 : Int32) (l4 : Int32) (M : jp_M) {res : Int32}, f_M_canBe_3 n  l1 l3 l4 M = some res → (res = 0 ∨ res = 1) := by
  intro n
  induction n with
  | zero =>
    intro l1 l3 l4 M res hf
    cases hf
  | succ n ih =>
    intro l1 l3 l4 M res hf
    rw [f_M_canBe_3] at hf
    rcases jif_d hf with ⟨h, hf⟩ | ⟨h, hf⟩
    · rcases jif_d hf with ⟨h, hf⟩ | ⟨h, hf⟩
      · obtain rfl := Option.some.inj hf
        exact Or.inl rfl
      · obtain rfl := Option.some.inj hf
        exact Or.inr rfl
    · obtain ⟨q1, hc_1, hf⟩ := jbind hf
      rcases jif_d hf with ⟨h, hf⟩ | ⟨h, hf⟩
      · exact ih _ _ _ _ hf
      · obtain rfl := Option.some.inj hf
        exact Or.inl rfl
def f_M_canBe (a1 : Int32) (a2 : Int32) (a3 : Int32) (M : jp_M) : Option (Int32) :=
  f_M_canBe_3 jFu a1 a3 a2 M
theorem t_M_canBe {Ln : Nat} {xs : Nat → Int32} {sv : jp_V} {a1 : Int32} {a2 : Int32} {a3 : Int32} {w : Nat} {M : jp_M} {res : Int32} (hf : f_M_canBe a1 a2 a3 M = some res) : jE (jZ (jK Ln xs sv)) 3 238 [(.inr (some 104)), (.inl a1), (.inl a2), (.inl a3)] (jSH w) M (some (.inl res), jSH w, M) := by
  unfold f_M_canBe at hf
  refine jE_in (L0 := [some (.inr (some 104)), some (.inl a1), some (.inl a2), some (.inl a3), none]) rfl (Nat.le_of_ble_eq_true rfl) rfl (fun d hd => ?_)
  refine jR_in rfl ⟨rfl, rfl, rfl⟩ rfl ?_
  refine js_iload_n rfl ?_
  refine js_istore rfl rfl ?_
  exact jS_out rfl ⟨rfl, rfl, rfl⟩ rfl (t_M_canBe_3 hd jFu _ _ _ _ _ _ hf)
theorem b_M_canBe {a1 : Int32} {a2 : Int32} {a3 : Int32} {M : jp_M} {res : Int32} (hf : f_M_canBe a1 a2 a3 M = some res) : res = 0 ∨ res = 1 := by
  unfold f_M_canBe at hf
  exact b_M_canBe_3 jFu _ _ _ _ hf
/-! SwallowsAirModel.keepsAhead()V -/
def f_M_keepsAhead_57  : Nat → Int32 → jp_M → Option (jp_M)
  | 0, _, _ => none
  | n + 1, l1, M =>
    if jp_c .ge l1 (184 : Int32) = true then (
    let M1 := jp_set M 104 (upd (M 104) 3 ((M 104 3) + (1 : Int32)))
    some M1) else (
    jg (jp_in l1 184) (
    jg (jp_in (((184 : Int32) * (M 104 3)) + l1) 1104) (
    let M3 := jp_set M 106 (upd (M 106) (Int32.toNatClampNeg (((184 : Int32) * (M 104 3)) + l1)) (M 105 (Int32.toNatClampNeg l1)))
    f_M_keepsAhead_57 n (l1 + (1 : Int32)) M3)))
theorem t_M_keepsAhead_57 {Ln : Nat} {xs : Nat → Int32} {sv : jp_V} {d : Nat} (hd : 0 ≤ d)  : ∀ (n : Nat) (l1 : Int32) (w : Nat) (M : jp_M) {res : jp_M}, f_M_keepsAhead_57 n  l1 M = some res → jR (jZ (jK Ln xs sv)) d 171 57 ([some (.inr (some 104)), some (.inl l1)], [], jSH w, M) (none, jSH w, res) := by
  intro n
  induction n with
  | zero =>
    intro l1 w M res hf
    cases hf
  | succ n ih =>
    intro l1 w M res hf
    rw [f_M_keepsAhead_57] at hf
    refine jR_in rfl ⟨rfl, rfl, rfl⟩ rfl ?_
    refine js_iload_n rfl ?_
    refine js_sipush (v := (184 : Int32)) rfl ?_
    refine js_icmp (tgt := 91) rfl rfl (fun h => ?_) (fun h => ?_)
    · have hf := jif_t hf h
      refine jR_in rfl ⟨rfl, rfl, rfl⟩ rfl ?_
      refine js_aload_n rfl ?_
      refine js_aload_n rfl ?_
      refine js_geti rfl rfl rfl ?_
      refine js_iconst (v := (1 : Int32)) rfl ?_
      refine js_iadd ?_
      refine js_puti rfl rfl (Or.inl rfl) ?_
      obtain rfl := Option.some.inj hf
      exact js_ret rfl rfl
    · have hf := jif_f hf h
      refine js_aload_n rfl ?_
      refine js_getr rfl rfl rfl ?_
      refine js_sipush (v := (184 : Int32)) rfl ?_
      refine js_aload_n rfl ?_
      refine js_geti rfl rfl rfl ?_
      refine js_imul ?_
      refine js_iload_n rfl ?_
      refine js_iadd ?_
      refine js_aload_n rfl ?_
      refine js_getr rfl rfl rfl ?_
      refine js_iload_n rfl ?_
      obtain ⟨hb2, hf⟩ := jg_some hf
      refine js_iald rfl hb2 ?_
      obtain ⟨hb4, hf⟩ := jg_some hf
      refine js_iast rfl hb4 ?_
      refine js_iinc (v := (1 : Int32)) rfl rfl rfl rfl ?_
      refine js_goto (tgt := 57) rfl rfl ?_
      exact ih _ _ _ hf
def f_M_keepsAhead_55  (M : jp_M) : Option (jp_M) :=
  f_M_keepsAhead_57 jFu (0 : Int32) M
theorem t_M_keepsAhead_55 {Ln : Nat} {xs : Nat → Int32} {sv : jp_V} {d : Nat} (hd : 0 ≤ d)  (o1 : Option jp_V) (w : Nat) (M : jp_M) {res : jp_M} (hf : f_M_keepsAhead_55  M = some res) : jR (jZ (jK Ln xs sv)) d 171 55 ([some (.inr (some 104)), o1], [], jSH w, M) (none, jSH w, res) := by
  unfold f_M_keepsAhead_55 at hf
  refine jR_in rfl ⟨rfl, rfl, rfl⟩ rfl ?_
  refine js_iconst (v := (0 : Int32)) rfl ?_
  refine js_istore_n rfl rfl ?_
  exact jS_out rfl ⟨rfl, rfl, rfl⟩ rfl (t_M_keepsAhead_57 hd jFu _ _ _ hf)
def f_M_keepsAhead_21  : Nat → Int32 → jp_M → Option (jp_M)
  | 0, _, _ => none
  | n + 1, l1, M =>
    if jp_c .ge l1 ((184 : Int32) * (M 104 3)) = true then (
    f_M_keepsAhead_55 M) else (
    jg (jp_in (l1 + (184 : Int32)) 1104) (
    jg (jp_in l1 1104) (
    let M2 := jp_set M 106 (upd (M 106) (Int32.toNatClampNeg l1) (M 106 (Int32.toNatClampNeg (l1 + (184 : Int32)))))
    f_M_keepsAhead_21 n (l1 + (1 : Int32)) M2)))
theorem t_M_keepsAhead_21 {Ln : Nat} {xs : Nat → Int32} {sv : jp_V} {d : Nat} (hd : 0 ≤ d)  : ∀ (n : Nat) (l1 : Int32) (w : Nat) (M : jp_M) {res : jp_M}, f_M_keepsAhead_21 n  l1 M = some res → jR (jZ (jK Ln xs sv)) d 171 21 ([some (.inr (some 104)), some (.inl l1)], [], jSH w, M) (none, jSH w, res) := by
  intro n
  induction n with
  | zero =>
    intro l1 w M res hf
    cases hf
  | succ n ih =>
    intro l1 w M res hf
    rw [f_M_keepsAhead_21] at hf
    refine jR_in rfl ⟨rfl, rfl, rfl⟩ rfl ?_
    refine js_iload_n rfl ?_
    refine js_sipush (v := (184 : Int32)) rfl ?_
    refine js_aload_n rfl ?_
    refine js_geti rfl rfl rfl ?_
    refine js_imul ?_
    refine js_icmp (tgt := 55) rfl rfl (fun h => ?_) (fun h => ?_)
    · have hf := jif_t hf h
      exact t_M_keepsAhead_55 hd _ _ _ hf
    · have hf := jif_f hf h
      refine js_aload_n rfl ?_
      refine js_getr rfl rfl rfl ?_
      refine js_iload_n rfl ?_
      refine js_aload_n rfl ?_
      refine js_getr rfl rfl rfl ?_
      refine js_iload_n rfl ?_
      refine js_sipush (v := (184 : Int32)) rfl ?_
      refine js_iadd ?_
      obtain ⟨hb1, hf⟩ := jg_some hf
      refine js_iald rfl hb1 ?_
      obtain ⟨hb3, hf⟩ := jg_some hf
      refine js_iast rfl hb3 ?_
      refine js_iinc (v := (1 : Int32)) rfl rfl rfl rfl ?_
      refine js_goto (tgt := 21) rfl rfl ?_
      exact ih _ _ _ hf
def f_M_keepsAhead (M : jp_M) : Option (jp_M) :=
  if jp_c .ne (M 104 3) (6 : Int32) = true then (
  f_M_keepsAhead_55 M) else (
  let M1 := jp_set M 104 (upd (M 104) 3 ((M 104 3) - (1 : Int32)))
  f_M_keepsAhead_21 jFu (0 : Int32) M1)
theorem t_M_keepsAhead {Ln : Nat} {xs : Nat → Int32} {sv : jp_V} {w : Nat} {M : jp_M} {res : jp_M} (hf : f_M_keepsAhead M = some res) : jE (jZ (jK Ln xs sv)) 0 171 [(.inr (some 104))] (jSH w) M (none, jSH w, res) := by
  unfold f_M_keepsAhead at hf
  refine jE_in (L0 := [some (.inr (some 104)), none]) rfl (Nat.le_of_ble_eq_true rfl) rfl (fun d hd => ?_)
  refine jR_in rfl ⟨rfl, rfl, rfl⟩ rfl ?_
  refine js_aload_n rfl ?_
  refine js_geti rfl rfl rfl ?_
  refine js_bipush (v := (6 : Int32)) rfl ?_
  refine js_icmp (tgt := 55) rfl rfl (fun h => ?_) (fun h => ?_)
  · have hf := jif_t hf h
    exact t_M_keepsAhead_55 hd _ _ _ hf
  · have hf := jif_f hf h
    refine js_aload_n rfl ?_
    refine js_aload_n rfl ?_
    refine js_geti rfl rfl rfl ?_
    refine js_iconst (v := (1 : Int32)) rfl ?_
    refine js_isub ?_
    refine js_puti rfl rfl (Or.inl rfl) ?_
    refine js_iconst (v := (0 : Int32)) rfl ?_
    refine js_istore_n rfl rfl ?_
    exact jS_out rfl ⟨rfl, rfl, rfl⟩ rfl (t_M_keepsAhead_21 hd jFu _ _ _ hf)
/-! SwallowsAirModel.isSummer()Z -/
def f_M_isSummer (M : jp_M) : Int32 :=
  (f_M_isIn ((M 105 0) % (360 : Int32)) (90 : Int32) (269 : Int32))
theorem t_M_isSummer {Ln : Nat} {xs : Nat → Int32} {sv : jp_V} {w : Nat} {M : jp_M} {res : Int32} (hf : f_M_isSummer M = res) : jE (jZ (jK Ln xs sv)) 1 179 [(.inr (some 104))] (jSH w) M (some (.inl res), jSH w, M) := by
  unfold f_M_isSummer at hf
  refine jE_in (L0 := [some (.inr (some 104))]) rfl (Nat.le_of_ble_eq_true rfl) rfl (fun d hd => ?_)
  refine jR_in rfl ⟨rfl, rfl, rfl⟩ rfl ?_
  refine js_aload_n rfl ?_
  refine js_aload_n rfl ?_
  refine js_getr rfl rfl rfl ?_
  refine js_iconst (v := (0 : Int32)) rfl ?_
  refine js_iald rfl (by decide) ?_
  refine js_sipush (v := (360 : Int32)) rfl ?_
  refine js_irem (by decide) ?_
  refine js_bipush (v := (90 : Int32)) rfl ?_
  refine js_sipush (v := (269 : Int32)) rfl ?_
  refine js_c4i rfl rfl ⟨rfl, rfl⟩ rfl rfl (t_M_isIn rfl) (by omega) ?_
  subst hf
  exact js_iret (jbool (b_M_isIn rfl)) rfl
theorem b_M_isSummer {M : jp_M} {res : Int32} (hf : f_M_isSummer M = res) : res = 0 ∨ res = 1 := by
  unfold f_M_isSummer at hf
  subst hf
  exact (b_M_isIn rfl)
/-! SwallowsAirModel.nestsAt(I)I -/
def f_M_nestsAt_29 (c4 : Int32 → Int32 → Int32 → jp_M → Option (Int32)) (l1 : Int32) (l2 : Int32) (l3 : Int32) (M : jp_M) : Option (Int32) :=
  c4 l1 l2 (l3 + (1 : Int32)) M
theorem t_M_nestsAt_29 {Ln : Nat} {xs : Nat → Int32} {sv : jp_V} {d : Nat} (hd : 0 ≤ d) {c4 : Int32 → Int32 → Int32 → jp_M → Option (Int32)} (hc4 : ∀ (l1 : Int32) (l2 : Int32) (l3 : Int32) (w : Nat) (M : jp_M) (res : Int32), c4 l1 l2 l3 M = some res → jR (jZ (jK Ln xs sv)) d 229 4 ([some (.inr (some 104)), some (.inl l1), some (.inl l2), some (.inl l3)], [], jSH w, M) (some (.inl res), jSH w, M)) (l1 : Int32) (l2 : Int32) (l3 : Int32) (w : Nat) (M : jp_M) {res : Int32} (hf : f_M_nestsAt_29 c4 l1 l2 l3 M = some res) : jR (jZ (jK Ln xs sv)) d 229 29 ([some (.inr (some 104)), some (.inl l1), some (.inl l2), some (.inl l3)], [], jSH w, M) (some (.inl res), jSH w, M) := by
  unfold f_M_nestsAt_29 at hf
  refine jR_in rfl ⟨rfl, rfl, rfl⟩ rfl ?_
  refine js_iinc (v := (1 : Int32)) rfl rfl rfl rfl ?_
  refine js_goto (tgt := 4) rfl rfl ?_
  exact hc4 _ _ _ _ _ _ hf
def f_M_nestsAt_4  : Nat → Int32 → Int32 → Int32 → jp_M → Option (Int32)
  | 0, _, _, _, _ => none
  | n + 1, l1, l2, l3, M =>
    if jp_c .ge l3 (M 104 7) = true then (
    some l2) else (
    jg (jp_in ((46 : Int32) + l3) 184) (
    if jp_c .ne (M 105 (Int32.toNatClampNeg ((46 : Int32) + l3))) l1 = true then (
    f_M_nestsAt_29 (f_M_nestsAt_4 n ) l1 l2 l3 M) else (
    f_M_nestsAt_29 (f_M_nestsAt_4 n ) l1 (l2 + (1 : Int32)) l3 M)))
theorem t_M_nestsAt_4 {Ln : Nat} {xs : Nat → Int32} {sv : jp_V} {d : Nat} (hd : 0 ≤ d)  : ∀ (n : Nat) (l1 : Int32) (l2 : Int32) (l3 : Int32) (w : Nat) (M : jp_M) {res : Int32}, f_M_nestsAt_4 n  l1 l2 l3 M = some res → jR (jZ (jK Ln xs sv)) d 229 4 ([some (.inr (some 104)), some (.inl l1), some (.inl l2), some (.inl l3)], [], jSH w, M) (some (.inl res), jSH w, M) := by
  intro n
  induction n with
  | zero =>
    intro l1 l2 l3 w M res hf
    cases hf
  | succ n ih =>
    intro l1 l2 l3 w M res hf
    rw [f_M_nestsAt_4] at hf
    refine jR_in rfl ⟨rfl, rfl, rfl⟩ rfl ?_
    refine js_iload_n rfl ?_
    refine js_aload_n rfl ?_
    refine js_geti rfl rfl rfl ?_
    refine js_icmp (tgt := 35) rfl rfl (fun h => ?_) (fun h => ?_)
    · have hf := jif_t hf h
      refine jR_in rfl ⟨rfl, rfl, rfl⟩ rfl ?_
      refine js_iload_n rfl ?_
      obtain rfl := Option.some.inj hf
      exact js_iret rfl rfl
    · have hf := jif_f hf h
      refine js_aload_n rfl ?_
      refine js_getr rfl rfl rfl ?_
      refine js_bipush (v := (46 : Int32)) rfl ?_
      refine js_iload_n rfl ?_
      refine js_iadd ?_
      obtain ⟨hb1, hf⟩ := jg_some hf
      refine js_iald rfl hb1 ?_
      refine js_iload_n rfl ?_
      refine js_icmp (tgt := 29) rfl rfl (fun h => ?_) (fun h => ?_)
      · have hf := jif_t hf h
        exact t_M_nestsAt_29 hd (fun l1 l2 l3 w M res hf => ih l1 l2 l3 w M hf) _ _ _ _ _ hf
      · have hf := jif_f hf h
        refine js_iload_n rfl ?_
        refine js_iconst (v := (1 : Int32)) rfl ?_
        refine js_iadd ?_
        refine js_istore_n rfl rfl ?_
        exact jS_out rfl ⟨rfl, rfl, rfl⟩ rfl (t_M_nestsAt_29 hd (fun l1 l2 l3 w M res hf => ih l1 l2 l3 w M hf) _ _ _ _ _ hf)
def f_M_nestsAt (a1 : Int32) (M : jp_M) : Option (Int32) :=
  f_M_nestsAt_4 jFu a1 (0 : Int32) (0 : Int32) M
theorem t_M_nestsAt {Ln : Nat} {xs : Nat → Int32} {sv : jp_V} {a1 : Int32} {w : Nat} {M : jp_M} {res : Int32} (hf : f_M_nestsAt a1 M = some res) : jE (jZ (jK Ln xs sv)) 0 229 [(.inr (some 104)), (.inl a1)] (jSH w) M (some (.inl res), jSH w, M) := by
  unfold f_M_nestsAt at hf
  refine jE_in (L0 := [some (.inr (some 104)), some (.inl a1), none, none]) rfl (Nat.le_of_ble_eq_true rfl) rfl (fun d hd => ?_)
  refine jR_in rfl ⟨rfl, rfl, rfl⟩ rfl ?_
  refine js_iconst (v := (0 : Int32)) rfl ?_
  refine js_istore_n rfl rfl ?_
  refine js_iconst (v := (0 : Int32)) rfl ?_
  refine js_istore_n rfl rfl ?_
  exact jS_out rfl ⟨rfl, rfl, rfl⟩ rfl (t_M_nestsAt_4 hd jFu _ _ _ _ _ hf)
/-! SwallowsAirModel.usedCells()I -/
def f_M_usedCells_4  : Nat → Int32 → Int32 → jp_M → Option (Int32)
  | 0, _, _, _ => none
  | n + 1, l1, l2, M =>
    if jp_c .ge l2 (M 105 5) = true then (
    some l1) else (
    jg (jp_in ((f_M_useAt l2) + (5 : Int32)) 184) (
    jg (jp_in ((f_M_useAt l2) + (4 : Int32)) 184) (
    f_M_usedCells_4 n (((l1 + (M 105 (Int32.toNatClampNeg ((f_M_useAt l2) + (5 : Int32))))) - (M 105 (Int32.toNatClampNeg ((f_M_useAt l2) + (4 : Int32))))) + (1 : Int32)) (l2 + (1 : Int32)) M)))
theorem t_M_usedCells_4 {Ln : Nat} {xs : Nat → Int32} {sv : jp_V} {d : Nat} (hd : 1 ≤ d)  : ∀ (n : Nat) (l1 : Int32) (l2 : Int32) (w : Nat) (M : jp_M) {res : Int32}, f_M_usedCells_4 n  l1 l2 M = some res → jR (jZ (jK Ln xs sv)) d 183 4 ([some (.inr (some 104)), some (.inl l1), some (.inl l2)], [], jSH w, M) (some (.inl res), jSH w, M) := by
  intro n
  induction n with
  | zero =>
    intro l1 l2 w M res hf
    cases hf
  | succ n ih =>
    intro l1 l2 w M res hf
    rw [f_M_usedCells_4] at hf
    refine jR_in rfl ⟨rfl, rfl, rfl⟩ rfl ?_
    refine js_iload_n rfl ?_
    refine js_aload_n rfl ?_
    refine js_getr rfl rfl rfl ?_
    refine js_iconst (v := (5 : Int32)) rfl ?_
    refine js_iald rfl (by decide) ?_
    refine js_icmp (tgt := 50) rfl rfl (fun h => ?_) (fun h => ?_)
    · have hf := jif_t hf h
      refine jR_in rfl ⟨rfl, rfl, rfl⟩ rfl ?_
      refine js_iload_n rfl ?_
      obtain rfl := Option.some.inj hf
      exact js_iret rfl rfl
    · have hf := jif_f hf h
      refine js_iload_n rfl ?_
      refine js_aload_n rfl ?_
      refine js_getr rfl rfl rfl ?_
      refine js_aload_n rfl ?_
      refine js_iload_n rfl ?_
      refine js_c2i rfl rfl ⟨rfl, rfl⟩ rfl rfl (t_M_useAt rfl) (by omega) ?_
      refine js_iconst (v := (5 : Int32)) rfl ?_
      refine js_iadd ?_
      obtain ⟨hb2, hf⟩ := jg_some hf
      refine js_iald rfl hb2 ?_
      refine js_iadd ?_
      refine js_aload_n rfl ?_
      refine js_getr rfl rfl rfl ?_
      refine js_aload_n rfl ?_
      refine js_iload_n rfl ?_
      refine js_c2i rfl rfl ⟨rfl, rfl⟩ rfl rfl (t_M_useAt rfl) (by omega) ?_
      refine js_iconst (v := (4 : Int32)) rfl ?_
      refine js_iadd ?_
      obtain ⟨hb4, hf⟩ := jg_some hf
      refine js_iald rfl hb4 ?_
      refine js_isub ?_
      refine js_iconst (v := (1 : Int32)) rfl ?_
      refine js_iadd ?_
      refine js_istore_n rfl rfl ?_
      refine js_iinc (v := (1 : Int32)) rfl rfl rfl rfl ?_
      refine js_goto (tgt := 4) rfl rfl ?_
      exact ih _ _ _ _ hf
def f_M_usedCells (M : jp_M) : Option (Int32) :=
  f_M_usedCells_4 jFu (0 : Int32) (0 : Int32) M
theorem t_M_usedCells {Ln : Nat} {xs : Nat → Int32} {sv : jp_V} {w : Nat} {M : jp_M} {res : Int32} (hf : f_M_usedCells M = some res) : jE (jZ (jK Ln xs sv)) 1 183 [(.inr (some 104))] (jSH w) M (some (.inl res), jSH w, M) := by
  unfold f_M_usedCells at hf
  refine jE_in (L0 := [some (.inr (some 104)), none, none]) rfl (Nat.le_of_ble_eq_true rfl) rfl (fun d hd => ?_)
  refine jR_in rfl ⟨rfl, rfl, rfl⟩ rfl ?_
  refine js_iconst (v := (0 : Int32)) rfl ?_
  refine js_istore_n rfl rfl ?_
  refine js_iconst (v := (0 : Int32)) rfl ?_
  refine js_istore_n rfl rfl ?_
  exact jS_out rfl ⟨rfl, rfl, rfl⟩ rfl (t_M_usedCells_4 hd jFu _ _ _ _ hf)
/-! SwallowsAirModel.asks(IIIII)V -/
def f_M_asks_87  (s1 : Int32) (s2 : Int32) (M : jp_M) : Option (jp_M) :=
  jg (jp_in s1 10) (
  let M1 := jp_set M 125 (upd (M 125) (Int32.toNatClampNeg s1) s2)
  (f_M_usedCells M1).bind fun q3 => (
  let M4 := jp_set M1 125 (upd (M1 125) 8 q3)
  let M5 := jp_set M4 125 (upd (M4 125) 9 (M4 105 0))
  some M5))
theorem t_M_asks_87 {Ln : Nat} {xs : Nat → Int32} {sv : jp_V} {d : Nat} (hd : 2 ≤ d)  (s1 : Int32) (s2 : Int32) (o1 : Option jp_V) (o2 : Option jp_V) (o3 : Option jp_V) (o4 : Option jp_V) (o5 : Option jp_V) (w : Nat) (M : jp_M) {res : jp_M} (hf : f_M_asks_87  s1 s2 M = some res) : jR (jZ (jK Ln xs sv)) d 230 87 ([some (.inr (some 104)), o1, o2, o3, o4, o5], [.inl s2, .inl s1, (.inr (some 125))], jSH w, M) (none, jSH w, res) := by
  unfold f_M_asks_87 at hf
  refine jR_in rfl ⟨rfl, rfl, rfl⟩ rfl ?_
  obtain ⟨hb2, hf⟩ := jg_some hf
  refine js_iast rfl hb2 ?_
  refine js_aload_n rfl ?_
  refine js_getr rfl rfl rfl ?_
  refine js_bipush (v := (8 : Int32)) rfl ?_
  refine js_aload_n rfl ?_
  obtain ⟨q3, hc_3, hf⟩ := jbind hf
  refine js_c1i rfl rfl ⟨rfl, rfl⟩ rfl rfl (t_M_usedCells hc_3) (by omega) ?_
  refine js_iast rfl (by decide) ?_
  refine js_aload_n rfl ?_
  refine js_getr rfl rfl rfl ?_
  refine js_bipush (v := (9 : Int32)) rfl ?_
  refine js_aload_n rfl ?_
  refine js_getr rfl rfl rfl ?_
  refine js_iconst (v := (0 : Int32)) rfl ?_
  refine js_iald rfl (by decide) ?_
  refine js_iast rfl (by decide) ?_
  obtain rfl := Option.some.inj hf
  exact js_ret rfl rfl
def f_M_asks (a1 : Int32) (a2 : Int32) (a3 : Int32) (a4 : Int32) (a5 : Int32) (M : jp_M) : Option (jp_M) :=
  let M1 := jp_set M 125 (upd (M 125) 0 a2)
  let M2 := jp_set M1 125 (upd (M1 125) 1 a4)
  let M3 := jp_set M2 125 (upd (M2 125) 2 a5)
  let M4 := jp_set M3 125 (upd (M3 125) 3 a3)
  jg (jp_in a1 10) (
  let M6 := jp_set M4 125 (upd (M4 125) 4 (M4 108 (Int32.toNatClampNeg a1)))
  jg (jp_in ((16 : Int32) + a1) 184) (
  let M8 := jp_set M6 125 (upd (M6 125) 5 (M6 105 (Int32.toNatClampNeg ((16 : Int32) + a1))))
  (f_M_nestsAt a3 M8).bind fun q9 => (
  let M10 := jp_set M8 125 (upd (M8 125) 6 q9)
  if jp_c .eq (f_M_isSummer M10) 0 = true then (
  f_M_asks_87 (7 : Int32) (0 : Int32) M10) else (
  f_M_asks_87 (7 : Int32) (1 : Int32) M10))))
theorem t_M_asks {Ln : Nat} {xs : Nat → Int32} {sv : jp_V} {a1 : Int32} {a2 : Int32} {a3 : Int32} {a4 : Int32} {a5 : Int32} {w : Nat} {M : jp_M} {res : jp_M} (hf : f_M_asks a1 a2 a3 a4 a5 M = some res) : jE (jZ (jK Ln xs sv)) 2 230 [(.inr (some 104)), (.inl a1), (.inl a2), (.inl a3), (.inl a4), (.inl a5)] (jSH w) M (none, jSH w, res) := by
  unfold f_M_asks at hf
  refine jE_in (L0 := [some (.inr (some 104)), some (.inl a1), some (.inl a2), some (.inl a3), some (.inl a4), some (.inl a5)]) rfl (Nat.le_of_ble_eq_true rfl) rfl (fun d hd => ?_)
  refine jR_in rfl ⟨rfl, rfl, rfl⟩ rfl ?_
  refine js_aload_n rfl ?_
  refine js_getr rfl rfl rfl ?_
  refine js_iconst (v := (0 : Int32)) rfl ?_
  refine js_iload_n rfl ?_
  refine js_iast rfl (by decide) ?_
  refine js_aload_n rfl ?_
  refine js_getr rfl rfl rfl ?_
  refine js_iconst (v := (1 : Int32)) rfl ?_
  refine js_iload rfl ?_
  refine js_iast rfl (by decide) ?_
  refine js_aload_n rfl ?_
  refine js_getr rfl rfl rfl ?_
  refine js_iconst (v := (2 : Int32)) rfl ?_
  refine js_iload rfl ?_
  refine js_iast rfl (by decide) ?_
  refine js_aload_n rfl ?_
  refine js_getr rfl rfl rfl ?_
  refine js_iconst (v := (3 : Int32)) rfl ?_
  refine js_iload_n rfl ?_
  refine js_iast rfl (by decide) ?_
  refine js_aload_n rfl ?_
  refine js_getr rfl rfl rfl ?_
  refine js_iconst (v := (4 : Int32)) rfl ?_
  refine js_aload_n rfl ?_
  refine js_getr rfl rfl rfl ?_
  refine js_iload_n rfl ?_
  obtain ⟨hb5, hf⟩ := jg_some hf
  refine js_iald rfl hb5 ?_
  refine js_iast rfl (by decide) ?_
  refine js_aload_n rfl ?_
  refine js_getr rfl rfl rfl ?_
  refine js_iconst (v := (5 : Int32)) rfl ?_
  refine js_aload_n rfl ?_
  refine js_getr rfl rfl rfl ?_
  refine js_bipush (v := (16 : Int32)) rfl ?_
  refine js_iload_n rfl ?_
  refine js_iadd ?_
  obtain ⟨hb7, hf⟩ := jg_some hf
  refine js_iald rfl hb7 ?_
  refine js_iast rfl (by decide) ?_
  refine js_aload_n rfl ?_
  refine js_getr rfl rfl rfl ?_
  refine js_bipush (v := (6 : Int32)) rfl ?_
  refine js_aload_n rfl ?_
  refine js_iload_n rfl ?_
  obtain ⟨q9, hc_9, hf⟩ := jbind hf
  refine js_c2i rfl rfl ⟨rfl, rfl⟩ rfl rfl (t_M_nestsAt hc_9) (by omega) ?_
  refine js_iast rfl (by decide) ?_
  refine js_aload_n rfl ?_
  refine js_getr rfl rfl rfl ?_
  refine js_bipush (v := (7 : Int32)) rfl ?_
  refine js_aload_n rfl ?_
  refine js_c1i rfl rfl ⟨rfl, rfl⟩ rfl rfl (t_M_isSummer rfl) (by omega) ?_
  refine js_ifc (tgt := 86) rfl rfl (fun h => ?_) (fun h => ?_)
  · have hf := jif_t hf h
    refine jR_in rfl ⟨rfl, rfl, rfl⟩ rfl ?_
    refine js_iconst (v := (0 : Int32)) rfl ?_
    exact jS_out rfl ⟨rfl, rfl, rfl⟩ rfl (t_M_asks_87 hd _ _ _ _ _ _ _ _ _ hf)
  · have hf := jif_f hf h
    refine js_iconst (v := (1 : Int32)) rfl ?_
    refine js_goto (tgt := 87) rfl rfl ?_
    exact t_M_asks_87 hd _ _ _ _ _ _ _ _ _ hf
/-! SwallowsAirModel.twoOf(III)I -/
def f_M_twoOf (a1 : Int32) (a2 : Int32) (a3 : Int32) : Option (Int32) :=
  if jp_c .ne a1 (2 : Int32) = true then (
  if jp_c .ne a1 (3 : Int32) = true then (
  if jp_c .ne a1 (4 : Int32) = true then (
  if jp_c .ne a1 (5 : Int32) = true then (
  if jp_c .ne a1 (6 : Int32) = true then (
  if jp_c .ne a1 (7 : Int32) = true then (
  if jp_c .ne a1 (8 : Int32) = true then (
  if jp_c .ne a1 (10 : Int32) = true then (
  if jp_c .le (a2 + a3) 0 = true then (
  some (0 : Int32)) else (
  some (1 : Int32))) else (
  some (a2 * a3))) else (
  if jp_c .le a2 a3 = true then (
  some (0 : Int32)) else (
  some (1 : Int32)))) else (
  if jp_c .ne a2 a3 = true then (
  some (0 : Int32)) else (
  some (1 : Int32)))) else (
  if jp_c .ge a2 a3 = true then (
  some (0 : Int32)) else (
  some (1 : Int32)))) else (
  jg (¬ a3 = 0) (
  some (a2 / a3)))) else (
  some (a2 * a3))) else (
  some (a2 - a3))) else (
  some (a2 + a3))
theorem t_M_twoOf {Ln : Nat} {xs : Nat → Int32} {sv : jp_V} {a1 : Int32} {a2 : Int32} {a3 : Int32} {w : Nat} {M : jp_M} {res : Int32} (hf : f_M_twoOf a1 a2 a3 = some res) : jE (jZ (jK Ln xs sv)) 0 226 [(.inr (some 104)), (.inl a1), (.inl a2), (.inl a3)] (jSH w) M (some (.inl res), jSH w, M) := by
  unfold f_M_twoOf at hf
  refine jE_in (L0 := [some (.inr (some 104)), some (.inl a1), some (.inl a2), some (.inl a3)]) rfl (Nat.le_of_ble_eq_true rfl) rfl (fun d hd => ?_)
  refine jR_in rfl ⟨rfl, rfl, rfl⟩ rfl ?_
  refine js_iload_n rfl ?_
  refine js_iconst (v := (2 : Int32)) rfl ?_
  refine js_icmp (tgt := 9) rfl rfl (fun h => ?_) (fun h => ?_)
  · have hf := jif_t hf h
    refine jR_in rfl ⟨rfl, rfl, rfl⟩ rfl ?_
    refine js_iload_n rfl ?_
    refine js_iconst (v := (3 : Int32)) rfl ?_
    refine js_icmp (tgt := 18) rfl rfl (fun h => ?_) (fun h => ?_)
    · have hf := jif_t hf h
      refine jR_in rfl ⟨rfl, rfl, rfl⟩ rfl ?_
      refine js_iload_n rfl ?_
      refine js_iconst (v := (4 : Int32)) rfl ?_
      refine js_icmp (tgt := 27) rfl rfl (fun h => ?_) (fun h => ?_)
      · have hf := jif_t hf h
        refine jR_in rfl ⟨rfl, rfl, rfl⟩ rfl ?_
        refine js_iload_n rfl ?_
        refine js_iconst (v := (5 : Int32)) rfl ?_
        refine js_icmp (tgt := 36) rfl rfl (fun h => ?_) (fun h => ?_)
        · have hf := jif_t hf h
          refine jR_in rfl ⟨rfl, rfl, rfl⟩ rfl ?_
          refine js_iload_n rfl ?_
          refine js_bipush (v := (6 : Int32)) rfl ?_
          refine js_icmp (tgt := 53) rfl rfl (fun h => ?_) (fun h => ?_)
          · have hf := jif_t hf h
            refine jR_in rfl ⟨rfl, rfl, rfl⟩ rfl ?_
            refine js_iload_n rfl ?_
            refine js_bipush (v := (7 : Int32)) rfl ?_
            refine js_icmp (tgt := 70) rfl rfl (fun h => ?_) (fun h => ?_)
            · have hf := jif_t hf h
              refine jR_in rfl ⟨rfl, rfl, rfl⟩ rfl ?_
              refine js_iload_n rfl ?_
              refine js_bipush (v := (8 : Int32)) rfl ?_
              refine js_icmp (tgt := 87) rfl rfl (fun h => ?_) (fun h => ?_)
              · have hf := jif_t hf h
                refine jR_in rfl ⟨rfl, rfl, rfl⟩ rfl ?_
                refine js_iload_n rfl ?_
                refine js_bipush (v := (10 : Int32)) rfl ?_
                refine js_icmp (tgt := 99) rfl rfl (fun h => ?_) (fun h => ?_)
                · have hf := jif_t hf h
                  refine jR_in rfl ⟨rfl, rfl, rfl⟩ rfl ?_
                  refine js_iload_n rfl ?_
                  refine js_iload_n rfl ?_
                  refine js_iadd ?_
                  refine js_ifc (tgt := 109) rfl rfl (fun h => ?_) (fun h => ?_)
                  · have hf := jif_t hf h
                    refine jR_in rfl ⟨rfl, rfl, rfl⟩ rfl ?_
                    refine js_iconst (v := (0 : Int32)) rfl ?_
                    obtain rfl := Option.some.inj hf
                    exact js_iret rfl rfl
                  · have hf := jif_f hf h
                    refine js_iconst (v := (1 : Int32)) rfl ?_
                    refine js_goto (tgt := 110) rfl rfl ?_
                    refine jR_in rfl ⟨rfl, rfl, rfl⟩ rfl ?_
                    obtain rfl := Option.some.inj hf
                    exact js_iret rfl rfl
                · have hf := jif_f hf h
                  refine js_iload_n rfl ?_
                  refine js_iload_n rfl ?_
                  refine js_imul ?_
                  refine js_goto (tgt := 110) rfl rfl ?_
                  refine jR_in rfl ⟨rfl, rfl, rfl⟩ rfl ?_
                  obtain rfl := Option.some.inj hf
                  exact js_iret rfl rfl
              · have hf := jif_f hf h
                refine js_iload_n rfl ?_
                refine js_iload_n rfl ?_
                refine js_icmp (tgt := 85) rfl rfl (fun h => ?_) (fun h => ?_)
                · have hf := jif_t hf h
                  refine jR_in rfl ⟨rfl, rfl, rfl⟩ rfl ?_
                  refine js_iconst (v := (0 : Int32)) rfl ?_
                  obtain rfl := Option.some.inj hf
                  exact js_iret rfl rfl
                · have hf := jif_f hf h
                  refine js_iconst (v := (1 : Int32)) rfl ?_
                  refine js_goto (tgt := 86) rfl rfl ?_
                  refine jR_in rfl ⟨rfl, rfl, rfl⟩ rfl ?_
                  obtain rfl := Option.some.inj hf
                  exact js_iret rfl rfl
            · have hf := jif_f hf h
              refine js_iload_n rfl ?_
              refine js_iload_n rfl ?_
              refine js_icmp (tgt := 68) rfl rfl (fun h => ?_) (fun h => ?_)
              · have hf := jif_t hf h
                refine jR_in rfl ⟨rfl, rfl, rfl⟩ rfl ?_
                refine js_iconst (v := (0 : Int32)) rfl ?_
                obtain rfl := Option.some.inj hf
                exact js_iret rfl rfl
              · have hf := jif_f hf h
                refine js_iconst (v := (1 : Int32)) rfl ?_
                refine js_goto (tgt := 69) rfl rfl ?_
                refine jR_in rfl ⟨rfl, rfl, rfl⟩ rfl ?_
                obtain rfl := Option.some.inj hf
                exact js_iret rfl rfl
          · have hf := jif_f hf h
            refine js_iload_n rfl ?_
            refine js_iload_n rfl ?_
            refine js_icmp (tgt := 51) rfl rfl (fun h => ?_) (fun h => ?_)
            · have hf := jif_t hf h
              refine jR_in rfl ⟨rfl, rfl, rfl⟩ rfl ?_
              refine js_iconst (v := (0 : Int32)) rfl ?_
              obtain rfl := Option.some.inj hf
              exact js_iret rfl rfl
            · have hf := jif_f hf h
              refine js_iconst (v := (1 : Int32)) rfl ?_
              refine js_goto (tgt := 52) rfl rfl ?_
              refine jR_in rfl ⟨rfl, rfl, rfl⟩ rfl ?_
              obtain rfl := Option.some.inj hf
              exact js_iret rfl rfl
        · have hf := jif_f hf h
          refine js_iload_n rfl ?_
          refine js_iload_n rfl ?_
          obtain ⟨hb2, hf⟩ := jg_some hf
          refine js_idiv hb2 ?_
          obtain rfl := Option.some.inj hf
          exact js_iret rfl rfl
      · have hf := jif_f hf h
        refine js_iload_n rfl ?_
        refine js_iload_n rfl ?_
        refine js_imul ?_
        obtain rfl := Option.some.inj hf
        exact js_iret rfl rfl
    · have hf := jif_f hf h
      refine js_iload_n rfl ?_
      refine js_iload_n rfl ?_
      refine js_isub ?_
      obtain rfl := Option.some.inj hf
      exact js_iret rfl rfl
  · have hf := jif_f hf h
    refine js_iload_n rfl ?_
    refine js_iload_n rfl ?_
    refine js_iadd ?_
    obtain rfl := Option.some.inj hf
    exact js_iret rfl rfl
