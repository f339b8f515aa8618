/-! SwallowsAir.ask(IIIII)I -/
def f_C_ask (a1 : Int32) (a2 : Int32) (a3 : Int32) (a4 : Int32) (a5 : Int32) (M : jp_M) : Option (Int32 × jp_M) :=
  let q1 := f_K_wants a1 a2 a3 a4 a5 M
  if jp_c .eq q1.1 0 = true then (
  some ((-2 : Int32), q1.2)) else (
  (f_K_fits q1.2).bind fun q2 => (
  if jp_c .ne q2 0 = true then (
  (f_C_keep q1.2).bind fun q3 => (
  (f_K_asks q3).bind fun q4 => (
  some (q4.1, q4.2)))) else (
  some ((-2 : Int32), q1.2))))
theorem t_C_ask {Ln : Nat} {xs : Nat → Int32} {sv : jp_V} {a1 : Int32} {a2 : Int32} {a3 : Int32} {a4 : Int32} {a5 : Int32} {w : Nat} {M : jp_M} {res : Int32 × jp_M} (hf : f_C_ask a1 a2 a3 a4 a5 M = some res) : jE (jZ (jK Ln xs sv)) 5 116 [(.inr (some 0)), (.inl a1), (.inl a2), (.inl a3), (.inl a4), (.inl a5)] (jSH w) M (some (.inl res.1), jSH w, res.2) := by
  unfold f_C_ask at hf
  refine jE_in (L0 := [some (.inr (some 0)), some (.inl a1), some (.inl a2), some (.inl a3), some (.inl a4), some (.inl a5)]) rfl (Nat.le_of_ble_eq_true rfl) rfl (fun d hd => ?_)
  refine jR_in rfl ⟨rfl, rfl, rfl⟩ rfl ?_
  refine js_aload_n rfl ?_
  refine js_getr rfl rfl rfl ?_
  refine js_iload_n rfl ?_
  refine js_iload_n rfl ?_
  refine js_iload_n rfl ?_
  refine js_iload rfl ?_
  refine js_iload rfl ?_
  refine js_c6i rfl rfl ⟨rfl, rfl⟩ rfl rfl (t_K_wants rfl) (by omega) ?_
  refine js_ifc (tgt := 27) rfl rfl (fun h => ?_) (fun h => ?_)
  · have hf := jif_t hf h
    refine jR_in rfl ⟨rfl, rfl, rfl⟩ rfl ?_
    refine js_bipush (v := (-2 : Int32)) rfl ?_
    obtain rfl := Option.some.inj hf
    exact js_iret rfl rfl
  · have hf := jif_f hf h
    refine js_aload_n rfl ?_
    refine js_getr rfl rfl rfl ?_
    obtain ⟨q2, hc_2, hf⟩ := jbind hf
    refine js_c1i rfl rfl ⟨rfl, rfl⟩ rfl rfl (t_K_fits hc_2) (by omega) ?_
    refine js_ifc (tgt := 30) rfl rfl (fun h => ?_) (fun h => ?_)
    · have hf := jif_t hf h
      refine jR_in rfl ⟨rfl, rfl, rfl⟩ rfl ?_
      refine js_aload_n rfl ?_
      obtain ⟨q3, hc_3, hf⟩ := jbind hf
      refine js_c1v (w := 0) rfl rfl ⟨rfl, rfl⟩ rfl rfl (t_C_keep hc_3) (by omega) ?_
      refine js_aload_n rfl ?_
      refine js_getr rfl rfl rfl ?_
      obtain ⟨q4, hc_4, hf⟩ := jbind hf
      refine js_c1i rfl rfl ⟨rfl, rfl⟩ rfl rfl (t_K_asks hc_4) (by omega) ?_
      obtain rfl := Option.some.inj hf
      exact js_iret rfl rfl
    · have hf := jif_f hf h
      refine js_bipush (v := (-2 : Int32)) rfl ?_
      obtain rfl := Option.some.inj hf
      exact js_iret rfl rfl
/-! SwallowsAir$Keeper.takes()I -/
def f_K_takes (M : jp_M) : Option (Int32 × jp_M) :=
  (f_K_begins (0 : Int32) (2 : Int32) (M 55 1) M).bind fun q1 => (
  some (q1.1, q1.2))
theorem t_K_takes {Ln : Nat} {xs : Nat → Int32} {sv : jp_V} {w : Nat} {M : jp_M} {res : Int32 × jp_M} (hf : f_K_takes M = some res) : jE (jZ (jK Ln xs sv)) 2 24 [(.inr (some 54))] (jSH w) M (some (.inl res.1), jSH w, res.2) := by
  unfold f_K_takes at hf
  refine jE_in (L0 := [some (.inr (some 54))]) rfl (Nat.le_of_ble_eq_true rfl) rfl (fun d hd => ?_)
  refine jR_in rfl ⟨rfl, rfl, rfl⟩ rfl ?_
  refine js_aload_n rfl ?_
  refine js_iconst (v := (0 : Int32)) rfl ?_
  refine js_iconst (v := (2 : Int32)) rfl ?_
  refine js_aload_n rfl ?_
  refine js_getr rfl rfl rfl ?_
  refine js_iconst (v := (1 : Int32)) rfl ?_
  refine js_iald rfl (by decide) ?_
  obtain ⟨q1, hc_1, hf⟩ := jbind hf
  refine js_c4i rfl rfl ⟨rfl, rfl⟩ rfl rfl (t_K_begins hc_1) (by omega) ?_
  obtain rfl := Option.some.inj hf
  exact js_iret rfl rfl
/-! SwallowsAir.take(IIIII)I -/
def f_C_take (a1 : Int32) (a2 : Int32) (a3 : Int32) (a4 : Int32) (a5 : Int32) (M : jp_M) : Option (Int32 × jp_M) :=
  let q1 := f_K_wants a1 a2 a3 a4 a5 M
  if jp_c .eq q1.1 0 = true then (
  some ((-2 : Int32), q1.2)) else (
  (f_K_fits q1.2).bind fun q2 => (
  if jp_c .ne q2 0 = true then (
  (f_C_keep q1.2).bind fun q3 => (
  (f_K_takes q3).bind fun q4 => (
  some (q4.1, q4.2)))) else (
  some ((-2 : Int32), q1.2))))
theorem t_C_take {Ln : Nat} {xs : Nat → Int32} {sv : jp_V} {a1 : Int32} {a2 : Int32} {a3 : Int32} {a4 : Int32} {a5 : Int32} {w : Nat} {M : jp_M} {res : Int32 × jp_M} (hf : f_C_take a1 a2 a3 a4 a5 M = some res) : jE (jZ (jK Ln xs sv)) 3 117 [(.inr (some 0)), (.inl a1), (.inl a2), (.inl a3), (.inl a4), (.inl a5)] (jSH w) M (some (.inl res.1), jSH w, res.2) := by
  unfold f_C_take at hf
  refine jE_in (L0 := [some (.inr (some 0)), some (.inl a1), some (.inl a2), some (.inl a3), some (.inl a4), some (.inl a5)]) rfl (Nat.le_of_ble_eq_true rfl) rfl (fun d hd => ?_)
  refine jR_in rfl ⟨rfl, rfl, rfl⟩ rfl ?_
  refine js_aload_n rfl ?_
  refine js_getr rfl rfl rfl ?_
  refine js_iload_n rfl ?_
  refine js_iload_n rfl ?_
  refine js_iload_n rfl ?_
  refine js_iload rfl ?_
  refine js_iload rfl ?_
  refine js_c6i rfl rfl ⟨rfl, rfl⟩ rfl rfl (t_K_wants rfl) (by omega) ?_
  refine js_ifc (tgt := 27) rfl rfl (fun h => ?_) (fun h => ?_)
  · have hf := jif_t hf h
    refine jR_in rfl ⟨rfl, rfl, rfl⟩ rfl ?_
    refine js_bipush (v := (-2 : Int32)) rfl ?_
    obtain rfl := Option.some.inj hf
    exact js_iret rfl rfl
  · have hf := jif_f hf h
    refine js_aload_n rfl ?_
    refine js_getr rfl rfl rfl ?_
    obtain ⟨q2, hc_2, hf⟩ := jbind hf
    refine js_c1i rfl rfl ⟨rfl, rfl⟩ rfl rfl (t_K_fits hc_2) (by omega) ?_
    refine js_ifc (tgt := 30) rfl rfl (fun h => ?_) (fun h => ?_)
    · have hf := jif_t hf h
      refine jR_in rfl ⟨rfl, rfl, rfl⟩ rfl ?_
      refine js_aload_n rfl ?_
      obtain ⟨q3, hc_3, hf⟩ := jbind hf
      refine js_c1v (w := 0) rfl rfl ⟨rfl, rfl⟩ rfl rfl (t_C_keep hc_3) (by omega) ?_
      refine js_aload_n rfl ?_
      refine js_getr rfl rfl rfl ?_
      obtain ⟨q4, hc_4, hf⟩ := jbind hf
      refine js_c1i rfl rfl ⟨rfl, rfl⟩ rfl rfl (t_K_takes hc_4) (by omega) ?_
      obtain rfl := Option.some.inj hf
      exact js_iret rfl rfl
    · have hf := jif_f hf h
      refine js_bipush (v := (-2 : Int32)) rfl ?_
      obtain rfl := Option.some.inj hf
      exact js_iret rfl rfl
/-! SwallowsAir$World.placeOf(I)I -/
def f_W_placeOf_2  : Nat → Int32 → Int32 → jp_M → Option (Int32)
  | 0, _, _, _ => none
  | n + 1, l1, l2, M =>
    if jp_c .ge l2 (M 2 6) = true then (
    some (-1 : Int32)) else (
    jg (jp_in (((8 : Int32) * l2) + (0 : Int32)) 128) (
    if jp_c .ne (M 5 (Int32.toNatClampNeg (((8 : Int32) * l2) + (0 : Int32)))) l1 = true then (
    f_W_placeOf_2 n l1 (l2 + (1 : Int32)) M) else (
    some l2)))
theorem t_W_placeOf_2 {Ln : Nat} {xs : Nat → Int32} {sv : jp_V} {d : Nat} (hd : 0 ≤ d)  : ∀ (n : Nat) (l1 : Int32) (l2 : Int32) (w : Nat) (M : jp_M) {res : Int32}, f_W_placeOf_2 n  l1 l2 M = some res → jR (jZ (jK Ln xs sv)) d 101 2 ([some (.inr (some 2)), some (.inl l1), some (.inl l2)], [], jSH w, M) (some (.inl res), jSH w, M) := by
  intro n
  induction n with
  | zero =>
    intro l1 l2 w M res hf
    cases hf
  | succ n ih =>
    intro l1 l2 w M res hf
    rw [f_W_placeOf_2] at hf
    refine jR_in rfl ⟨rfl, rfl, rfl⟩ rfl ?_
    refine js_iload_n rfl ?_
    refine js_aload_n rfl ?_
    refine js_geti rfl rfl rfl ?_
    refine js_icmp (tgt := 33) rfl rfl (fun h => ?_) (fun h => ?_)
    · have hf := jif_t hf h
      refine jR_in rfl ⟨rfl, rfl, rfl⟩ rfl ?_
      refine js_iconst (v := (-1 : Int32)) rfl ?_
      obtain rfl := Option.some.inj hf
      exact js_iret rfl rfl
    · have hf := jif_f hf h
      refine js_aload_n rfl ?_
      refine js_getr rfl rfl rfl ?_
      refine js_bipush (v := (8 : Int32)) rfl ?_
      refine js_iload_n rfl ?_
      refine js_imul ?_
      refine js_iconst (v := (0 : Int32)) rfl ?_
      refine js_iadd ?_
      obtain ⟨hb1, hf⟩ := jg_some hf
      refine js_iald rfl hb1 ?_
      refine js_iload_n rfl ?_
      refine js_icmp (tgt := 27) rfl rfl (fun h => ?_) (fun h => ?_)
      · have hf := jif_t hf h
        refine jR_in rfl ⟨rfl, rfl, rfl⟩ rfl ?_
        refine js_iinc (v := (1 : Int32)) rfl rfl rfl rfl ?_
        refine js_goto (tgt := 2) rfl rfl ?_
        exact ih _ _ _ _ hf
      · have hf := jif_f hf h
        refine js_iload_n rfl ?_
        obtain rfl := Option.some.inj hf
        exact js_iret rfl rfl
def f_W_placeOf (a1 : Int32) (M : jp_M) : Option (Int32) :=
  f_W_placeOf_2 jFu a1 (0 : Int32) M
theorem t_W_placeOf {Ln : Nat} {xs : Nat → Int32} {sv : jp_V} {a1 : Int32} {w : Nat} {M : jp_M} {res : Int32} (hf : f_W_placeOf a1 M = some res) : jE (jZ (jK Ln xs sv)) 0 101 [(.inr (some 2)), (.inl a1)] (jSH w) M (some (.inl res), jSH w, M) := by
  unfold f_W_placeOf at hf
  refine jE_in (L0 := [some (.inr (some 2)), some (.inl a1), none]) rfl (Nat.le_of_ble_eq_true rfl) rfl (fun d hd => ?_)
  refine jR_in rfl ⟨rfl, rfl, rfl⟩ rfl ?_
  refine js_iconst (v := (0 : Int32)) rfl ?_
  refine js_istore_n rfl rfl ?_
  exact jS_out rfl ⟨rfl, rfl, rfl⟩ rfl (t_W_placeOf_2 hd jFu _ _ _ _ hf)
/-! SwallowsAir$World.removes(I)V -/
def f_W_removes (a1 : Int32) (M : jp_M) : Option (jp_M) :=
  if jp_c .lt ((8 : Int32) * a1) 0 = true then (
  some M) else (
  if jp_c .ge ((8 : Int32) * (((M 2 6) - a1) - (1 : Int32))) 0 = true then (
  jg ((0 ≤ (((8 : Int32) * a1) + (8 : Int32)) ∧ 0 ≤ ((8 : Int32) * a1) ∧ 0 ≤ ((8 : Int32) * (((M 2 6) - a1) - (1 : Int32)))) ∧ ((Int32.toNatClampNeg (((8 : Int32) * a1) + (8 : Int32))) + (Int32.toNatClampNeg ((8 : Int32) * (((M 2 6) - a1) - (1 : Int32)))) ≤ 128 ∧ (Int32.toNatClampNeg ((8 : Int32) * a1)) + (Int32.toNatClampNeg ((8 : Int32) * (((M 2 6) - a1) - (1 : Int32)))) ≤ 128)) (
  let M1 := jp_set M 5 (va_cpy (M 5) (M 5) (Int32.toNatClampNeg (((8 : Int32) * a1) + (8 : Int32))) (Int32.toNatClampNeg ((8 : Int32) * a1)) (Int32.toNatClampNeg ((8 : Int32) * (((M 2 6) - a1) - (1 : Int32)))))
  let M3 := jp_set M1 2 (upd (M1 2) 6 ((M1 2 6) - (1 : Int32)))
  some M3)) else (
  some M))
theorem t_W_removes {Ln : Nat} {xs : Nat → Int32} {sv : jp_V} {a1 : Int32} {w : Nat} {M : jp_M} {res : jp_M} (hf : f_W_removes a1 M = some res) : jE (jZ (jK Ln xs sv)) 0 110 [(.inr (some 2)), (.inl a1)] (jSH w) M (none, jSH w, res) := by
  unfold f_W_removes at hf
  refine jE_in (L0 := [some (.inr (some 2)), some (.inl a1), none, none]) rfl (Nat.le_of_ble_eq_true rfl) rfl (fun d hd => ?_)
  refine jR_in rfl ⟨rfl, rfl, rfl⟩ rfl ?_
  refine js_bipush (v := (8 : Int32)) rfl ?_
  refine js_iload_n rfl ?_
  refine js_imul ?_
  refine js_istore_n rfl rfl ?_
  refine js_bipush (v := (8 : Int32)) rfl ?_
  refine js_aload_n rfl ?_
  refine js_geti rfl rfl rfl ?_
  refine js_iload_n rfl ?_
  refine js_isub ?_
  refine js_iconst (v := (1 : Int32)) rfl ?_
  refine js_isub ?_
  refine js_imul ?_
  refine js_istore_n rfl rfl ?_
  refine js_iload_n rfl ?_
  refine js_ifc (tgt := 25) rfl rfl (fun h => ?_) (fun h => ?_)
  · have hf := jif_t hf h
    refine jR_in rfl ⟨rfl, rfl, rfl⟩ rfl ?_
    obtain rfl := Option.some.inj hf
    exact js_ret rfl rfl
  · have hf := jif_f hf h
    refine js_iload_n rfl ?_
    refine js_ifc (tgt := 26) rfl rfl (fun h => ?_) (fun h => ?_)
    · have hf := jif_t hf h
      refine jR_in rfl ⟨rfl, rfl, rfl⟩ rfl ?_
      refine js_aload_n rfl ?_
      refine js_getr rfl rfl rfl ?_
      refine js_iload_n rfl ?_
      refine js_bipush (v := (8 : Int32)) rfl ?_
      refine js_iadd ?_
      refine js_aload_n rfl ?_
      refine js_getr rfl rfl rfl ?_
      refine js_iload_n rfl ?_
      refine js_iload_n rfl ?_
      obtain ⟨hb2, hf⟩ := jg_some hf
      refine js_copy rfl rfl rfl hb2.1 hb2.2 rfl ?_
      refine js_aload_n rfl ?_
      refine js_dup ?_
      refine js_geti rfl rfl rfl ?_
      refine js_iconst (v := (1 : Int32)) rfl ?_
      refine js_isub ?_
      refine js_puti rfl rfl (Or.inl rfl) ?_
      obtain rfl := Option.some.inj hf
      exact js_ret rfl rfl
    · have hf := jif_f hf h
      obtain rfl := Option.some.inj hf
      exact js_ret rfl rfl
/-! SwallowsAir$Keeper.closes(I)V -/
def f_K_closes (a1 : Int32) (M : jp_M) : Option (jp_M) :=
  jg (jp_in (((8 : Int32) * a1) + (0 : Int32)) 128) (
  (f_A_writes (4 : Int32) (M 5 (Int32.toNatClampNeg (((8 : Int32) * a1) + (0 : Int32)))) (0 : Int32) M).bind fun q2 => (
  (f_W_removes a1 q2).bind fun q3 => (
  some q3)))
theorem t_K_closes {Ln : Nat} {xs : Nat → Int32} {sv : jp_V} {a1 : Int32} {w : Nat} {M : jp_M} {res : jp_M} (hf : f_K_closes a1 M = some res) : jE (jZ (jK Ln xs sv)) 1 26 [(.inr (some 54)), (.inl a1)] (jSH w) M (none, jSH w, res) := by
  unfold f_K_closes at hf
  refine jE_in (L0 := [some (.inr (some 54)), some (.inl a1)]) rfl (Nat.le_of_ble_eq_true rfl) rfl (fun d hd => ?_)
  refine jR_in rfl ⟨rfl, rfl, rfl⟩ rfl ?_
  refine js_aload_n rfl ?_
  refine js_getr rfl rfl rfl ?_
  refine js_iconst (v := (4 : Int32)) rfl ?_
  refine js_aload_n rfl ?_
  refine js_getr rfl rfl rfl ?_
  refine js_getr rfl rfl rfl ?_
  refine js_bipush (v := (8 : Int32)) rfl ?_
  refine js_iload_n rfl ?_
  refine js_imul ?_
  refine js_iconst (v := (0 : Int32)) rfl ?_
  refine js_iadd ?_
  obtain ⟨hb1, hf⟩ := jg_some hf
  refine js_iald rfl hb1 ?_
  refine js_iconst (v := (0 : Int32)) rfl ?_
  obtain ⟨q2, hc_2, hf⟩ := jbind hf
  refine js_c4v (w := 0) rfl rfl ⟨rfl, rfl⟩ rfl rfl (t_A_writes hc_2) (by omega) ?_
  refine js_aload_n rfl ?_
  refine js_getr rfl rfl rfl ?_
  refine js_iload_n rfl ?_
  obtain ⟨q3, hc_3, hf⟩ := jbind hf
  refine js_c2v (w := 0) rfl rfl ⟨rfl, rfl⟩ rfl rfl (t_W_removes hc_3) (by omega) ?_
  obtain rfl := Option.some.inj hf
  exact js_ret rfl rfl
/-! SwallowsAir.ends(I)Z -/
def f_C_ends (a1 : Int32) (M : jp_M) : Option (Int32 × jp_M) :=
  (f_W_placeOf a1 M).bind fun q1 => (
  if jp_c .ne q1 (-1 : Int32) = true then (
  (f_C_keep M).bind fun q2 => (
  (f_K_closes q1 q2).bind fun q3 => (
  some ((1 : Int32), q3)))) else (
  some ((0 : Int32), M)))
theorem t_C_ends {Ln : Nat} {xs : Nat → Int32} {sv : jp_V} {a1 : Int32} {w : Nat} {M : jp_M} {res : Int32 × jp_M} (hf : f_C_ends a1 M = some res) : jE (jZ (jK Ln xs sv)) 2 118 [(.inr (some 0)), (.inl a1)] (jSH w) M (some (.inl res.1), jSH w, res.2) := by
  unfold f_C_ends at hf
  refine jE_in (L0 := [some (.inr (some 0)), some (.inl a1), none]) rfl (Nat.le_of_ble_eq_true rfl) rfl (fun d hd => ?_)
  refine jR_in rfl ⟨rfl, rfl, rfl⟩ rfl ?_
  refine js_aload_n rfl ?_
  refine js_getr rfl rfl rfl ?_
  refine js_getr rfl rfl rfl ?_
  refine js_iload_n rfl ?_
  obtain ⟨q1, hc_1, hf⟩ := jbind hf
  refine js_c2i rfl rfl ⟨rfl, rfl⟩ rfl rfl (t_W_placeOf hc_1) (by omega) ?_
  refine js_istore_n rfl rfl ?_
  refine js_iload_n rfl ?_
  refine js_iconst (v := (-1 : Int32)) rfl ?_
  refine js_icmp (tgt := 19) rfl rfl (fun h => ?_) (fun h => ?_)
  · have hf := jif_t hf h
    refine jR_in rfl ⟨rfl, rfl, rfl⟩ rfl ?_
    refine js_aload_n rfl ?_
    obtain ⟨q2, hc_2, hf⟩ := jbind hf
    refine js_c1v (w := 0) rfl rfl ⟨rfl, rfl⟩ rfl rfl (t_C_keep hc_2) (by omega) ?_
    refine js_aload_n rfl ?_
    refine js_getr rfl rfl rfl ?_
    refine js_iload_n rfl ?_
    obtain ⟨q3, hc_3, hf⟩ := jbind hf
    refine js_c2v (w := 0) rfl rfl ⟨rfl, rfl⟩ rfl rfl (t_K_closes hc_3) (by omega) ?_
    refine js_iconst (v := (1 : Int32)) rfl ?_
    obtain rfl := Option.some.inj hf
    exact js_iret rfl rfl
  · have hf := jif_f hf h
    refine js_iconst (v := (0 : Int32)) rfl ?_
    obtain rfl := Option.some.inj hf
    exact js_iret rfl rfl
theorem b_C_ends {a1 : Int32} {M : jp_M} {res : Int32 × jp_M} (hf : f_C_ends a1 M = some res) : res.1 = 0 ∨ res.1 = 1 := by
  unfold f_C_ends at hf
  obtain ⟨q1, hc_1, hf⟩ := jbind hf
  rcases jif_d hf with ⟨h, hf⟩ | ⟨h, hf⟩
  · obtain ⟨q2, hc_2, hf⟩ := jbind hf
    obtain ⟨q3, hc_3, hf⟩ := jbind hf
    obtain rfl := Option.some.inj hf
    exact Or.inr rfl
  · obtain rfl := Option.some.inj hf
    exact Or.inl rfl
/-! SwallowsAir.nest(II)Z -/
def f_C_nest (a1 : Int32) (a2 : Int32) (M : jp_M) : Option (Int32 × jp_M) :=
  if jp_c .eq (f_W_hasSwallow a1 M) 0 = true then (
  some ((0 : Int32), M)) else (
  if jp_c .eq (f_C_within a2 (9 : Int32)) 0 = true then (
  some ((0 : Int32), M)) else (
  jg (jp_in (((3 : Int32) * a1) + (0 : Int32)) 30) (
  if jp_c .ne (M 4 (Int32.toNatClampNeg (((3 : Int32) * a1) + (0 : Int32)))) a2 = true then (
  (f_C_keep M).bind fun q4 => (
  jg (jp_in (((3 : Int32) * a1) + (0 : Int32)) 30) (
  let M5 := jp_set q4 4 (upd (q4 4) (Int32.toNatClampNeg (((3 : Int32) * a1) + (0 : Int32))) a2)
  some ((1 : Int32), M5)))) else (
  some ((0 : Int32), M)))))
theorem t_C_nest {Ln : Nat} {xs : Nat → Int32} {sv : jp_V} {a1 : Int32} {a2 : Int32} {w : Nat} {M : jp_M} {res : Int32 × jp_M} (hf : f_C_nest a1 a2 M = some res) : jE (jZ (jK Ln xs sv)) 2 119 [(.inr (some 0)), (.inl a1), (.inl a2)] (jSH w) M (some (.inl res.1), jSH w, res.2) := by
  unfold f_C_nest at hf
  refine jE_in (L0 := [some (.inr (some 0)), some (.inl a1), some (.inl a2), none]) rfl (Nat.le_of_ble_eq_true rfl) rfl (fun d hd => ?_)
  refine jR_in rfl ⟨rfl, rfl, rfl⟩ rfl ?_
  refine js_aload_n rfl ?_
  refine js_getr rfl rfl rfl ?_
  refine js_getr rfl rfl rfl ?_
  refine js_astore_n rfl rfl ?_
  refine js_aload_n rfl ?_
  refine js_iload_n rfl ?_
  refine js_c2i rfl rfl ⟨rfl, rfl⟩ rfl rfl (t_W_hasSwallow rfl) (by omega) ?_
  refine js_ifc (tgt := 39) rfl rfl (fun h => ?_) (fun h => ?_)
  · have hf := jif_t hf h
    refine jR_in rfl ⟨rfl, rfl, rfl⟩ rfl ?_
    refine js_iconst (v := (0 : Int32)) rfl ?_
    obtain rfl := Option.some.inj hf
    exact js_iret rfl rfl
  · have hf := jif_f hf h
    refine js_iload_n rfl ?_
    refine js_bipush (v := (9 : Int32)) rfl ?_
    refine js_c2i rfl rfl ⟨rfl, rfl⟩ rfl rfl (t_C_within rfl) (by omega) ?_
    refine js_ifc (tgt := 39) rfl rfl (fun h => ?_) (fun h => ?_)
    · have hf := jif_t hf h
      refine jR_in rfl ⟨rfl, rfl, rfl⟩ rfl ?_
      refine js_iconst (v := (0 : Int32)) rfl ?_
      obtain rfl := Option.some.inj hf
      exact js_iret rfl rfl
    · have hf := jif_f hf h
      refine js_aload_n rfl ?_
      refine js_getr rfl rfl rfl ?_
      refine js_iconst (v := (3 : Int32)) rfl ?_
      refine js_iload_n rfl ?_
      refine js_imul ?_
      refine js_iconst (v := (0 : Int32)) rfl ?_
      refine js_iadd ?_
      obtain ⟨hb3, hf⟩ := jg_some hf
      refine js_iald rfl hb3 ?_
      refine js_iload_n rfl ?_
      refine js_icmp (tgt := 41) rfl rfl (fun h => ?_) (fun h => ?_)
      · have hf := jif_t hf h
        refine jR_in rfl ⟨rfl, rfl, rfl⟩ rfl ?_
        refine js_aload_n rfl ?_
        obtain ⟨q4, hc_4, hf⟩ := jbind hf
        refine js_c1v (w := 0) rfl rfl ⟨rfl, rfl⟩ rfl rfl (t_C_keep hc_4) (by omega) ?_
        refine js_aload_n rfl ?_
        refine js_getr rfl rfl rfl ?_
        refine js_iconst (v := (3 : Int32)) rfl ?_
        refine js_iload_n rfl ?_
        refine js_imul ?_
        refine js_iconst (v := (0 : Int32)) rfl ?_
        refine js_iadd ?_
        refine js_iload_n rfl ?_
        obtain ⟨hb6, hf⟩ := jg_some hf
        refine js_iast rfl hb6 ?_
        refine js_iconst (v := (1 : Int32)) rfl ?_
        obtain rfl := Option.some.inj hf
        exact js_iret rfl rfl
      · have hf := jif_f hf h
        refine js_iconst (v := (0 : Int32)) rfl ?_
        obtain rfl := Option.some.inj hf
        exact js_iret rfl rfl
theorem b_C_nest {a1 : Int32} {a2 : Int32} {M : jp_M} {res : Int32 × jp_M} (hf : f_C_nest a1 a2 M = some res) : res.1 = 0 ∨ res.1 = 1 := by
  unfold f_C_nest at hf
  rcases jif_d hf with ⟨h, hf⟩ | ⟨h, hf⟩
  · obtain rfl := Option.some.inj hf
    exact Or.inl rfl
  · rcases jif_d hf with ⟨h, hf⟩ | ⟨h, hf⟩
    · obtain rfl := Option.some.inj hf
      exact Or.inl rfl
    · obtain ⟨hb3, hf⟩ := jg_some hf
      rcases jif_d hf with ⟨h, hf⟩ | ⟨h, hf⟩
      · obtain ⟨q4, hc_4, hf⟩ := jbind hf
        obtain ⟨hb6, hf⟩ := jg_some hf
        obtain rfl := Option.some.inj hf
        exact Or.inr rfl
      · obtain rfl := Option.some.inj hf
        exact Or.inl rfl
/-! SwallowsAir.canGoBy(I)Z -/
def f_C_canGoBy (a0 : Int32) : Int32 :=
  if jp_c .lt a0 (1 : Int32) = true then (
  (0 : Int32)) else (
  if jp_c .gt a0 (60 : Int32) = true then (
  (0 : Int32)) else (
  (1 : Int32)))
theorem t_C_canGoBy {Ln : Nat} {xs : Nat → Int32} {sv : jp_V} {a0 : Int32} {w : Nat} {M : jp_M} {res : Int32} (hf : f_C_canGoBy a0 = res) : jE (jZ (jK Ln xs sv)) 0 154 [(.inl a0)] (jSH w) M (some (.inl res), jSH w, M) := by
  unfold f_C_canGoBy at hf
  refine jE_in (L0 := [some (.inl a0)]) rfl (Nat.le_of_ble_eq_true rfl) rfl (fun d hd => ?_)
  refine jR_in rfl ⟨rfl, rfl, rfl⟩ rfl ?_
  refine js_iload_n rfl ?_
  refine js_iconst (v := (1 : Int32)) rfl ?_
  refine js_icmp (tgt := 15) rfl rfl (fun h => ?_) (fun h => ?_)
  · have hf := jif_t hf h
    refine jR_in rfl ⟨rfl, rfl, rfl⟩ rfl ?_
    refine js_iconst (v := (0 : Int32)) rfl ?_
    subst hf
    exact js_iret rfl rfl
  · have hf := jif_f hf h
    refine js_iload_n rfl ?_
    refine js_bipush (v := (60 : Int32)) rfl ?_
    refine js_icmp (tgt := 15) rfl rfl (fun h => ?_) (fun h => ?_)
    · have hf := jif_t hf h
      refine jR_in rfl ⟨rfl, rfl, rfl⟩ rfl ?_
      refine js_iconst (v := (0 : Int32)) rfl ?_
      subst hf
      exact js_iret rfl rfl
    · have hf := jif_f hf h
      refine js_iconst (v := (1 : Int32)) rfl ?_
      refine js_goto (tgt := 16) rfl rfl ?_
      refine jR_in rfl ⟨rfl, rfl, rfl⟩ rfl ?_
      subst hf
      exact js_iret rfl rfl
theorem b_C_canGoBy {a0 : Int32} {res : Int32} (hf : f_C_canGoBy a0 = res) : res = 0 ∨ res = 1 := by
  unfold f_C_canGoBy at hf
  rcases jif_d hf with ⟨h, hf⟩ | ⟨h, hf⟩
  · subst hf
    exact Or.inl rfl
  · rcases jif_d hf with ⟨h, hf⟩ | ⟨h, hf⟩
    · subst hf
      exact Or.inl rfl
    · subst hf
      exact Or.inr rfl
/-! SwallowsAir$Keeper.hears()V -/
def f_K_hears_68 (c6 : Int32 → jp_M → Option (jp_M)) (l2 : Int32) (M : jp_M) : Option (jp_M) :=
  c6 (l2 + (1 : Int32)) M
theorem t_K_hears_68 {Ln : Nat} {xs : Nat → Int32} {sv : jp_V} {d : Nat} (hd : 5 ≤ d) {c6 : Int32 → jp_M → Option (jp_M)} (hc6 : ∀ (l2 : Int32) (o3 : Option jp_V) (w : Nat) (M : jp_M) (res : jp_M), c6 l2 M = some res → jR (jZ (jK Ln xs sv)) d 28 10 ([some (.inr (some 54)), some (.inr (some 14)), some (.inl l2), o3], [], jSH w, M) (none, jSH w, res)) (l2 : Int32) (o3 : Option jp_V) (w : Nat) (M : jp_M) {res : jp_M} (hf : f_K_hears_68 c6 l2 M = some res) : jR (jZ (jK Ln xs sv)) d 28 68 ([some (.inr (some 54)), some (.inr (some 14)), some (.inl l2), o3], [], jSH w, M) (none, jSH w, res) := by
  unfold f_K_hears_68 at hf
  refine jR_in rfl ⟨rfl, rfl, rfl⟩ rfl ?_
  refine js_iinc (v := (1 : Int32)) rfl rfl rfl rfl ?_
  refine js_goto (tgt := 10) rfl rfl ?_
  exact hc6 _ _ _ _ _ hf
def f_K_hears_10  : Nat → Int32 → jp_M → Option (jp_M)
  | 0, _, _ => none
  | n + 1, l2, M =>
    if jp_c .ge l2 (M 14 0) = true then (
    some M) else (
    jg (jp_in ((7 : Int32) * l2) 112) (
    if jp_c .ne (M 15 (Int32.toNatClampNeg ((7 : Int32) * l2))) (M 2 1) = true then (
    f_K_hears_68 (f_K_hears_10 n ) l2 M) else (
    jg ((0 ≤ (((7 : Int32) * l2) + (1 : Int32)) ∧ 0 ≤ (1 : Int32) ∧ 0 ≤ (6 : Int32)) ∧ ((Int32.toNatClampNeg (((7 : Int32) * l2) + (1 : Int32))) + (Int32.toNatClampNeg (6 : Int32)) ≤ 112 ∧ (Int32.toNatClampNeg (1 : Int32)) + (Int32.toNatClampNeg (6 : Int32)) ≤ 8)) (
    let M2 := jp_set M 55 (va_cpy (M 15) (M 55) (Int32.toNatClampNeg (((7 : Int32) * l2) + (1 : Int32))) 1 6)
    (f_K_fits M2).bind fun q4 => (
    if jp_c .eq q4 0 = true then (
    f_K_hears_68 (f_K_hears_10 n ) l2 M2) else (
    (f_K_asks M2).bind fun q5 => (
    f_K_hears_68 (f_K_hears_10 n ) l2 (q5.2))))))))
theorem t_K_hears_10 {Ln : Nat} {xs : Nat → Int32} {sv : jp_V} {d : Nat} (hd : 5 ≤ d)  : ∀ (n : Nat) (l2 : Int32) (o3 : Option jp_V) (w : Nat) (M : jp_M) {res : jp_M}, f_K_hears_10 n  l2 M = some res → jR (jZ (jK Ln xs sv)) d 28 10 ([some (.inr (some 54)), some (.inr (some 14)), some (.inl l2), o3], [], jSH w, M) (none, jSH w, res) := by
  intro n
  induction n with
  | zero =>
    intro l2 o3 w M res hf
    cases hf
  | succ n ih =>
    intro l2 o3 w M res hf
    rw [f_K_hears_10] at hf
    refine jR_in rfl ⟨rfl, rfl, rfl⟩ rfl ?_
    refine js_iload_n rfl ?_
    refine js_aload_n rfl ?_
    refine js_geti rfl rfl rfl ?_
    refine js_icmp (tgt := 74) rfl rfl (fun h => ?_) (fun h => ?_)
    · have hf := jif_t hf h
      refine jR_in rfl ⟨rfl, rfl, rfl⟩ rfl ?_
      obtain rfl := Option.some.inj hf
      exact js_ret rfl rfl
    · have hf := jif_f hf h
      refine js_bipush (v := (7 : Int32)) rfl ?_
      refine js_iload_n rfl ?_
      refine js_imul ?_
      refine js_istore_n rfl rfl ?_
      refine js_aload_n rfl ?_
      refine js_getr rfl rfl rfl ?_
      refine js_iload_n rfl ?_
      obtain ⟨hb1, hf⟩ := jg_some hf
      refine js_iald rfl hb1 ?_
      refine js_aload_n rfl ?_
      refine js_getr rfl rfl rfl ?_
      refine js_geti rfl rfl rfl ?_
      refine js_icmp (tgt := 68) rfl rfl (fun h => ?_) (fun h => ?_)
      · have hf := jif_t hf h
        exact t_K_hears_68 hd (fun l2 o3 w M res hf => ih l2 o3 w M hf) _ _ _ _ hf
      · have hf := jif_f hf h
        refine js_aload_n rfl ?_
        refine js_getr rfl rfl rfl ?_
        refine js_iload_n rfl ?_
        refine js_iconst (v := (1 : Int32)) rfl ?_
        refine js_iadd ?_
        refine js_aload_n rfl ?_
        refine js_getr rfl rfl rfl ?_
        refine js_iconst (v := (1 : Int32)) rfl ?_
        refine js_bipush (v := (6 : Int32)) rfl ?_
        obtain ⟨hb3, hf⟩ := jg_some hf
        refine js_copy rfl rfl rfl hb3.1 hb3.2 rfl ?_
        refine js_aload_n rfl ?_
        obtain ⟨q4, hc_4, hf⟩ := jbind hf
        refine js_c1i rfl rfl ⟨rfl, rfl⟩ rfl rfl (t_K_fits hc_4) (by omega) ?_
        refine js_ifc (tgt := 68) rfl rfl (fun h => ?_) (fun h => ?_)
        · have hf := jif_t hf h
          exact t_K_hears_68 hd (fun l2 o3 w M res hf => ih l2 o3 w M hf) _ _ _ _ hf
        · have hf := jif_f hf h
          refine js_aload_n rfl ?_
          obtain ⟨q5, hc_5, hf⟩ := jbind hf
          refine js_c1i rfl rfl ⟨rfl, rfl⟩ rfl rfl (t_K_asks hc_5) (by omega) ?_
          refine js_pop ?_
          exact jS_out rfl ⟨rfl, rfl, rfl⟩ rfl (t_K_hears_68 hd (fun l2 o3 w M res hf => ih l2 o3 w M hf) _ _ _ _ hf)
def f_K_hears (M : jp_M) : Option (jp_M) :=
  f_K_hears_10 jFu (0 : Int32) M
theorem t_K_hears {Ln : Nat} {xs : Nat → Int32} {sv : jp_V} {w : Nat} {M : jp_M} {res : jp_M} (hf : f_K_hears M = some res) : jE (jZ (jK Ln xs sv)) 5 28 [(.inr (some 54))] (jSH w) M (none, jSH w, res) := by
  unfold f_K_hears at hf
  refine jE_in (L0 := [some (.inr (some 54)), none, none, none]) rfl (Nat.le_of_ble_eq_true rfl) rfl (fun d hd => ?_)
  refine jR_in rfl ⟨rfl, rfl, rfl⟩ rfl ?_
  refine js_aload_n rfl ?_
  refine js_getr rfl rfl rfl ?_
  refine js_getr rfl rfl rfl ?_
  refine js_astore_n rfl rfl ?_
  refine js_iconst (v := (0 : Int32)) rfl ?_
  refine js_istore_n rfl rfl ?_
  exact jS_out rfl ⟨rfl, rfl, rfl⟩ rfl (t_K_hears_10 hd jFu _ _ _ _ hf)
/-! SwallowsAir$Law.learns(LSwallowsAir$World;[II)V -/
def f_L_learns_1_118  (s1 : Int32) (s2 : Int32) (M : jp_M) : Option (jp_M) :=
  jg (jp_in s1 10) (
  let M1 := jp_set M 12 (upd (M 12) (Int32.toNatClampNeg s1) s2)
  (f_W_usedCells M1).bind fun q3 => (
  let M4 := jp_set M1 12 (upd (M1 12) 8 q3)
  let M5 := jp_set M4 12 (upd (M4 12) 9 (M4 2 1))
  some M5))
theorem t_L_learns_1_118 {Ln : Nat} {xs : Nat → Int32} {sv : jp_V} {d : Nat} (hd : 1 ≤ d)  (s1 : Int32) (s2 : Int32) (o2 : Option jp_V) (o3 : Option jp_V) (o4 : Option jp_V) (w : Nat) (M : jp_M) {res : jp_M} (hf : f_L_learns_1_118  s1 s2 M = some res) : jR (jZ (jK Ln xs sv)) d 37 118 ([some (.inr (some 7)), some (.inr (some 2)), o2, o3, o4], [.inl s2, .inl s1, (.inr (some 12))], jSH w, M) (none, jSH w, res) := by
  unfold f_L_learns_1_118 at hf
  refine jR_in rfl ⟨rfl, rfl, rfl⟩ rfl ?_
  obtain ⟨hb2, hf⟩ := jg_some hf
  refine js_iast rfl hb2 ?_
  refine js_aload_n rfl ?_
  refine js_getr rfl rfl rfl ?_
  refine js_bipush (v := (8 : Int32)) rfl ?_
  refine js_aload_n rfl ?_
  obtain ⟨q3, hc_3, hf⟩ := jbind hf
  refine js_c1i rfl rfl ⟨rfl, rfl⟩ rfl rfl (t_W_usedCells hc_3) (by omega) ?_
  refine js_iast rfl (by decide) ?_
  refine js_aload_n rfl ?_
  refine js_getr rfl rfl rfl ?_
  refine js_bipush (v := (9 : Int32)) rfl ?_
  refine js_aload_n rfl ?_
  refine js_geti rfl rfl rfl ?_
  refine js_iast rfl (by decide) ?_
  obtain rfl := Option.some.inj hf
  exact js_ret rfl rfl
def f_L_learns_1 (a3 : Int32) (M : jp_M) : Option (jp_M) :=
  jg (jp_in (a3 + (1 : Int32)) 128) (
  jg (jp_in (a3 + (2 : Int32)) 128) (
  let M3 := jp_set M 12 (upd (M 12) 0 (M 5 (Int32.toNatClampNeg (a3 + (2 : Int32)))))
  jg (jp_in (a3 + (5 : Int32)) 128) (
  let M5 := jp_set M3 12 (upd (M3 12) 1 (M3 5 (Int32.toNatClampNeg (a3 + (5 : Int32)))))
  jg (jp_in (a3 + (6 : Int32)) 128) (
  let M7 := jp_set M5 12 (upd (M5 12) 2 (M5 5 (Int32.toNatClampNeg (a3 + (6 : Int32)))))
  jg (jp_in (a3 + (3 : Int32)) 128) (
  let M9 := jp_set M7 12 (upd (M7 12) 3 (M7 5 (Int32.toNatClampNeg (a3 + (3 : Int32)))))
  jg (jp_in (((5 : Int32) * (M 5 (Int32.toNatClampNeg (a3 + (1 : Int32))))) + (0 : Int32)) 50) (
  let M11 := jp_set M9 12 (upd (M9 12) 4 (M9 3 (Int32.toNatClampNeg (((5 : Int32) * (M 5 (Int32.toNatClampNeg (a3 + (1 : Int32))))) + (0 : Int32)))))
  jg (jp_in (((5 : Int32) * (M 5 (Int32.toNatClampNeg (a3 + (1 : Int32))))) + (4 : Int32)) 50) (
  let M13 := jp_set M11 12 (upd (M11 12) 5 (M11 3 (Int32.toNatClampNeg (((5 : Int32) * (M 5 (Int32.toNatClampNeg (a3 + (1 : Int32))))) + (4 : Int32)))))
  jg (jp_in (a3 + (3 : Int32)) 128) (
  (f_W_nestsAt (M13 5 (Int32.toNatClampNeg (a3 + (3 : Int32)))) M13).bind fun q15 => (
  let M16 := jp_set M13 12 (upd (M13 12) 6 q15)
  if jp_c .eq (f_W_isSummer M16) 0 = true then (
  f_L_learns_1_118 (7 : Int32) (0 : Int32) M16) else (
  f_L_learns_1_118 (7 : Int32) (1 : Int32) M16))))))))))
theorem t_L_learns_1 {Ln : Nat} {xs : Nat → Int32} {sv : jp_V} {a3 : Int32} {w : Nat} {M : jp_M} {res : jp_M} (hf : f_L_learns_1 a3 M = some res) : jE (jZ (jK Ln xs sv)) 1 37 [(.inr (some 7)), (.inr (some 2)), (.inr (some 5)), (.inl a3)] (jSH w) M (none, jSH w, res) := by
  unfold f_L_learns_1 at hf
  refine jE_in (L0 := [some (.inr (some 7)), some (.inr (some 2)), some (.inr (some 5)), some (.inl a3), none]) rfl (Nat.le_of_ble_eq_true rfl) rfl (fun d hd => ?_)
  refine jR_in rfl ⟨rfl, rfl, rfl⟩ rfl ?_
  refine js_iconst (v := (5 : Int32)) rfl ?_
  refine js_aload_n rfl ?_
  refine js_iload_n rfl ?_
  refine js_iconst (v := (1 : Int32)) rfl ?_
  refine js_iadd ?_
  obtain ⟨hb1, hf⟩ := jg_some hf
  refine js_iald rfl hb1 ?_
  refine js_imul ?_
  refine js_istore rfl rfl ?_
  refine js_aload_n rfl ?_
  refine js_getr rfl rfl rfl ?_
  refine js_iconst (v := (0 : Int32)) rfl ?_
  refine js_aload_n rfl ?_
  refine js_iload_n rfl ?_
  refine js_iconst (v := (2 : Int32)) rfl ?_
  refine js_iadd ?_
  obtain ⟨hb2, hf⟩ := jg_some hf
  refine js_iald rfl hb2 ?_
  refine js_iast rfl (by decide) ?_
  refine js_aload_n rfl ?_
  refine js_getr rfl rfl rfl ?_
  refine js_iconst (v := (1 : Int32)) rfl ?_
  refine js_aload_n rfl ?_
  refine js_iload_n rfl ?_
  refine js_iconst (v := (5 : Int32)) rfl ?_
  refine js_iadd ?_
  obtain ⟨hb4, hf⟩ := jg_some hf
  refine js_iald rfl hb4 ?_
  refine js_iast rfl (by decide) ?_
  refine js_aload_n rfl ?_
  refine js_getr rfl rfl rfl ?_
  refine js_iconst (v := (2 : Int32)) rfl ?_
  refine js_aload_n rfl ?_
  refine js_iload_n rfl ?_
  refine js_bipush (v := (6 : Int32)) rfl ?_
  refine js_iadd ?_
  obtain ⟨hb6, hf⟩ := jg_some hf
  refine js_iald rfl hb6 ?_
  refine js_iast rfl (by decide) ?_
  refine js_aload_n rfl ?_
  refine js_getr rfl rfl rfl ?_
  refine js_iconst (v := (3 : Int32)) rfl ?_
  refine js_aload_n rfl ?_
  refine js_iload_n rfl ?_
  refine js_iconst (v := (3 : Int32)) rfl ?_
  refine js_iadd ?_
  obtain ⟨hb8, hf⟩ := jg_some hf
  refine js_iald rfl hb8 ?_
  refine js_iast rfl (by decide) ?_
  refine js_aload_n rfl ?_
  refine js_getr rfl rfl rfl ?_
  refine js_iconst (v := (4 : Int32)) rfl ?_
  refine js_aload_n rfl ?_
  refine js_getr rfl rfl rfl ?_
  refine js_iload rfl ?_
  refine js_iconst (v := (0 : Int32)) rfl ?_
  refine js_iadd ?_
  obtain ⟨hb10, hf⟩ := jg_some hf
  refine js_iald rfl hb10 ?_
  refine js_iast rfl (by decide) ?_
  refine js_aload_n rfl ?_
  refine js_getr rfl rfl rfl ?_
  refine js_iconst (v := (5 : Int32)) rfl ?_
  refine js_aload_n rfl ?_
  refine js_getr rfl rfl rfl ?_
  refine js_iload rfl ?_
  refine js_iconst (v := (4 : Int32)) rfl ?_
  refine js_iadd ?_
  obtain ⟨hb12, hf⟩ := jg_some hf
  refine js_iald rfl hb12 ?_
  refine js_iast rfl (by decide) ?_
  refine js_aload_n rfl ?_
  refine js_getr rfl rfl rfl ?_
  refine js_bipush (v := (6 : Int32)) rfl ?_
  refine js_aload_n rfl ?_
  refine js_aload_n rfl ?_
  refine js_iload_n rfl ?_
  refine js_iconst (v := (3 : Int32)) rfl ?_
  refine js_iadd ?_
  obtain ⟨hb14, hf⟩ := jg_some hf
  refine js_iald rfl hb14 ?_
  obtain ⟨q15, hc_15, hf⟩ := jbind hf
  refine js_c2i rfl rfl ⟨rfl, rfl⟩ rfl rfl (t_W_nestsAt hc_15) (by omega) ?_
  refine js_iast rfl (by decide) ?_
  refine js_aload_n rfl ?_
  refine js_getr rfl rfl rfl ?_
  refine js_bipush (v := (7 : Int32)) rfl ?_
  refine js_aload_n rfl ?_
  refine js_c1i rfl rfl ⟨rfl, rfl⟩ rfl rfl (t_W_isSummer rfl) (by omega) ?_
  refine js_ifc (tgt := 117) rfl rfl (fun h => ?_) (fun h => ?_)
  · have hf := jif_t hf h
    refine jR_in rfl ⟨rfl, rfl, rfl⟩ rfl ?_
    refine js_iconst (v := (0 : Int32)) rfl ?_
    exact jS_out rfl ⟨rfl, rfl, rfl⟩ rfl (t_L_learns_1_118 hd _ _ _ _ _ _ _ hf)
  · have hf := jif_f hf h
    refine js_iconst (v := (1 : Int32)) rfl ?_
    refine js_goto (tgt := 118) rfl rfl ?_
    exact t_L_learns_1_118 hd _ _ _ _ _ _ _ hf
/-! SwallowsAir$Law.tells(ILSwallowsAir$World;[II)I -/
def f_L_tells_1_142  (l5 : Int32) (s0 : Int32) (s1 : Int32) (M : jp_M) : Option (Int32 × jp_M) :=
  some ((jp_max s0 (jp_min s1 l5)), M)
theorem t_L_tells_1_142 {Ln : Nat} {xs : Nat → Int32} {sv : jp_V} {d : Nat} (hd : 3 ≤ d)  (l5 : Int32) (s0 : Int32) (s1 : Int32) (o0 : Option jp_V) (o1 : Option jp_V) (o2 : Option jp_V) (o3 : Option jp_V) (o4 : Option jp_V) (o6 : Option jp_V) (o7 : Option jp_V) (w : Nat) (M : jp_M) {res : Int32 × jp_M} (hf : f_L_tells_1_142  l5 s0 s1 M = some res) : jR (jZ (jK Ln xs sv)) d 36 142 ([o0, o1, o2, o3, o4, some (.inl l5), o6, o7], [.inl s1, .inl s0], jSH w, M) (some (.inl res.1), jSH w, res.2) := by
  unfold f_L_tells_1_142 at hf
  refine jR_in rfl ⟨rfl, rfl, rfl⟩ rfl ?_
  refine js_iload rfl ?_
  refine js_min rfl ?_
  refine js_max rfl ?_
  obtain rfl := Option.some.inj hf
  exact js_iret rfl rfl
def f_L_tells_1_128  (l1 : Int32) (l5 : Int32) (M : jp_M) : Option (Int32 × jp_M) :=
  if jp_c .ne l1 0 = true then (
  f_L_tells_1_142 l5 (0 : Int32) (999 : Int32) M) else (
  f_L_tells_1_142 l5 (0 : Int32) (1000 : Int32) M)
theorem t_L_tells_1_128 {Ln : Nat} {xs : Nat → Int32} {sv : jp_V} {d : Nat} (hd : 3 ≤ d)  (l1 : Int32) (l5 : Int32) (o0 : Option jp_V) (o2 : Option jp_V) (o3 : Option jp_V) (o4 : Option jp_V) (o6 : Option jp_V) (o7 : Option jp_V) (w : Nat) (M : jp_M) {res : Int32 × jp_M} (hf : f_L_tells_1_128  l1 l5 M = some res) : jR (jZ (jK Ln xs sv)) d 36 128 ([o0, some (.inl l1), o2, o3, o4, some (.inl l5), o6, o7], [], jSH w, M) (some (.inl res.1), jSH w, res.2) := by
  unfold f_L_tells_1_128 at hf
  refine jR_in rfl ⟨rfl, rfl, rfl⟩ rfl ?_
  refine js_iconst (v := (0 : Int32)) rfl ?_
  refine js_iload_n rfl ?_
  refine js_ifc (tgt := 139) rfl rfl (fun h => ?_) (fun h => ?_)
  · have hf := jif_t hf h
    refine jR_in rfl ⟨rfl, rfl, rfl⟩ rfl ?_
    refine js_sipush (v := (999 : Int32)) rfl ?_
    exact jS_out rfl ⟨rfl, rfl, rfl⟩ rfl (t_L_tells_1_142 hd _ _ _ _ _ _ _ _ _ _ _ _ hf)
  · have hf := jif_f hf h
    refine js_sipush (v := (1000 : Int32)) rfl ?_
    refine js_goto (tgt := 142) rfl rfl ?_
    exact t_L_tells_1_142 hd _ _ _ _ _ _ _ _ _ _ _ _ hf
def f_L_tells_1_107  (l1 : Int32) (l6 : Int32) (s1 : Int32) (M : jp_M) : Option (Int32 × jp_M) :=
  jg (jp_in l6 16) (
  (f_L_value s1 (M 9 (Int32.toNatClampNeg l6)) M).bind fun q2 => (
  f_L_tells_1_128 l1 (q2.1) (q2.2)))
theorem t_L_tells_1_107 {Ln : Nat} {xs : Nat → Int32} {sv : jp_V} {d : Nat} (hd : 3 ≤ d)  (l1 : Int32) (l6 : Int32) (s1 : Int32) (o2 : Option jp_V) (o3 : Option jp_V) (o4 : Option jp_V) (o5 : Option jp_V) (o7 : Option jp_V) (w : Nat) (M : jp_M) {res : Int32 × jp_M} (hf : f_L_tells_1_107  l1 l6 s1 M = some res) : jR (jZ (jK Ln xs sv)) d 36 107 ([some (.inr (some 7)), some (.inl l1), o2, o3, o4, o5, some (.inl l6), o7], [.inl s1, (.inr (some 7))], jSH w, M) (some (.inl res.1), jSH w, res.2) := by
  unfold f_L_tells_1_107 at hf
  refine jR_in rfl ⟨rfl, rfl, rfl⟩ rfl ?_
  refine js_aload_n rfl ?_
  refine js_getr rfl rfl rfl ?_
  refine js_iload rfl ?_
  obtain ⟨hb1, hf⟩ := jg_some hf
  refine js_iald rfl hb1 ?_
  obtain ⟨q2, hc_2, hf⟩ := jbind hf
  refine js_c3i rfl rfl ⟨rfl, rfl⟩ rfl rfl (t_L_value hc_2) (by omega) ?_
  refine js_istore rfl rfl ?_
  refine js_goto (tgt := 128) rfl rfl ?_
  exact t_L_tells_1_128 hd _ _ _ _ _ _ _ _ _ _ hf
def f_L_tells_1_88  (l1 : Int32) (l6 : Int32) (M : jp_M) : Option (Int32 × jp_M) :=
  if jp_c .ne l6 0 = true then (
  jg (jp_in (l6 - (1 : Int32)) 16) (
  f_L_tells_1_107 l1 l6 (M 10 (Int32.toNatClampNeg (l6 - (1 : Int32)))) M)) else (
  f_L_tells_1_107 l1 l6 (0 : Int32) M)
theorem t_L_tells_1_88 {Ln : Nat} {xs : Nat → Int32} {sv : jp_V} {d : Nat} (hd : 3 ≤ d)  (l1 : Int32) (l6 : Int32) (o2 : Option jp_V) (o3 : Option jp_V) (o4 : Option jp_V) (o5 : Option jp_V) (o7 : Option jp_V) (w : Nat) (M : jp_M) {res : Int32 × jp_M} (hf : f_L_tells_1_88  l1 l6 M = some res) : jR (jZ (jK Ln xs sv)) d 36 88 ([some (.inr (some 7)), some (.inl l1), o2, o3, o4, o5, some (.inl l6), o7], [], jSH w, M) (some (.inl res.1), jSH w, res.2) := by
  unfold f_L_tells_1_88 at hf
  refine jR_in rfl ⟨rfl, rfl, rfl⟩ rfl ?_
  refine js_aload_n rfl ?_
  refine js_iload rfl ?_
  refine js_ifc (tgt := 98) rfl rfl (fun h => ?_) (fun h => ?_)
  · have hf := jif_t hf h
    refine jR_in rfl ⟨rfl, rfl, rfl⟩ rfl ?_
    refine js_aload_n rfl ?_
    refine js_getr rfl rfl rfl ?_
    refine js_iload rfl ?_
    refine js_iconst (v := (1 : Int32)) rfl ?_
    refine js_isub ?_
    obtain ⟨hb1, hf⟩ := jg_some hf
    refine js_iald rfl hb1 ?_
    exact jS_out rfl ⟨rfl, rfl, rfl⟩ rfl (t_L_tells_1_107 hd _ _ _ _ _ _ _ _ _ _ hf)
  · have hf := jif_f hf h
    refine js_iconst (v := (0 : Int32)) rfl ?_
    refine js_goto (tgt := 107) rfl rfl ?_
    exact t_L_tells_1_107 hd _ _ _ _ _ _ _ _ _ _ hf
def f_L_tells_1_122 (c11 : Int32 → Int32 → Int32 → jp_M → Option (Int32 × jp_M)) (l1 : Int32) (l5 : Int32) (l6 : Int32) (M : jp_M) : Option (Int32 × jp_M) :=
  c11 l1 l5 (l6 + (1 : Int32)) M
theorem t_L_tells_1_122 {Ln : Nat} {xs : Nat → Int32} {sv : jp_V} {d : Nat} (hd : 3 ≤ d) {c11 : Int32 → Int32 → Int32 → jp_M → Option (Int32 × jp_M)} (hc11 : ∀ (l1 : Int32) (l5 : Int32) (l6 : Int32) (o2 : Option jp_V) (o3 : Option jp_V) (o4 : Option jp_V) (o7 : Option jp_V) (w : Nat) (M : jp_M) (res : Int32 × jp_M), c11 l1 l5 l6 M = some res → jR (jZ (jK Ln xs sv)) d 36 18 ([some (.inr (some 7)), some (.inl l1), o2, o3, o4, some (.inl l5), some (.inl l6), o7], [], jSH w, M) (some (.inl res.1), jSH w, res.2)) (l1 : Int32) (l5 : Int32) (l6 : Int32) (o2 : Option jp_V) (o3 : Option jp_V) (o4 : Option jp_V) (o7 : Option jp_V) (w : Nat) (M : jp_M) {res : Int32 × jp_M} (hf : f_L_tells_1_122 c11 l1 l5 l6 M = some res) : jR (jZ (jK Ln xs sv)) d 36 122 ([some (.inr (some 7)), some (.inl l1), o2, o3, o4, some (.inl l5), some (.inl l6), o7], [], jSH w, M) (some (.inl res.1), jSH w, res.2) := by
  unfold f_L_tells_1_122 at hf
  refine jR_in rfl ⟨rfl, rfl, rfl⟩ rfl ?_
  refine js_iinc (v := (1 : Int32)) rfl rfl rfl rfl ?_
  refine js_goto (tgt := 18) rfl rfl ?_
  exact hc11 _ _ _ _ _ _ _ _ _ _ hf
def f_L_tells_1_49 (c11 : Int32 → Int32 → Int32 → jp_M → Option (Int32 × jp_M)) (l1 : Int32) (l5 : Int32) (l6 : Int32) (s0 : Int32) (M : jp_M) : Option (Int32 × jp_M) :=
  jg (jp_in l6 16) (
  if jp_c .ne (M 8 (Int32.toNatClampNeg l6)) l1 = true then (
  f_L_tells_1_122 c11 l1 l5 l6 M) else (
  if jp_c .ne s0 0 = true then (
  f_L_tells_1_88 l1 l6 M) else (
  jg (jp_in l6 16) (
  jg (jp_in l6 16) (
  (f_L_value (M 9 (Int32.toNatClampNeg l6)) (M 10 (Int32.toNatClampNeg l6)) M).bind fun q4 => (
  if jp_c .eq q4.1 0 = true then (
  f_L_tells_1_122 c11 l1 l5 l6 (q4.2)) else (
  f_L_tells_1_88 l1 l6 (q4.2))))))))
theorem t_L_tells_1_49 {Ln : Nat} {xs : Nat → Int32} {sv : jp_V} {d : Nat} (hd : 3 ≤ d) {c11 : Int32 → Int32 → Int32 → jp_M → Option (Int32 × jp_M)} (hc11 : ∀ (l1 : Int32) (l5 : Int32) (l6 : Int32) (o2 : Option jp_V) (o3 : Option jp_V) (o4 : Option jp_V) (o7 : Option jp_V) (w : Nat) (M : jp_M) (res : Int32 × jp_M), c11 l1 l5 l6 M = some res → jR (jZ (jK Ln xs sv)) d 36 18 ([some (.inr (some 7)), some (.inl l1), o2, o3, o4, some (.inl l5), some (.inl l6), o7], [], jSH w, M) (some (.inl res.1), jSH w, res.2)) (l1 : Int32) (l5 : Int32) (l6 : Int32) (s0 : Int32) (o2 : Option jp_V) (o3 : Option jp_V) (o4 : Option jp_V) (o7 : Option jp_V) (w : Nat) (M : jp_M) {res : Int32 × jp_M} (hf : f_L_tells_1_49 c11 l1 l5 l6 s0 M = some res) : jR (jZ (jK Ln xs sv)) d 36 49 ([some (.inr (some 7)), some (.inl l1), o2, o3, o4, some (.inl l5), some (.inl l6), o7], [.inl s0], jSH w, M) (some (.inl res.1), jSH w, res.2) := by
  unfold f_L_tells_1_49 at hf
  refine jR_in rfl ⟨rfl, rfl, rfl⟩ rfl ?_
  refine js_istore rfl rfl ?_
  refine js_aload_n rfl ?_
  refine js_getr rfl rfl rfl ?_
  refine js_iload rfl ?_
  obtain ⟨hb1, hf⟩ := jg_some hf
  refine js_iald rfl hb1 ?_
  refine js_iload_n rfl ?_
  refine js_icmp (tgt := 122) rfl rfl (fun h => ?_) (fun h => ?_)
  · have hf := jif_t hf h
    exact t_L_tells_1_122 hd hc11 _ _ _ _ _ _ _ _ _ hf
  · have hf := jif_f hf h
    refine js_iload rfl ?_
    refine js_ifc (tgt := 88) rfl rfl (fun h => ?_) (fun h => ?_)
    · have hf := jif_t hf h
      exact t_L_tells_1_88 hd _ _ _ _ _ _ _ _ _ hf
    · have hf := jif_f hf h
      refine js_aload_n rfl ?_
      refine js_aload_n rfl ?_
      refine js_getr rfl rfl rfl ?_
      refine js_iload rfl ?_
      obtain ⟨hb2, hf⟩ := jg_some hf
      refine js_iald rfl hb2 ?_
      refine js_aload_n rfl ?_
      refine js_getr rfl rfl rfl ?_
      refine js_iload rfl ?_
      obtain ⟨hb3, hf⟩ := jg_some hf
      refine js_iald rfl hb3 ?_
      obtain ⟨q4, hc_4, hf⟩ := jbind hf
      refine js_c3i rfl rfl ⟨rfl, rfl⟩ rfl rfl (t_L_value hc_4) (by omega) ?_
      refine js_ifc (tgt := 122) rfl rfl (fun h => ?_) (fun h => ?_)
      · have hf := jif_t hf h
        exact t_L_tells_1_122 hd hc11 _ _ _ _ _ _ _ _ _ hf
      · have hf := jif_f hf h
        exact jS_out rfl ⟨rfl, rfl, rfl⟩ rfl (t_L_tells_1_88 hd _ _ _ _ _ _ _ _ _ hf)
def f_L_tells_1_18  : Nat → Int32 → Int32 → Int32 → jp_M → Option (Int32 × jp_M)
  | 0, _, _, _, _ => none
  | n + 1, l1, l5, l6, M =>
    if jp_c .ge l6 (M 7 0) = true then (
    f_L_tells_1_128 l1 l5 M) else (
    jg (jp_in l6 16) (
    jg (jp_in l6 16) (
    if jp_c .ne (M 9 (Int32.toNatClampNeg l6)) (M 10 (Int32.toNatClampNeg l6)) = true then (
    f_L_tells_1_49 (f_L_tells_1_18 n ) l1 l5 l6 (0 : Int32) M) else (
    f_L_tells_1_49 (f_L_tells_1_18 n ) l1 l5 l6 (1 : Int32) M))))
theorem t_L_tells_1_18 {Ln : Nat} {xs : Nat → Int32} {sv : jp_V} {d : Nat} (hd : 3 ≤ d)  : ∀ (n : Nat) (l1 : Int32) (l5 : Int32) (l6 : Int32) (o2 : Option jp_V) (o3 : Option jp_V) (o4 : Option jp_V) (o7 : Option jp_V) (w : Nat) (M : jp_M) {res : Int32 × jp_M}, f_L_tells_1_18 n  l1 l5 l6 M = some res → jR (jZ (jK Ln xs sv)) d 36 18 ([some (.inr (some 7)), some (.inl l1), o2, o3, o4, some (.inl l5), some (.inl l6), o7], [], jSH w, M) (some (.inl res.1), jSH w, res.2) := by
  intro n
  induction n with
  | zero =>
    intro l1 l5 l6 o2 o3 o4 o7 w M res hf
    cases hf
  | succ n ih =>
    intro l1 l5 l6 o2 o3 o4 o7 w M res hf
    rw [f_L_tells_1_18] at hf
    refine jR_in rfl ⟨rfl, rfl, rfl⟩ rfl ?_
    refine js_iload rfl ?_
    refine js_aload_n rfl ?_
    refine js_geti rfl rfl rfl ?_
    refine js_icmp (tgt := 128) rfl rfl (fun h => ?_) (fun h => ?_)
    · have hf := jif_t hf h
      exact t_L_tells_1_128 hd _ _ _ _ _ _ _ _ _ _ hf
    · have hf := jif_f hf h
      refine js_aload_n rfl ?_
      refine js_getr rfl rfl rfl ?_
      refine js_iload rfl ?_
      obtain ⟨hb1, hf⟩ := jg_some hf
      refine js_iald rfl hb1 ?_
      refine js_aload_n rfl ?_
      refine js_getr rfl rfl rfl ?_
      refine js_iload rfl ?_
      obtain ⟨hb2, hf⟩ := jg_some hf
      refine js_iald rfl hb2 ?_
      refine js_icmp (tgt := 48) rfl rfl (fun h => ?_) (fun h => ?_)
      · have hf := jif_t hf h
        refine jR_in rfl ⟨rfl, rfl, rfl⟩ rfl ?_
        refine js_iconst (v := (0 : Int32)) rfl ?_
        exact jS_out rfl ⟨rfl, rfl, rfl⟩ rfl (t_L_tells_1_49 hd (fun l1 l5 l6 o2 o3 o4 o7 w M res hf => ih l1 l5 l6 o2 o3 o4 o7 w M hf) _ _ _ _ _ _ _ _ _ _ hf)
      · have hf := jif_f hf h
        refine js_iconst (v := (1 : Int32)) rfl ?_
        refine js_goto (tgt := 49) rfl rfl ?_
        exact t_L_tells_1_49 hd (fun l1 l5 l6 o2 o3 o4 o7 w M res hf => ih l1 l5 l6 o2 o3 o4 o7 w M hf) _ _ _ _ _ _ _ _ _ _ hf
def f_L_tells_1 (a1 : Int32) (a4 : Int32) (M : jp_M) : Option (Int32 × jp_M) :=
  (f_L_learns_1 a4 M).bind fun q1 => (
  f_L_tells_1_18 jFu a1 (f_L_usual a1 q1) (0 : Int32) q1)
theorem t_L_tells_1 {Ln : Nat} {xs : Nat → Int32} {sv : jp_V} {a1 : Int32} {a4 : Int32} {w : Nat} {M : jp_M} {res : Int32 × jp_M} (hf : f_L_tells_1 a1 a4 M = some res) : jE (jZ (jK Ln xs sv)) 3 36 [(.inr (some 7)), (.inl a1), (.inr (some 2)), (.inr (some 5)), (.inl a4)] (jSH w) M (some (.inl res.1), jSH w, res.2) := by
  unfold f_L_tells_1 at hf
  refine jE_in (L0 := [some (.inr (some 7)), some (.inl a1), some (.inr (some 2)), some (.inr (some 5)), some (.inl a4), none, none, none]) rfl (Nat.le_of_ble_eq_true rfl) rfl (fun d hd => ?_)
  refine jR_in rfl ⟨rfl, rfl, rfl⟩ rfl ?_
  refine js_aload_n rfl ?_
  refine js_aload_n rfl ?_
  refine js_aload_n rfl ?_
  refine js_iload rfl ?_
  obtain ⟨q1, hc_1, hf⟩ := jbind hf
  refine js_c4v (w := 0) rfl rfl ⟨rfl, rfl⟩ rfl rfl (t_L_learns_1 hc_1) (by omega) ?_
  refine js_aload_n rfl ?_
  refine js_iload_n rfl ?_
  refine js_c2i rfl rfl ⟨rfl, rfl⟩ rfl rfl (t_L_usual rfl) (by omega) ?_
  refine js_istore rfl rfl ?_
  refine js_iconst (v := (0 : Int32)) rfl ?_
  refine js_istore rfl rfl ?_
  exact jS_out rfl ⟨rfl, rfl, rfl⟩ rfl (t_L_tells_1_18 hd jFu _ _ _ _ _ _ _ _ _ hf)
/-! SwallowsAir$Keeper.finesUse(II)V -/
def f_K_finesUse (a1 : Int32) (a2 : Int32) (M : jp_M) : Option (jp_M) :=
  jg (jp_in (((8 : Int32) * a1) + (1 : Int32)) 128) (
  (f_L_tells_1 (2 : Int32) ((8 : Int32) * a1) M).bind fun q2 => (
  (f_W_pays (M 5 (Int32.toNatClampNeg (((8 : Int32) * a1) + (1 : Int32)))) q2.1 q2.2).bind fun q3 => (
  jg (jp_in (((5 : Int32) * (M 5 (Int32.toNatClampNeg (((8 : Int32) * a1) + (1 : Int32))))) + (3 : Int32)) 50) (
  jg (jp_in (((5 : Int32) * (M 5 (Int32.toNatClampNeg (((8 : Int32) * a1) + (1 : Int32))))) + (4 : Int32)) 50) (
  jg (jp_in (((5 : Int32) * (M 5 (Int32.toNatClampNeg (((8 : Int32) * a1) + (1 : Int32))))) + (4 : Int32)) 50) (
  let M6 := jp_set q3.2 3 (upd (q3.2 3) (Int32.toNatClampNeg (((5 : Int32) * (M 5 (Int32.toNatClampNeg (((8 : Int32) * a1) + (1 : Int32))))) + (4 : Int32))) ((q3.2 3 (Int32.toNatClampNeg (((5 : Int32) * (M 5 (Int32.toNatClampNeg (((8 : Int32) * a1) + (1 : Int32))))) + (4 : Int32)))) + q3.1))
  jg (jp_in (((5 : Int32) * (M 5 (Int32.toNatClampNeg (((8 : Int32) * a1) + (1 : Int32))))) + (3 : Int32)) 50) (
  let M8 := jp_set M6 3 (upd (M6 3) (Int32.toNatClampNeg (((5 : Int32) * (M 5 (Int32.toNatClampNeg (((8 : Int32) * a1) + (1 : Int32))))) + (3 : Int32))) (jp_min (7 : Int32) ((q3.2 3 (Int32.toNatClampNeg (((5 : Int32) * (M 5 (Int32.toNatClampNeg (((8 : Int32) * a1) + (1 : Int32))))) + (3 : Int32)))) + (1 : Int32))))
  jg (jp_in (((3 : Int32) * a2) + (2 : Int32)) 30) (
  jg (jp_in (((3 : Int32) * a2) + (2 : Int32)) 30) (
  let M11 := jp_set M8 4 (upd (M8 4) (Int32.toNatClampNeg (((3 : Int32) * a2) + (2 : Int32))) ((M8 4 (Int32.toNatClampNeg (((3 : Int32) * a2) + (2 : Int32)))) + (1 : Int32)))
  jg (jp_in (((8 : Int32) * a1) + (0 : Int32)) 128) (
  (f_A_writes (3 : Int32) (M11 5 (Int32.toNatClampNeg (((8 : Int32) * a1) + (0 : Int32)))) q3.1 M11).bind fun q14 => (
  (f_W_removes a1 q14).bind fun q15 => (
  some q15))))))))))))
theorem t_K_finesUse {Ln : Nat} {xs : Nat → Int32} {sv : jp_V} {a1 : Int32} {a2 : Int32} {w : Nat} {M : jp_M} {res : jp_M} (hf : f_K_finesUse a1 a2 M = some res) : jE (jZ (jK Ln xs sv)) 4 30 [(.inr (some 54)), (.inl a1), (.inl a2)] (jSH w) M (none, jSH w, res) := by
  unfold f_K_finesUse at hf
  refine jE_in (L0 := [some (.inr (some 54)), some (.inl a1), some (.inl a2), none, none, none, none, none]) rfl (Nat.le_of_ble_eq_true rfl) rfl (fun d hd => ?_)
  refine jR_in rfl ⟨rfl, rfl, rfl⟩ rfl ?_
  refine js_bipush (v := (8 : Int32)) rfl ?_
  refine js_iload_n rfl ?_
  refine js_imul ?_
  refine js_istore_n rfl rfl ?_
  refine js_aload_n rfl ?_
  refine js_getr rfl rfl rfl ?_
  refine js_getr rfl rfl rfl ?_
  refine js_iload_n rfl ?_
  refine js_iconst (v := (1 : Int32)) rfl ?_
  refine js_iadd ?_
  obtain ⟨hb1, hf⟩ := jg_some hf
  refine js_iald rfl hb1 ?_
  refine js_istore rfl rfl ?_
  refine js_aload_n rfl ?_
  refine js_getr rfl rfl rfl ?_
  refine js_getr rfl rfl rfl ?_
  refine js_iconst (v := (2 : Int32)) rfl ?_
  refine js_aload_n rfl ?_
  refine js_getr rfl rfl rfl ?_
  refine js_aload_n rfl ?_
  refine js_getr rfl rfl rfl ?_
  refine js_getr rfl rfl rfl ?_
  refine js_iload_n rfl ?_
  obtain ⟨q2, hc_2, hf⟩ := jbind hf
  refine js_c5i rfl rfl ⟨rfl, rfl⟩ rfl rfl (t_L_tells_1 hc_2) (by omega) ?_
  refine js_istore rfl rfl ?_
  refine js_aload_n rfl ?_
  refine js_getr rfl rfl rfl ?_
  refine js_iload rfl ?_
  refine js_iload rfl ?_
  obtain ⟨q3, hc_3, hf⟩ := jbind hf
  refine js_c3i rfl rfl ⟨rfl, rfl⟩ rfl rfl (t_W_pays hc_3) (by omega) ?_
  refine js_istore rfl rfl ?_
  refine js_aload_n rfl ?_
  refine js_getr rfl rfl rfl ?_
  refine js_getr rfl rfl rfl ?_
  refine js_iconst (v := (5 : Int32)) rfl ?_
  refine js_iload rfl ?_
  refine js_imul ?_
  refine js_iconst (v := (3 : Int32)) rfl ?_
  refine js_iadd ?_
  obtain ⟨hb4, hf⟩ := jg_some hf
  refine js_iald rfl hb4 ?_
  refine js_istore rfl rfl ?_
  refine js_aload_n rfl ?_
  refine js_getr rfl rfl rfl ?_
  refine js_getr rfl rfl rfl ?_
  refine js_iconst (v := (5 : Int32)) rfl ?_
  refine js_iload rfl ?_
  refine js_imul ?_
  refine js_iconst (v := (4 : Int32)) rfl ?_
  refine js_iadd ?_
  refine js_dup2 ?_
  obtain ⟨hb5, hf⟩ := jg_some hf
  refine js_iald rfl hb5 ?_
  refine js_iload rfl ?_
  refine js_iadd ?_
  obtain ⟨hb7, hf⟩ := jg_some hf
  refine js_iast rfl hb7 ?_
  refine js_aload_n rfl ?_
  refine js_getr rfl rfl rfl ?_
  refine js_getr rfl rfl rfl ?_
  refine js_iconst (v := (5 : Int32)) rfl ?_
  refine js_iload rfl ?_
  refine js_imul ?_
  refine js_iconst (v := (3 : Int32)) rfl ?_
  refine js_iadd ?_
  refine js_bipush (v := (7 : Int32)) rfl ?_
  refine js_iload rfl ?_
  refine js_iconst (v := (1 : Int32)) rfl ?_
  refine js_iadd ?_
  refine js_min rfl ?_
  obtain ⟨hb9, hf⟩ := jg_some hf
  refine js_iast rfl hb9 ?_
  refine js_aload_n rfl ?_
  refine js_getr rfl rfl rfl ?_
  refine js_getr rfl rfl rfl ?_
  refine js_iconst (v := (3 : Int32)) rfl ?_
  refine js_iload_n rfl ?_
  refine js_imul ?_
  refine js_iconst (v := (2 : Int32)) rfl ?_
  refine js_iadd ?_
  refine js_dup2 ?_
  obtain ⟨hb10, hf⟩ := jg_some hf
  refine js_iald rfl hb10 ?_
  refine js_iconst (v := (1 : Int32)) rfl ?_
  refine js_iadd ?_
  obtain ⟨hb12, hf⟩ := jg_some hf
  refine js_iast rfl hb12 ?_
  refine js_aload_n rfl ?_
  refine js_getr rfl rfl rfl ?_
  refine js_iconst (v := (3 : Int32)) rfl ?_
  refine js_aload_n rfl ?_
  refine js_getr rfl rfl rfl ?_
  refine js_getr rfl rfl rfl ?_
  refine js_iload_n rfl ?_
  refine js_iconst (v := (0 : Int32)) rfl ?_
  refine js_iadd ?_
  obtain ⟨hb13, hf⟩ := jg_some hf
  refine js_iald rfl hb13 ?_
  refine js_iload rfl ?_
  obtain ⟨q14, hc_14, hf⟩ := jbind hf
  refine js_c4v (w := 0) rfl rfl ⟨rfl, rfl⟩ rfl rfl (t_A_writes hc_14) (by omega) ?_
  refine js_aload_n rfl ?_
  refine js_getr rfl rfl rfl ?_
  refine js_iload_n rfl ?_
  obtain ⟨q15, hc_15, hf⟩ := jbind hf
  refine js_c2v (w := 0) rfl rfl ⟨rfl, rfl⟩ rfl rfl (t_W_removes hc_15) (by omega) ?_
  obtain rfl := Option.some.inj hf
  exact js_ret rfl rfl
/-! SwallowsAir$Affairs.sees(II)Z -/
def f_A_sees_59  : Nat → Int32 → Int32 → Int32 → jp_M → Option (Int32)
  | 0, _, _, _, _ => none
  | n + 1, l1, l4, l5, M =>
    if jp_c .gt l5 l4 = true then (
    some (0 : Int32)) else (
    jg (jp_in l5 10) (
    if jp_c .ne (M 16 (Int32.toNatClampNeg l5)) l1 = true then (
    f_A_sees_59 n l1 l4 (l5 + (1 : Int32)) M) else (
    some (1 : Int32))))
theorem t_A_sees_59 {Ln : Nat} {xs : Nat → Int32} {sv : jp_V} {d : Nat} (hd : 0 ≤ d)  : ∀ (n : Nat) (l1 : Int32) (l4 : Int32) (l5 : Int32) (o2 : Option jp_V) (o3 : Option jp_V) (w : Nat) (M : jp_M) {res : Int32}, f_A_sees_59 n  l1 l4 l5 M = some res → jR (jZ (jK Ln xs sv)) d 5 59 ([some (.inr (some 1)), some (.inl l1), o2, o3, some (.inl l4), some (.inl l5)], [], jSH w, M) (some (.inl res), jSH w, M) := by
  intro n
  induction n with
  | zero =>
    intro l1 l4 l5 o2 o3 w M res hf
    cases hf
  | succ n ih =>
    intro l1 l4 l5 o2 o3 w M res hf
    rw [f_A_sees_59] at hf
    refine jR_in rfl ⟨rfl, rfl, rfl⟩ rfl ?_
    refine js_iload rfl ?_
    refine js_iload rfl ?_
    refine js_icmp (tgt := 85) rfl rfl (fun h => ?_) (fun h => ?_)
    · have hf := jif_t hf h
      refine jR_in rfl ⟨rfl, rfl, rfl⟩ rfl ?_
      refine js_iconst (v := (0 : Int32)) rfl ?_
      obtain rfl := Option.some.inj hf
      exact js_iret rfl rfl
    · have hf := jif_f hf h
      refine js_aload_n rfl ?_
      refine js_getr rfl rfl rfl ?_
      refine js_iload rfl ?_
      obtain ⟨hb1, hf⟩ := jg_some hf
      refine js_iald rfl hb1 ?_
      refine js_iload_n rfl ?_
      refine js_icmp (tgt := 79) rfl rfl (fun h => ?_) (fun h => ?_)
      · have hf := jif_t hf h
        refine jR_in rfl ⟨rfl, rfl, rfl⟩ rfl ?_
        refine js_iinc (v := (1 : Int32)) rfl rfl rfl rfl ?_
        refine js_goto (tgt := 59) rfl rfl ?_
        exact ih _ _ _ _ _ _ _ hf
      · have hf := jif_f hf h
        refine js_iconst (v := (1 : Int32)) rfl ?_
        obtain rfl := Option.some.inj hf
        exact js_iret rfl rfl
theorem b_A_sees_59  : ∀ (n : Nat) (l1 : Int32) (l4 : Int32) (l5 : Int32) (M : jp_M) {res : Int32}, f_A_sees_59 n  l1 l4 l5 M = some res → (res = 0 ∨ res = 1) := by
  intro n
  induction n with
  | zero =>
    intro l1 l4 l5 M res hf
    cases hf
  | succ n ih =>
    intro l1 l4 l5 M res hf
    rw [f_A_sees_59] at hf
    rcases jif_d hf with ⟨h, hf⟩ | ⟨h, hf⟩
    · obtain rfl := Option.some.inj hf
      exact Or.inl rfl
    · obtain ⟨hb1, hf⟩ := jg_some hf
      rcases jif_d hf with ⟨h, hf⟩ | ⟨h, hf⟩
      · exact ih _ _ _ _ hf
      · obtain rfl := Option.some.inj hf
        exact Or.inr rfl
def f_A_sees (a1 : Int32) (a2 : Int32) (M : jp_M) : Option (Int32) :=
  jg (jp_in (((3 : Int32) * a1) + (1 : Int32)) 30) (
  jg (jp_in (((3 : Int32) * a1) + (0 : Int32)) 30) (
  if jp_c .gt (jp_abs ((M 4 (Int32.toNatClampNeg (((3 : Int32) * a1) + (0 : Int32)))) - a2)) ((M 4 (Int32.toNatClampNeg (((3 : Int32) * a1) + (1 : Int32)))) / (3 : Int32)) = true then (
  f_A_sees_59 jFu a1 (jp_min (9 : Int32) (a2 + ((M 4 (Int32.toNatClampNeg (((3 : Int32) * a1) + (1 : Int32)))) / (3 : Int32)))) (jp_max (0 : Int32) (a2 - ((M 4 (Int32.toNatClampNeg (((3 : Int32) * a1) + (1 : Int32)))) / (3 : Int32)))) M) else (
  some (1 : Int32))))
theorem t_A_sees {Ln : Nat} {xs : Nat → Int32} {sv : jp_V} {a1 : Int32} {a2 : Int32} {w : Nat} {M : jp_M} {res : Int32} (hf : f_A_sees a1 a2 M = some res) : jE (jZ (jK Ln xs sv)) 0 5 [(.inr (some 1)), (.inl a1), (.inl a2)] (jSH w) M (some (.inl res), jSH w, M) := by
  unfold f_A_sees at hf
  refine jE_in (L0 := [some (.inr (some 1)), some (.inl a1), some (.inl a2), none, none, none]) rfl (Nat.le_of_ble_eq_true rfl) rfl (fun d hd => ?_)
  refine jR_in rfl ⟨rfl, rfl, rfl⟩ rfl ?_
  refine js_aload_n rfl ?_
  refine js_getr rfl rfl rfl ?_
  refine js_getr rfl rfl rfl ?_
  refine js_iconst (v := (3 : Int32)) rfl ?_
  refine js_iload_n rfl ?_
  refine js_imul ?_
  refine js_iconst (v := (1 : Int32)) rfl ?_
  refine js_iadd ?_
  obtain ⟨hb1, hf⟩ := jg_some hf
  refine js_iald rfl hb1 ?_
  refine js_iconst (v := (3 : Int32)) rfl ?_
  refine js_idiv (by decide) ?_
  refine js_istore_n rfl rfl ?_
  refine js_aload_n rfl ?_
  refine js_getr rfl rfl rfl ?_
  refine js_getr rfl rfl rfl ?_
  refine js_iconst (v := (3 : Int32)) rfl ?_
  refine js_iload_n rfl ?_
  refine js_imul ?_
  refine js_iconst (v := (0 : Int32)) rfl ?_
  refine js_iadd ?_
  obtain ⟨hb2, hf⟩ := jg_some hf
  refine js_iald rfl hb2 ?_
  refine js_iload_n rfl ?_
  refine js_isub ?_
  refine js_abs rfl ?_
  refine js_iload_n rfl ?_
  refine js_icmp (tgt := 40) rfl rfl (fun h => ?_) (fun h => ?_)
  · have hf := jif_t hf h
    refine jR_in rfl ⟨rfl, rfl, rfl⟩ rfl ?_
    refine js_bipush (v := (9 : Int32)) rfl ?_
    refine js_iload_n rfl ?_
    refine js_iload_n rfl ?_
    refine js_iadd ?_
    refine js_min rfl ?_
    refine js_istore rfl rfl ?_
    refine js_iconst (v := (0 : Int32)) rfl ?_
    refine js_iload_n rfl ?_
    refine js_iload_n rfl ?_
    refine js_isub ?_
    refine js_max rfl ?_
    refine js_istore rfl rfl ?_
    exact jS_out rfl ⟨rfl, rfl, rfl⟩ rfl (t_A_sees_59 hd jFu _ _ _ _ _ _ _ hf)
  · have hf := jif_f hf h
    refine js_iconst (v := (1 : Int32)) rfl ?_
    obtain rfl := Option.some.inj hf
    exact js_iret rfl rfl
theorem b_A_sees {a1 : Int32} {a2 : Int32} {M : jp_M} {res : Int32} (hf : f_A_sees a1 a2 M = some res) : res = 0 ∨ res = 1 := by
  unfold f_A_sees at hf
  obtain ⟨hb1, hf⟩ := jg_some hf
  obtain ⟨hb2, hf⟩ := jg_some hf
  rcases jif_d hf with ⟨h, hf⟩ | ⟨h, hf⟩
  · exact b_A_sees_59 jFu _ _ _ _ hf
  · obtain rfl := Option.some.inj hf
    exact Or.inr rfl
/-! SwallowsAir$Affairs.seerOf(I)I -/
def f_A_seerOf_2  : Nat → Int32 → Int32 → jp_M → Option (Int32)
  | 0, _, _, _ => none
  | n + 1, l1, l2, M =>
    if jp_c .ge l2 (M 2 5) = true then (
    some (-1 : Int32)) else (
    (f_A_sees l2 l1 M).bind fun q1 => (
    if jp_c .eq q1 0 = true then (
    f_A_seerOf_2 n l1 (l2 + (1 : Int32)) M) else (
    some l2)))
theorem t_A_seerOf_2 {Ln : Nat} {xs : Nat → Int32} {sv : jp_V} {d : Nat} (hd : 1 ≤ d)  : ∀ (n : Nat) (l1 : Int32) (l2 : Int32) (w : Nat) (M : jp_M) {res : Int32}, f_A_seerOf_2 n  l1 l2 M = some res → jR (jZ (jK Ln xs sv)) d 6 2 ([some (.inr (some 1)), some (.inl l1), some (.inl l2)], [], jSH w, M) (some (.inl res), jSH w, M) := by
  intro n
  induction n with
  | zero =>
    intro l1 l2 w M res hf
    cases hf
  | succ n ih =>
    intro l1 l2 w M res hf
    rw [f_A_seerOf_2] at hf
    refine jR_in rfl ⟨rfl, rfl, rfl⟩ rfl ?_
    refine js_iload_n rfl ?_
    refine js_aload_n rfl ?_
    refine js_getr rfl rfl rfl ?_
    refine js_geti rfl rfl rfl ?_
    refine js_icmp (tgt := 30) rfl rfl (fun h => ?_) (fun h => ?_)
    · have hf := jif_t hf h
      refine jR_in rfl ⟨rfl, rfl, rfl⟩ rfl ?_
      refine js_iconst (v := (-1 : Int32)) rfl ?_
      obtain rfl := Option.some.inj hf
      exact js_iret rfl rfl
    · have hf := jif_f hf h
      refine js_aload_n rfl ?_
      refine js_iload_n rfl ?_
      refine js_iload_n rfl ?_
      obtain ⟨q1, hc_1, hf⟩ := jbind hf
      refine js_c3i rfl rfl ⟨rfl, rfl⟩ rfl rfl (t_A_sees hc_1) (by omega) ?_
      refine js_ifc (tgt := 24) rfl rfl (fun h => ?_) (fun h => ?_)
      · have hf := jif_t hf h
        refine jR_in rfl ⟨rfl, rfl, rfl⟩ rfl ?_
        refine js_iinc (v := (1 : Int32)) rfl rfl rfl rfl ?_
        refine js_goto (tgt := 2) rfl rfl ?_
        exact ih _ _ _ _ hf
      · have hf := jif_f hf h
        refine js_iload_n rfl ?_
        obtain rfl := Option.some.inj hf
        exact js_iret rfl rfl
def f_A_seerOf (a1 : Int32) (M : jp_M) : Option (Int32) :=
  f_A_seerOf_2 jFu a1 (0 : Int32) M
theorem t_A_seerOf {Ln : Nat} {xs : Nat → Int32} {sv : jp_V} {a1 : Int32} {w : Nat} {M : jp_M} {res : Int32} (hf : f_A_seerOf a1 M = some res) : jE (jZ (jK Ln xs sv)) 1 6 [(.inr (some 1)), (.inl a1)] (jSH w) M (some (.inl res), jSH w, M) := by
  unfold f_A_seerOf at hf
  refine jE_in (L0 := [some (.inr (some 1)), some (.inl a1), none]) rfl (Nat.le_of_ble_eq_true rfl) rfl (fun d hd => ?_)
  refine jR_in rfl ⟨rfl, rfl, rfl⟩ rfl ?_
  refine js_iconst (v := (0 : Int32)) rfl ?_
  refine js_istore_n rfl rfl ?_
  exact jS_out rfl ⟨rfl, rfl, rfl⟩ rfl (t_A_seerOf_2 hd jFu _ _ _ _ hf)
/-! SwallowsAir$Keeper.fines()I -/
def f_K_fines_84 (c8 : Int32 → Int32 → Int32 → jp_M → Option (Int32 × jp_M)) (l1 : Int32) (l2 : Int32) (l3 : Int32) (M : jp_M) : Option (Int32 × jp_M) :=
  c8 l1 l2 (l3 + (1 : Int32)) M
theorem t_K_fines_84 {Ln : Nat} {xs : Nat → Int32} {sv : jp_V} {d : Nat} (hd : 5 ≤ d) {c8 : Int32 → Int32 → Int32 → jp_M → Option (Int32 × jp_M)} (hc8 : ∀ (l1 : Int32) (l2 : Int32) (l3 : Int32) (o4 : Option jp_V) (o5 : Option jp_V) (w : Nat) (M : jp_M) (res : Int32 × jp_M), c8 l1 l2 l3 M = some res → jR (jZ (jK Ln xs sv)) d 29 12 ([some (.inr (some 54)), some (.inl l1), some (.inl l2), some (.inl l3), o4, o5], [], jSH w, M) (some (.inl res.1), jSH w, res.2)) (l1 : Int32) (l2 : Int32) (l3 : Int32) (o4 : Option jp_V) (o5 : Option jp_V) (w : Nat) (M : jp_M) {res : Int32 × jp_M} (hf : f_K_fines_84 c8 l1 l2 l3 M = some res) : jR (jZ (jK Ln xs sv)) d 29 84 ([some (.inr (some 54)), some (.inl l1), some (.inl l2), some (.inl l3), o4, o5], [], jSH w, M) (some (.inl res.1), jSH w, res.2) := by
  unfold f_K_fines_84 at hf
  refine jR_in rfl ⟨rfl, rfl, rfl⟩ rfl ?_
  refine js_iinc (v := (1 : Int32)) rfl rfl rfl rfl ?_
  refine js_goto (tgt := 12) rfl rfl ?_
  exact hc8 _ _ _ _ _ _ _ _ hf
def f_K_fines_63 (c8 : Int32 → Int32 → Int32 → jp_M → Option (Int32 × jp_M)) (l1 : Int32) (l2 : Int32) (l3 : Int32) (s0 : Int32) (M : jp_M) : Option (Int32 × jp_M) :=
  if jp_c .ne s0 (-1 : Int32) = true then (
  (f_K_finesUse l2 s0 M).bind fun q1 => (
  f_K_fines_84 c8 l1 l2 l3 q1)) else (
  f_K_fines_84 c8 l1 (l2 + (1 : Int32)) l3 M)
theorem t_K_fines_63 {Ln : Nat} {xs : Nat → Int32} {sv : jp_V} {d : Nat} (hd : 5 ≤ d) {c8 : Int32 → Int32 → Int32 → jp_M → Option (Int32 × jp_M)} (hc8 : ∀ (l1 : Int32) (l2 : Int32) (l3 : Int32) (o4 : Option jp_V) (o5 : Option jp_V) (w : Nat) (M : jp_M) (res : Int32 × jp_M), c8 l1 l2 l3 M = some res → jR (jZ (jK Ln xs sv)) d 29 12 ([some (.inr (some 54)), some (.inl l1), some (.inl l2), some (.inl l3), o4, o5], [], jSH w, M) (some (.inl res.1), jSH w, res.2)) (l1 : Int32) (l2 : Int32) (l3 : Int32) (s0 : Int32) (o4 : Option jp_V) (o5 : Option jp_V) (w : Nat) (M : jp_M) {res : Int32 × jp_M} (hf : f_K_fines_63 c8 l1 l2 l3 s0 M = some res) : jR (jZ (jK Ln xs sv)) d 29 63 ([some (.inr (some 54)), some (.inl l1), some (.inl l2), some (.inl l3), o4, o5], [.inl s0], jSH w, M) (some (.inl res.1), jSH w, res.2) := by
  unfold f_K_fines_63 at hf
  refine jR_in rfl ⟨rfl, rfl, rfl⟩ rfl ?_
  refine js_istore rfl rfl ?_
  refine js_iload rfl ?_
  refine js_iconst (v := (-1 : Int32)) rfl ?_
  refine js_icmp (tgt := 77) rfl rfl (fun h => ?_) (fun h => ?_)
  · have hf := jif_t hf h
    refine jR_in rfl ⟨rfl, rfl, rfl⟩ rfl ?_
    refine js_aload_n rfl ?_
    refine js_iload_n rfl ?_
    refine js_iload rfl ?_
    obtain ⟨q1, hc_1, hf⟩ := jbind hf
    refine js_c3v (w := 0) rfl rfl ⟨rfl, rfl⟩ rfl rfl (t_K_finesUse hc_1) (by omega) ?_
    exact jS_out rfl ⟨rfl, rfl, rfl⟩ rfl (t_K_fines_84 hd hc8 _ _ _ _ _ _ _ hf)
  · have hf := jif_f hf h
    refine js_iinc (v := (1 : Int32)) rfl rfl rfl rfl ?_
    refine js_goto (tgt := 84) rfl rfl ?_
    exact t_K_fines_84 hd hc8 _ _ _ _ _ _ _ hf
def f_K_fines_12  : Nat → Int32 → Int32 → Int32 → jp_M → Option (Int32 × jp_M)
  | 0, _, _, _, _ => none
  | n + 1, l1, l2, l3, M =>
    if jp_c .ge l3 l1 = true then (
    some ((l1 - (M 2 6)), M)) else (
    jg (jp_in (((8 : Int32) * l2) + (7 : Int32)) 128) (
    if jp_c .ne (M 5 (Int32.toNatClampNeg (((8 : Int32) * l2) + (7 : Int32)))) (1 : Int32) = true then (
    jg (jp_in (((8 : Int32) * l2) + (3 : Int32)) 128) (
    (f_A_seerOf (M 5 (Int32.toNatClampNeg (((8 : Int32) * l2) + (3 : Int32)))) M).bind fun q3 => (
    f_K_fines_63 (f_K_fines_12 n ) l1 l2 l3 q3 M))) else (
    f_K_fines_63 (f_K_fines_12 n ) l1 l2 l3 (-1 : Int32) M)))
theorem t_K_fines_12 {Ln : Nat} {xs : Nat → Int32} {sv : jp_V} {d : Nat} (hd : 5 ≤ d)  : ∀ (n : Nat) (l1 : Int32) (l2 : Int32) (l3 : Int32) (o4 : Option jp_V) (o5 : Option jp_V) (w : Nat) (M : jp_M) {res : Int32 × jp_M}, f_K_fines_12 n  l1 l2 l3 M = some res → jR (jZ (jK Ln xs sv)) d 29 12 ([some (.inr (some 54)), some (.inl l1), some (.inl l2), some (.inl l3), o4, o5], [], jSH w, M) (some (.inl res.1), jSH w, res.2) := by
  intro n
  induction n with
  | zero =>
    intro l1 l2 l3 o4 o5 w M res hf
    cases hf
  | succ n ih =>
    intro l1 l2 l3 o4 o5 w M res hf
    rw [f_K_fines_12] at hf
    refine jR_in rfl ⟨rfl, rfl, rfl⟩ rfl ?_
    refine js_iload_n rfl ?_
    refine js_iload_n rfl ?_
    refine js_icmp (tgt := 90) rfl rfl (fun h => ?_) (fun h => ?_)
    · have hf := jif_t hf h
      refine jR_in rfl ⟨rfl, rfl, rfl⟩ rfl ?_
      refine js_iload_n rfl ?_
      refine js_aload_n rfl ?_
      refine js_getr rfl rfl rfl ?_
      refine js_geti rfl rfl rfl ?_
      refine js_isub ?_
      obtain rfl := Option.some.inj hf
      exact js_iret rfl rfl
    · have hf := jif_f hf h
      refine js_bipush (v := (8 : Int32)) rfl ?_
      refine js_iload_n rfl ?_
      refine js_imul ?_
      refine js_istore rfl rfl ?_
      refine js_aload_n rfl ?_
      refine js_getr rfl rfl rfl ?_
      refine js_getr rfl rfl rfl ?_
      refine js_iload rfl ?_
      refine js_bipush (v := (7 : Int32)) rfl ?_
      refine js_iadd ?_
      obtain ⟨hb1, hf⟩ := jg_some hf
      refine js_iald rfl hb1 ?_
      refine js_iconst (v := (1 : Int32)) rfl ?_
      refine js_icmp (tgt := 44) rfl rfl (fun h => ?_) (fun h => ?_)
      · have hf := jif_t hf h
        refine jR_in rfl ⟨rfl, rfl, rfl⟩ rfl ?_
        refine js_aload_n rfl ?_
        refine js_getr rfl rfl rfl ?_
        refine js_aload_n rfl ?_
        refine js_getr rfl rfl rfl ?_
        refine js_getr rfl rfl rfl ?_
        refine js_iload rfl ?_
        refine js_iconst (v := (3 : Int32)) rfl ?_
        refine js_iadd ?_
        obtain ⟨hb2, hf⟩ := jg_some hf
        refine js_iald rfl hb2 ?_
        obtain ⟨q3, hc_3, hf⟩ := jbind hf
        refine js_c2i rfl rfl ⟨rfl, rfl⟩ rfl rfl (t_A_seerOf hc_3) (by omega) ?_
        exact jS_out rfl ⟨rfl, rfl, rfl⟩ rfl (t_K_fines_63 hd (fun l1 l2 l3 o4 o5 w M res hf => ih l1 l2 l3 o4 o5 w M hf) _ _ _ _ _ _ _ _ hf)
      · have hf := jif_f hf h
        refine js_iconst (v := (-1 : Int32)) rfl ?_
        refine js_goto (tgt := 63) rfl rfl ?_
        exact t_K_fines_63 hd (fun l1 l2 l3 o4 o5 w M res hf => ih l1 l2 l3 o4 o5 w M hf) _ _ _ _ _ _ _ _ hf
def f_K_fines (M : jp_M) : Option (Int32 × jp_M) :=
  f_K_fines_12 jFu (M 2 6) (0 : Int32) (0 : Int32) M
theorem t_K_fines {Ln : Nat} {xs : Nat → Int32} {sv : jp_V} {w : Nat} {M : jp_M} {res : Int32 × jp_M} (hf : f_K_fines M = some res) : jE (jZ (jK Ln xs sv)) 5 29 [(.inr (some 54))] (jSH w) M (some (.inl res.1), jSH w, res.2) := by
  unfold f_K_fines at hf
  refine jE_in (L0 := [some (.inr (some 54)), none, none, none, none, none]) rfl (Nat.le_of_ble_eq_true rfl) rfl (fun d hd => ?_)
  refine jR_in rfl ⟨rfl, rfl, rfl⟩ rfl ?_
  refine js_aload_n rfl ?_
  refine js_getr rfl rfl rfl ?_
  refine js_geti rfl rfl rfl ?_
  refine js_istore_n rfl rfl ?_
  refine js_iconst (v := (0 : Int32)) rfl ?_
  refine js_istore_n rfl rfl ?_
  refine js_iconst (v := (0 : Int32)) rfl ?_
  refine js_istore_n rfl rfl ?_
  exact jS_out rfl ⟨rfl, rfl, rfl⟩ rfl (t_K_fines_12 hd jFu _ _ _ _ _ _ _ hf)
/-! SwallowsAir$Keeper.wears()V -/
def f_K_wears_65 (c8 : Int32 → Int32 → Int32 → jp_M → Option (jp_M)) (l1 : Int32) (l2 : Int32) (l3 : Int32) (M : jp_M) : Option (jp_M) :=
  c8 l1 l2 (l3 + (1 : Int32)) M
theorem t_K_wears_65 {Ln : Nat} {xs : Nat → Int32} {sv : jp_V} {d : Nat} (hd : 2 ≤ d) {c8 : Int32 → Int32 → Int32 → jp_M → Option (jp_M)} (hc8 : ∀ (l1 : Int32) (l2 : Int32) (l3 : Int32) (w : Nat) (M : jp_M) (res : jp_M), c8 l1 l2 l3 M = some res → jR (jZ (jK Ln xs sv)) d 31 12 ([some (.inr (some 54)), some (.inl l1), some (.inl l2), some (.inl l3)], [], jSH w, M) (none, jSH w, res)) (l1 : Int32) (l2 : Int32) (l3 : Int32) (w : Nat) (M : jp_M) {res : jp_M} (hf : f_K_wears_65 c8 l1 l2 l3 M = some res) : jR (jZ (jK Ln xs sv)) d 31 65 ([some (.inr (some 54)), some (.inl l1), some (.inl l2), some (.inl l3)], [], jSH w, M) (none, jSH w, res) := by
  unfold f_K_wears_65 at hf
  refine jR_in rfl ⟨rfl, rfl, rfl⟩ rfl ?_
  refine js_iinc (v := (1 : Int32)) rfl rfl rfl rfl ?_
  refine js_goto (tgt := 12) rfl rfl ?_
  exact hc8 _ _ _ _ _ _ hf
def f_K_wears_12  : Nat → Int32 → Int32 → Int32 → jp_M → Option (jp_M)
  | 0, _, _, _, _ => none
  | n + 1, l1, l2, l3, M =>
    if jp_c .ge l3 l1 = true then (
    some M) else (
    jg (jp_in (((8 : Int32) * l2) + (6 : Int32)) 128) (
    jg (jp_in (((8 : Int32) * l2) + (6 : Int32)) 128) (
    let M2 := jp_set M 5 (upd (M 5) (Int32.toNatClampNeg (((8 : Int32) * l2) + (6 : Int32))) ((M 5 (Int32.toNatClampNeg (((8 : Int32) * l2) + (6 : Int32)))) - (1 : Int32)))
    jg (jp_in (((8 : Int32) * l2) + (6 : Int32)) 128) (
    if jp_c .gt (M2 5 (Int32.toNatClampNeg (((8 : Int32) * l2) + (6 : Int32)))) 0 = true then (
    f_K_wears_65 (f_K_wears_12 n ) l1 (l2 + (1 : Int32)) l3 M2) else (
    (f_K_closes l2 M2).bind fun q5 => (
    f_K_wears_65 (f_K_wears_12 n ) l1 l2 l3 q5))))))
theorem t_K_wears_12 {Ln : Nat} {xs : Nat → Int32} {sv : jp_V} {d : Nat} (hd : 2 ≤ d)  : ∀ (n : Nat) (l1 : Int32) (l2 : Int32) (l3 : Int32) (w : Nat) (M : jp_M) {res : jp_M}, f_K_wears_12 n  l1 l2 l3 M = some res → jR (jZ (jK Ln xs sv)) d 31 12 ([some (.inr (some 54)), some (.inl l1), some (.inl l2), some (.inl l3)], [], jSH w, M) (none, jSH w, res) := by
  intro n
  induction n with
  | zero =>
    intro l1 l2 l3 w M res hf
    cases hf
  | succ n ih =>
    intro l1 l2 l3 w M res hf
    rw [f_K_wears_12] at hf
    refine jR_in rfl ⟨rfl, rfl, rfl⟩ rfl ?_
    refine js_iload_n rfl ?_
    refine js_iload_n rfl ?_
    refine js_icmp (tgt := 71) rfl rfl (fun h => ?_) (fun h => ?_)
    · have hf := jif_t hf h
      refine jR_in rfl ⟨rfl, rfl, rfl⟩ rfl ?_
      obtain rfl := Option.some.inj hf
      exact js_ret rfl rfl
    · have hf := jif_f hf h
      refine js_aload_n rfl ?_
      refine js_getr rfl rfl rfl ?_
      refine js_getr rfl rfl rfl ?_
      refine js_bipush (v := (8 : Int32)) rfl ?_
      refine js_iload_n rfl ?_
      refine js_imul ?_
      refine js_bipush (v := (6 : Int32)) rfl ?_
      refine js_iadd ?_
      refine js_dup2 ?_
      obtain ⟨hb1, hf⟩ := jg_some hf
      refine js_iald rfl hb1 ?_
      refine js_iconst (v := (1 : Int32)) rfl ?_
      refine js_isub ?_
      obtain ⟨hb3, hf⟩ := jg_some hf
      refine js_iast rfl hb3 ?_
      refine js_aload_n rfl ?_
      refine js_getr rfl rfl rfl ?_
      refine js_getr rfl rfl rfl ?_
      refine js_bipush (v := (8 : Int32)) rfl ?_
      refine js_iload_n rfl ?_
      refine js_imul ?_
      refine js_bipush (v := (6 : Int32)) rfl ?_
      refine js_iadd ?_
      obtain ⟨hb4, hf⟩ := jg_some hf
      refine js_iald rfl hb4 ?_
      refine js_ifc (tgt := 62) rfl rfl (fun h => ?_) (fun h => ?_)
      · have hf := jif_t hf h
        refine jR_in rfl ⟨rfl, rfl, rfl⟩ rfl ?_
        refine js_iinc (v := (1 : Int32)) rfl rfl rfl rfl ?_
        exact jS_out rfl ⟨rfl, rfl, rfl⟩ rfl (t_K_wears_65 hd (fun l1 l2 l3 w M res hf => ih l1 l2 l3 w M hf) _ _ _ _ _ hf)
      · have hf := jif_f hf h
        refine js_aload_n rfl ?_
        refine js_iload_n rfl ?_
        obtain ⟨q5, hc_5, hf⟩ := jbind hf
        refine js_c2v (w := 0) rfl rfl ⟨rfl, rfl⟩ rfl rfl (t_K_closes hc_5) (by omega) ?_
        refine js_goto (tgt := 65) rfl rfl ?_
        exact t_K_wears_65 hd (fun l1 l2 l3 w M res hf => ih l1 l2 l3 w M hf) _ _ _ _ _ hf
def f_K_wears (M : jp_M) : Option (jp_M) :=
  f_K_wears_12 jFu (M 2 6) (0 : Int32) (0 : Int32) M
theorem t_K_wears {Ln : Nat} {xs : Nat → Int32} {sv : jp_V} {w : Nat} {M : jp_M} {res : jp_M} (hf : f_K_wears M = some res) : jE (jZ (jK Ln xs sv)) 2 31 [(.inr (some 54))] (jSH w) M (none, jSH w, res) := by
  unfold f_K_wears at hf
  refine jE_in (L0 := [some (.inr (some 54)), none, none, none]) rfl (Nat.le_of_ble_eq_true rfl) rfl (fun d hd => ?_)
  refine jR_in rfl ⟨rfl, rfl, rfl⟩ rfl ?_
  refine js_aload_n rfl ?_
  refine js_getr rfl rfl rfl ?_
  refine js_geti rfl rfl rfl ?_
  refine js_istore_n rfl rfl ?_
  refine js_iconst (v := (0 : Int32)) rfl ?_
  refine js_istore_n rfl rfl ?_
  refine js_iconst (v := (0 : Int32)) rfl ?_
  refine js_istore_n rfl rfl ?_
  exact jS_out rfl ⟨rfl, rfl, rfl⟩ rfl (t_K_wears_12 hd jFu _ _ _ _ _ hf)
/-! SwallowsAir$World.clearsMarksAndStoops()V -/
def f_W_clearsMarksAndStoops_29  : Nat → Int32 → jp_M → Option (jp_M)
  | 0, _, _ => none
  | n + 1, l1, M =>
    if jp_c .ge l1 (M 2 5) = true then (
    some M) else (
    jg (jp_in (((3 : Int32) * l1) + (2 : Int32)) 30) (
    let M1 := jp_set M 4 (upd (M 4) (Int32.toNatClampNeg (((3 : Int32) * l1) + (2 : Int32))) (0 : Int32))
    f_W_clearsMarksAndStoops_29 n (l1 + (1 : Int32)) M1))
theorem t_W_clearsMarksAndStoops_29 {Ln : Nat} {xs : Nat → Int32} {sv : jp_V} {d : Nat} (hd : 0 ≤ d)  : ∀ (n : Nat) (l1 : Int32) (w : Nat) (M : jp_M) {res : jp_M}, f_W_clearsMarksAndStoops_29 n  l1 M = some res → jR (jZ (jK Ln xs sv)) d 109 29 ([some (.inr (some 2)), some (.inl l1)], [], jSH w, M) (none, jSH w, res) := by
  intro n
  induction n with
  | zero =>
    intro l1 w M res hf
    cases hf
  | succ n ih =>
    intro l1 w M res hf
    rw [f_W_clearsMarksAndStoops_29] at hf
    refine jR_in rfl ⟨rfl, rfl, rfl⟩ rfl ?_
    refine js_iload_n rfl ?_
    refine js_aload_n rfl ?_
    refine js_geti rfl rfl rfl ?_
    refine js_icmp (tgt := 54) rfl rfl (fun h => ?_) (fun h => ?_)
    · have hf := jif_t hf h
      refine jR_in rfl ⟨rfl, rfl, rfl⟩ rfl ?_
      obtain rfl := Option.some.inj hf
      exact js_ret rfl rfl
    · have hf := jif_f hf h
      refine js_aload_n rfl ?_
      refine js_getr rfl rfl rfl ?_
      refine js_iconst (v := (3 : Int32)) rfl ?_
      refine js_iload_n rfl ?_
      refine js_imul ?_
      refine js_iconst (v := (2 : Int32)) rfl ?_
      refine js_iadd ?_
      refine js_iconst (v := (0 : Int32)) rfl ?_
      obtain ⟨hb2, hf⟩ := jg_some hf
      refine js_iast rfl hb2 ?_
      refine js_iinc (v := (1 : Int32)) rfl rfl rfl rfl ?_
      refine js_goto (tgt := 29) rfl rfl ?_
      exact ih _ _ _ hf
def f_W_clearsMarksAndStoops_2  : Nat → Int32 → jp_M → Option (jp_M)
  | 0, _, _ => none
  | n + 1, l1, M =>
    if jp_c .ge l1 (M 2 4) = true then (
    f_W_clearsMarksAndStoops_29 jFu (0 : Int32) M) else (
    jg (jp_in (((5 : Int32) * l1) + (3 : Int32)) 50) (
    let M1 := jp_set M 3 (upd (M 3) (Int32.toNatClampNeg (((5 : Int32) * l1) + (3 : Int32))) (0 : Int32))
    f_W_clearsMarksAndStoops_2 n (l1 + (1 : Int32)) M1))
theorem t_W_clearsMarksAndStoops_2 {Ln : Nat} {xs : Nat → Int32} {sv : jp_V} {d : Nat} (hd : 0 ≤ d)  : ∀ (n : Nat) (l1 : Int32) (w : Nat) (M : jp_M) {res : jp_M}, f_W_clearsMarksAndStoops_2 n  l1 M = some res → jR (jZ (jK Ln xs sv)) d 109 2 ([some (.inr (some 2)), some (.inl l1)], [], jSH w, M) (none, jSH w, res) := by
  intro n
  induction n with
  | zero =>
    intro l1 w M res hf
    cases hf
  | succ n ih =>
    intro l1 w M res hf
    rw [f_W_clearsMarksAndStoops_2] at hf
    refine jR_in rfl ⟨rfl, rfl, rfl⟩ rfl ?_
    refine js_iload_n rfl ?_
    refine js_aload_n rfl ?_
    refine js_geti rfl rfl rfl ?_
    refine js_icmp (tgt := 27) rfl rfl (fun h => ?_) (fun h => ?_)
    · have hf := jif_t hf h
      refine jR_in rfl ⟨rfl, rfl, rfl⟩ rfl ?_
      refine js_iconst (v := (0 : Int32)) rfl ?_
      refine js_istore_n rfl rfl ?_
      exact jS_out rfl ⟨rfl, rfl, rfl⟩ rfl (t_W_clearsMarksAndStoops_29 hd jFu _ _ _ hf)
    · have hf := jif_f hf h
      refine js_aload_n rfl ?_
      refine js_getr rfl rfl rfl ?_
      refine js_iconst (v := (5 : Int32)) rfl ?_
      refine js_iload_n rfl ?_
      refine js_imul ?_
      refine js_iconst (v := (3 : Int32)) rfl ?_
      refine js_iadd ?_
      refine js_iconst (v := (0 : Int32)) rfl ?_
      obtain ⟨hb2, hf⟩ := jg_some hf
      refine js_iast rfl hb2 ?_
      refine js_iinc (v := (1 : Int32)) rfl rfl rfl rfl ?_
      refine js_goto (tgt := 2) rfl rfl ?_
      exact ih _ _ _ hf
def f_W_clearsMarksAndStoops (M : jp_M) : Option (jp_M) :=
  f_W_clearsMarksAndStoops_2 jFu (0 : Int32) M
theorem t_W_clearsMarksAndStoops {Ln : Nat} {xs : Nat → Int32} {sv : jp_V} {w : Nat} {M : jp_M} {res : jp_M} (hf : f_W_clearsMarksAndStoops M = some res) : jE (jZ (jK Ln xs sv)) 0 109 [(.inr (some 2))] (jSH w) M (none, jSH w, res) := by
  unfold f_W_clearsMarksAndStoops at hf
  refine jE_in (L0 := [some (.inr (some 2)), none]) rfl (Nat.le_of_ble_eq_true rfl) rfl (fun d hd => ?_)
  refine jR_in rfl ⟨rfl, rfl, rfl⟩ rfl ?_
  refine js_iconst (v := (0 : Int32)) rfl ?_
  refine js_istore_n rfl rfl ?_
  exact jS_out rfl ⟨rfl, rfl, rfl⟩ rfl (t_W_clearsMarksAndStoops_2 hd jFu _ _ _ hf)
/-! SwallowsAir$Keeper.passesDay()I -/
def f_K_passesDay_51  (l1 : Int32) (M : jp_M) : Option (Int32 × jp_M) :=
  let M1 := jp_set M 2 (upd (M 2) 1 ((M 2 1) + (1 : Int32)))
  some (l1, M1)
theorem t_K_passesDay_51 {Ln : Nat} {xs : Nat → Int32} {sv : jp_V} {d : Nat} (hd : 6 ≤ d)  (l1 : Int32) (w : Nat) (M : jp_M) {res : Int32 × jp_M} (hf : f_K_passesDay_51  l1 M = some res) : jR (jZ (jK Ln xs sv)) d 27 51 ([some (.inr (some 54)), some (.inl l1)], [], jSH w, M) (some (.inl res.1), jSH w, res.2) := by
  unfold f_K_passesDay_51 at hf
  refine jR_in rfl ⟨rfl, rfl, rfl⟩ rfl ?_
  refine js_aload_n rfl ?_
  refine js_getr rfl rfl rfl ?_
  refine js_dup ?_
  refine js_geti rfl rfl rfl ?_
  refine js_iconst (v := (1 : Int32)) rfl ?_
  refine js_iadd ?_
  refine js_puti rfl rfl (Or.inl rfl) ?_
  refine js_iload_n rfl ?_
  obtain rfl := Option.some.inj hf
  exact js_iret rfl rfl
def f_K_passesDay_22  (s0 : Int32) (M : jp_M) : Option (Int32 × jp_M) :=
  (f_K_wears M).bind fun q1 => (
  if jp_c .ne ((q1 2 1) % (360 : Int32)) (270 : Int32) = true then (
  f_K_passesDay_51 s0 q1) else (
  (f_W_clearsMarksAndStoops q1).bind fun q2 => (
  f_K_passesDay_51 s0 q2)))
theorem t_K_passesDay_22 {Ln : Nat} {xs : Nat → Int32} {sv : jp_V} {d : Nat} (hd : 6 ≤ d)  (s0 : Int32) (o1 : Option jp_V) (w : Nat) (M : jp_M) {res : Int32 × jp_M} (hf : f_K_passesDay_22  s0 M = some res) : jR (jZ (jK Ln xs sv)) d 27 22 ([some (.inr (some 54)), o1], [.inl s0], jSH w, M) (some (.inl res.1), jSH w, res.2) := by
  unfold f_K_passesDay_22 at hf
  refine jR_in rfl ⟨rfl, rfl, rfl⟩ rfl ?_
  refine js_istore_n rfl rfl ?_
  refine js_aload_n rfl ?_
  obtain ⟨q1, hc_1, hf⟩ := jbind hf
  refine js_c1v (w := 0) rfl rfl ⟨rfl, rfl⟩ rfl rfl (t_K_wears hc_1) (by omega) ?_
  refine js_aload_n rfl ?_
  refine js_getr rfl rfl rfl ?_
  refine js_geti rfl rfl rfl ?_
  refine js_sipush (v := (360 : Int32)) rfl ?_
  refine js_irem (by decide) ?_
  refine js_sipush (v := (270 : Int32)) rfl ?_
  refine js_icmp (tgt := 51) rfl rfl (fun h => ?_) (fun h => ?_)
  · have hf := jif_t hf h
    exact t_K_passesDay_51 hd _ _ _ hf
  · have hf := jif_f hf h
    refine js_aload_n rfl ?_
    refine js_getr rfl rfl rfl ?_
    obtain ⟨q2, hc_2, hf⟩ := jbind hf
    refine js_c1v (w := 0) rfl rfl ⟨rfl, rfl⟩ rfl rfl (t_W_clearsMarksAndStoops hc_2) (by omega) ?_
    exact jS_out rfl ⟨rfl, rfl, rfl⟩ rfl (t_K_passesDay_51 hd _ _ _ hf)
def f_K_passesDay (M : jp_M) : Option (Int32 × jp_M) :=
  (f_K_hears M).bind fun q1 => (
  if jp_c .eq (f_W_isSummer q1) 0 = true then (
  f_K_passesDay_22 (0 : Int32) q1) else (
  (f_K_fines q1).bind fun q3 => (
  f_K_passesDay_22 (q3.1) (q3.2))))
theorem t_K_passesDay {Ln : Nat} {xs : Nat → Int32} {sv : jp_V} {w : Nat} {M : jp_M} {res : Int32 × jp_M} (hf : f_K_passesDay M = some res) : jE (jZ (jK Ln xs sv)) 6 27 [(.inr (some 54))] (jSH w) M (some (.inl res.1), jSH w, res.2) := by
  unfold f_K_passesDay at hf
  refine jE_in (L0 := [some (.inr (some 54)), none]) rfl (Nat.le_of_ble_eq_true rfl) rfl (fun d hd => ?_)
  refine jR_in rfl ⟨rfl, rfl, rfl⟩ rfl ?_
  refine js_aload_n rfl ?_
  obtain ⟨q1, hc_1, hf⟩ := jbind hf
  refine js_c1v (w := 0) rfl rfl ⟨rfl, rfl⟩ rfl rfl (t_K_hears hc_1) (by omega) ?_
  refine js_aload_n rfl ?_
  refine js_getr rfl rfl rfl ?_
  refine js_c1i rfl rfl ⟨rfl, rfl⟩ rfl rfl (t_W_isSummer rfl) (by omega) ?_
  refine js_ifc (tgt := 21) rfl rfl (fun h => ?_) (fun h => ?_)
  · have hf := jif_t hf h
    refine jR_in rfl ⟨rfl, rfl, rfl⟩ rfl ?_
    refine js_iconst (v := (0 : Int32)) rfl ?_
    exact jS_out rfl ⟨rfl, rfl, rfl⟩ rfl (t_K_passesDay_22 hd _ _ _ _ hf)
  · have hf := jif_f hf h
    refine js_aload_n rfl ?_
    obtain ⟨q3, hc_3, hf⟩ := jbind hf
    refine js_c1i rfl rfl ⟨rfl, rfl⟩ rfl rfl (t_K_fines hc_3) (by omega) ?_
    refine js_goto (tgt := 22) rfl rfl ?_
    exact t_K_passesDay_22 hd _ _ _ _ hf
/-! SwallowsAir.days(I)I -/
def f_C_days_31  : Nat → Int32 → Int32 → Int32 → jp_M → Option (Int32 × jp_M)
  | 0, _, _, _, _ => none
  | n + 1, l1, l2, l3, M =>
    if jp_c .ge l3 l1 = true then (
    some (l2, M)) else (
    (f_C_keep M).bind fun q1 => (
    (f_K_passesDay q1).bind fun q2 => (
    f_C_days_31 n l1 (l2 + q2.1) (l3 + (1 : Int32)) (q2.2))))
theorem t_C_days_31 {Ln : Nat} {xs : Nat → Int32} {sv : jp_V} {d : Nat} (hd : 7 ≤ d)  : ∀ (n : Nat) (l1 : Int32) (l2 : Int32) (l3 : Int32) (w : Nat) (M : jp_M) {res : Int32 × jp_M}, f_C_days_31 n  l1 l2 l3 M = some res → jR (jZ (jK Ln xs sv)) d 120 31 ([some (.inr (some 0)), some (.inl l1), some (.inl l2), some (.inl l3)], [], jSH w, M) (some (.inl res.1), jSH w, res.2) := by
  intro n
  induction n with
  | zero =>
    intro l1 l2 l3 w M res hf
    cases hf
  | succ n ih =>
    intro l1 l2 l3 w M res hf
    rw [f_C_days_31] at hf
    refine jR_in rfl ⟨rfl, rfl, rfl⟩ rfl ?_
    refine js_iload_n rfl ?_
    refine js_iload_n rfl ?_
    refine js_icmp (tgt := 56) rfl rfl (fun h => ?_) (fun h => ?_)
    · have hf := jif_t hf h
      refine jR_in rfl ⟨rfl, rfl, rfl⟩ rfl ?_
      refine js_iload_n rfl ?_
      obtain rfl := Option.some.inj hf
      exact js_iret rfl rfl
    · have hf := jif_f hf h
      refine js_aload_n rfl ?_
      obtain ⟨q1, hc_1, hf⟩ := jbind hf
      refine js_c1v (w := 0) rfl rfl ⟨rfl, rfl⟩ rfl rfl (t_C_keep hc_1) (by omega) ?_
      refine js_iload_n rfl ?_
      refine js_aload_n rfl ?_
      refine js_getr rfl rfl rfl ?_
      obtain ⟨q2, hc_2, hf⟩ := jbind hf
      refine js_c1i rfl rfl ⟨rfl, rfl⟩ rfl rfl (t_K_passesDay hc_2) (by omega) ?_
      refine js_iadd ?_
      refine js_istore_n rfl rfl ?_
      refine js_iinc (v := (1 : Int32)) rfl rfl rfl rfl ?_
      refine js_goto (tgt := 31) rfl rfl ?_
      exact ih _ _ _ _ _ hf
def f_C_days (a1 : Int32) (M : jp_M) : Option (Int32 × jp_M) :=
  if jp_c .eq (f_C_canGoBy a1) 0 = true then (
  some ((-1 : Int32), M)) else (
  if jp_c .le ((M 2 1) + a1) (9999 : Int32) = true then (
  f_C_days_31 jFu a1 (0 : Int32) (0 : Int32) M) else (
  some ((-1 : Int32), M)))
theorem t_C_days {Ln : Nat} {xs : Nat → Int32} {sv : jp_V} {a1 : Int32} {w : Nat} {M : jp_M} {res : Int32 × jp_M} (hf : f_C_days a1 M = some res) : jE (jZ (jK Ln xs sv)) 7 120 [(.inr (some 0)), (.inl a1)] (jSH w) M (some (.inl res.1), jSH w, res.2) := by
  unfold f_C_days at hf
  refine jE_in (L0 := [some (.inr (some 0)), some (.inl a1), none, none]) rfl (Nat.le_of_ble_eq_true rfl) rfl (fun d hd => ?_)
  refine jR_in rfl ⟨rfl, rfl, rfl⟩ rfl ?_
  refine js_iload_n rfl ?_
  refine js_c1i rfl rfl ⟨rfl, rfl⟩ rfl rfl (t_C_canGoBy rfl) (by omega) ?_
  refine js_ifc (tgt := 25) rfl rfl (fun h => ?_) (fun h => ?_)
  · have hf := jif_t hf h
    refine jR_in rfl ⟨rfl, rfl, rfl⟩ rfl ?_
    refine js_iconst (v := (-1 : Int32)) rfl ?_
    obtain rfl := Option.some.inj hf
    exact js_iret rfl rfl
  · have hf := jif_f hf h
    refine js_aload_n rfl ?_
    refine js_getr rfl rfl rfl ?_
    refine js_getr rfl rfl rfl ?_
    refine js_geti rfl rfl rfl ?_
    refine js_iload_n rfl ?_
    refine js_iadd ?_
    refine js_sipush (v := (9999 : Int32)) rfl ?_
    refine js_icmp (tgt := 27) rfl rfl (fun h => ?_) (fun h => ?_)
    · have hf := jif_t hf h
      refine jR_in rfl ⟨rfl, rfl, rfl⟩ rfl ?_
      refine js_iconst (v := (0 : Int32)) rfl ?_
      refine js_istore_n rfl rfl ?_
      refine js_iconst (v := (0 : Int32)) rfl ?_
      refine js_istore_n rfl rfl ?_
      exact jS_out rfl ⟨rfl, rfl, rfl⟩ rfl (t_C_days_31 hd jFu _ _ _ _ _ hf)
    · have hf := jif_f hf h
      refine js_iconst (v := (-1 : Int32)) rfl ?_
      obtain rfl := Option.some.inj hf
      exact js_iret rfl rfl
/-! SwallowsAir.putBytes(I)V -/
def f_C_putBytes_3  : Nat → Int32 → Int32 → jp_M → Option (jp_M)
  | 0, _, _, _ => none
  | n + 1, l1, l2, M =>
    if jp_c .lt l2 0 = true then (
    some M) else (
    if jp_c .ge (M 0 11) (400 : Int32) = true then (
    some M) else (
    jg (jp_in (M 0 11) 400) (
    let M1 := jp_set M 67 (upd (M 67) (Int32.toNatClampNeg (M 0 11)) (Int32.toInt8 (l1 >>> (l2 &&& 31))).toInt32)
    let M3 := jp_set M1 0 (upd (M1 0) 11 ((M1 0 11) + (1 : Int32)))
    f_C_putBytes_3 n l1 (l2 + (-8 : Int32)) M3)))
theorem t_C_putBytes_3 {Ln : Nat} {xs : Nat → Int32} {sv : jp_V} {d : Nat} (hd : 0 ≤ d)  : ∀ (n : Nat) (l1 : Int32) (l2 : Int32) (w : Nat) (M : jp_M) {res : jp_M}, f_C_putBytes_3 n  l1 l2 M = some res → jR (jZ (jK Ln xs sv)) d 158 3 ([some (.inr (some 0)), some (.inl l1), some (.inl l2)], [], jSH w, M) (none, jSH w, res) := by
  intro n
  induction n with
  | zero =>
    intro l1 l2 w M res hf
    cases hf
  | succ n ih =>
    intro l1 l2 w M res hf
    rw [f_C_putBytes_3] at hf
    refine jR_in rfl ⟨rfl, rfl, rfl⟩ rfl ?_
    refine js_iload_n rfl ?_
    refine js_ifc (tgt := 46) rfl rfl (fun h => ?_) (fun h => ?_)
    · have hf := jif_t hf h
      refine jR_in rfl ⟨rfl, rfl, rfl⟩ rfl ?_
      obtain rfl := Option.some.inj hf
      exact js_ret rfl rfl
    · have hf := jif_f hf h
      refine js_aload_n rfl ?_
      refine js_geti rfl rfl rfl ?_
      refine js_sipush (v := (400 : Int32)) rfl ?_
      refine js_icmp (tgt := 46) rfl rfl (fun h => ?_) (fun h => ?_)
      · have hf := jif_t hf h
        refine jR_in rfl ⟨rfl, rfl, rfl⟩ rfl ?_
        obtain rfl := Option.some.inj hf
        exact js_ret rfl rfl
      · have hf := jif_f hf h
        refine js_aload_n rfl ?_
        refine js_getr rfl rfl rfl ?_
        refine js_aload_n rfl ?_
        refine js_geti rfl rfl rfl ?_
        refine js_iload_n rfl ?_
        refine js_iload_n rfl ?_
        refine js_ishr ?_
        refine js_i2b ?_
        obtain ⟨hb2, hf⟩ := jg_some hf
        refine js_bast rfl hb2 ?_
        refine js_aload_n rfl ?_
        refine js_dup ?_
        refine js_geti rfl rfl rfl ?_
        refine js_iconst (v := (1 : Int32)) rfl ?_
        refine js_iadd ?_
        refine js_puti rfl rfl (Or.inl rfl) ?_
        refine js_iinc (v := (-8 : Int32)) rfl rfl rfl rfl ?_
        refine js_goto (tgt := 3) rfl rfl ?_
        exact ih _ _ _ _ hf
def f_C_putBytes (a1 : Int32) (M : jp_M) : Option (jp_M) :=
  f_C_putBytes_3 jFu a1 (24 : Int32) M
theorem t_C_putBytes {Ln : Nat} {xs : Nat → Int32} {sv : jp_V} {a1 : Int32} {w : Nat} {M : jp_M} {res : jp_M} (hf : f_C_putBytes a1 M = some res) : jE (jZ (jK Ln xs sv)) 0 158 [(.inr (some 0)), (.inl a1)] (jSH w) M (none, jSH w, res) := by
  unfold f_C_putBytes at hf
  refine jE_in (L0 := [some (.inr (some 0)), some (.inl a1), none]) rfl (Nat.le_of_ble_eq_true rfl) rfl (fun d hd => ?_)
  refine jR_in rfl ⟨rfl, rfl, rfl⟩ rfl ?_
  refine js_bipush (v := (24 : Int32)) rfl ?_
  refine js_istore_n rfl rfl ?_
  exact jS_out rfl ⟨rfl, rfl, rfl⟩ rfl (t_C_putBytes_3 hd jFu _ _ _ _ hf)
/-! SwallowsAir.feed(IIIII)I -/
def f_C_feed (a1 : Int32) (a2 : Int32) (a3 : Int32) (a4 : Int32) (a5 : Int32) (M : jp_M) : Option (Int32 × jp_M) :=
  if jp_c .le ((M 0 11) + (20 : Int32)) (400 : Int32) = true then (
  (f_C_putBytes a1 M).bind fun q1 => (
  (f_C_putBytes a2 q1).bind fun q2 => (
  (f_C_putBytes a3 q2).bind fun q3 => (
  (f_C_putBytes a4 q3).bind fun q4 => (
  (f_C_putBytes a5 q4).bind fun q5 => (
  some ((q5 0 11), q5))))))) else (
  some ((-1 : Int32), M))
theorem t_C_feed {Ln : Nat} {xs : Nat → Int32} {sv : jp_V} {a1 : Int32} {a2 : Int32} {a3 : Int32} {a4 : Int32} {a5 : Int32} {w : Nat} {M : jp_M} {res : Int32 × jp_M} (hf : f_C_feed a1 a2 a3 a4 a5 M = some res) : jE (jZ (jK Ln xs sv)) 1 121 [(.inr (some 0)), (.inl a1), (.inl a2), (.inl a3), (.inl a4), (.inl a5)] (jSH w) M (some (.inl res.1), jSH w, res.2) := by
  unfold f_C_feed at hf
  refine jE_in (L0 := [some (.inr (some 0)), some (.inl a1), some (.inl a2), some (.inl a3), some (.inl a4), some (.inl a5)]) rfl (Nat.le_of_ble_eq_true rfl) rfl (fun d hd => ?_)
  refine jR_in rfl ⟨rfl, rfl, rfl⟩ rfl ?_
  refine js_aload_n rfl ?_
  refine js_geti rfl rfl rfl ?_
  refine js_bipush (v := (20 : Int32)) rfl ?_
  refine js_iadd ?_
  refine js_sipush (v := (400 : Int32)) rfl ?_
  refine js_icmp (tgt := 15) rfl rfl (fun h => ?_) (fun h => ?_)
  · have hf := jif_t hf h
    refine jR_in rfl ⟨rfl, rfl, rfl⟩ rfl ?_
    refine js_aload_n rfl ?_
    refine js_iload_n rfl ?_
    obtain ⟨q1, hc_1, hf⟩ := jbind hf
    refine js_c2v (w := 0) rfl rfl ⟨rfl, rfl⟩ rfl rfl (t_C_putBytes hc_1) (by omega) ?_
    refine js_aload_n rfl ?_
    refine js_iload_n rfl ?_
    obtain ⟨q2, hc_2, hf⟩ := jbind hf
    refine js_c2v (w := 0) rfl rfl ⟨rfl, rfl⟩ rfl rfl (t_C_putBytes hc_2) (by omega) ?_
    refine js_aload_n rfl ?_
    refine js_iload_n rfl ?_
    obtain ⟨q3, hc_3, hf⟩ := jbind hf
    refine js_c2v (w := 0) rfl rfl ⟨rfl, rfl⟩ rfl rfl (t_C_putBytes hc_3) (by omega) ?_
    refine js_aload_n rfl ?_
    refine js_iload rfl ?_
    obtain ⟨q4, hc_4, hf⟩ := jbind hf
    refine js_c2v (w := 0) rfl rfl ⟨rfl, rfl⟩ rfl rfl (t_C_putBytes hc_4) (by omega) ?_
    refine js_aload_n rfl ?_
    refine js_iload rfl ?_
    obtain ⟨q5, hc_5, hf⟩ := jbind hf
    refine js_c2v (w := 0) rfl rfl ⟨rfl, rfl⟩ rfl rfl (t_C_putBytes hc_5) (by omega) ?_
    refine js_aload_n rfl ?_
    refine js_geti rfl rfl rfl ?_
    obtain rfl := Option.some.inj hf
    exact js_iret rfl rfl
  · have hf := jif_f hf h
    refine js_iconst (v := (-1 : Int32)) rfl ?_
    obtain rfl := Option.some.inj hf
    exact js_iret rfl rfl
/-! SwallowsAir.end(I)Z -/
def f_C_end (a1 : Int32) (M : jp_M) : Int32 × jp_M :=
  if jp_c .ne (f_C_within a1 (M 0 11)) 0 = true then (
  let M2 := jp_set M 0 (upd (M 0) 11 a1)
  ((1 : Int32), M2)) else (
  ((0 : Int32), M))
theorem t_C_end {Ln : Nat} {xs : Nat → Int32} {sv : jp_V} {a1 : Int32} {w : Nat} {M : jp_M} {res : Int32 × jp_M} (hf : f_C_end a1 M = res) : jE (jZ (jK Ln xs sv)) 1 122 [(.inr (some 0)), (.inl a1)] (jSH w) M (some (.inl res.1), jSH w, res.2) := by
  unfold f_C_end at hf
  refine jE_in (L0 := [some (.inr (some 0)), some (.inl a1)]) rfl (Nat.le_of_ble_eq_true rfl) rfl (fun d hd => ?_)
  refine jR_in rfl ⟨rfl, rfl, rfl⟩ rfl ?_
  refine js_iload_n rfl ?_
  refine js_aload_n rfl ?_
  refine js_geti rfl rfl rfl ?_
  refine js_c2i rfl rfl ⟨rfl, rfl⟩ rfl rfl (t_C_within rfl) (by omega) ?_
  refine js_ifc (tgt := 13) rfl rfl (fun h => ?_) (fun h => ?_)
  · have hf := jif_t hf h
    refine jR_in rfl ⟨rfl, rfl, rfl⟩ rfl ?_
    refine js_aload_n rfl ?_
    refine js_iload_n rfl ?_
    refine js_puti rfl rfl (Or.inl rfl) ?_
    refine js_iconst (v := (1 : Int32)) rfl ?_
    subst hf
    exact js_iret rfl rfl
  · have hf := jif_f hf h
    refine js_iconst (v := (0 : Int32)) rfl ?_
    subst hf
    exact js_iret rfl rfl
theorem b_C_end {a1 : Int32} {M : jp_M} {res : Int32 × jp_M} (hf : f_C_end a1 M = res) : res.1 = 0 ∨ res.1 = 1 := by
  unfold f_C_end at hf
  rcases jif_d hf with ⟨h, hf⟩ | ⟨h, hf⟩
  · subst hf
    exact Or.inr rfl
  · subst hf
    exact Or.inl rfl
/-! SwallowsAir$Reader.isLetter(B)Z -/
def f_R_isLetter_24   : Int32 :=
  (1 : Int32)
theorem t_R_isLetter_24 {Ln : Nat} {xs : Nat → Int32} {sv : jp_V} {d : Nat} (hd : 0 ≤ d)  (o0 : Option jp_V) (w : Nat) (M : jp_M) {res : Int32} (hf : f_R_isLetter_24   = res) : jR (jZ (jK Ln xs sv)) d 69 24 ([o0], [], jSH w, M) (some (.inl res), jSH w, M) := by
  unfold f_R_isLetter_24 at hf
  refine jR_in rfl ⟨rfl, rfl, rfl⟩ rfl ?_
  refine js_iconst (v := (1 : Int32)) rfl ?_
  refine js_goto (tgt := 29) rfl rfl ?_
  refine jR_in rfl ⟨rfl, rfl, rfl⟩ rfl ?_
  subst hf
  exact js_iret rfl rfl
theorem b_R_isLetter_24   {res : Int32} (hf : f_R_isLetter_24   = res) : res = 0 ∨ res = 1 := by
  unfold f_R_isLetter_24 at hf
  subst hf
  exact Or.inr rfl
def f_R_isLetter_12  (l0 : Int32) : Int32 :=
  if jp_c .lt l0 (65 : Int32) = true then (
  (0 : Int32)) else (
  if jp_c .gt l0 (90 : Int32) = true then (
  (0 : Int32)) else (
  f_R_isLetter_24))
theorem t_R_isLetter_12 {Ln : Nat} {xs : Nat → Int32} {sv : jp_V} {d : Nat} (hd : 0 ≤ d)  (l0 : Int32) (w : Nat) (M : jp_M) {res : Int32} (hf : f_R_isLetter_12  l0 = res) : jR (jZ (jK Ln xs sv)) d 69 12 ([some (.inl l0)], [], jSH w, M) (some (.inl res), jSH w, M) := by
  unfold f_R_isLetter_12 at hf
  refine jR_in rfl ⟨rfl, rfl, rfl⟩ rfl ?_
  refine js_iload_n rfl ?_
  refine js_bipush (v := (65 : Int32)) rfl ?_
  refine js_icmp (tgt := 28) rfl rfl (fun h => ?_) (fun h => ?_)
  · have hf := jif_t hf h
    refine jR_in rfl ⟨rfl, rfl, rfl⟩ rfl ?_
    refine js_iconst (v := (0 : Int32)) rfl ?_
    subst hf
    exact js_iret rfl rfl
  · have hf := jif_f hf h
    refine js_iload_n rfl ?_
    refine js_bipush (v := (90 : Int32)) rfl ?_
    refine js_icmp (tgt := 28) rfl rfl (fun h => ?_) (fun h => ?_)
    · have hf := jif_t hf h
      refine jR_in rfl ⟨rfl, rfl, rfl⟩ rfl ?_
      refine js_iconst (v := (0 : Int32)) rfl ?_
      subst hf
      exact js_iret rfl rfl
    · have hf := jif_f hf h
      exact jS_out rfl ⟨rfl, rfl, rfl⟩ rfl (t_R_isLetter_24 hd _ _ _ hf)
theorem b_R_isLetter_12  (l0 : Int32) {res : Int32} (hf : f_R_isLetter_12  l0 = res) : res = 0 ∨ res = 1 := by
  unfold f_R_isLetter_12 at hf
  rcases jif_d hf with ⟨h, hf⟩ | ⟨h, hf⟩
  · subst hf
    exact Or.inl rfl
  · rcases jif_d hf with ⟨h, hf⟩ | ⟨h, hf⟩
    · subst hf
      exact Or.inl rfl
    · exact b_R_isLetter_24 hf
def f_R_isLetter (a0 : Int32) : Int32 :=
  if jp_c .lt a0 (97 : Int32) = true then (
  f_R_isLetter_12 a0) else (
  if jp_c .le a0 (122 : Int32) = true then (
  f_R_isLetter_24) else (
  f_R_isLetter_12 a0))
theorem t_R_isLetter {Ln : Nat} {xs : Nat → Int32} {sv : jp_V} {a0 : Int32} {w : Nat} {M : jp_M} {res : Int32} (hf : f_R_isLetter a0 = res) : jE (jZ (jK Ln xs sv)) 0 69 [(.inl a0)] (jSH w) M (some (.inl res), jSH w, M) := by
  unfold f_R_isLetter at hf
  refine jE_in (L0 := [some (.inl a0)]) rfl (Nat.le_of_ble_eq_true rfl) rfl (fun d hd => ?_)
  refine jR_in rfl ⟨rfl, rfl, rfl⟩ rfl ?_
  refine js_iload_n rfl ?_
  refine js_bipush (v := (97 : Int32)) rfl ?_
  refine js_icmp (tgt := 12) rfl rfl (fun h => ?_) (fun h => ?_)
  · have hf := jif_t hf h
    exact t_R_isLetter_12 hd _ _ _ hf
  · have hf := jif_f hf h
    refine js_iload_n rfl ?_
    refine js_bipush (v := (122 : Int32)) rfl ?_
    refine js_icmp (tgt := 24) rfl rfl (fun h => ?_) (fun h => ?_)
    · have hf := jif_t hf h
      exact t_R_isLetter_24 hd _ _ _ hf
    · have hf := jif_f hf h
      exact jS_out rfl ⟨rfl, rfl, rfl⟩ rfl (t_R_isLetter_12 hd _ _ _ hf)
theorem b_R_isLetter {a0 : Int32} {res : Int32} (hf : f_R_isLetter a0 = res) : res = 0 ∨ res = 1 := by
  unfold f_R_isLetter at hf
  rcases jif_d hf with ⟨h, hf⟩ | ⟨h, hf⟩
  · exact b_R_isLetter_12 _ hf
  · rcases jif_d hf with ⟨h, hf⟩ | ⟨h, hf⟩
    · exact b_R_isLetter_24 hf
    · exact b_R_isLetter_12 _ hf
/-! java/lang/String.coder()B -/
def f_JS_coder  : Int32 :=
  if jp_c .eq (1 : Int32) 0 = true then (
  (1 : Int32)) else (
  (0 : Int32))
theorem t_JS_coder {Ln : Nat} {xs : Nat → Int32} {sv : jp_V} {w : Nat} {M : jp_M} {res : Int32} (hf : f_JS_coder  = res) : jE (jZ (jK Ln xs sv)) 0 307 [(.inr (some 1000))] (jSH w) M (some (.inl res), jSH w, M) := by
  unfold f_JS_coder at hf
  refine jE_in (L0 := [some (.inr (some 1000))]) rfl (Nat.le_of_ble_eq_true rfl) rfl (fun d hd => ?_)
  refine jR_in rfl ⟨rfl, rfl, rfl⟩ rfl ?_
  refine js_gets rfl ?_
  refine js_ifc (tgt := 13) rfl rfl (fun h => ?_) (fun h => ?_)
  · have hf := jif_t hf h
    refine jR_in rfl ⟨rfl, rfl, rfl⟩ rfl ?_
    refine js_iconst (v := (1 : Int32)) rfl ?_
    subst hf
    exact js_iret rfl rfl
  · have hf := jif_f hf h
    refine js_aload_n rfl ?_
    refine js_getK rfl rfl ?_
    refine js_goto (tgt := 14) rfl rfl ?_
    refine jR_in rfl ⟨rfl, rfl, rfl⟩ rfl ?_
    subst hf
    exact js_iret rfl rfl
/-! java/lang/String.length()I -/
def f_JS_length  : Int32 :=
  ((85 : Int32) >>> ((f_JS_coder) &&& 31))
theorem t_JS_length {Ln : Nat} {xs : Nat → Int32} {sv : jp_V} {w : Nat} {M : jp_M} {res : Int32} (hf : f_JS_length  = res) : jE (jZ (jK Ln xs sv)) 1 303 [(.inr (some 1000))] (jSH w) M (some (.inl res), jSH w, M) := by
  unfold f_JS_length at hf
  refine jE_in (L0 := [some (.inr (some 1000))]) rfl (Nat.le_of_ble_eq_true rfl) rfl (fun d hd => ?_)
  refine jR_in rfl ⟨rfl, rfl, rfl⟩ rfl ?_
  refine js_aload_n rfl ?_
  refine js_getK rfl rfl ?_
  refine js_alenK (v := (85 : Int32)) rfl rfl rfl ?_
  refine js_aload_n rfl ?_
  refine js_c1i rfl rfl ⟨rfl, rfl⟩ rfl rfl (t_JS_coder rfl) (by omega) ?_
  refine js_ishr ?_
  subst hf
  exact js_iret rfl rfl
/-! java/lang/String.isLatin1()Z -/
def f_JS_isLatin1  : Int32 :=
  if jp_c .eq (1 : Int32) 0 = true then (
  (0 : Int32)) else (
  if jp_c .ne (0 : Int32) 0 = true then (
  (0 : Int32)) else (
  (1 : Int32)))
theorem t_JS_isLatin1 {Ln : Nat} {xs : Nat → Int32} {sv : jp_V} {w : Nat} {M : jp_M} {res : Int32} (hf : f_JS_isLatin1  = res) : jE (jZ (jK Ln xs sv)) 0 308 [(.inr (some 1000))] (jSH w) M (some (.inl res), jSH w, M) := by
  unfold f_JS_isLatin1 at hf
  refine jE_in (L0 := [some (.inr (some 1000))]) rfl (Nat.le_of_ble_eq_true rfl) rfl (fun d hd => ?_)
  refine jR_in rfl ⟨rfl, rfl, rfl⟩ rfl ?_
  refine js_gets rfl ?_
  refine js_ifc (tgt := 17) rfl rfl (fun h => ?_) (fun h => ?_)
  · have hf := jif_t hf h
    refine jR_in rfl ⟨rfl, rfl, rfl⟩ rfl ?_
    refine js_iconst (v := (0 : Int32)) rfl ?_
    subst hf
    exact js_iret rfl rfl
  · have hf := jif_f hf h
    refine js_aload_n rfl ?_
    refine js_getK rfl rfl ?_
    refine js_ifc (tgt := 17) rfl rfl (fun h => ?_) (fun h => ?_)
    · have hf := jif_t hf h
      refine jR_in rfl ⟨rfl, rfl, rfl⟩ rfl ?_
      refine js_iconst (v := (0 : Int32)) rfl ?_
      subst hf
      exact js_iret rfl rfl
    · have hf := jif_f hf h
      refine js_iconst (v := (1 : Int32)) rfl ?_
      refine js_goto (tgt := 18) rfl rfl ?_
      refine jR_in rfl ⟨rfl, rfl, rfl⟩ rfl ?_
      subst hf
      exact js_iret rfl rfl
theorem b_JS_isLatin1  {res : Int32} (hf : f_JS_isLatin1  = res) : res = 0 ∨ res = 1 := by
  unfold f_JS_isLatin1 at hf
  rcases jif_d hf with ⟨h, hf⟩ | ⟨h, hf⟩
  · subst hf
    exact Or.inl rfl
  · rcases jif_d hf with ⟨h, hf⟩ | ⟨h, hf⟩
    · subst hf
      exact Or.inl rfl
    · subst hf
      exact Or.inr rfl
/-! jdk/internal/util/Preconditions.checkIndex(IILjava/util/function/BiFunction;)I -/
def f_JP_checkIndex_9  (l0 : Int32) (l1 : Int32) : Option (Int32) :=
  none
theorem t_JP_checkIndex_9 {Ln : Nat} {xs : Nat → Int32} {sv : jp_V} {d : Nat} (hd : 0 ≤ d)  (l0 : Int32) (l1 : Int32) (w : Nat) (M : jp_M) {res : Int32} (hf : f_JP_checkIndex_9  l0 l1 = some res) : jR (jZ (jK Ln xs sv)) d 314 9 ([some (.inl l0), some (.inl l1), some sv], [], jSH w, M) (some (.inl res), jSH w, M) := by
  unfold f_JP_checkIndex_9 at hf
  refine jR_in rfl ⟨rfl, rfl, rfl⟩ rfl ?_
  cases hf
def f_JP_checkIndex (a0 : Int32) (a1 : Int32) : Option (Int32) :=
  if jp_c .lt a0 0 = true then (
  f_JP_checkIndex_9 a0 a1) else (
  if jp_c .lt a0 a1 = true then (
  some a0) else (
  f_JP_checkIndex_9 a0 a1))
theorem t_JP_checkIndex {Ln : Nat} {xs : Nat → Int32} {sv : jp_V} {a0 : Int32} {a1 : Int32} {w : Nat} {M : jp_M} {res : Int32} (hf : f_JP_checkIndex a0 a1 = some res) : jE (jZ (jK Ln xs sv)) 0 314 [(.inl a0), (.inl a1), sv] (jSH w) M (some (.inl res), jSH w, M) := by
  unfold f_JP_checkIndex at hf
  refine jE_in (L0 := [some (.inl a0), some (.inl a1), some sv]) rfl (Nat.le_of_ble_eq_true rfl) rfl (fun d hd => ?_)
  refine jR_in rfl ⟨rfl, rfl, rfl⟩ rfl ?_
  refine js_iload_n rfl ?_
  refine js_ifc (tgt := 9) rfl rfl (fun h => ?_) (fun h => ?_)
  · have hf := jif_t hf h
    exact t_JP_checkIndex_9 hd _ _ _ _ hf
  · have hf := jif_f hf h
    refine js_iload_n rfl ?_
    refine js_iload_n rfl ?_
    refine js_icmp (tgt := 16) rfl rfl (fun h => ?_) (fun h => ?_)
    · have hf := jif_t hf h
      refine jR_in rfl ⟨rfl, rfl, rfl⟩ rfl ?_
      refine js_iload_n rfl ?_
      obtain rfl := Option.some.inj hf
      exact js_iret rfl rfl
    · have hf := jif_f hf h
      exact jS_out rfl ⟨rfl, rfl, rfl⟩ rfl (t_JP_checkIndex_9 hd _ _ _ _ hf)
/-! java/lang/String.checkIndex(II)V -/
def f_JS_checkIndex (a0 : Int32) (a1 : Int32) : Option (Unit) :=
  (f_JP_checkIndex a0 a1).bind fun q1 => (
  some ())
theorem t_JS_checkIndex {Ln : Nat} {xs : Nat → Int32} {sv : jp_V} {a0 : Int32} {a1 : Int32} {w : Nat} {M : jp_M} {res : Unit} (hf : f_JS_checkIndex a0 a1 = some res) : jE (jZ (jK Ln xs sv)) 1 309 [(.inl a0), (.inl a1)] (jSH w) M (none, jSH w, M) := by
  unfold f_JS_checkIndex at hf
  refine jE_in (L0 := [some (.inl a0), some (.inl a1)]) rfl (Nat.le_of_ble_eq_true rfl) rfl (fun d hd => ?_)
  refine jR_in rfl ⟨rfl, rfl, rfl⟩ rfl ?_
  refine js_iload_n rfl ?_
  refine js_iload_n rfl ?_
  refine js_gets rfl ?_
  obtain ⟨q1, hc_1, hf⟩ := jbind hf
  refine js_c3i rfl rfl ⟨rfl, rfl⟩ rfl rfl (t_JP_checkIndex hc_1) (by omega) ?_
  refine js_pop ?_
  skip
  exact js_ret rfl rfl
/-! java/lang/StringLatin1.charAt([BI)C -/
def f_JL_charAt (a1 : Int32) : Option (Int32) :=
  (f_JS_checkIndex a1 (85 : Int32)).bind fun q1 => (
  jg (jp_in a1 85) (
  jg (jp_rok 3 ((Int32.toUInt32 ((jcon 2002 (Int32.toNatClampNeg a1)) &&& (255 : Int32)) % 65536).toInt32) = true) (
  some ((Int32.toUInt32 ((jcon 2002 (Int32.toNatClampNeg a1)) &&& (255 : Int32)) % 65536).toInt32))))
theorem t_JL_charAt {Ln : Nat} {xs : Nat → Int32} {sv : jp_V} {a1 : Int32} {w : Nat} {M : jp_M} {res : Int32} (hf : f_JL_charAt a1 = some res) : jE (jZ (jK Ln xs sv)) 2 310 [(.inr (some 2002)), (.inl a1)] (jSH w) M (some (.inl res), jSH w, M) := by
  unfold f_JL_charAt at hf
  refine jE_in (L0 := [some (.inr (some 2002)), some (.inl a1)]) rfl (Nat.le_of_ble_eq_true rfl) rfl (fun d hd => ?_)
  refine jR_in rfl ⟨rfl, rfl, rfl⟩ rfl ?_
  refine js_iload_n rfl ?_
  refine js_aload_n rfl ?_
  refine js_alenK (v := (85 : Int32)) rfl rfl rfl ?_
  obtain ⟨q1, hc_1, hf⟩ := jbind hf
  refine js_c2v (w := 0) rfl rfl ⟨rfl, rfl⟩ rfl rfl (t_JS_checkIndex hc_1) (by omega) ?_
  refine js_aload_n rfl ?_
  refine js_iload_n rfl ?_
  obtain ⟨hb2, hf⟩ := jg_some hf
  refine js_baldK rfl rfl hb2 ?_
  refine js_sipush (v := (255 : Int32)) rfl ?_
  refine js_iand ?_
  refine js_i2c ?_
  obtain ⟨hb3, hf⟩ := jg_some hf
  obtain rfl := Option.some.inj hf
  exact js_iret hb3 rfl
/-! java/lang/String.charAt(I)C -/
def f_JS_charAt (a1 : Int32) : Option (Int32) :=
  if jp_c .eq (f_JS_isLatin1) 0 = true then (
  none) else (
  (f_JL_charAt a1).bind fun q2 => (
  jg (jp_rok 3 q2 = true) (
  some q2)))
theorem t_JS_charAt {Ln : Nat} {xs : Nat → Int32} {sv : jp_V} {a1 : Int32} {w : Nat} {M : jp_M} {res : Int32} (hf : f_JS_charAt a1 = some res) : jE (jZ (jK Ln xs sv)) 3 304 [(.inr (some 1000)), (.inl a1)] (jSH w) M (some (.inl res), jSH w, M) := by
  unfold f_JS_charAt at hf
  refine jE_in (L0 := [some (.inr (some 1000)), some (.inl a1)]) rfl (Nat.le_of_ble_eq_true rfl) rfl (fun d hd => ?_)
  refine jR_in rfl ⟨rfl, rfl, rfl⟩ rfl ?_
  refine js_aload_n rfl ?_
  refine js_c1i rfl rfl ⟨rfl, rfl⟩ rfl rfl (t_JS_isLatin1 rfl) (by omega) ?_
  refine js_ifc (tgt := 16) rfl rfl (fun h => ?_) (fun h => ?_)
  · have hf := jif_t hf h
    refine jR_in rfl ⟨rfl, rfl, rfl⟩ rfl ?_
    refine js_aload_n rfl ?_
    refine js_getK rfl rfl ?_
    refine js_iload_n rfl ?_
    cases hf
  · have hf := jif_f hf h
    refine js_aload_n rfl ?_
    refine js_getK rfl rfl ?_
    refine js_iload_n rfl ?_
    obtain ⟨q2, hc_2, hf⟩ := jbind hf
    refine js_c2i rfl rfl ⟨rfl, rfl⟩ rfl rfl (t_JL_charAt hc_2) (by omega) ?_
    obtain ⟨hb3, hf⟩ := jg_some hf
    obtain rfl := Option.some.inj hf
    exact js_iret hb3 rfl
/-! SwallowsAir$Reader.wordNumber()I -/
def f_R_wordNumber_101 (c9 : Int32 → Int32 → Int32 → Int32 → jp_M → Option (Int32)) (l1 : Int32) (l2 : Int32) (l3 : Int32) (l4 : Int32) (M : jp_M) : Option (Int32) :=
  c9 l1 l2 l3 (l4 + (1 : Int32)) M
theorem t_R_wordNumber_101 {Ln : Nat} {xs : Nat → Int32} {sv : jp_V} {d : Nat} (hd : 4 ≤ d) {c9 : Int32 → Int32 → Int32 → Int32 → jp_M → Option (Int32)} (hc9 : ∀ (l1 : Int32) (l2 : Int32) (l3 : Int32) (l4 : Int32) (o5 : Option jp_V) (M : jp_M) (res : Int32), c9 l1 l2 l3 l4 M = some res → jR (jZ (jK Ln xs sv)) d 71 12 ([some (.inr (some 68)), some (.inl l1), some (.inl l2), some (.inl l3), some (.inl l4), o5], [], jSH 1000, M) (some (.inl res), jSH 1000, M)) (l1 : Int32) (l2 : Int32) (l3 : Int32) (l4 : Int32) (o5 : Option jp_V) (M : jp_M) {res : Int32} (hf : f_R_wordNumber_101 c9 l1 l2 l3 l4 M = some res) : jR (jZ (jK Ln xs sv)) d 71 101 ([some (.inr (some 68)), some (.inl l1), some (.inl l2), some (.inl l3), some (.inl l4), o5], [], jSH 1000, M) (some (.inl res), jSH 1000, M) := by
  unfold f_R_wordNumber_101 at hf
  refine jR_in rfl ⟨rfl, rfl, rfl⟩ rfl ?_
  refine js_iinc (v := (1 : Int32)) rfl rfl rfl rfl ?_
  refine js_goto (tgt := 12) rfl rfl ?_
  exact hc9 _ _ _ _ _ _ _ hf
def f_R_wordNumber_70 (c9 : Int32 → Int32 → Int32 → Int32 → jp_M → Option (Int32)) (l1 : Int32) (l2 : Int32) (l4 : Int32) (s0 : Int32) (M : jp_M) : Option (Int32) :=
  f_R_wordNumber_101 c9 l1 (l2 + (1 : Int32)) s0 l4 M
theorem t_R_wordNumber_70 {Ln : Nat} {xs : Nat → Int32} {sv : jp_V} {d : Nat} (hd : 4 ≤ d) {c9 : Int32 → Int32 → Int32 → Int32 → jp_M → Option (Int32)} (hc9 : ∀ (l1 : Int32) (l2 : Int32) (l3 : Int32) (l4 : Int32) (o5 : Option jp_V) (M : jp_M) (res : Int32), c9 l1 l2 l3 l4 M = some res → jR (jZ (jK Ln xs sv)) d 71 12 ([some (.inr (some 68)), some (.inl l1), some (.inl l2), some (.inl l3), some (.inl l4), o5], [], jSH 1000, M) (some (.inl res), jSH 1000, M)) (l1 : Int32) (l2 : Int32) (l4 : Int32) (s0 : Int32) (o3 : Option jp_V) (o5 : Option jp_V) (M : jp_M) {res : Int32} (hf : f_R_wordNumber_70 c9 l1 l2 l4 s0 M = some res) : jR (jZ (jK Ln xs sv)) d 71 70 ([some (.inr (some 68)), some (.inl l1), some (.inl l2), o3, some (.inl l4), o5], [.inl s0], jSH 1000, M) (some (.inl res), jSH 1000, M) := by
  unfold f_R_wordNumber_70 at hf
  refine jR_in rfl ⟨rfl, rfl, rfl⟩ rfl ?_
  refine js_istore_n rfl rfl ?_
  refine js_iinc (v := (1 : Int32)) rfl rfl rfl rfl ?_
  refine js_goto (tgt := 101) rfl rfl ?_
  exact t_R_wordNumber_101 hd hc9 _ _ _ _ _ _ hf
def f_R_wordNumber_69 (c9 : Int32 → Int32 → Int32 → Int32 → jp_M → Option (Int32)) (l1 : Int32) (l2 : Int32) (l4 : Int32) (M : jp_M) : Option (Int32) :=
  f_R_wordNumber_70 c9 l1 l2 l4 (0 : Int32) M
theorem t_R_wordNumber_69 {Ln : Nat} {xs : Nat → Int32} {sv : jp_V} {d : Nat} (hd : 4 ≤ d) {c9 : Int32 → Int32 → Int32 → Int32 → jp_M → Option (Int32)} (hc9 : ∀ (l1 : Int32) (l2 : Int32) (l3 : Int32) (l4 : Int32) (o5 : Option jp_V) (M : jp_M) (res : Int32), c9 l1 l2 l3 l4 M = some res → jR (jZ (jK Ln xs sv)) d 71 12 ([some (.inr (some 68)), some (.inl l1), some (.inl l2), some (.inl l3), some (.inl l4), o5], [], jSH 1000, M) (some (.inl res), jSH 1000, M)) (l1 : Int32) (l2 : Int32) (l4 : Int32) (o3 : Option jp_V) (o5 : Option jp_V) (M : jp_M) {res : Int32} (hf : f_R_wordNumber_69 c9 l1 l2 l4 M = some res) : jR (jZ (jK Ln xs sv)) d 71 69 ([some (.inr (some 68)), some (.inl l1), some (.inl l2), o3, some (.inl l4), o5], [], jSH 1000, M) (some (.inl res), jSH 1000, M) := by
  unfold f_R_wordNumber_69 at hf
  refine jR_in rfl ⟨rfl, rfl, rfl⟩ rfl ?_
  refine js_iconst (v := (0 : Int32)) rfl ?_
  exact jS_out rfl ⟨rfl, rfl, rfl⟩ rfl (t_R_wordNumber_70 hd hc9 _ _ _ _ _ _ _ hf)
def f_R_wordNumber_91 (c9 : Int32 → Int32 → Int32 → Int32 → jp_M → Option (Int32)) (l1 : Int32) (l4 : Int32) (M : jp_M) : Option (Int32) :=
  f_R_wordNumber_101 c9 (l1 + (1 : Int32)) (M 68 3) (1 : Int32) l4 M
theorem t_R_wordNumber_91 {Ln : Nat} {xs : Nat → Int32} {sv : jp_V} {d : Nat} (hd : 4 ≤ d) {c9 : Int32 → Int32 → Int32 → Int32 → jp_M → Option (Int32)} (hc9 : ∀ (l1 : Int32) (l2 : Int32) (l3 : Int32) (l4 : Int32) (o5 : Option jp_V) (M : jp_M) (res : Int32), c9 l1 l2 l3 l4 M = some res → jR (jZ (jK Ln xs sv)) d 71 12 ([some (.inr (some 68)), some (.inl l1), some (.inl l2), some (.inl l3), some (.inl l4), o5], [], jSH 1000, M) (some (.inl res), jSH 1000, M)) (l1 : Int32) (l4 : Int32) (o2 : Option jp_V) (o3 : Option jp_V) (o5 : Option jp_V) (M : jp_M) {res : Int32} (hf : f_R_wordNumber_91 c9 l1 l4 M = some res) : jR (jZ (jK Ln xs sv)) d 71 91 ([some (.inr (some 68)), some (.inl l1), o2, o3, some (.inl l4), o5], [], jSH 1000, M) (some (.inl res), jSH 1000, M) := by
  unfold f_R_wordNumber_91 at hf
  refine jR_in rfl ⟨rfl, rfl, rfl⟩ rfl ?_
  refine js_iinc (v := (1 : Int32)) rfl rfl rfl rfl ?_
  refine js_aload_n rfl ?_
  refine js_geti rfl rfl rfl ?_
  refine js_istore_n rfl rfl ?_
  refine js_iconst (v := (1 : Int32)) rfl ?_
  refine js_istore_n rfl rfl ?_
  exact jS_out rfl ⟨rfl, rfl, rfl⟩ rfl (t_R_wordNumber_101 hd hc9 _ _ _ _ _ _ hf)
def f_R_wordNumber_12  : Nat → Int32 → Int32 → Int32 → Int32 → jp_M → Option (Int32)
  | 0, _, _, _, _, _ => none
  | n + 1, l1, l2, l3, l4, M =>
    if jp_c .ge l4 (f_JS_length) = true then (
    some (-1 : Int32)) else (
    (f_JS_charAt l4).bind fun q2 => (
    if jp_c .eq q2 (32 : Int32) = true then (
    if jp_c .eq l3 0 = true then (
    f_R_wordNumber_91 (f_R_wordNumber_12 n ) l1 l4 M) else (
    if jp_c .ne l2 (M 68 4) = true then (
    f_R_wordNumber_91 (f_R_wordNumber_12 n ) l1 l4 M) else (
    some l1))) else (
    if jp_c .eq l3 0 = true then (
    f_R_wordNumber_69 (f_R_wordNumber_12 n ) l1 l2 l4 M) else (
    if jp_c .ge l2 (M 68 4) = true then (
    f_R_wordNumber_69 (f_R_wordNumber_12 n ) l1 l2 l4 M) else (
    jg (jp_in l2 400) (
    if jp_c .ne (Int32.toInt8 (M 67 (Int32.toNatClampNeg l2))).toInt32 q2 = true then (
    f_R_wordNumber_69 (f_R_wordNumber_12 n ) l1 l2 l4 M) else (
    f_R_wordNumber_70 (f_R_wordNumber_12 n ) l1 l2 l4 (1 : Int32) M)))))))
theorem t_R_wordNumber_12 {Ln : Nat} {xs : Nat → Int32} {sv : jp_V} {d : Nat} (hd : 4 ≤ d)  : ∀ (n : Nat) (l1 : Int32) (l2 : Int32) (l3 : Int32) (l4 : Int32) (o5 : Option jp_V) (M : jp_M) {res : Int32}, f_R_wordNumber_12 n  l1 l2 l3 l4 M = some res → jR (jZ (jK Ln xs sv)) d 71 12 ([some (.inr (some 68)), some (.inl l1), some (.inl l2), some (.inl l3), some (.inl l4), o5], [], jSH 1000, M) (some (.inl res), jSH 1000, M) := by
  intro n
  induction n with
  | zero =>
    intro l1 l2 l3 l4 o5 M res hf
    cases hf
  | succ n ih =>
    intro l1 l2 l3 l4 o5 M res hf
    rw [f_R_wordNumber_12] at hf
    refine jR_in rfl ⟨rfl, rfl, rfl⟩ rfl ?_
    refine js_iload rfl ?_
    refine js_aload_n rfl ?_
    refine js_getr rfl rfl rfl ?_
    refine js_c1i rfl rfl ⟨rfl, rfl⟩ rfl rfl (t_JS_length rfl) (by omega) ?_
    refine js_icmp (tgt := 107) rfl rfl (fun h => ?_) (fun h => ?_)
    · have hf := jif_t hf h
      refine jR_in rfl ⟨rfl, rfl, rfl⟩ rfl ?_
      refine js_iconst (v := (-1 : Int32)) rfl ?_
      obtain rfl := Option.some.inj hf
      exact js_iret rfl rfl
    · have hf := jif_f hf h
      refine js_aload_n rfl ?_
      refine js_getr rfl rfl rfl ?_
      refine js_iload rfl ?_
      obtain ⟨q2, hc_2, hf⟩ := jbind hf
      refine js_c2i rfl rfl ⟨rfl, rfl⟩ rfl rfl (t_JS_charAt hc_2) (by omega) ?_
      refine js_istore rfl rfl ?_
      refine js_iload rfl ?_
      refine js_bipush (v := (32 : Int32)) rfl ?_
      refine js_icmp (tgt := 77) rfl rfl (fun h => ?_) (fun h => ?_)
      · have hf := jif_t hf h
        refine jR_in rfl ⟨rfl, rfl, rfl⟩ rfl ?_
        refine js_iload_n rfl ?_
        refine js_ifc (tgt := 91) rfl rfl (fun h => ?_) (fun h => ?_)
        · have hf := jif_t hf h
          exact t_R_wordNumber_91 hd (fun l1 l2 l3 l4 o5 M res hf => ih l1 l2 l3 l4 o5 M hf) _ _ _ _ _ _ hf
        · have hf := jif_f hf h
          refine js_iload_n rfl ?_
          refine js_aload_n rfl ?_
          refine js_geti rfl rfl rfl ?_
          refine js_icmp (tgt := 91) rfl rfl (fun h => ?_) (fun h => ?_)
          · have hf := jif_t hf h
            exact t_R_wordNumber_91 hd (fun l1 l2 l3 l4 o5 M res hf => ih l1 l2 l3 l4 o5 M hf) _ _ _ _ _ _ hf
          · have hf := jif_f hf h
            refine js_iload_n rfl ?_
            obtain rfl := Option.some.inj hf
            exact js_iret rfl rfl
      · have hf := jif_f hf h
        refine js_iload_n rfl ?_
        refine js_ifc (tgt := 69) rfl rfl (fun h => ?_) (fun h => ?_)
        · have hf := jif_t hf h
          exact t_R_wordNumber_69 hd (fun l1 l2 l3 l4 o5 M res hf => ih l1 l2 l3 l4 o5 M hf) _ _ _ _ _ _ hf
        · have hf := jif_f hf h
          refine js_iload_n rfl ?_
          refine js_aload_n rfl ?_
          refine js_geti rfl rfl rfl ?_
          refine js_icmp (tgt := 69) rfl rfl (fun h => ?_) (fun h => ?_)
          · have hf := jif_t hf h
            exact t_R_wordNumber_69 hd (fun l1 l2 l3 l4 o5 M res hf => ih l1 l2 l3 l4 o5 M hf) _ _ _ _ _ _ hf
          · have hf := jif_f hf h
            refine js_aload_n rfl ?_
            refine js_getr rfl rfl rfl ?_
            refine js_iload_n rfl ?_
            obtain ⟨hb3, hf⟩ := jg_some hf
            refine js_bald rfl hb3 ?_
            refine js_iload rfl ?_
            refine js_icmp (tgt := 69) rfl rfl (fun h => ?_) (fun h => ?_)
            · have hf := jif_t hf h
              exact t_R_wordNumber_69 hd (fun l1 l2 l3 l4 o5 M res hf => ih l1 l2 l3 l4 o5 M hf) _ _ _ _ _ _ hf
            · have hf := jif_f hf h
              refine js_iconst (v := (1 : Int32)) rfl ?_
              refine js_goto (tgt := 70) rfl rfl ?_
              exact t_R_wordNumber_70 hd (fun l1 l2 l3 l4 o5 M res hf => ih l1 l2 l3 l4 o5 M hf) _ _ _ _ _ _ _ hf
def f_R_wordNumber (M : jp_M) : Option (Int32) :=
  f_R_wordNumber_12 jFu (0 : Int32) (M 68 3) (1 : Int32) (0 : Int32) M
theorem t_R_wordNumber {Ln : Nat} {xs : Nat → Int32} {sv : jp_V} {M : jp_M} {res : Int32} (hf : f_R_wordNumber M = some res) : jE (jZ (jK Ln xs sv)) 4 71 [(.inr (some 68))] (jSH 1000) M (some (.inl res), jSH 1000, M) := by
  unfold f_R_wordNumber at hf
  refine jE_in (L0 := [some (.inr (some 68)), none, none, none, none, none]) rfl (Nat.le_of_ble_eq_true rfl) rfl (fun d hd => ?_)
  refine jR_in rfl ⟨rfl, rfl, rfl⟩ rfl ?_
  refine js_iconst (v := (0 : Int32)) rfl ?_
  refine js_istore_n rfl rfl ?_
  refine js_aload_n rfl ?_
  refine js_geti rfl rfl rfl ?_
  refine js_istore_n rfl rfl ?_
  refine js_iconst (v := (1 : Int32)) rfl ?_
  refine js_istore_n rfl rfl ?_
  refine js_iconst (v := (0 : Int32)) rfl ?_
  refine js_istore rfl rfl ?_
  exact jS_out rfl ⟨rfl, rfl, rfl⟩ rfl (t_R_wordNumber_12 hd jFu _ _ _ _ _ _ hf)
/-! java/lang/String.coder()B -/
def f_JS_coder_1  : Int32 :=
  if jp_c .eq (1 : Int32) 0 = true then (
  (1 : Int32)) else (
  (0 : Int32))
theorem t_JS_coder_1 {Ln : Nat} {xs : Nat → Int32} {sv : jp_V} {w : Nat} {M : jp_M} {res : Int32} (hf : f_JS_coder_1  = res) : jE (jZ (jK Ln xs sv)) 0 307 [(.inr (some 1001))] (jSH w) M (some (.inl res), jSH w, M) := by
  unfold f_JS_coder_1 at hf
  refine jE_in (L0 := [some (.inr (some 1001))]) rfl (Nat.le_of_ble_eq_true rfl) rfl (fun d hd => ?_)
  refine jR_in rfl ⟨rfl, rfl, rfl⟩ rfl ?_
  refine js_gets rfl ?_
  refine js_ifc (tgt := 13) rfl rfl (fun h => ?_) (fun h => ?_)
  · have hf := jif_t hf h
    refine jR_in rfl ⟨rfl, rfl, rfl⟩ rfl ?_
    refine js_iconst (v := (1 : Int32)) rfl ?_
    subst hf
    exact js_iret rfl rfl
  · have hf := jif_f hf h
    refine js_aload_n rfl ?_
    refine js_getK rfl rfl ?_
    refine js_goto (tgt := 14) rfl rfl ?_
    refine jR_in rfl ⟨rfl, rfl, rfl⟩ rfl ?_
    subst hf
    exact js_iret rfl rfl
/-! java/lang/String.length()I -/
def f_JS_length_1  : Int32 :=
  ((57 : Int32) >>> ((f_JS_coder_1) &&& 31))
theorem t_JS_length_1 {Ln : Nat} {xs : Nat → Int32} {sv : jp_V} {w : Nat} {M : jp_M} {res : Int32} (hf : f_JS_length_1  = res) : jE (jZ (jK Ln xs sv)) 1 303 [(.inr (some 1001))] (jSH w) M (some (.inl res), jSH w, M) := by
  unfold f_JS_length_1 at hf
  refine jE_in (L0 := [some (.inr (some 1001))]) rfl (Nat.le_of_ble_eq_true rfl) rfl (fun d hd => ?_)
  refine jR_in rfl ⟨rfl, rfl, rfl⟩ rfl ?_
  refine js_aload_n rfl ?_
  refine js_getK rfl rfl ?_
  refine js_alenK (v := (57 : Int32)) rfl rfl rfl ?_
  refine js_aload_n rfl ?_
  refine js_c1i rfl rfl ⟨rfl, rfl⟩ rfl rfl (t_JS_coder_1 rfl) (by omega) ?_
  refine js_ishr ?_
  subst hf
  exact js_iret rfl rfl
/-! java/lang/String.isLatin1()Z -/
def f_JS_isLatin1_1  : Int32 :=
  if jp_c .eq (1 : Int32) 0 = true then (
  (0 : Int32)) else (
  if jp_c .ne (0 : Int32) 0 = true then (
  (0 : Int32)) else (
  (1 : Int32)))
theorem t_JS_isLatin1_1 {Ln : Nat} {xs : Nat → Int32} {sv : jp_V} {w : Nat} {M : jp_M} {res : Int32} (hf : f_JS_isLatin1_1  = res) : jE (jZ (jK Ln xs sv)) 0 308 [(.inr (some 1001))] (jSH w) M (some (.inl res), jSH w, M) := by
  unfold f_JS_isLatin1_1 at hf
  refine jE_in (L0 := [some (.inr (some 1001))]) rfl (Nat.le_of_ble_eq_true rfl) rfl (fun d hd => ?_)
  refine jR_in rfl ⟨rfl, rfl, rfl⟩ rfl ?_
  refine js_gets rfl ?_
  refine js_ifc (tgt := 17) rfl rfl (fun h => ?_) (fun h => ?_)
  · have hf := jif_t hf h
    refine jR_in rfl ⟨rfl, rfl, rfl⟩ rfl ?_
    refine js_iconst (v := (0 : Int32)) rfl ?_
    subst hf
    exact js_iret rfl rfl
  · have hf := jif_f hf h
    refine js_aload_n rfl ?_
    refine js_getK rfl rfl ?_
    refine js_ifc (tgt := 17) rfl rfl (fun h => ?_) (fun h => ?_)
    · have hf := jif_t hf h
      refine jR_in rfl ⟨rfl, rfl, rfl⟩ rfl ?_
      refine js_iconst (v := (0 : Int32)) rfl ?_
      subst hf
      exact js_iret rfl rfl
    · have hf := jif_f hf h
      refine js_iconst (v := (1 : Int32)) rfl ?_
      refine js_goto (tgt := 18) rfl rfl ?_
      refine jR_in rfl ⟨rfl, rfl, rfl⟩ rfl ?_
      subst hf
      exact js_iret rfl rfl
theorem b_JS_isLatin1_1  {res : Int32} (hf : f_JS_isLatin1_1  = res) : res = 0 ∨ res = 1 := by
  unfold f_JS_isLatin1_1 at hf
  rcases jif_d hf with ⟨h, hf⟩ | ⟨h, hf⟩
  · subst hf
    exact Or.inl rfl
  · rcases jif_d hf with ⟨h, hf⟩ | ⟨h, hf⟩
    · subst hf
      exact Or.inl rfl
    · subst hf
      exact Or.inr rfl
/-! java/lang/StringLatin1.charAt([BI)C -/
def f_JL_charAt_1 (a1 : Int32) : Option (Int32) :=
  (f_JS_checkIndex a1 (57 : Int32)).bind fun q1 => (
  jg (jp_in a1 57) (
  jg (jp_rok 3 ((Int32.toUInt32 ((jcon 2003 (Int32.toNatClampNeg a1)) &&& (255 : Int32)) % 65536).toInt32) = true) (
  some ((Int32.toUInt32 ((jcon 2003 (Int32.toNatClampNeg a1)) &&& (255 : Int32)) % 65536).toInt32))))
theorem t_JL_charAt_1 {Ln : Nat} {xs : Nat → Int32} {sv : jp_V} {a1 : Int32} {w : Nat} {M : jp_M} {res : Int32} (hf : f_JL_charAt_1 a1 = some res) : jE (jZ (jK Ln xs sv)) 2 310 [(.inr (some 2003)), (.inl a1)] (jSH w) M (some (.inl res), jSH w, M) := by
  unfold f_JL_charAt_1 at hf
  refine jE_in (L0 := [some (.inr (some 2003)), some (.inl a1)]) rfl (Nat.le_of_ble_eq_true rfl) rfl (fun d hd => ?_)
  refine jR_in rfl ⟨rfl, rfl, rfl⟩ rfl ?_
  refine js_iload_n rfl ?_
  refine js_aload_n rfl ?_
  refine js_alenK (v := (57 : Int32)) rfl rfl rfl ?_
  obtain ⟨q1, hc_1, hf⟩ := jbind hf
  refine js_c2v (w := 0) rfl rfl ⟨rfl, rfl⟩ rfl rfl (t_JS_checkIndex hc_1) (by omega) ?_
  refine js_aload_n rfl ?_
  refine js_iload_n rfl ?_
  obtain ⟨hb2, hf⟩ := jg_some hf
  refine js_baldK rfl rfl hb2 ?_
  refine js_sipush (v := (255 : Int32)) rfl ?_
  refine js_iand ?_
  refine js_i2c ?_
  obtain ⟨hb3, hf⟩ := jg_some hf
  obtain rfl := Option.some.inj hf
  exact js_iret hb3 rfl
/-! java/lang/String.charAt(I)C -/
def f_JS_charAt_1 (a1 : Int32) : Option (Int32) :=
  if jp_c .eq (f_JS_isLatin1_1) 0 = true then (
  none) else (
  (f_JL_charAt_1 a1).bind fun q2 => (
  jg (jp_rok 3 q2 = true) (
  some q2)))
theorem t_JS_charAt_1 {Ln : Nat} {xs : Nat → Int32} {sv : jp_V} {a1 : Int32} {w : Nat} {M : jp_M} {res : Int32} (hf : f_JS_charAt_1 a1 = some res) : jE (jZ (jK Ln xs sv)) 3 304 [(.inr (some 1001)), (.inl a1)] (jSH w) M (some (.inl res), jSH w, M) := by
  unfold f_JS_charAt_1 at hf
  refine jE_in (L0 := [some (.inr (some 1001)), some (.inl a1)]) rfl (Nat.le_of_ble_eq_true rfl) rfl (fun d hd => ?_)
  refine jR_in rfl ⟨rfl, rfl, rfl⟩ rfl ?_
  refine js_aload_n rfl ?_
  refine js_c1i rfl rfl ⟨rfl, rfl⟩ rfl rfl (t_JS_isLatin1_1 rfl) (by omega) ?_
  refine js_ifc (tgt := 16) rfl rfl (fun h => ?_) (fun h => ?_)
  · have hf := jif_t hf h
    refine jR_in rfl ⟨rfl, rfl, rfl⟩ rfl ?_
    refine js_aload_n rfl ?_
    refine js_getK rfl rfl ?_
    refine js_iload_n rfl ?_
    cases hf
  · have hf := jif_f hf h
    refine js_aload_n rfl ?_
    refine js_getK rfl rfl ?_
    refine js_iload_n rfl ?_
    obtain ⟨q2, hc_2, hf⟩ := jbind hf
    refine js_c2i rfl rfl ⟨rfl, rfl⟩ rfl rfl (t_JL_charAt_1 hc_2) (by omega) ?_
    obtain ⟨hb3, hf⟩ := jg_some hf
    obtain rfl := Option.some.inj hf
    exact js_iret hb3 rfl
/-! SwallowsAir$Reader.wordNumber()I -/
def f_R_wordNumber_1_101 (c9 : Int32 → Int32 → Int32 → Int32 → jp_M → Option (Int32)) (l1 : Int32) (l2 : Int32) (l3 : Int32) (l4 : Int32) (M : jp_M) : Option (Int32) :=
  c9 l1 l2 l3 (l4 + (1 : Int32)) M
theorem t_R_wordNumber_1_101 {Ln : Nat} {xs : Nat → Int32} {sv : jp_V} {d : Nat} (hd : 4 ≤ d) {c9 : Int32 → Int32 → Int32 → Int32 → jp_M → Option (Int32)} (hc9 : ∀ (l1 : Int32) (l2 : Int32) (l3 : Int32) (l4 : Int32) (o5 : Option jp_V) (M : jp_M) (res : Int32), c9 l1 l2 l3 l4 M = some res → jR (jZ (jK Ln xs sv)) d 71 12 ([some (.inr (some 68)), some (.inl l1), some (.inl l2), some (.inl l3), some (.inl l4), o5], [], jSH 1001, M) (some (.inl res), jSH 1001, M)) (l1 : Int32) (l2 : Int32) (l3 : Int32) (l4 : Int32) (o5 : Option jp_V) (M : jp_M) {res : Int32} (hf : f_R_wordNumber_1_101 c9 l1 l2 l3 l4 M = some res) : jR (jZ (jK Ln xs sv)) d 71 101 ([some (.inr (some 68)), some (.inl l1), some (.inl l2), some (.inl l3), some (.inl l4), o5], [], jSH 1001, M) (some (.inl res), jSH 1001, M) := by
  unfold f_R_wordNumber_1_101 at hf
  refine jR_in rfl ⟨rfl, rfl, rfl⟩ rfl ?_
  refine js_iinc (v := (1 : Int32)) rfl rfl rfl rfl ?_
  refine js_goto (tgt := 12) rfl rfl ?_
  exact hc9 _ _ _ _ _ _ _ hf
def f_R_wordNumber_1_70 (c9 : Int32 → Int32 → Int32 → Int32 → jp_M → Option (Int32)) (l1 : Int32) (l2 : Int32) (l4 : Int32) (s0 : Int32) (M : jp_M) : Option (Int32) :=
  f_R_wordNumber_1_101 c9 l1 (l2 + (1 : Int32)) s0 l4 M
theorem t_R_wordNumber_1_70 {Ln : Nat} {xs : Nat → Int32} {sv : jp_V} {d : Nat} (hd : 4 ≤ d) {c9 : Int32 → Int32 → Int32 → Int32 → jp_M → Option (Int32)} (hc9 : ∀ (l1 : Int32) (l2 : Int32) (l3 : Int32) (l4 : Int32) (o5 : Option jp_V) (M : jp_M) (res : Int32), c9 l1 l2 l3 l4 M = some res → jR (jZ (jK Ln xs sv)) d 71 12 ([some (.inr (some 68)), some (.inl l1), some (.inl l2), some (.inl l3), some (.inl l4), o5], [], jSH 1001, M) (some (.inl res), jSH 1001, M)) (l1 : Int32) (l2 : Int32) (l4 : Int32) (s0 : Int32) (o3 : Option jp_V) (o5 : Option jp_V) (M : jp_M) {res : Int32} (hf : f_R_wordNumber_1_70 c9 l1 l2 l4 s0 M = some res) : jR (jZ (jK Ln xs sv)) d 71 70 ([some (.inr (some 68)), some (.inl l1), some (.inl l2), o3, some (.inl l4), o5], [.inl s0], jSH 1001, M) (some (.inl res), jSH 1001, M) := by
  unfold f_R_wordNumber_1_70 at hf
  refine jR_in rfl ⟨rfl, rfl, rfl⟩ rfl ?_
  refine js_istore_n rfl rfl ?_
  refine js_iinc (v := (1 : Int32)) rfl rfl rfl rfl ?_
  refine js_goto (tgt := 101) rfl rfl ?_
  exact t_R_wordNumber_1_101 hd hc9 _ _ _ _ _ _ hf
def f_R_wordNumber_1_69 (c9 : Int32 → Int32 → Int32 → Int32 → jp_M → Option (Int32)) (l1 : Int32) (l2 : Int32) (l4 : Int32) (M : jp_M) : Option (Int32) :=
  f_R_wordNumber_1_70 c9 l1 l2 l4 (0 : Int32) M
theorem t_R_wordNumber_1_69 {Ln : Nat} {xs : Nat → Int32} {sv : jp_V} {d : Nat} (hd : 4 ≤ d) {c9 : Int32 → Int32 → Int32 → Int32 → jp_M → Option (Int32)} (hc9 : ∀ (l1 : Int32) (l2 : Int32) (l3 : Int32) (l4 : Int32) (o5 : Option jp_V) (M : jp_M) (res : Int32), c9 l1 l2 l3 l4 M = some res → jR (jZ (jK Ln xs sv)) d 71 12 ([some (.inr (some 68)), some (.inl l1), some (.inl l2), some (.inl l3), some (.inl l4), o5], [], jSH 1001, M) (some (.inl res), jSH 1001, M)) (l1 : Int32) (l2 : Int32) (l4 : Int32) (o3 : Option jp_V) (o5 : Option jp_V) (M : jp_M) {res : Int32} (hf : f_R_wordNumber_1_69 c9 l1 l2 l4 M = some res) : jR (jZ (jK Ln xs sv)) d 71 69 ([some (.inr (some 68)), some (.inl l1), some (.inl l2), o3, some (.inl l4), o5], [], jSH 1001, M) (some (.inl res), jSH 1001, M) := by
  unfold f_R_wordNumber_1_69 at hf
  refine jR_in rfl ⟨rfl, rfl, rfl⟩ rfl ?_
  refine js_iconst (v := (0 : Int32)) rfl ?_
  exact jS_out rfl ⟨rfl, rfl, rfl⟩ rfl (t_R_wordNumber_1_70 hd hc9 _ _ _ _ _ _ _ hf)
def f_R_wordNumber_1_91 (c9 : Int32 → Int32 → Int32 → Int32 → jp_M → Option (Int32)) (l1 : Int32) (l4 : Int32) (M : jp_M) : Option (Int32) :=
  f_R_wordNumber_1_101 c9 (l1 + (1 : Int32)) (M 68 3) (1 : Int32) l4 M
theorem t_R_wordNumber_1_91 {Ln : Nat} {xs : Nat → Int32} {sv : jp_V} {d : Nat} (hd : 4 ≤ d) {c9 : Int32 → Int32 → Int32 → Int32 → jp_M → Option (Int32)} (hc9 : ∀ (l1 : Int32) (l2 : Int32) (l3 : Int32) (l4 : Int32) (o5 : Option jp_V) (M : jp_M) (res : Int32), c9 l1 l2 l3 l4 M = some res → jR (jZ (jK Ln xs sv)) d 71 12 ([some (.inr (some 68)), some (.inl l1), some (.inl l2), some (.inl l3), some (.inl l4), o5], [], jSH 1001, M) (some (.inl res), jSH 1001, M)) (l1 : Int32) (l4 : Int32) (o2 : Option jp_V) (o3 : Option jp_V) (o5 : Option jp_V) (M : jp_M) {res : Int32} (hf : f_R_wordNumber_1_91 c9 l1 l4 M = some res) : jR (jZ (jK Ln xs sv)) d 71 91 ([some (.inr (some 68)), some (.inl l1), o2, o3, some (.inl l4), o5], [], jSH 1001, M) (some (.inl res), jSH 1001, M) := by
  unfold f_R_wordNumber_1_91 at hf
  refine jR_in rfl ⟨rfl, rfl, rfl⟩ rfl ?_
  refine js_iinc (v := (1 : Int32)) rfl rfl rfl rfl ?_
  refine js_aload_n rfl ?_
  refine js_geti rfl rfl rfl ?_
  refine js_istore_n rfl rfl ?_
  refine js_iconst (v := (1 : Int32)) rfl ?_
  refine js_istore_n rfl rfl ?_
  exact jS_out rfl ⟨rfl, rfl, rfl⟩ rfl (t_R_wordNumber_1_101 hd hc9 _ _ _ _ _ _ hf)
def f_R_wordNumber_1_12  : Nat → Int32 → Int32 → Int32 → Int32 → jp_M → Option (Int32)
  | 0, _, _, _, _, _ => none
  | n + 1, l1, l2, l3, l4, M =>
    if jp_c .ge l4 (f_JS_length_1) = true then (
    some (-1 : Int32)) else (
    (f_JS_charAt_1 l4).bind fun q2 => (
    if jp_c .eq q2 (32 : Int32) = true then (
    if jp_c .eq l3 0 = true then (
    f_R_wordNumber_1_91 (f_R_wordNumber_1_12 n ) l1 l4 M) else (
    if jp_c .ne l2 (M 68 4) = true then (
    f_R_wordNumber_1_91 (f_R_wordNumber_1_12 n ) l1 l4 M) else (
    some l1))) else (
    if jp_c .eq l3 0 = true then (
    f_R_wordNumber_1_69 (f_R_wordNumber_1_12 n ) l1 l2 l4 M) else (
    if jp_c .ge l2 (M 68 4) = true then (
    f_R_wordNumber_1_69 (f_R_wordNumber_1_12 n ) l1 l2 l4 M) else (
    jg (jp_in l2 400) (
    if jp_c .ne (Int32.toInt8 (M 67 (Int32.toNatClampNeg l2))).toInt32 q2 = true then (
    f_R_wordNumber_1_69 (f_R_wordNumber_1_12 n ) l1 l2 l4 M) else (
    f_R_wordNumber_1_70 (f_R_wordNumber_1_12 n ) l1 l2 l4 (1 : Int32) M)))))))
theorem t_R_wordNumber_1_12 {Ln : Nat} {xs : Nat → Int32} {sv : jp_V} {d : Nat} (hd : 4 ≤ d)  : ∀ (n : Nat) (l1 : Int32) (l2 : Int32) (l3 : Int32) (l4 : Int32) (o5 : Option jp_V) (M : jp_M) {res : Int32}, f_R_wordNumber_1_12 n  l1 l2 l3 l4 M = some res → jR (jZ (jK Ln xs sv)) d 71 12 ([some (.inr (some 68)), some (.inl l1), some (.inl l2), some (.inl l3), some (.inl l4), o5], [], jSH 1001, M) (some (.inl res), jSH 1001, M) := by
  intro n
  induction n with
  | zero =>
    intro l1 l2 l3 l4 o5 M res hf
    cases hf
  | succ n ih =>
    intro l1 l2 l3 l4 o5 M res hf
    rw [f_R_wordNumber_1_12] at hf
    refine jR_in rfl ⟨rfl, rfl, rfl⟩ rfl ?_
    refine js_iload rfl ?_
    refine js_aload_n rfl ?_
    refine js_getr rfl rfl rfl ?_
    refine js_c1i rfl rfl ⟨rfl, rfl⟩ rfl rfl (t_JS_length_1 rfl) (by omega) ?_
    refine js_icmp (tgt := 107) rfl rfl (fun h => ?_) (fun h => ?_)
    · have hf := jif_t hf h
      refine jR_in rfl ⟨rfl, rfl, rfl⟩ rfl ?_
      refine js_iconst (v := (-1 : Int32)) rfl ?_
      obtain rfl := Option.some.inj hf
      exact js_iret rfl rfl
    · have hf := jif_f hf h
      refine js_aload_n rfl ?_
      refine js_getr rfl rfl rfl ?_
      refine js_iload rfl ?_
      obtain ⟨q2, hc_2, hf⟩ := jbind hf
      refine js_c2i rfl rfl ⟨rfl, rfl⟩ rfl rfl (t_JS_charAt_1 hc_2) (by omega) ?_
      refine js_istore rfl rfl ?_
      refine js_iload rfl ?_
      refine js_bipush (v := (32 : Int32)) rfl ?_
      refine js_icmp (tgt := 77) rfl rfl (fun h => ?_) (fun h => ?_)
      · have hf := jif_t hf h
        refine jR_in rfl ⟨rfl, rfl, rfl⟩ rfl ?_
        refine js_iload_n rfl ?_
        refine js_ifc (tgt := 91) rfl rfl (fun h => ?_) (fun h => ?_)
        · have hf := jif_t hf h
          exact t_R_wordNumber_1_91 hd (fun l1 l2 l3 l4 o5 M res hf => ih l1 l2 l3 l4 o5 M hf) _ _ _ _ _ _ hf
        · have hf := jif_f hf h
          refine js_iload_n rfl ?_
          refine js_aload_n rfl ?_
          refine js_geti rfl rfl rfl ?_
          refine js_icmp (tgt := 91) rfl rfl (fun h => ?_) (fun h => ?_)
          · have hf := jif_t hf h
            exact t_R_wordNumber_1_91 hd (fun l1 l2 l3 l4 o5 M res hf => ih l1 l2 l3 l4 o5 M hf) _ _ _ _ _ _ hf
          · have hf := jif_f hf h
            refine js_iload_n rfl ?_
            obtain rfl := Option.some.inj hf
            exact js_iret rfl rfl
      · have hf := jif_f hf h
        refine js_iload_n rfl ?_
        refine js_ifc (tgt := 69) rfl rfl (fun h => ?_) (fun h => ?_)
        · have hf := jif_t hf h
          exact t_R_wordNumber_1_69 hd (fun l1 l2 l3 l4 o5 M res hf => ih l1 l2 l3 l4 o5 M hf) _ _ _ _ _ _ hf
        · have hf := jif_f hf h
          refine js_iload_n rfl ?_
          refine js_aload_n rfl ?_
          refine js_geti rfl rfl rfl ?_
          refine js_icmp (tgt := 69) rfl rfl (fun h => ?_) (fun h => ?_)
          · have hf := jif_t hf h
            exact t_R_wordNumber_1_69 hd (fun l1 l2 l3 l4 o5 M res hf => ih l1 l2 l3 l4 o5 M hf) _ _ _ _ _ _ hf
          · have hf := jif_f hf h
            refine js_aload_n rfl ?_
            refine js_getr rfl rfl rfl ?_
            refine js_iload_n rfl ?_
            obtain ⟨hb3, hf⟩ := jg_some hf
            refine js_bald rfl hb3 ?_
            refine js_iload rfl ?_
            refine js_icmp (tgt := 69) rfl rfl (fun h => ?_) (fun h => ?_)
            · have hf := jif_t hf h
              exact t_R_wordNumber_1_69 hd (fun l1 l2 l3 l4 o5 M res hf => ih l1 l2 l3 l4 o5 M hf) _ _ _ _ _ _ hf
            · have hf := jif_f hf h
              refine js_iconst (v := (1 : Int32)) rfl ?_
              refine js_goto (tgt := 70) rfl rfl ?_
              exact t_R_wordNumber_1_70 hd (fun l1 l2 l3 l4 o5 M res hf => ih l1 l2 l3 l4 o5 M hf) _ _ _ _ _ _ _ hf
def f_R_wordNumber_1 (M : jp_M) : Option (Int32) :=
  f_R_wordNumber_1_12 jFu (0 : Int32) (M 68 3) (1 : Int32) (0 : Int32) M
theorem t_R_wordNumber_1 {Ln : Nat} {xs : Nat → Int32} {sv : jp_V} {M : jp_M} {res : Int32} (hf : f_R_wordNumber_1 M = some res) : jE (jZ (jK Ln xs sv)) 4 71 [(.inr (some 68))] (jSH 1001) M (some (.inl res), jSH 1001, M) := by
  unfold f_R_wordNumber_1 at hf
  refine jE_in (L0 := [some (.inr (some 68)), none, none, none, none, none]) rfl (Nat.le_of_ble_eq_true rfl) rfl (fun d hd => ?_)
  refine jR_in rfl ⟨rfl, rfl, rfl⟩ rfl ?_
  refine js_iconst (v := (0 : Int32)) rfl ?_
  refine js_istore_n rfl rfl ?_
  refine js_aload_n rfl ?_
  refine js_geti rfl rfl rfl ?_
  refine js_istore_n rfl rfl ?_
  refine js_iconst (v := (1 : Int32)) rfl ?_
  refine js_istore_n rfl rfl ?_
  refine js_iconst (v := (0 : Int32)) rfl ?_
  refine js_istore rfl rfl ?_
  exact jS_out rfl ⟨rfl, rfl, rfl⟩ rfl (t_R_wordNumber_1_12 hd jFu _ _ _ _ _ _ hf)
/-! java/lang/String.coder()B -/
def f_JS_coder_2  : Int32 :=
  if jp_c .eq (1 : Int32) 0 = true then (
  (1 : Int32)) else (
  (0 : Int32))
theorem t_JS_coder_2 {Ln : Nat} {xs : Nat → Int32} {sv : jp_V} {w : Nat} {M : jp_M} {res : Int32} (hf : f_JS_coder_2  = res) : jE (jZ (jK Ln xs sv)) 0 307 [(.inr (some 1002))] (jSH w) M (some (.inl res), jSH w, M) := by
  unfold f_JS_coder_2 at hf
  refine jE_in (L0 := [some (.inr (some 1002))]) rfl (Nat.le_of_ble_eq_true rfl) rfl (fun d hd => ?_)
  refine jR_in rfl ⟨rfl, rfl, rfl⟩ rfl ?_
  refine js_gets rfl ?_
  refine js_ifc (tgt := 13) rfl rfl (fun h => ?_) (fun h => ?_)
  · have hf := jif_t hf h
    refine jR_in rfl ⟨rfl, rfl, rfl⟩ rfl ?_
    refine js_iconst (v := (1 : Int32)) rfl ?_
    subst hf
    exact js_iret rfl rfl
  · have hf := jif_f hf h
    refine js_aload_n rfl ?_
    refine js_getK rfl rfl ?_
    refine js_goto (tgt := 14) rfl rfl ?_
    refine jR_in rfl ⟨rfl, rfl, rfl⟩ rfl ?_
    subst hf
    exact js_iret rfl rfl
/-! java/lang/String.length()I -/
def f_JS_length_2  : Int32 :=
  ((8 : Int32) >>> ((f_JS_coder_2) &&& 31))
theorem t_JS_length_2 {Ln : Nat} {xs : Nat → Int32} {sv : jp_V} {w : Nat} {M : jp_M} {res : Int32} (hf : f_JS_length_2  = res) : jE (jZ (jK Ln xs sv)) 1 303 [(.inr (some 1002))] (jSH w) M (some (.inl res), jSH w, M) := by
  unfold f_JS_length_2 at hf
  refine jE_in (L0 := [some (.inr (some 1002))]) rfl (Nat.le_of_ble_eq_true rfl) rfl (fun d hd => ?_)
  refine jR_in rfl ⟨rfl, rfl, rfl⟩ rfl ?_
  refine js_aload_n rfl ?_
  refine js_getK rfl rfl ?_
  refine js_alenK (v := (8 : Int32)) rfl rfl rfl ?_
  refine js_aload_n rfl ?_
  refine js_c1i rfl rfl ⟨rfl, rfl⟩ rfl rfl (t_JS_coder_2 rfl) (by omega) ?_
  refine js_ishr ?_
  subst hf
  exact js_iret rfl rfl
/-! java/lang/String.isLatin1()Z -/
def f_JS_isLatin1_2  : Int32 :=
  if jp_c .eq (1 : Int32) 0 = true then (
  (0 : Int32)) else (
  if jp_c .ne (0 : Int32) 0 = true then (
  (0 : Int32)) else (
  (1 : Int32)))
theorem t_JS_isLatin1_2 {Ln : Nat} {xs : Nat → Int32} {sv : jp_V} {w : Nat} {M : jp_M} {res : Int32} (hf : f_JS_isLatin1_2  = res) : jE (jZ (jK Ln xs sv)) 0 308 [(.inr (some 1002))] (jSH w) M (some (.inl res), jSH w, M) := by
  unfold f_JS_isLatin1_2 at hf
  refine jE_in (L0 := [some (.inr (some 1002))]) rfl (Nat.le_of_ble_eq_true rfl) rfl (fun d hd => ?_)
  refine jR_in rfl ⟨rfl, rfl, rfl⟩ rfl ?_
  refine js_gets rfl ?_
  refine js_ifc (tgt := 17) rfl rfl (fun h => ?_) (fun h => ?_)
  · have hf := jif_t hf h
    refine jR_in rfl ⟨rfl, rfl, rfl⟩ rfl ?_
    refine js_iconst (v := (0 : Int32)) rfl ?_
    subst hf
    exact js_iret rfl rfl
  · have hf := jif_f hf h
    refine js_aload_n rfl ?_
    refine js_getK rfl rfl ?_
    refine js_ifc (tgt := 17) rfl rfl (fun h => ?_) (fun h => ?_)
    · have hf := jif_t hf h
      refine jR_in rfl ⟨rfl, rfl, rfl⟩ rfl ?_
      refine js_iconst (v := (0 : Int32)) rfl ?_
      subst hf
      exact js_iret rfl rfl
    · have hf := jif_f hf h
      refine js_iconst (v := (1 : Int32)) rfl ?_
      refine js_goto (tgt := 18) rfl rfl ?_
      refine jR_in rfl ⟨rfl, rfl, rfl⟩ rfl ?_
      subst hf
      exact js_iret rfl rfl
theorem b_JS_isLatin1_2  {res : Int32} (hf : f_JS_isLatin1_2  = res) : res = 0 ∨ res = 1 := by
  unfold f_JS_isLatin1_2 at hf
  rcases jif_d hf with ⟨h, hf⟩ | ⟨h, hf⟩
  · subst hf
    exact Or.inl rfl
  · rcases jif_d hf with ⟨h, hf⟩ | ⟨h, hf⟩
    · subst hf
      exact Or.inl rfl
    · subst hf
      exact Or.inr rfl
/-! java/lang/StringLatin1.charAt([BI)C -/
def f_JL_charAt_2 (a1 : Int32) : Option (Int32) :=
  (f_JS_checkIndex a1 (8 : Int32)).bind fun q1 => (
  jg (jp_in a1 8) (
  jg (jp_rok 3 ((Int32.toUInt32 ((jcon 2004 (Int32.toNatClampNeg a1)) &&& (255 : Int32)) % 65536).toInt32) = true) (
  some ((Int32.toUInt32 ((jcon 2004 (Int32.toNatClampNeg a1)) &&& (255 : Int32)) % 65536).toInt32))))
theorem t_JL_charAt_2 {Ln : Nat} {xs : Nat → Int32} {sv : jp_V} {a1 : Int32} {w : Nat} {M : jp_M} {res : Int32} (hf : f_JL_charAt_2 a1 = some res) : jE (jZ (jK Ln xs sv)) 2 310 [(.inr (some 2004)), (.inl a1)] (jSH w) M (some (.inl res), jSH w, M) := by
  unfold f_JL_charAt_2 at hf
  refine jE_in (L0 := [some (.inr (some 2004)), some (.inl a1)]) rfl (Nat.le_of_ble_eq_true rfl) rfl (fun d hd => ?_)
  refine jR_in rfl ⟨rfl, rfl, rfl⟩ rfl ?_
  refine js_iload_n rfl ?_
  refine js_aload_n rfl ?_
  refine js_alenK (v := (8 : Int32)) rfl rfl rfl ?_
  obtain ⟨q1, hc_1, hf⟩ := jbind hf
  refine js_c2v (w := 0) rfl rfl ⟨rfl, rfl⟩ rfl rfl (t_JS_checkIndex hc_1) (by omega) ?_
  refine js_aload_n rfl ?_
  refine js_iload_n rfl ?_
  obtain ⟨hb2, hf⟩ := jg_some hf
  refine js_baldK rfl rfl hb2 ?_
  refine js_sipush (v := (255 : Int32)) rfl ?_
  refine js_iand ?_
  refine js_i2c ?_
  obtain ⟨hb3, hf⟩ := jg_some hf
  obtain rfl := Option.some.inj hf
  exact js_iret hb3 rfl
/-! java/lang/String.charAt(I)C -/
def f_JS_charAt_2 (a1 : Int32) : Option (Int32) :=
  if jp_c .eq (f_JS_isLatin1_2) 0 = true then (
  none) else (
  (f_JL_charAt_2 a1).bind fun q2 => (
  jg (jp_rok 3 q2 = true) (
  some q2)))
theorem t_JS_charAt_2 {Ln : Nat} {xs : Nat → Int32} {sv : jp_V} {a1 : Int32} {w : Nat} {M : jp_M} {res : Int32} (hf : f_JS_charAt_2 a1 = some res) : jE (jZ (jK Ln xs sv)) 3 304 [(.inr (some 1002)), (.inl a1)] (jSH w) M (some (.inl res), jSH w, M) := by
  unfold f_JS_charAt_2 at hf
  refine jE_in (L0 := [some (.inr (some 1002)), some (.inl a1)]) rfl (Nat.le_of_ble_eq_true rfl) rfl (fun d hd => ?_)
  refine jR_in rfl ⟨rfl, rfl, rfl⟩ rfl ?_
  refine js_aload_n rfl ?_
  refine js_c1i rfl rfl ⟨rfl, rfl⟩ rfl rfl (t_JS_isLatin1_2 rfl) (by omega) ?_
  refine js_ifc (tgt := 16) rfl rfl (fun h => ?_) (fun h => ?_)
  · have hf := jif_t hf h
    refine jR_in rfl ⟨rfl, rfl, rfl⟩ rfl ?_
    refine js_aload_n rfl ?_
    refine js_getK rfl rfl ?_
    refine js_iload_n rfl ?_
    cases hf
  · have hf := jif_f hf h
    refine js_aload_n rfl ?_
    refine js_getK rfl rfl ?_
    refine js_iload_n rfl ?_
    obtain ⟨q2, hc_2, hf⟩ := jbind hf
    refine js_c2i rfl rfl ⟨rfl, rfl⟩ rfl rfl (t_JL_charAt_2 hc_2) (by omega) ?_
    obtain ⟨hb3, hf⟩ := jg_some hf
    obtain rfl := Option.some.inj hf
    exact js_iret hb3 rfl
/-! SwallowsAir$Reader.wordNumber()I -/
def f_R_wordNumber_2_101 (c9 : Int32 → Int32 → Int32 → Int32 → jp_M → Option (Int32)) (l1 : Int32) (l2 : Int32) (l3 : Int32) (l4 : Int32) (M : jp_M) : Option (Int32) :=
  c9 l1 l2 l3 (l4 + (1 : Int32)) M
theorem t_R_wordNumber_2_101 {Ln : Nat} {xs : Nat → Int32} {sv : jp_V} {d : Nat} (hd : 4 ≤ d) {c9 : Int32 → Int32 → Int32 → Int32 → jp_M → Option (Int32)} (hc9 : ∀ (l1 : Int32) (l2 : Int32) (l3 : Int32) (l4 : Int32) (o5 : Option jp_V) (M : jp_M) (res : Int32), c9 l1 l2 l3 l4 M = some res → jR (jZ (jK Ln xs sv)) d 71 12 ([some (.inr (some 68)), some (.inl l1), some (.inl l2), some (.inl l3), some (.inl l4), o5], [], jSH 1002, M) (some (.inl res), jSH 1002, M)) (l1 : Int32) (l2 : Int32) (l3 : Int32) (l4 : Int32) (o5 : Option jp_V) (M : jp_M) {res : Int32} (hf : f_R_wordNumber_2_101 c9 l1 l2 l3 l4 M = some res) : jR (jZ (jK Ln xs sv)) d 71 101 ([some (.inr (some 68)), some (.inl l1), some (.inl l2), some (.inl l3), some (.inl l4), o5], [], jSH 1002, M) (some (.inl res), jSH 1002, M) := by
  unfold f_R_wordNumber_2_101 at hf
  refine jR_in rfl ⟨rfl, rfl, rfl⟩ rfl ?_
  refine js_iinc (v := (1 : Int32)) rfl rfl rfl rfl ?_
  refine js_goto (tgt := 12) rfl rfl ?_
  exact hc9 _ _ _ _ _ _ _ hf
def f_R_wordNumber_2_70 (c9 : Int32 → Int32 → Int32 → Int32 → jp_M → Option (Int32)) (l1 : Int32) (l2 : Int32) (l4 : Int32) (s0 : Int32) (M : jp_M) : Option (Int32) :=
  f_R_wordNumber_2_101 c9 l1 (l2 + (1 : Int32)) s0 l4 M
theorem t_R_wordNumber_2_70 {Ln : Nat} {xs : Nat → Int32} {sv : jp_V} {d : Nat} (hd : 4 ≤ d) {c9 : Int32 → Int32 → Int32 → Int32 → jp_M → Option (Int32)} (hc9 : ∀ (l1 : Int32) (l2 : Int32) (l3 : Int32) (l4 : Int32) (o5 : Option jp_V) (M : jp_M) (res : Int32), c9 l1 l2 l3 l4 M = some res → jR (jZ (jK Ln xs sv)) d 71 12 ([some (.inr (some 68)), some (.inl l1), some (.inl l2), some (.inl l3), some (.inl l4), o5], [], jSH 1002, M) (some (.inl res), jSH 1002, M)) (l1 : Int32) (l2 : Int32) (l4 : Int32) (s0 : Int32) (o3 : Option jp_V) (o5 : Option jp_V) (M : jp_M) {res : Int32} (hf : f_R_wordNumber_2_70 c9 l1 l2 l4 s0 M = some res) : jR (jZ (jK Ln xs sv)) d 71 70 ([some (.inr (some 68)), some (.inl l1), some (.inl l2), o3, some (.inl l4), o5], [.inl s0], jSH 1002, M) (some (.inl res), jSH 1002, M) := by
  unfold f_R_wordNumber_2_70 at hf
  refine jR_in rfl ⟨rfl, rfl, rfl⟩ rfl ?_
  refine js_istore_n rfl rfl ?_
  refine js_iinc (v := (1 : Int32)) rfl rfl rfl rfl ?_
  refine js_goto (tgt := 101) rfl rfl ?_
  exact t_R_wordNumber_2_101 hd hc9 _ _ _ _ _ _ hf
def f_R_wordNumber_2_69 (c9 : Int32 → Int32 → Int32 → Int32 → jp_M → Option (Int32)) (l1 : Int32) (l2 : Int32) (l4 : Int32) (M : jp_M) : Option (Int32) :=
  f_R_wordNumber_2_70 c9 l1 l2 l4 (0 : Int32) M
theorem t_R_wordNumber_2_69 {Ln : Nat} {xs : Nat → Int32} {sv : jp_V} {d : Nat} (hd : 4 ≤ d) {c9 : Int32 → Int32 → Int32 → Int32 → jp_M → Option (Int32)} (hc9 : ∀ (l1 : Int32) (l2 : Int32) (l3 : Int32) (l4 : Int32) (o5 : Option jp_V) (M : jp_M) (res : Int32), c9 l1 l2 l3 l4 M = some res → jR (jZ (jK Ln xs sv)) d 71 12 ([some (.inr (some 68)), some (.inl l1), some (.inl l2), some (.inl l3), some (.inl l4), o5], [], jSH 1002, M) (some (.inl res), jSH 1002, M)) (l1 : Int32) (l2 : Int32) (l4 : Int32) (o3 : Option jp_V) (o5 : Option jp_V) (M : jp_M) {res : Int32} (hf : f_R_wordNumber_2_69 c9 l1 l2 l4 M = some res) : jR (jZ (jK Ln xs sv)) d 71 69 ([some (.inr (some 68)), some (.inl l1), some (.inl l2), o3, some (.inl l4), o5], [], jSH 1002, M) (some (.inl res), jSH 1002, M) := by
  unfold f_R_wordNumber_2_69 at hf
  refine jR_in rfl ⟨rfl, rfl, rfl⟩ rfl ?_
  refine js_iconst (v := (0 : Int32)) rfl ?_
  exact jS_out rfl ⟨rfl, rfl, rfl⟩ rfl (t_R_wordNumber_2_70 hd hc9 _ _ _ _ _ _ _ hf)
def f_R_wordNumber_2_91 (c9 : Int32 → Int32 → Int32 → Int32 → jp_M → Option (Int32)) (l1 : Int32) (l4 : Int32) (M : jp_M) : Option (Int32) :=
  f_R_wordNumber_2_101 c9 (l1 + (1 : Int32)) (M 68 3) (1 : Int32) l4 M
theorem t_R_wordNumber_2_91 {Ln : Nat} {xs : Nat → Int32} {sv : jp_V} {d : Nat} (hd : 4 ≤ d) {c9 : Int32 → Int32 → Int32 → Int32 → jp_M → Option (Int32)} (hc9 : ∀ (l1 : Int32) (l2 : Int32) (l3 : Int32) (l4 : Int32) (o5 : Option jp_V) (M : jp_M) (res : Int32), c9 l1 l2 l3 l4 M = some res → jR (jZ (jK Ln xs sv)) d 71 12 ([some (.inr (some 68)), some (.inl l1), some (.inl l2), some (.inl l3), some (.inl l4), o5], [], jSH 1002, M) (some (.inl res), jSH 1002, M)) (l1 : Int32) (l4 : Int32) (o2 : Option jp_V) (o3 : Option jp_V) (o5 : Option jp_V) (M : jp_M) {res : Int32} (hf : f_R_wordNumber_2_91 c9 l1 l4 M = some res) : jR (jZ (jK Ln xs sv)) d 71 91 ([some (.inr (some 68)), some (.inl l1), o2, o3, some (.inl l4), o5], [], jSH 1002, M) (some (.inl res), jSH 1002, M) := by
  unfold f_R_wordNumber_2_91 at hf
  refine jR_in rfl ⟨rfl, rfl, rfl⟩ rfl ?_
  refine js_iinc (v := (1 : Int32)) rfl rfl rfl rfl ?_
  refine js_aload_n rfl ?_
  refine js_geti rfl rfl rfl ?_
  refine js_istore_n rfl rfl ?_
  refine js_iconst (v := (1 : Int32)) rfl ?_
  refine js_istore_n rfl rfl ?_
  exact jS_out rfl ⟨rfl, rfl, rfl⟩ rfl (t_R_wordNumber_2_101 hd hc9 _ _ _ _ _ _ hf)
def f_R_wordNumber_2_12  : Nat → Int32 → Int32 → Int32 → Int32 → jp_M → Option (Int32)
  | 0, _, _, _, _, _ => none
  | n + 1, l1, l2, l3, l4, M =>
    if jp_c .ge l4 (f_JS_length_2) = true then (
    some (-1 : Int32)) else (
    (f_JS_charAt_2 l4).bind fun q2 => (
    if jp_c .eq q2 (32 : Int32) = true then (
    if jp_c .eq l3 0 = true then (
    f_R_wordNumber_2_91 (f_R_wordNumber_2_12 n ) l1 l4 M) else (
    if jp_c .ne l2 (M 68 4) = true then (
    f_R_wordNumber_2_91 (f_R_wordNumber_2_12 n ) l1 l4 M) else (
    some l1))) else (
    if jp_c .eq l3 0 = true then (
    f_R_wordNumber_2_69 (f_R_wordNumber_2_12 n ) l1 l2 l4 M) else (
    if jp_c .ge l2 (M 68 4) = true then (
    f_R_wordNumber_2_69 (f_R_wordNumber_2_12 n ) l1 l2 l4 M) else (
    jg (jp_in l2 400) (
    if jp_c .ne (Int32.toInt8 (M 67 (Int32.toNatClampNeg l2))).toInt32 q2 = true then (
    f_R_wordNumber_2_69 (f_R_wordNumber_2_12 n ) l1 l2 l4 M) else (
    f_R_wordNumber_2_70 (f_R_wordNumber_2_12 n ) l1 l2 l4 (1 : Int32) M)))))))
theorem t_R_wordNumber_2_12 {Ln : Nat} {xs : Nat → Int32} {sv : jp_V} {d : Nat} (hd : 4 ≤ d)  : ∀ (n : Nat) (l1 : Int32) (l2 : Int32) (l3 : Int32) (l4 : Int32) (o5 : Option jp_V) (M : jp_M) {res : Int32}, f_R_wordNumber_2_12 n  l1 l2 l3 l4 M = some res → jR (jZ (jK Ln xs sv)) d 71 12 ([some (.inr (some 68)), some (.inl l1), some (.inl l2), some (.inl l3), some (.inl l4), o5], [], jSH 1002, M) (some (.inl res), jSH 1002, M) := by
  intro n
  induction n with
  | zero =>
    intro l1 l2 l3 l4 o5 M res hf
    cases hf
  | succ n ih =>
    intro l1 l2 l3 l4 o5 M res hf
    rw [f_R_wordNumber_2_12] at hf
    refine jR_in rfl ⟨rfl, rfl, rfl⟩ rfl ?_
    refine js_iload rfl ?_
    refine js_aload_n rfl ?_
    refine js_getr rfl rfl rfl ?_
    refine js_c1i rfl rfl ⟨rfl, rfl⟩ rfl rfl (t_JS_length_2 rfl) (by omega) ?_
    refine js_icmp (tgt := 107) rfl rfl (fun h => ?_) (fun h => ?_)
    · have hf := jif_t hf h
      refine jR_in rfl ⟨rfl, rfl, rfl⟩ rfl ?_
      refine js_iconst (v := (-1 : Int32)) rfl ?_
      obtain rfl := Option.some.inj hf
      exact js_iret rfl rfl
    · have hf := jif_f hf h
      refine js_aload_n rfl ?_
      refine js_getr rfl rfl rfl ?_
      refine js_iload rfl ?_
      obtain ⟨q2, hc_2, hf⟩ := jbind hf
      refine js_c2i rfl rfl ⟨rfl, rfl⟩ rfl rfl (t_JS_charAt_2 hc_2) (by omega) ?_
      refine js_istore rfl rfl ?_
      refine js_iload rfl ?_
      refine js_bipush (v := (32 : Int32)) rfl ?_
      refine js_icmp (tgt := 77) rfl rfl (fun h => ?_) (fun h => ?_)
      · have hf := jif_t hf h
        refine jR_in rfl ⟨rfl, rfl, rfl⟩ rfl ?_
        refine js_iload_n rfl ?_
        refine js_ifc (tgt := 91) rfl rfl (fun h => ?_) (fun h => ?_)
        · have hf := jif_t hf h
          exact t_R_wordNumber_2_91 hd (fun l1 l2 l3 l4 o5 M res hf => ih l1 l2 l3 l4 o5 M hf) _ _ _ _ _ _ hf
        · have hf := jif_f hf h
          refine js_iload_n rfl ?_
          refine js_aload_n rfl ?_
          refine js_geti rfl rfl rfl ?_
          refine js_icmp (tgt := 91) rfl rfl (fun h => ?_) (fun h => ?_)
          · have hf := jif_t hf h
            exact t_R_wordNumber_2_91 hd (fun l1 l2 l3 l4 o5 M res hf => ih l1 l2 l3 l4 o5 M hf) _ _ _ _ _ _ hf
          · have hf := jif_f hf h
            refine js_iload_n rfl ?_
            obtain rfl := Option.some.inj hf
            exact js_iret rfl rfl
      · have hf := jif_f hf h
        refine js_iload_n rfl ?_
        refine js_ifc (tgt := 69) rfl rfl (fun h => ?_) (fun h => ?_)
        · have hf := jif_t hf h
          exact t_R_wordNumber_2_69 hd (fun l1 l2 l3 l4 o5 M res hf => ih l1 l2 l3 l4 o5 M hf) _ _ _ _ _ _ hf
        · have hf := jif_f hf h
          refine js_iload_n rfl ?_
          refine js_aload_n rfl ?_
          refine js_geti rfl rfl rfl ?_
          refine js_icmp (tgt := 69) rfl rfl (fun h => ?_) (fun h => ?_)
          · have hf := jif_t hf h
            exact t_R_wordNumber_2_69 hd (fun l1 l2 l3 l4 o5 M res hf => ih l1 l2 l3 l4 o5 M hf) _ _ _ _ _ _ hf
          · have hf := jif_f hf h
            refine js_aload_n rfl ?_
            refine js_getr rfl rfl rfl ?_
            refine js_iload_n rfl ?_
            obtain ⟨hb3, hf⟩ := jg_some hf
            refine js_bald rfl hb3 ?_
            refine js_iload rfl ?_
            refine js_icmp (tgt := 69) rfl rfl (fun h => ?_) (fun h => ?_)
            · have hf := jif_t hf h
              exact t_R_wordNumber_2_69 hd (fun l1 l2 l3 l4 o5 M res hf => ih l1 l2 l3 l4 o5 M hf) _ _ _ _ _ _ hf
            · have hf := jif_f hf h
              refine js_iconst (v := (1 : Int32)) rfl ?_
              refine js_goto (tgt := 70) rfl rfl ?_
              exact t_R_wordNumber_2_70 hd (fun l1 l2 l3 l4 o5 M res hf => ih l1 l2 l3 l4 o5 M hf) _ _ _ _ _ _ _ hf
def f_R_wordNumber_2 (M : jp_M) : Option (Int32) :=
  f_R_wordNumber_2_12 jFu (0 : Int32) (M 68 3) (1 : Int32) (0 : Int32) M
theorem t_R_wordNumber_2 {Ln : Nat} {xs : Nat → Int32} {sv : jp_V} {M : jp_M} {res : Int32} (hf : f_R_wordNumber_2 M = some res) : jE (jZ (jK Ln xs sv)) 4 71 [(.inr (some 68))] (jSH 1002) M (some (.inl res), jSH 1002, M) := by
  unfold f_R_wordNumber_2 at hf
  refine jE_in (L0 := [some (.inr (some 68)), none, none, none, none, none]) rfl (Nat.le_of_ble_eq_true rfl) rfl (fun d hd => ?_)
  refine jR_in rfl ⟨rfl, rfl, rfl⟩ rfl ?_
  refine js_iconst (v := (0 : Int32)) rfl ?_
  refine js_istore_n rfl rfl ?_
  refine js_aload_n rfl ?_
  refine js_geti rfl rfl rfl ?_
  refine js_istore_n rfl rfl ?_
  refine js_iconst (v := (1 : Int32)) rfl ?_
  refine js_istore_n rfl rfl ?_
  refine js_iconst (v := (0 : Int32)) rfl ?_
  refine js_istore rfl rfl ?_
  exact jS_out rfl ⟨rfl, rfl, rfl⟩ rfl (t_R_wordNumber_2_12 hd jFu _ _ _ _ _ _ hf)
/-! java/lang/String.coder()B -/
def f_JS_coder_3  : Int32 :=
  if jp_c .eq (1 : Int32) 0 = true then (
  (1 : Int32)) else (
  (0 : Int32))
theorem t_JS_coder_3 {Ln : Nat} {xs : Nat → Int32} {sv : jp_V} {w : Nat} {M : jp_M} {res : Int32} (hf : f_JS_coder_3  = res) : jE (jZ (jK Ln xs sv)) 0 307 [(.inr (some 1003))] (jSH w) M (some (.inl res), jSH w, M) := by
  unfold f_JS_coder_3 at hf
  refine jE_in (L0 := [some (.inr (some 1003))]) rfl (Nat.le_of_ble_eq_true rfl) rfl (fun d hd => ?_)
  refine jR_in rfl ⟨rfl, rfl, rfl⟩ rfl ?_
  refine js_gets rfl ?_
  refine js_ifc (tgt := 13) rfl rfl (fun h => ?_) (fun h => ?_)
  · have hf := jif_t hf h
    refine jR_in rfl ⟨rfl, rfl, rfl⟩ rfl ?_
    refine js_iconst (v := (1 : Int32)) rfl ?_
    subst hf
    exact js_iret rfl rfl
  · have hf := jif_f hf h
    refine js_aload_n rfl ?_
    refine js_getK rfl rfl ?_
    refine js_goto (tgt := 14) rfl rfl ?_
    refine jR_in rfl ⟨rfl, rfl, rfl⟩ rfl ?_
    subst hf
    exact js_iret rfl rfl
/-! java/lang/String.length()I -/
def f_JS_length_3  : Int32 :=
  ((13 : Int32) >>> ((f_JS_coder_3) &&& 31))
theorem t_JS_length_3 {Ln : Nat} {xs : Nat → Int32} {sv : jp_V} {w : Nat} {M : jp_M} {res : Int32} (hf : f_JS_length_3  = res) : jE (jZ (jK Ln xs sv)) 1 303 [(.inr (some 1003))] (jSH w) M (some (.inl res), jSH w, M) := by
  unfold f_JS_length_3 at hf
  refine jE_in (L0 := [some (.inr (some 1003))]) rfl (Nat.le_of_ble_eq_true rfl) rfl (fun d hd => ?_)
  refine jR_in rfl ⟨rfl, rfl, rfl⟩ rfl ?_
  refine js_aload_n rfl ?_
  refine js_getK rfl rfl ?_
  refine js_alenK (v := (13 : Int32)) rfl rfl rfl ?_
  refine js_aload_n rfl ?_
  refine js_c1i rfl rfl ⟨rfl, rfl⟩ rfl rfl (t_JS_coder_3 rfl) (by omega) ?_
  refine js_ishr ?_
  subst hf
  exact js_iret rfl rfl
