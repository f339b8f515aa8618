/-! SwallowsAir$Sheet.becomes(LSwallowsAir$Sheet;)V -/
def f_S_becomes_2 (M : jp_M) : Option (jp_M) :=
  let M1 := jp_set M 38 (upd (M 38) 0 (M 14 0))
  jg ((0 ≤ (0 : Int32) ∧ 0 ≤ (0 : Int32) ∧ 0 ≤ (jp_min (112 : Int32) (112 : Int32))) ∧ ((Int32.toNatClampNeg (0 : Int32)) + (Int32.toNatClampNeg (jp_min (112 : Int32) (112 : Int32))) ≤ 112 ∧ (Int32.toNatClampNeg (0 : Int32)) + (Int32.toNatClampNeg (jp_min (112 : Int32) (112 : Int32))) ≤ 112)) (
  let M2 := jp_set M1 39 (va_cpy (M1 15) (M1 39) 0 0 (Int32.toNatClampNeg (jp_min (112 : Int32) (112 : Int32))))
  some M2)
theorem t_S_becomes_2 {Ln : Nat} {xs : Nat → Int32} {sv : jp_V} {w : Nat} {M : jp_M} {res : jp_M} (hf : f_S_becomes_2 M = some res) : jE (jZ (jK Ln xs sv)) 0 73 [(.inr (some 38)), (.inr (some 14))] (jSH w) M (none, jSH w, res) := by
  unfold f_S_becomes_2 at hf
  refine jE_in (L0 := [some (.inr (some 38)), some (.inr (some 14))]) rfl (Nat.le_of_ble_eq_true rfl) rfl (fun d hd => ?_)
  refine jR_in rfl ⟨rfl, rfl, rfl⟩ rfl ?_
  refine js_aload_n rfl ?_
  refine js_aload_n rfl ?_
  refine js_geti rfl rfl rfl ?_
  refine js_puti rfl rfl (Or.inl rfl) ?_
  refine js_aload_n rfl ?_
  refine js_getr rfl rfl rfl ?_
  refine js_iconst (v := (0 : Int32)) rfl ?_
  refine js_aload_n rfl ?_
  refine js_getr rfl rfl rfl ?_
  refine js_iconst (v := (0 : Int32)) rfl ?_
  refine js_aload_n rfl ?_
  refine js_getr rfl rfl rfl ?_
  refine js_alen (v := (112 : Int32)) rfl rfl rfl ?_
  refine js_aload_n rfl ?_
  refine js_getr rfl rfl rfl ?_
  refine js_alen (v := (112 : Int32)) rfl rfl rfl ?_
  refine js_min rfl ?_
  obtain ⟨hb3, hf⟩ := jg_some hf
  refine js_copy rfl rfl rfl hb3.1 hb3.2 rfl ?_
  obtain rfl := Option.some.inj hf
  exact js_ret rfl rfl
/-! SwallowsAir$Sheet.becomes(LSwallowsAir$Sheet;)V -/
def f_S_becomes_3 (M : jp_M) : Option (jp_M) :=
  let M1 := jp_set M 41 (upd (M 41) 0 (M 17 0))
  jg ((0 ≤ (0 : Int32) ∧ 0 ≤ (0 : Int32) ∧ 0 ≤ (jp_min (32 : Int32) (32 : Int32))) ∧ ((Int32.toNatClampNeg (0 : Int32)) + (Int32.toNatClampNeg (jp_min (32 : Int32) (32 : Int32))) ≤ 32 ∧ (Int32.toNatClampNeg (0 : Int32)) + (Int32.toNatClampNeg (jp_min (32 : Int32) (32 : Int32))) ≤ 32)) (
  let M2 := jp_set M1 42 (va_cpy (M1 18) (M1 42) 0 0 (Int32.toNatClampNeg (jp_min (32 : Int32) (32 : Int32))))
  some M2)
theorem t_S_becomes_3 {Ln : Nat} {xs : Nat → Int32} {sv : jp_V} {w : Nat} {M : jp_M} {res : jp_M} (hf : f_S_becomes_3 M = some res) : jE (jZ (jK Ln xs sv)) 0 73 [(.inr (some 41)), (.inr (some 17))] (jSH w) M (none, jSH w, res) := by
  unfold f_S_becomes_3 at hf
  refine jE_in (L0 := [some (.inr (some 41)), some (.inr (some 17))]) rfl (Nat.le_of_ble_eq_true rfl) rfl (fun d hd => ?_)
  refine jR_in rfl ⟨rfl, rfl, rfl⟩ rfl ?_
  refine js_aload_n rfl ?_
  refine js_aload_n rfl ?_
  refine js_geti rfl rfl rfl ?_
  refine js_puti rfl rfl (Or.inl rfl) ?_
  refine js_aload_n rfl ?_
  refine js_getr rfl rfl rfl ?_
  refine js_iconst (v := (0 : Int32)) rfl ?_
  refine js_aload_n rfl ?_
  refine js_getr rfl rfl rfl ?_
  refine js_iconst (v := (0 : Int32)) rfl ?_
  refine js_aload_n rfl ?_
  refine js_getr rfl rfl rfl ?_
  refine js_alen (v := (32 : Int32)) rfl rfl rfl ?_
  refine js_aload_n rfl ?_
  refine js_getr rfl rfl rfl ?_
  refine js_alen (v := (32 : Int32)) rfl rfl rfl ?_
  refine js_min rfl ?_
  obtain ⟨hb3, hf⟩ := jg_some hf
  refine js_copy rfl rfl rfl hb3.1 hb3.2 rfl ?_
  obtain rfl := Option.some.inj hf
  exact js_ret rfl rfl
/-! SwallowsAir$Told.becomes(LSwallowsAir$Told;)V -/
def f_D_becomes (M : jp_M) : jp_M :=
  let M1 := jp_set M 43 (upd (M 43) 0 (M 19 0))
  let M2 := jp_set M1 43 (upd (M1 43) 1 (M1 19 1))
  let M3 := jp_set M2 43 (upd (M2 43) 2 (M2 19 2))
  let M4 := jp_set M3 44 (va_cpy (M3 20) (M3 44) 0 0 24)
  let M5 := jp_set M4 45 (va_cpy (M4 21) (M4 45) 0 0 20)
  let M6 := jp_set M5 46 (va_cpy (M5 22) (M5 46) 0 0 32)
  let M7 := jp_set M6 47 (va_cpy (M6 23) (M6 47) 0 0 36)
  let M8 := jp_set M7 48 (va_cpy (M7 24) (M7 48) 0 0 10)
  M8
theorem t_D_becomes {Ln : Nat} {xs : Nat → Int32} {sv : jp_V} {w : Nat} {M : jp_M} {res : jp_M} (hf : f_D_becomes M = res) : jE (jZ (jK Ln xs sv)) 0 75 [(.inr (some 43)), (.inr (some 19))] (jSH w) M (none, jSH w, res) := by
  unfold f_D_becomes at hf
  refine jE_in (L0 := [some (.inr (some 43)), some (.inr (some 19))]) rfl (Nat.le_of_ble_eq_true rfl) rfl (fun d hd => ?_)
  refine jR_in rfl ⟨rfl, rfl, rfl⟩ rfl ?_
  refine js_aload_n rfl ?_
  refine js_aload_n rfl ?_
  refine js_geti rfl rfl rfl ?_
  refine js_puti rfl rfl (Or.inl rfl) ?_
  refine js_aload_n rfl ?_
  refine js_aload_n rfl ?_
  refine js_geti rfl rfl rfl ?_
  refine js_puti rfl rfl (Or.inl rfl) ?_
  refine js_aload_n rfl ?_
  refine js_aload_n rfl ?_
  refine js_geti rfl rfl rfl ?_
  refine js_puti rfl rfl (Or.inl rfl) ?_
  refine js_aload_n rfl ?_
  refine js_getr rfl rfl rfl ?_
  refine js_iconst (v := (0 : Int32)) rfl ?_
  refine js_aload_n rfl ?_
  refine js_getr rfl rfl rfl ?_
  refine js_iconst (v := (0 : Int32)) rfl ?_
  refine js_aload_n rfl ?_
  refine js_getr rfl rfl rfl ?_
  refine js_alen (v := (24 : Int32)) rfl rfl rfl ?_
  refine js_copy rfl rfl rfl (by decide) (by decide) rfl ?_
  refine js_aload_n rfl ?_
  refine js_getr rfl rfl rfl ?_
  refine js_iconst (v := (0 : Int32)) rfl ?_
  refine js_aload_n rfl ?_
  refine js_getr rfl rfl rfl ?_
  refine js_iconst (v := (0 : Int32)) rfl ?_
  refine js_aload_n rfl ?_
  refine js_getr rfl rfl rfl ?_
  refine js_alen (v := (20 : Int32)) rfl rfl rfl ?_
  refine js_copy rfl rfl rfl (by decide) (by decide) rfl ?_
  refine js_aload_n rfl ?_
  refine js_getr rfl rfl rfl ?_
  refine js_iconst (v := (0 : Int32)) rfl ?_
  refine js_aload_n rfl ?_
  refine js_getr rfl rfl rfl ?_
  refine js_iconst (v := (0 : Int32)) rfl ?_
  refine js_aload_n rfl ?_
  refine js_getr rfl rfl rfl ?_
  refine js_alen (v := (32 : Int32)) rfl rfl rfl ?_
  refine js_copy rfl rfl rfl (by decide) (by decide) rfl ?_
  refine js_aload_n rfl ?_
  refine js_getr rfl rfl rfl ?_
  refine js_iconst (v := (0 : Int32)) rfl ?_
  refine js_aload_n rfl ?_
  refine js_getr rfl rfl rfl ?_
  refine js_iconst (v := (0 : Int32)) rfl ?_
  refine js_aload_n rfl ?_
  refine js_getr rfl rfl rfl ?_
  refine js_alen (v := (36 : Int32)) rfl rfl rfl ?_
  refine js_copy rfl rfl rfl (by decide) (by decide) rfl ?_
  refine js_aload_n rfl ?_
  refine js_getr rfl rfl rfl ?_
  refine js_iconst (v := (0 : Int32)) rfl ?_
  refine js_aload_n rfl ?_
  refine js_getr rfl rfl rfl ?_
  refine js_iconst (v := (0 : Int32)) rfl ?_
  refine js_aload_n rfl ?_
  refine js_getr rfl rfl rfl ?_
  refine js_alen (v := (10 : Int32)) rfl rfl rfl ?_
  refine js_copy rfl rfl rfl (by decide) (by decide) rfl ?_
  subst hf
  exact js_ret rfl rfl
/-! SwallowsAir$Affairs.becomes(LSwallowsAir$Affairs;)V -/
def f_A_becomes (M : jp_M) : Option (jp_M) :=
  let q1 := f_W_becomes_14 M
  jg ((0 ≤ (0 : Int32) ∧ 0 ≤ (0 : Int32) ∧ 0 ≤ ((4 : Int32) * (q1 26 7))) ∧ ((Int32.toNatClampNeg (0 : Int32)) + (Int32.toNatClampNeg ((4 : Int32) * (q1 26 7))) ≤ 600 ∧ (Int32.toNatClampNeg (0 : Int32)) + (Int32.toNatClampNeg ((4 : Int32) * (q1 26 7))) ≤ 600)) (
  let M2 := jp_set q1 30 (va_cpy (q1 6) (q1 30) 0 0 (Int32.toNatClampNeg ((4 : Int32) * (q1 26 7))))
  (f_L_becomes_1 M2).bind fun q4 => (
  (f_S_becomes_2 q4).bind fun q5 => (
  let M6 := jp_set q5 40 (va_cpy (q5 16) (q5 40) 0 0 10)
  let M7 := jp_set M6 25 (upd (M6 25) 5 (M6 1 5))
  (f_S_becomes_3 M7).bind fun q8 => (
  let q9 := f_D_becomes q8
  some q9))))
theorem t_A_becomes {Ln : Nat} {xs : Nat → Int32} {sv : jp_V} {w : Nat} {M : jp_M} {res : jp_M} (hf : f_A_becomes M = some res) : jE (jZ (jK Ln xs sv)) 1 1 [(.inr (some 25)), (.inr (some 1))] (jSH w) M (none, jSH w, res) := by
  unfold f_A_becomes at hf
  refine jE_in (L0 := [some (.inr (some 25)), some (.inr (some 1))]) rfl (Nat.le_of_ble_eq_true rfl) rfl (fun d hd => ?_)
  refine jR_in rfl ⟨rfl, rfl, rfl⟩ rfl ?_
  refine js_aload_n rfl ?_
  refine js_getr rfl rfl rfl ?_
  refine js_aload_n rfl ?_
  refine js_getr rfl rfl rfl ?_
  refine js_c2v (w := 0) rfl rfl ⟨rfl, rfl⟩ rfl rfl (t_W_becomes_14 rfl) (by omega) ?_
  refine js_aload_n rfl ?_
  refine js_getr rfl rfl rfl ?_
  refine js_iconst (v := (0 : Int32)) rfl ?_
  refine js_aload_n rfl ?_
  refine js_getr rfl rfl rfl ?_
  refine js_iconst (v := (0 : Int32)) rfl ?_
  refine js_iconst (v := (4 : Int32)) rfl ?_
  refine js_aload_n rfl ?_
  refine js_getr rfl rfl rfl ?_
  refine js_geti rfl rfl rfl ?_
  refine js_imul ?_
  obtain ⟨hb3, hf⟩ := jg_some hf
  refine js_copy rfl rfl rfl hb3.1 hb3.2 rfl ?_
  refine js_aload_n rfl ?_
  refine js_getr rfl rfl rfl ?_
  refine js_aload_n rfl ?_
  refine js_getr rfl rfl rfl ?_
  obtain ⟨q4, hc_4, hf⟩ := jbind hf
  refine js_c2v (w := 0) rfl rfl ⟨rfl, rfl⟩ rfl rfl (t_L_becomes_1 hc_4) (by omega) ?_
  refine js_aload_n rfl ?_
  refine js_getr rfl rfl rfl ?_
  refine js_aload_n rfl ?_
  refine js_getr rfl rfl rfl ?_
  obtain ⟨q5, hc_5, hf⟩ := jbind hf
  refine js_c2v (w := 0) rfl rfl ⟨rfl, rfl⟩ rfl rfl (t_S_becomes_2 hc_5) (by omega) ?_
  refine js_aload_n rfl ?_
  refine js_getr rfl rfl rfl ?_
  refine js_iconst (v := (0 : Int32)) rfl ?_
  refine js_aload_n rfl ?_
  refine js_getr rfl rfl rfl ?_
  refine js_iconst (v := (0 : Int32)) rfl ?_
  refine js_bipush (v := (10 : Int32)) rfl ?_
  refine js_copy rfl rfl rfl (by decide) (by decide) rfl ?_
  refine js_aload_n rfl ?_
  refine js_aload_n rfl ?_
  refine js_geti rfl rfl rfl ?_
  refine js_puti rfl rfl (Or.inl rfl) ?_
  refine js_aload_n rfl ?_
  refine js_getr rfl rfl rfl ?_
  refine js_aload_n rfl ?_
  refine js_getr rfl rfl rfl ?_
  obtain ⟨q8, hc_8, hf⟩ := jbind hf
  refine js_c2v (w := 0) rfl rfl ⟨rfl, rfl⟩ rfl rfl (t_S_becomes_3 hc_8) (by omega) ?_
  refine js_aload_n rfl ?_
  refine js_getr rfl rfl rfl ?_
  refine js_aload_n rfl ?_
  refine js_getr rfl rfl rfl ?_
  refine js_c2v (w := 0) rfl rfl ⟨rfl, rfl⟩ rfl rfl (t_D_becomes rfl) (by omega) ?_
  obtain rfl := Option.some.inj hf
  exact js_ret rfl rfl
/-! SwallowsAir$World.becomes(LSwallowsAir$World;)V -/
def f_W_becomes_15 (M : jp_M) : jp_M :=
  let M1 := jp_set M 2 (upd (M 2) 0 (M 26 0))
  let M2 := jp_set M1 2 (upd (M1 2) 1 (M1 26 1))
  let M3 := jp_set M2 2 (upd (M2 2) 2 (M2 26 2))
  let M4 := jp_set M3 2 (upd (M3 2) 3 (M3 26 3))
  let M5 := jp_set M4 2 (upd (M4 2) 4 (M4 26 4))
  let M6 := jp_set M5 2 (upd (M5 2) 5 (M5 26 5))
  let M7 := jp_set M6 2 (upd (M6 2) 6 (M6 26 6))
  let M8 := jp_set M7 2 (upd (M7 2) 7 (M7 26 7))
  let M9 := jp_set M8 3 (va_cpy (M8 27) (M8 3) 0 0 50)
  let M10 := jp_set M9 4 (va_cpy (M9 28) (M9 4) 0 0 30)
  let M11 := jp_set M10 5 (va_cpy (M10 29) (M10 5) 0 0 128)
  M11
theorem t_W_becomes_15 {Ln : Nat} {xs : Nat → Int32} {sv : jp_V} {w : Nat} {M : jp_M} {res : jp_M} (hf : f_W_becomes_15 M = res) : jE (jZ (jK Ln xs sv)) 0 96 [(.inr (some 2)), (.inr (some 26))] (jSH w) M (none, jSH w, res) := by
  unfold f_W_becomes_15 at hf
  refine jE_in (L0 := [some (.inr (some 2)), some (.inr (some 26))]) rfl (Nat.le_of_ble_eq_true rfl) rfl (fun d hd => ?_)
  refine jR_in rfl ⟨rfl, rfl, rfl⟩ rfl ?_
  refine js_aload_n rfl ?_
  refine js_ifnonnull (tgt := 5) rfl rfl ?_
  refine jR_in rfl ⟨rfl, rfl, rfl⟩ rfl ?_
  refine js_aload_n rfl ?_
  refine js_aload_n rfl ?_
  refine js_geti rfl rfl rfl ?_
  refine js_puti rfl rfl (Or.inl rfl) ?_
  refine js_aload_n rfl ?_
  refine js_aload_n rfl ?_
  refine js_geti rfl rfl rfl ?_
  refine js_puti rfl rfl (Or.inl rfl) ?_
  refine js_aload_n rfl ?_
  refine js_aload_n rfl ?_
  refine js_geti rfl rfl rfl ?_
  refine js_puti rfl rfl (Or.inl rfl) ?_
  refine js_aload_n rfl ?_
  refine js_aload_n rfl ?_
  refine js_geti rfl rfl rfl ?_
  refine js_puti rfl rfl (Or.inl rfl) ?_
  refine js_aload_n rfl ?_
  refine js_aload_n rfl ?_
  refine js_geti rfl rfl rfl ?_
  refine js_puti rfl rfl (Or.inl rfl) ?_
  refine js_aload_n rfl ?_
  refine js_aload_n rfl ?_
  refine js_geti rfl rfl rfl ?_
  refine js_puti rfl rfl (Or.inl rfl) ?_
  refine js_aload_n rfl ?_
  refine js_aload_n rfl ?_
  refine js_geti rfl rfl rfl ?_
  refine js_puti rfl rfl (Or.inl rfl) ?_
  refine js_aload_n rfl ?_
  refine js_aload_n rfl ?_
  refine js_geti rfl rfl rfl ?_
  refine js_puti rfl rfl (Or.inl rfl) ?_
  refine js_aload_n rfl ?_
  refine js_getr rfl rfl rfl ?_
  refine js_iconst (v := (0 : Int32)) rfl ?_
  refine js_aload_n rfl ?_
  refine js_getr rfl rfl rfl ?_
  refine js_iconst (v := (0 : Int32)) rfl ?_
  refine js_aload_n rfl ?_
  refine js_getr rfl rfl rfl ?_
  refine js_alen (v := (50 : Int32)) rfl rfl rfl ?_
  refine js_copy rfl rfl rfl (by decide) (by decide) rfl ?_
  refine js_aload_n rfl ?_
  refine js_getr rfl rfl rfl ?_
  refine js_iconst (v := (0 : Int32)) rfl ?_
  refine js_aload_n rfl ?_
  refine js_getr rfl rfl rfl ?_
  refine js_iconst (v := (0 : Int32)) rfl ?_
  refine js_aload_n rfl ?_
  refine js_getr rfl rfl rfl ?_
  refine js_alen (v := (30 : Int32)) rfl rfl rfl ?_
  refine js_copy rfl rfl rfl (by decide) (by decide) rfl ?_
  refine js_aload_n rfl ?_
  refine js_getr rfl rfl rfl ?_
  refine js_iconst (v := (0 : Int32)) rfl ?_
  refine js_aload_n rfl ?_
  refine js_getr rfl rfl rfl ?_
  refine js_iconst (v := (0 : Int32)) rfl ?_
  refine js_aload_n rfl ?_
  refine js_getr rfl rfl rfl ?_
  refine js_alen (v := (128 : Int32)) rfl rfl rfl ?_
  refine js_copy rfl rfl rfl (by decide) (by decide) rfl ?_
  subst hf
  exact js_ret rfl rfl
/-! SwallowsAir$Law.becomes(LSwallowsAir$Law;)V -/
def f_L_becomes_2 (M : jp_M) : Option (jp_M) :=
  let M1 := jp_set M 7 (upd (M 7) 0 (M 31 0))
  let M2 := jp_set M1 7 (upd (M1 7) 1 (M1 31 1))
  jg ((0 ≤ (0 : Int32) ∧ 0 ≤ (0 : Int32) ∧ 0 ≤ (M2 7 0)) ∧ ((Int32.toNatClampNeg (0 : Int32)) + (Int32.toNatClampNeg (M2 7 0)) ≤ 16 ∧ (Int32.toNatClampNeg (0 : Int32)) + (Int32.toNatClampNeg (M2 7 0)) ≤ 16)) (
  let M3 := jp_set M2 8 (va_cpy (M2 32) (M2 8) 0 0 (Int32.toNatClampNeg (M2 7 0)))
  jg ((0 ≤ (0 : Int32) ∧ 0 ≤ (0 : Int32) ∧ 0 ≤ (M3 7 0)) ∧ ((Int32.toNatClampNeg (0 : Int32)) + (Int32.toNatClampNeg (M3 7 0)) ≤ 16 ∧ (Int32.toNatClampNeg (0 : Int32)) + (Int32.toNatClampNeg (M3 7 0)) ≤ 16)) (
  let M5 := jp_set M3 9 (va_cpy (M3 33) (M3 9) 0 0 (Int32.toNatClampNeg (M3 7 0)))
  jg ((0 ≤ (0 : Int32) ∧ 0 ≤ (0 : Int32) ∧ 0 ≤ (M5 7 0)) ∧ ((Int32.toNatClampNeg (0 : Int32)) + (Int32.toNatClampNeg (M5 7 0)) ≤ 16 ∧ (Int32.toNatClampNeg (0 : Int32)) + (Int32.toNatClampNeg (M5 7 0)) ≤ 16)) (
  let M7 := jp_set M5 10 (va_cpy (M5 34) (M5 10) 0 0 (Int32.toNatClampNeg (M5 7 0)))
  jg ((0 ≤ (0 : Int32) ∧ 0 ≤ (0 : Int32) ∧ 0 ≤ (M7 7 1)) ∧ ((Int32.toNatClampNeg (0 : Int32)) + (Int32.toNatClampNeg (M7 7 1)) ≤ 400 ∧ (Int32.toNatClampNeg (0 : Int32)) + (Int32.toNatClampNeg (M7 7 1)) ≤ 400)) (
  let M9 := jp_set M7 11 (va_cpy (M7 35) (M7 11) 0 0 (Int32.toNatClampNeg (M7 7 1)))
  some M9))))
theorem t_L_becomes_2 {Ln : Nat} {xs : Nat → Int32} {sv : jp_V} {w : Nat} {M : jp_M} {res : jp_M} (hf : f_L_becomes_2 M = some res) : jE (jZ (jK Ln xs sv)) 0 33 [(.inr (some 7)), (.inr (some 31))] (jSH w) M (none, jSH w, res) := by
  unfold f_L_becomes_2 at hf
  refine jE_in (L0 := [some (.inr (some 7)), some (.inr (some 31))]) rfl (Nat.le_of_ble_eq_true rfl) rfl (fun d hd => ?_)
  refine jR_in rfl ⟨rfl, rfl, rfl⟩ rfl ?_
  refine js_aload_n rfl ?_
  refine js_aload_n rfl ?_
  refine js_geti rfl rfl rfl ?_
  refine js_puti rfl rfl (Or.inl rfl) ?_
  refine js_aload_n rfl ?_
  refine js_aload_n rfl ?_
  refine js_geti rfl rfl rfl ?_
  refine js_puti rfl rfl (Or.inl rfl) ?_
  refine js_aload_n rfl ?_
  refine js_getr rfl rfl rfl ?_
  refine js_iconst (v := (0 : Int32)) rfl ?_
  refine js_aload_n rfl ?_
  refine js_getr rfl rfl rfl ?_
  refine js_iconst (v := (0 : Int32)) rfl ?_
  refine js_aload_n rfl ?_
  refine js_geti rfl rfl rfl ?_
  obtain ⟨hb4, hf⟩ := jg_some hf
  refine js_copy rfl rfl rfl hb4.1 hb4.2 rfl ?_
  refine js_aload_n rfl ?_
  refine js_getr rfl rfl rfl ?_
  refine js_iconst (v := (0 : Int32)) rfl ?_
  refine js_aload_n rfl ?_
  refine js_getr rfl rfl rfl ?_
  refine js_iconst (v := (0 : Int32)) rfl ?_
  refine js_aload_n rfl ?_
  refine js_geti rfl rfl rfl ?_
  obtain ⟨hb6, hf⟩ := jg_some hf
  refine js_copy rfl rfl rfl hb6.1 hb6.2 rfl ?_
  refine js_aload_n rfl ?_
  refine js_getr rfl rfl rfl ?_
  refine js_iconst (v := (0 : Int32)) rfl ?_
  refine js_aload_n rfl ?_
  refine js_getr rfl rfl rfl ?_
  refine js_iconst (v := (0 : Int32)) rfl ?_
  refine js_aload_n rfl ?_
  refine js_geti rfl rfl rfl ?_
  obtain ⟨hb8, hf⟩ := jg_some hf
  refine js_copy rfl rfl rfl hb8.1 hb8.2 rfl ?_
  refine js_aload_n rfl ?_
  refine js_getr rfl rfl rfl ?_
  refine js_iconst (v := (0 : Int32)) rfl ?_
  refine js_aload_n rfl ?_
  refine js_getr rfl rfl rfl ?_
  refine js_iconst (v := (0 : Int32)) rfl ?_
  refine js_aload_n rfl ?_
  refine js_geti rfl rfl rfl ?_
  obtain ⟨hb10, hf⟩ := jg_some hf
  refine js_copy rfl rfl rfl hb10.1 hb10.2 rfl ?_
  obtain rfl := Option.some.inj hf
  exact js_ret rfl rfl
/-! SwallowsAir$Sheet.becomes(LSwallowsAir$Sheet;)V -/
def f_S_becomes_4 (M : jp_M) : Option (jp_M) :=
  let M1 := jp_set M 14 (upd (M 14) 0 (M 38 0))
  jg ((0 ≤ (0 : Int32) ∧ 0 ≤ (0 : Int32) ∧ 0 ≤ (jp_min (112 : Int32) (112 : Int32))) ∧ ((Int32.toNatClampNeg (0 : Int32)) + (Int32.toNatClampNeg (jp_min (112 : Int32) (112 : Int32))) ≤ 112 ∧ (Int32.toNatClampNeg (0 : Int32)) + (Int32.toNatClampNeg (jp_min (112 : Int32) (112 : Int32))) ≤ 112)) (
  let M2 := jp_set M1 15 (va_cpy (M1 39) (M1 15) 0 0 (Int32.toNatClampNeg (jp_min (112 : Int32) (112 : Int32))))
  some M2)
theorem t_S_becomes_4 {Ln : Nat} {xs : Nat → Int32} {sv : jp_V} {w : Nat} {M : jp_M} {res : jp_M} (hf : f_S_becomes_4 M = some res) : jE (jZ (jK Ln xs sv)) 0 73 [(.inr (some 14)), (.inr (some 38))] (jSH w) M (none, jSH w, res) := by
  unfold f_S_becomes_4 at hf
  refine jE_in (L0 := [some (.inr (some 14)), some (.inr (some 38))]) rfl (Nat.le_of_ble_eq_true rfl) rfl (fun d hd => ?_)
  refine jR_in rfl ⟨rfl, rfl, rfl⟩ rfl ?_
  refine js_aload_n rfl ?_
  refine js_aload_n rfl ?_
  refine js_geti rfl rfl rfl ?_
  refine js_puti rfl rfl (Or.inl rfl) ?_
  refine js_aload_n rfl ?_
  refine js_getr rfl rfl rfl ?_
  refine js_iconst (v := (0 : Int32)) rfl ?_
  refine js_aload_n rfl ?_
  refine js_getr rfl rfl rfl ?_
  refine js_iconst (v := (0 : Int32)) rfl ?_
  refine js_aload_n rfl ?_
  refine js_getr rfl rfl rfl ?_
  refine js_alen (v := (112 : Int32)) rfl rfl rfl ?_
  refine js_aload_n rfl ?_
  refine js_getr rfl rfl rfl ?_
  refine js_alen (v := (112 : Int32)) rfl rfl rfl ?_
  refine js_min rfl ?_
  obtain ⟨hb3, hf⟩ := jg_some hf
  refine js_copy rfl rfl rfl hb3.1 hb3.2 rfl ?_
  obtain rfl := Option.some.inj hf
  exact js_ret rfl rfl
/-! SwallowsAir$Sheet.becomes(LSwallowsAir$Sheet;)V -/
def f_S_becomes_5 (M : jp_M) : Option (jp_M) :=
  let M1 := jp_set M 17 (upd (M 17) 0 (M 41 0))
  jg ((0 ≤ (0 : Int32) ∧ 0 ≤ (0 : Int32) ∧ 0 ≤ (jp_min (32 : Int32) (32 : Int32))) ∧ ((Int32.toNatClampNeg (0 : Int32)) + (Int32.toNatClampNeg (jp_min (32 : Int32) (32 : Int32))) ≤ 32 ∧ (Int32.toNatClampNeg (0 : Int32)) + (Int32.toNatClampNeg (jp_min (32 : Int32) (32 : Int32))) ≤ 32)) (
  let M2 := jp_set M1 18 (va_cpy (M1 42) (M1 18) 0 0 (Int32.toNatClampNeg (jp_min (32 : Int32) (32 : Int32))))
  some M2)
theorem t_S_becomes_5 {Ln : Nat} {xs : Nat → Int32} {sv : jp_V} {w : Nat} {M : jp_M} {res : jp_M} (hf : f_S_becomes_5 M = some res) : jE (jZ (jK Ln xs sv)) 0 73 [(.inr (some 17)), (.inr (some 41))] (jSH w) M (none, jSH w, res) := by
  unfold f_S_becomes_5 at hf
  refine jE_in (L0 := [some (.inr (some 17)), some (.inr (some 41))]) rfl (Nat.le_of_ble_eq_true rfl) rfl (fun d hd => ?_)
  refine jR_in rfl ⟨rfl, rfl, rfl⟩ rfl ?_
  refine js_aload_n rfl ?_
  refine js_aload_n rfl ?_
  refine js_geti rfl rfl rfl ?_
  refine js_puti rfl rfl (Or.inl rfl) ?_
  refine js_aload_n rfl ?_
  refine js_getr rfl rfl rfl ?_
  refine js_iconst (v := (0 : Int32)) rfl ?_
  refine js_aload_n rfl ?_
  refine js_getr rfl rfl rfl ?_
  refine js_iconst (v := (0 : Int32)) rfl ?_
  refine js_aload_n rfl ?_
  refine js_getr rfl rfl rfl ?_
  refine js_alen (v := (32 : Int32)) rfl rfl rfl ?_
  refine js_aload_n rfl ?_
  refine js_getr rfl rfl rfl ?_
  refine js_alen (v := (32 : Int32)) rfl rfl rfl ?_
  refine js_min rfl ?_
  obtain ⟨hb3, hf⟩ := jg_some hf
  refine js_copy rfl rfl rfl hb3.1 hb3.2 rfl ?_
  obtain rfl := Option.some.inj hf
  exact js_ret rfl rfl
/-! SwallowsAir$Told.becomes(LSwallowsAir$Told;)V -/
def f_D_becomes_1 (M : jp_M) : jp_M :=
  let M1 := jp_set M 19 (upd (M 19) 0 (M 43 0))
  let M2 := jp_set M1 19 (upd (M1 19) 1 (M1 43 1))
  let M3 := jp_set M2 19 (upd (M2 19) 2 (M2 43 2))
  let M4 := jp_set M3 20 (va_cpy (M3 44) (M3 20) 0 0 24)
  let M5 := jp_set M4 21 (va_cpy (M4 45) (M4 21) 0 0 20)
  let M6 := jp_set M5 22 (va_cpy (M5 46) (M5 22) 0 0 32)
  let M7 := jp_set M6 23 (va_cpy (M6 47) (M6 23) 0 0 36)
  let M8 := jp_set M7 24 (va_cpy (M7 48) (M7 24) 0 0 10)
  M8
theorem t_D_becomes_1 {Ln : Nat} {xs : Nat → Int32} {sv : jp_V} {w : Nat} {M : jp_M} {res : jp_M} (hf : f_D_becomes_1 M = res) : jE (jZ (jK Ln xs sv)) 0 75 [(.inr (some 19)), (.inr (some 43))] (jSH w) M (none, jSH w, res) := by
  unfold f_D_becomes_1 at hf
  refine jE_in (L0 := [some (.inr (some 19)), some (.inr (some 43))]) rfl (Nat.le_of_ble_eq_true rfl) rfl (fun d hd => ?_)
  refine jR_in rfl ⟨rfl, rfl, rfl⟩ rfl ?_
  refine js_aload_n rfl ?_
  refine js_aload_n rfl ?_
  refine js_geti rfl rfl rfl ?_
  refine js_puti rfl rfl (Or.inl rfl) ?_
  refine js_aload_n rfl ?_
  refine js_aload_n rfl ?_
  refine js_geti rfl rfl rfl ?_
  refine js_puti rfl rfl (Or.inl rfl) ?_
  refine js_aload_n rfl ?_
  refine js_aload_n rfl ?_
  refine js_geti rfl rfl rfl ?_
  refine js_puti rfl rfl (Or.inl rfl) ?_
  refine js_aload_n rfl ?_
  refine js_getr rfl rfl rfl ?_
  refine js_iconst (v := (0 : Int32)) rfl ?_
  refine js_aload_n rfl ?_
  refine js_getr rfl rfl rfl ?_
  refine js_iconst (v := (0 : Int32)) rfl ?_
  refine js_aload_n rfl ?_
  refine js_getr rfl rfl rfl ?_
  refine js_alen (v := (24 : Int32)) rfl rfl rfl ?_
  refine js_copy rfl rfl rfl (by decide) (by decide) rfl ?_
  refine js_aload_n rfl ?_
  refine js_getr rfl rfl rfl ?_
  refine js_iconst (v := (0 : Int32)) rfl ?_
  refine js_aload_n rfl ?_
  refine js_getr rfl rfl rfl ?_
  refine js_iconst (v := (0 : Int32)) rfl ?_
  refine js_aload_n rfl ?_
  refine js_getr rfl rfl rfl ?_
  refine js_alen (v := (20 : Int32)) rfl rfl rfl ?_
  refine js_copy rfl rfl rfl (by decide) (by decide) rfl ?_
  refine js_aload_n rfl ?_
  refine js_getr rfl rfl rfl ?_
  refine js_iconst (v := (0 : Int32)) rfl ?_
  refine js_aload_n rfl ?_
  refine js_getr rfl rfl rfl ?_
  refine js_iconst (v := (0 : Int32)) rfl ?_
  refine js_aload_n rfl ?_
  refine js_getr rfl rfl rfl ?_
  refine js_alen (v := (32 : Int32)) rfl rfl rfl ?_
  refine js_copy rfl rfl rfl (by decide) (by decide) rfl ?_
  refine js_aload_n rfl ?_
  refine js_getr rfl rfl rfl ?_
  refine js_iconst (v := (0 : Int32)) rfl ?_
  refine js_aload_n rfl ?_
  refine js_getr rfl rfl rfl ?_
  refine js_iconst (v := (0 : Int32)) rfl ?_
  refine js_aload_n rfl ?_
  refine js_getr rfl rfl rfl ?_
  refine js_alen (v := (36 : Int32)) rfl rfl rfl ?_
  refine js_copy rfl rfl rfl (by decide) (by decide) rfl ?_
  refine js_aload_n rfl ?_
  refine js_getr rfl rfl rfl ?_
  refine js_iconst (v := (0 : Int32)) rfl ?_
  refine js_aload_n rfl ?_
  refine js_getr rfl rfl rfl ?_
  refine js_iconst (v := (0 : Int32)) rfl ?_
  refine js_aload_n rfl ?_
  refine js_getr rfl rfl rfl ?_
  refine js_alen (v := (10 : Int32)) rfl rfl rfl ?_
  refine js_copy rfl rfl rfl (by decide) (by decide) rfl ?_
  subst hf
  exact js_ret rfl rfl
/-! SwallowsAir$Affairs.becomes(LSwallowsAir$Affairs;)V -/
def f_A_becomes_1 (M : jp_M) : Option (jp_M) :=
  let q1 := f_W_becomes_15 M
  jg ((0 ≤ (0 : Int32) ∧ 0 ≤ (0 : Int32) ∧ 0 ≤ ((4 : Int32) * (q1 2 7))) ∧ ((Int32.toNatClampNeg (0 : Int32)) + (Int32.toNatClampNeg ((4 : Int32) * (q1 2 7))) ≤ 600 ∧ (Int32.toNatClampNeg (0 : Int32)) + (Int32.toNatClampNeg ((4 : Int32) * (q1 2 7))) ≤ 600)) (
  let M2 := jp_set q1 6 (va_cpy (q1 30) (q1 6) 0 0 (Int32.toNatClampNeg ((4 : Int32) * (q1 2 7))))
  (f_L_becomes_2 M2).bind fun q4 => (
  (f_S_becomes_4 q4).bind fun q5 => (
  let M6 := jp_set q5 16 (va_cpy (q5 40) (q5 16) 0 0 10)
  let M7 := jp_set M6 1 (upd (M6 1) 5 (M6 25 5))
  (f_S_becomes_5 M7).bind fun q8 => (
  let q9 := f_D_becomes_1 q8
  some q9))))
theorem t_A_becomes_1 {Ln : Nat} {xs : Nat → Int32} {sv : jp_V} {w : Nat} {M : jp_M} {res : jp_M} (hf : f_A_becomes_1 M = some res) : jE (jZ (jK Ln xs sv)) 1 1 [(.inr (some 1)), (.inr (some 25))] (jSH w) M (none, jSH w, res) := by
  unfold f_A_becomes_1 at hf
  refine jE_in (L0 := [some (.inr (some 1)), some (.inr (some 25))]) rfl (Nat.le_of_ble_eq_true rfl) rfl (fun d hd => ?_)
  refine jR_in rfl ⟨rfl, rfl, rfl⟩ rfl ?_
  refine js_aload_n rfl ?_
  refine js_getr rfl rfl rfl ?_
  refine js_aload_n rfl ?_
  refine js_getr rfl rfl rfl ?_
  refine js_c2v (w := 0) rfl rfl ⟨rfl, rfl⟩ rfl rfl (t_W_becomes_15 rfl) (by omega) ?_
  refine js_aload_n rfl ?_
  refine js_getr rfl rfl rfl ?_
  refine js_iconst (v := (0 : Int32)) rfl ?_
  refine js_aload_n rfl ?_
  refine js_getr rfl rfl rfl ?_
  refine js_iconst (v := (0 : Int32)) rfl ?_
  refine js_iconst (v := (4 : Int32)) rfl ?_
  refine js_aload_n rfl ?_
  refine js_getr rfl rfl rfl ?_
  refine js_geti rfl rfl rfl ?_
  refine js_imul ?_
  obtain ⟨hb3, hf⟩ := jg_some hf
  refine js_copy rfl rfl rfl hb3.1 hb3.2 rfl ?_
  refine js_aload_n rfl ?_
  refine js_getr rfl rfl rfl ?_
  refine js_aload_n rfl ?_
  refine js_getr rfl rfl rfl ?_
  obtain ⟨q4, hc_4, hf⟩ := jbind hf
  refine js_c2v (w := 0) rfl rfl ⟨rfl, rfl⟩ rfl rfl (t_L_becomes_2 hc_4) (by omega) ?_
  refine js_aload_n rfl ?_
  refine js_getr rfl rfl rfl ?_
  refine js_aload_n rfl ?_
  refine js_getr rfl rfl rfl ?_
  obtain ⟨q5, hc_5, hf⟩ := jbind hf
  refine js_c2v (w := 0) rfl rfl ⟨rfl, rfl⟩ rfl rfl (t_S_becomes_4 hc_5) (by omega) ?_
  refine js_aload_n rfl ?_
  refine js_getr rfl rfl rfl ?_
  refine js_iconst (v := (0 : Int32)) rfl ?_
  refine js_aload_n rfl ?_
  refine js_getr rfl rfl rfl ?_
  refine js_iconst (v := (0 : Int32)) rfl ?_
  refine js_bipush (v := (10 : Int32)) rfl ?_
  refine js_copy rfl rfl rfl (by decide) (by decide) rfl ?_
  refine js_aload_n rfl ?_
  refine js_aload_n rfl ?_
  refine js_geti rfl rfl rfl ?_
  refine js_puti rfl rfl (Or.inl rfl) ?_
  refine js_aload_n rfl ?_
  refine js_getr rfl rfl rfl ?_
  refine js_aload_n rfl ?_
  refine js_getr rfl rfl rfl ?_
  obtain ⟨q8, hc_8, hf⟩ := jbind hf
  refine js_c2v (w := 0) rfl rfl ⟨rfl, rfl⟩ rfl rfl (t_S_becomes_5 hc_8) (by omega) ?_
  refine js_aload_n rfl ?_
  refine js_getr rfl rfl rfl ?_
  refine js_aload_n rfl ?_
  refine js_getr rfl rfl rfl ?_
  refine js_c2v (w := 0) rfl rfl ⟨rfl, rfl⟩ rfl rfl (t_D_becomes_1 rfl) (by omega) ?_
  obtain rfl := Option.some.inj hf
  exact js_ret rfl rfl
/-! SwallowsAir.image(Z)Z -/
def f_C_image (a1 : Int32) (M : jp_M) : Option (Int32 × jp_M) :=
  if jp_c .eq a1 0 = true then (
  if jp_c .ne (M 0 2) 0 = true then (
  (f_A_becomes_1 M).bind fun q1 => (
  let q2 := f_C_forgetKept q1
  some ((1 : Int32), q2))) else (
  some ((0 : Int32), M))) else (
  (f_A_becomes M).bind fun q3 => (
  let M4 := jp_set q3 0 (upd (q3 0) 2 (1 : Int32))
  some ((1 : Int32), M4)))
theorem t_C_image {Ln : Nat} {xs : Nat → Int32} {sv : jp_V} {a1 : Int32} {w : Nat} {M : jp_M} {res : Int32 × jp_M} (hf : f_C_image a1 M = some res) : jE (jZ (jK Ln xs sv)) 2 150 [(.inr (some 0)), (.inl a1)] (jSH w) M (some (.inl res.1), jSH w, res.2) := by
  unfold f_C_image at hf
  refine jE_in (L0 := [some (.inr (some 0)), some (.inl a1)]) rfl (Nat.le_of_ble_eq_true rfl) rfl (fun d hd => ?_)
  refine jR_in rfl ⟨rfl, rfl, rfl⟩ rfl ?_
  refine js_iload_n rfl ?_
  refine js_ifc (tgt := 22) rfl rfl (fun h => ?_) (fun h => ?_)
  · have hf := jif_t hf h
    refine jR_in rfl ⟨rfl, rfl, rfl⟩ rfl ?_
    refine js_aload_n rfl ?_
    refine js_geti rfl rfl rfl ?_
    refine js_ifc (tgt := 31) rfl rfl (fun h => ?_) (fun h => ?_)
    · have hf := jif_t hf h
      refine jR_in rfl ⟨rfl, rfl, rfl⟩ rfl ?_
      refine js_aload_n rfl ?_
      refine js_getr rfl rfl rfl ?_
      refine js_aload_n rfl ?_
      refine js_getr rfl rfl rfl ?_
      obtain ⟨q1, hc_1, hf⟩ := jbind hf
      refine js_c2v (w := 0) rfl rfl ⟨rfl, rfl⟩ rfl rfl (t_A_becomes_1 hc_1) (by omega) ?_
      refine js_aload_n rfl ?_
      refine js_c1v (w := 0) rfl rfl ⟨rfl, rfl⟩ rfl rfl (t_C_forgetKept rfl) (by omega) ?_
      refine js_iconst (v := (1 : Int32)) rfl ?_
      obtain rfl := Option.some.inj hf
      exact js_iret rfl rfl
    · have hf := jif_f hf h
      refine js_iconst (v := (0 : Int32)) rfl ?_
      obtain rfl := Option.some.inj hf
      exact js_iret rfl rfl
  · have hf := jif_f hf h
    refine js_aload_n rfl ?_
    refine js_getr rfl rfl rfl ?_
    refine js_aload_n rfl ?_
    refine js_getr rfl rfl rfl ?_
    obtain ⟨q3, hc_3, hf⟩ := jbind hf
    refine js_c2v (w := 0) rfl rfl ⟨rfl, rfl⟩ rfl rfl (t_A_becomes hc_3) (by omega) ?_
    refine js_aload_n rfl ?_
    refine js_iconst (v := (1 : Int32)) rfl ?_
    refine js_puti rfl rfl (Or.inr ⟨rfl, Or.inr rfl⟩) ?_
    refine js_iconst (v := (1 : Int32)) rfl ?_
    obtain rfl := Option.some.inj hf
    exact js_iret rfl rfl
theorem b_C_image {a1 : Int32} {M : jp_M} {res : Int32 × jp_M} (hf : f_C_image a1 M = some res) : res.1 = 0 ∨ res.1 = 1 := by
  unfold f_C_image at hf
  rcases jif_d hf with ⟨h, hf⟩ | ⟨h, hf⟩
  · rcases jif_d hf with ⟨h, hf⟩ | ⟨h, hf⟩
    · obtain ⟨q1, hc_1, hf⟩ := jbind hf
      obtain rfl := Option.some.inj hf
      exact Or.inr rfl
    · obtain rfl := Option.some.inj hf
      exact Or.inl rfl
  · obtain ⟨q3, hc_3, hf⟩ := jbind hf
    obtain rfl := Option.some.inj hf
    exact Or.inr rfl
/-! SwallowsAir.look(I)I -/
def f_C_look (a1 : Int32) (M : jp_M) : Option (Int32) :=
  if a1 = (0 : Int32) then (
  some (M 2 4)) else if a1 = (1 : Int32) then (
  some (M 2 5)) else if a1 = (2 : Int32) then (
  some (M 2 6)) else if a1 = (3 : Int32) then (
  (f_W_usedCells M).bind fun q1 => (
  some q1)) else if a1 = (4 : Int32) then (
  some (M 2 2)) else if a1 = (5 : Int32) then (
  if jp_c .eq (f_W_isSummer M) 0 = true then (
  some (0 : Int32)) else (
  some (1 : Int32))) else if a1 = (6 : Int32) then (
  some (M 2 1)) else if a1 = (7 : Int32) then (
  some (M 2 7)) else if a1 = (8 : Int32) then (
  some (M 2 0)) else if a1 = (9 : Int32) then (
  some (M 7 0)) else if a1 = (10 : Int32) then (
  some (M 14 0)) else if a1 = (11 : Int32) then (
  some (M 1 5)) else if a1 = (12 : Int32) then (
  some (M 17 0)) else if a1 = (13 : Int32) then (
  some (M 0 4)) else (
  some (-1 : Int32))
theorem t_C_look {Ln : Nat} {xs : Nat → Int32} {sv : jp_V} {a1 : Int32} {w : Nat} {M : jp_M} {res : Int32} (hf : f_C_look a1 M = some res) : jE (jZ (jK Ln xs sv)) 1 151 [(.inr (some 0)), (.inl a1)] (jSH w) M (some (.inl res), jSH w, M) := by
  unfold f_C_look at hf
  refine jE_in (L0 := [some (.inr (some 0)), some (.inl a1), none]) rfl (Nat.le_of_ble_eq_true rfl) rfl (fun d hd => ?_)
  refine jR_in rfl ⟨rfl, rfl, rfl⟩ rfl ?_
  refine js_aload_n rfl ?_
  refine js_getr rfl rfl rfl ?_
  refine js_getr rfl rfl rfl ?_
  refine js_astore_n rfl rfl ?_
  refine js_iload_n rfl ?_
  rcases jif_d hf with ⟨hk, hf⟩ | ⟨hk0, hf⟩
  · refine js_tabIn (v := (0 : Int32)) (off := 71) (tgt := 80) hk rfl rfl rfl rfl ?_
    refine jR_in rfl ⟨rfl, rfl, rfl⟩ rfl ?_
    refine js_aload_n rfl ?_
    refine js_geti rfl rfl rfl ?_
    obtain rfl := Option.some.inj hf
    exact js_iret rfl rfl
  · rcases jif_d hf with ⟨hk, hf⟩ | ⟨hk1, hf⟩
    · refine js_tabIn (v := (1 : Int32)) (off := 76) (tgt := 85) hk rfl rfl rfl rfl ?_
      refine jR_in rfl ⟨rfl, rfl, rfl⟩ rfl ?_
      refine js_aload_n rfl ?_
      refine js_geti rfl rfl rfl ?_
      obtain rfl := Option.some.inj hf
      exact js_iret rfl rfl
    · rcases jif_d hf with ⟨hk, hf⟩ | ⟨hk2, hf⟩
      · refine js_tabIn (v := (2 : Int32)) (off := 81) (tgt := 90) hk rfl rfl rfl rfl ?_
        refine jR_in rfl ⟨rfl, rfl, rfl⟩ rfl ?_
        refine js_aload_n rfl ?_
        refine js_geti rfl rfl rfl ?_
        obtain rfl := Option.some.inj hf
        exact js_iret rfl rfl
      · rcases jif_d hf with ⟨hk, hf⟩ | ⟨hk3, hf⟩
        · refine js_tabIn (v := (3 : Int32)) (off := 86) (tgt := 95) hk rfl rfl rfl rfl ?_
          refine jR_in rfl ⟨rfl, rfl, rfl⟩ rfl ?_
          refine js_aload_n rfl ?_
          obtain ⟨q1, hc_1, hf⟩ := jbind hf
          refine js_c1i rfl rfl ⟨rfl, rfl⟩ rfl rfl (t_W_usedCells hc_1) (by omega) ?_
          obtain rfl := Option.some.inj hf
          exact js_iret rfl rfl
        · rcases jif_d hf with ⟨hk, hf⟩ | ⟨hk4, hf⟩
          · refine js_tabIn (v := (4 : Int32)) (off := 91) (tgt := 100) hk rfl rfl rfl rfl ?_
            refine jR_in rfl ⟨rfl, rfl, rfl⟩ rfl ?_
            refine js_aload_n rfl ?_
            refine js_geti rfl rfl rfl ?_
            obtain rfl := Option.some.inj hf
            exact js_iret rfl rfl
          · rcases jif_d hf with ⟨hk, hf⟩ | ⟨hk5, hf⟩
            · refine js_tabIn (v := (5 : Int32)) (off := 96) (tgt := 105) hk rfl rfl rfl rfl ?_
              refine jR_in rfl ⟨rfl, rfl, rfl⟩ rfl ?_
              refine js_aload_n rfl ?_
              refine js_c1i rfl rfl ⟨rfl, rfl⟩ rfl rfl (t_W_isSummer rfl) (by omega) ?_
              refine js_ifc (tgt := 116) rfl rfl (fun h => ?_) (fun h => ?_)
              · have hf := jif_t hf h
                refine jR_in rfl ⟨rfl, rfl, rfl⟩ rfl ?_
                refine js_iconst (v := (0 : Int32)) rfl ?_
                obtain rfl := Option.some.inj hf
                exact js_iret rfl rfl
              · have hf := jif_f hf h
                refine js_iconst (v := (1 : Int32)) rfl ?_
                refine js_goto (tgt := 117) rfl rfl ?_
                refine jR_in rfl ⟨rfl, rfl, rfl⟩ rfl ?_
                obtain rfl := Option.some.inj hf
                exact js_iret rfl rfl
            · rcases jif_d hf with ⟨hk, hf⟩ | ⟨hk6, hf⟩
              · refine js_tabIn (v := (6 : Int32)) (off := 109) (tgt := 118) hk rfl rfl rfl rfl ?_
                refine jR_in rfl ⟨rfl, rfl, rfl⟩ rfl ?_
                refine js_aload_n rfl ?_
                refine js_geti rfl rfl rfl ?_
                obtain rfl := Option.some.inj hf
                exact js_iret rfl rfl
              · rcases jif_d hf with ⟨hk, hf⟩ | ⟨hk7, hf⟩
                · refine js_tabIn (v := (7 : Int32)) (off := 114) (tgt := 123) hk rfl rfl rfl rfl ?_
                  refine jR_in rfl ⟨rfl, rfl, rfl⟩ rfl ?_
                  refine js_aload_n rfl ?_
                  refine js_geti rfl rfl rfl ?_
                  obtain rfl := Option.some.inj hf
                  exact js_iret rfl rfl
                · rcases jif_d hf with ⟨hk, hf⟩ | ⟨hk8, hf⟩
                  · refine js_tabIn (v := (8 : Int32)) (off := 119) (tgt := 128) hk rfl rfl rfl rfl ?_
                    refine jR_in rfl ⟨rfl, rfl, rfl⟩ rfl ?_
                    refine js_aload_n rfl ?_
                    refine js_geti rfl rfl rfl ?_
                    obtain rfl := Option.some.inj hf
                    exact js_iret rfl rfl
                  · rcases jif_d hf with ⟨hk, hf⟩ | ⟨hk9, hf⟩
                    · refine js_tabIn (v := (9 : Int32)) (off := 124) (tgt := 133) hk rfl rfl rfl rfl ?_
                      refine jR_in rfl ⟨rfl, rfl, rfl⟩ rfl ?_
                      refine js_aload_n rfl ?_
                      refine js_getr rfl rfl rfl ?_
                      refine js_getr rfl rfl rfl ?_
                      refine js_geti rfl rfl rfl ?_
                      obtain rfl := Option.some.inj hf
                      exact js_iret rfl rfl
                    · rcases jif_d hf with ⟨hk, hf⟩ | ⟨hk10, hf⟩
                      · refine js_tabIn (v := (10 : Int32)) (off := 135) (tgt := 144) hk rfl rfl rfl rfl ?_
                        refine jR_in rfl ⟨rfl, rfl, rfl⟩ rfl ?_
                        refine js_aload_n rfl ?_
                        refine js_getr rfl rfl rfl ?_
                        refine js_getr rfl rfl rfl ?_
                        refine js_geti rfl rfl rfl ?_
                        obtain rfl := Option.some.inj hf
                        exact js_iret rfl rfl
                      · rcases jif_d hf with ⟨hk, hf⟩ | ⟨hk11, hf⟩
                        · refine js_tabIn (v := (11 : Int32)) (off := 146) (tgt := 155) hk rfl rfl rfl rfl ?_
                          refine jR_in rfl ⟨rfl, rfl, rfl⟩ rfl ?_
                          refine js_aload_n rfl ?_
                          refine js_getr rfl rfl rfl ?_
                          refine js_geti rfl rfl rfl ?_
                          obtain rfl := Option.some.inj hf
                          exact js_iret rfl rfl
                        · rcases jif_d hf with ⟨hk, hf⟩ | ⟨hk12, hf⟩
                          · refine js_tabIn (v := (12 : Int32)) (off := 154) (tgt := 163) hk rfl rfl rfl rfl ?_
                            refine jR_in rfl ⟨rfl, rfl, rfl⟩ rfl ?_
                            refine js_aload_n rfl ?_
                            refine js_getr rfl rfl rfl ?_
                            refine js_getr rfl rfl rfl ?_
                            refine js_geti rfl rfl rfl ?_
                            obtain rfl := Option.some.inj hf
                            exact js_iret rfl rfl
                          · rcases jif_d hf with ⟨hk, hf⟩ | ⟨hk13, hf⟩
                            · refine js_tabIn (v := (13 : Int32)) (off := 165) (tgt := 174) hk rfl rfl rfl rfl ?_
                              refine jR_in rfl ⟨rfl, rfl, rfl⟩ rfl ?_
                              refine js_aload_n rfl ?_
                              refine js_geti rfl rfl rfl ?_
                              obtain rfl := Option.some.inj hf
                              exact js_iret rfl rfl
                            · refine js_tabOut (tgt := 179) (jsw_9 hk0 hk1 hk2 hk3 hk4 hk5 hk6 hk7 hk8 hk9 hk10 hk11 hk12 hk13) rfl rfl ?_
                              refine jR_in rfl ⟨rfl, rfl, rfl⟩ rfl ?_
                              refine js_iconst (v := (-1 : Int32)) rfl ?_
                              obtain rfl := Option.some.inj hf
                              exact js_iret rfl rfl
/-! SwallowsAirModel.undo()Z -/
def f_M_undo_26  : Nat → Int32 → jp_M → Option (Int32 × jp_M)
  | 0, _, _ => none
  | n + 1, l1, M =>
    if jp_c .ge l1 (184 : Int32) = true then (
    some ((1 : Int32), M)) else (
    jg (jp_in (((184 : Int32) * (M 104 3)) + l1) 1104) (
    jg (jp_in l1 184) (
    let M2 := jp_set M 105 (upd (M 105) (Int32.toNatClampNeg l1) (M 106 (Int32.toNatClampNeg (((184 : Int32) * (M 104 3)) + l1))))
    f_M_undo_26 n (l1 + (1 : Int32)) M2)))
theorem t_M_undo_26 {Ln : Nat} {xs : Nat → Int32} {sv : jp_V} {d : Nat} (hd : 0 ≤ d)  : ∀ (n : Nat) (l1 : Int32) (w : Nat) (M : jp_M) {res : Int32 × jp_M}, f_M_undo_26 n  l1 M = some res → jR (jZ (jK Ln xs sv)) d 172 26 ([some (.inr (some 104)), some (.inl l1)], [], jSH w, M) (some (.inl res.1), jSH w, res.2) := by
  intro n
  induction n with
  | zero =>
    intro l1 w M res hf
    cases hf
  | succ n ih =>
    intro l1 w M res hf
    rw [f_M_undo_26] at hf
    refine jR_in rfl ⟨rfl, rfl, rfl⟩ rfl ?_
    refine js_iload_n rfl ?_
    refine js_sipush (v := (184 : Int32)) rfl ?_
    refine js_icmp (tgt := 60) rfl rfl (fun h => ?_) (fun h => ?_)
    · have hf := jif_t hf h
      refine jR_in rfl ⟨rfl, rfl, rfl⟩ rfl ?_
      refine js_iconst (v := (1 : Int32)) rfl ?_
      obtain rfl := Option.some.inj hf
      exact js_iret rfl rfl
    · have hf := jif_f hf h
      refine js_aload_n rfl ?_
      refine js_getr rfl rfl rfl ?_
      refine js_iload_n rfl ?_
      refine js_aload_n rfl ?_
      refine js_getr rfl rfl rfl ?_
      refine js_sipush (v := (184 : Int32)) rfl ?_
      refine js_aload_n rfl ?_
      refine js_geti rfl rfl rfl ?_
      refine js_imul ?_
      refine js_iload_n rfl ?_
      refine js_iadd ?_
      obtain ⟨hb1, hf⟩ := jg_some hf
      refine js_iald rfl hb1 ?_
      obtain ⟨hb3, hf⟩ := jg_some hf
      refine js_iast rfl hb3 ?_
      refine js_iinc (v := (1 : Int32)) rfl rfl rfl rfl ?_
      refine js_goto (tgt := 26) rfl rfl ?_
      exact ih _ _ _ hf
theorem b_M_undo_26  : ∀ (n : Nat) (l1 : Int32) (M : jp_M) {res : Int32 × jp_M}, f_M_undo_26 n  l1 M = some res → (res.1 = 0 ∨ res.1 = 1) := by
  intro n
  induction n with
  | zero =>
    intro l1 M res hf
    cases hf
  | succ n ih =>
    intro l1 M res hf
    rw [f_M_undo_26] at hf
    rcases jif_d hf with ⟨h, hf⟩ | ⟨h, hf⟩
    · obtain rfl := Option.some.inj hf
      exact Or.inr rfl
    · obtain ⟨hb1, hf⟩ := jg_some hf
      obtain ⟨hb3, hf⟩ := jg_some hf
      exact ih _ _ hf
def f_M_undo (M : jp_M) : Option (Int32 × jp_M) :=
  let M1 := jp_set M 104 (upd (M 104) 0 (0 : Int32))
  if jp_c .ne (M1 104 3) 0 = true then (
  let M2 := jp_set M1 104 (upd (M1 104) 3 ((M1 104 3) - (1 : Int32)))
  f_M_undo_26 jFu (0 : Int32) M2) else (
  some ((0 : Int32), M1))
theorem t_M_undo {Ln : Nat} {xs : Nat → Int32} {sv : jp_V} {w : Nat} {M : jp_M} {res : Int32 × jp_M} (hf : f_M_undo M = some res) : jE (jZ (jK Ln xs sv)) 0 172 [(.inr (some 104))] (jSH w) M (some (.inl res.1), jSH w, res.2) := by
  unfold f_M_undo at hf
  refine jE_in (L0 := [some (.inr (some 104)), none]) rfl (Nat.le_of_ble_eq_true rfl) rfl (fun d hd => ?_)
  refine jR_in rfl ⟨rfl, rfl, rfl⟩ rfl ?_
  refine js_aload_n rfl ?_
  refine js_iconst (v := (0 : Int32)) rfl ?_
  refine js_puti rfl rfl (Or.inl rfl) ?_
  refine js_aload_n rfl ?_
  refine js_geti rfl rfl rfl ?_
  refine js_ifc (tgt := 14) rfl rfl (fun h => ?_) (fun h => ?_)
  · have hf := jif_t hf h
    refine jR_in rfl ⟨rfl, rfl, rfl⟩ rfl ?_
    refine js_aload_n rfl ?_
    refine js_aload_n rfl ?_
    refine js_geti rfl rfl rfl ?_
    refine js_iconst (v := (1 : Int32)) rfl ?_
    refine js_isub ?_
    refine js_puti rfl rfl (Or.inl rfl) ?_
    refine js_iconst (v := (0 : Int32)) rfl ?_
    refine js_istore_n rfl rfl ?_
    exact jS_out rfl ⟨rfl, rfl, rfl⟩ rfl (t_M_undo_26 hd jFu _ _ _ hf)
  · have hf := jif_f hf h
    refine js_iconst (v := (0 : Int32)) rfl ?_
    obtain rfl := Option.some.inj hf
    exact js_iret rfl rfl
theorem b_M_undo {M : jp_M} {res : Int32 × jp_M} (hf : f_M_undo M = some res) : res.1 = 0 ∨ res.1 = 1 := by
  unfold f_M_undo at hf
  rcases jif_d hf with ⟨h, hf⟩ | ⟨h, hf⟩
  · exact b_M_undo_26 jFu _ _ hf
  · obtain rfl := Option.some.inj hf
    exact Or.inl rfl
/-! SwallowsAirModel.state(I)I -/
def f_M_state (a1 : Int32) (M : jp_M) : Int32 × jp_M :=
  let M1 := jp_set M 104 (upd (M 104) 0 (0 : Int32))
  let M2 := jp_set M1 105 (upd (M1 105) 1 a1)
  let M3 := jp_set M2 104 (upd (M2 104) 3 (0 : Int32))
  ((M1 105 1), M3)
theorem t_M_state {Ln : Nat} {xs : Nat → Int32} {sv : jp_V} {a1 : Int32} {w : Nat} {M : jp_M} {res : Int32 × jp_M} (hf : f_M_state a1 M = res) : jE (jZ (jK Ln xs sv)) 0 175 [(.inr (some 104)), (.inl a1)] (jSH w) M (some (.inl res.1), jSH w, res.2) := by
  unfold f_M_state at hf
  refine jE_in (L0 := [some (.inr (some 104)), some (.inl a1), none]) rfl (Nat.le_of_ble_eq_true rfl) rfl (fun d hd => ?_)
  refine jR_in rfl ⟨rfl, rfl, rfl⟩ rfl ?_
  refine js_aload_n rfl ?_
  refine js_iconst (v := (0 : Int32)) rfl ?_
  refine js_puti rfl rfl (Or.inl rfl) ?_
  refine js_aload_n rfl ?_
  refine js_getr rfl rfl rfl ?_
  refine js_iconst (v := (1 : Int32)) rfl ?_
  refine js_iald rfl (by decide) ?_
  refine js_istore_n rfl rfl ?_
  refine js_aload_n rfl ?_
  refine js_getr rfl rfl rfl ?_
  refine js_iconst (v := (1 : Int32)) rfl ?_
  refine js_iload_n rfl ?_
  refine js_iast rfl (by decide) ?_
  refine js_aload_n rfl ?_
  refine js_iconst (v := (0 : Int32)) rfl ?_
  refine js_puti rfl rfl (Or.inl rfl) ?_
  refine js_iload_n rfl ?_
  subst hf
  exact js_iret rfl rfl
/-! SwallowsAirModel.isIn(III)Z -/
def f_M_isIn (a1 : Int32) (a2 : Int32) (a3 : Int32) : Int32 :=
  if jp_c .lt a1 a2 = true then (
  (0 : Int32)) else (
  if jp_c .gt a1 a3 = true then (
  (0 : Int32)) else (
  (1 : Int32)))
theorem t_M_isIn {Ln : Nat} {xs : Nat → Int32} {sv : jp_V} {a1 : Int32} {a2 : Int32} {a3 : Int32} {w : Nat} {M : jp_M} {res : Int32} (hf : f_M_isIn a1 a2 a3 = res) : jE (jZ (jK Ln xs sv)) 0 163 [(.inr (some 104)), (.inl a1), (.inl a2), (.inl a3)] (jSH w) M (some (.inl res), jSH w, M) := by
  unfold f_M_isIn at hf
  refine jE_in (L0 := [some (.inr (some 104)), some (.inl a1), some (.inl a2), some (.inl a3)]) rfl (Nat.le_of_ble_eq_true rfl) rfl (fun d hd => ?_)
  refine jR_in rfl ⟨rfl, rfl, rfl⟩ rfl ?_
  refine js_iload_n rfl ?_
  refine js_iload_n rfl ?_
  refine js_icmp (tgt := 14) rfl rfl (fun h => ?_) (fun h => ?_)
  · have hf := jif_t hf h
    refine jR_in rfl ⟨rfl, rfl, rfl⟩ rfl ?_
    refine js_iconst (v := (0 : Int32)) rfl ?_
    subst hf
    exact js_iret rfl rfl
  · have hf := jif_f hf h
    refine js_iload_n rfl ?_
    refine js_iload_n rfl ?_
    refine js_icmp (tgt := 14) rfl rfl (fun h => ?_) (fun h => ?_)
    · have hf := jif_t hf h
      refine jR_in rfl ⟨rfl, rfl, rfl⟩ rfl ?_
      refine js_iconst (v := (0 : Int32)) rfl ?_
      subst hf
      exact js_iret rfl rfl
    · have hf := jif_f hf h
      refine js_iconst (v := (1 : Int32)) rfl ?_
      refine js_goto (tgt := 15) rfl rfl ?_
      refine jR_in rfl ⟨rfl, rfl, rfl⟩ rfl ?_
      subst hf
      exact js_iret rfl rfl
theorem b_M_isIn {a1 : Int32} {a2 : Int32} {a3 : Int32} {res : Int32} (hf : f_M_isIn a1 a2 a3 = res) : res = 0 ∨ res = 1 := by
  unfold f_M_isIn at hf
  rcases jif_d hf with ⟨h, hf⟩ | ⟨h, hf⟩
  · subst hf
    exact Or.inl rfl
  · rcases jif_d hf with ⟨h, hf⟩ | ⟨h, hf⟩
    · subst hf
      exact Or.inl rfl
    · subst hf
      exact Or.inr rfl
/-! SwallowsAirModel.person(III)I -/
def f_M_person (a1 : Int32) (a2 : Int32) (a3 : Int32) (M : jp_M) : Option (Int32 × jp_M) :=
  let M1 := jp_set M 104 (upd (M 104) 0 (0 : Int32))
  if jp_c .eq (f_M_isIn a1 (0 : Int32) (7 : Int32)) 0 = true then (
  some ((-1 : Int32), M1)) else (
  if jp_c .eq (f_M_isIn a2 (0 : Int32) (9 : Int32)) 0 = true then (
  some ((-1 : Int32), M1)) else (
  if jp_c .eq (f_M_isIn a3 (0 : Int32) (9999 : Int32)) 0 = true then (
  some ((-1 : Int32), M1)) else (
  if jp_c .ne (M1 104 6) (10 : Int32) = true then (
  jg (jp_in (M1 104 6) 10) (
  let M5 := jp_set M1 108 (upd (M1 108) (Int32.toNatClampNeg (M1 104 6)) a1)
  jg (jp_in (M5 104 6) 10) (
  let M7 := jp_set M5 109 (upd (M5 109) (Int32.toNatClampNeg (M5 104 6)) a2)
  jg (jp_in ((6 : Int32) + (M7 104 6)) 184) (
  let M9 := jp_set M7 105 (upd (M7 105) (Int32.toNatClampNeg ((6 : Int32) + (M7 104 6))) a3)
  jg (jp_in ((16 : Int32) + (M9 104 6)) 184) (
  let M11 := jp_set M9 105 (upd (M9 105) (Int32.toNatClampNeg ((16 : Int32) + (M9 104 6))) (0 : Int32))
  jg (jp_in ((26 : Int32) + (M11 104 6)) 184) (
  let M13 := jp_set M11 105 (upd (M11 105) (Int32.toNatClampNeg ((26 : Int32) + (M11 104 6))) (0 : Int32))
  let M15 := jp_set M13 104 (upd (M13 104) 6 ((M13 104 6) + (1 : Int32)))
  let M16 := jp_set M15 104 (upd (M15 104) 3 (0 : Int32))
  some (((M16 104 6) - (1 : Int32)), M16))))))) else (
  some ((-1 : Int32), M1)))))
theorem t_M_person {Ln : Nat} {xs : Nat → Int32} {sv : jp_V} {a1 : Int32} {a2 : Int32} {a3 : Int32} {w : Nat} {M : jp_M} {res : Int32 × jp_M} (hf : f_M_person a1 a2 a3 M = some res) : jE (jZ (jK Ln xs sv)) 1 184 [(.inr (some 104)), (.inl a1), (.inl a2), (.inl a3)] (jSH w) M (some (.inl res.1), jSH w, res.2) := by
  unfold f_M_person at hf
  refine jE_in (L0 := [some (.inr (some 104)), some (.inl a1), some (.inl a2), some (.inl a3)]) rfl (Nat.le_of_ble_eq_true rfl) rfl (fun d hd => ?_)
  refine jR_in rfl ⟨rfl, rfl, rfl⟩ rfl ?_
  refine js_aload_n rfl ?_
  refine js_iconst (v := (0 : Int32)) rfl ?_
  refine js_puti rfl rfl (Or.inl rfl) ?_
  refine js_aload_n rfl ?_
  refine js_iload_n rfl ?_
  refine js_iconst (v := (0 : Int32)) rfl ?_
  refine js_bipush (v := (7 : Int32)) rfl ?_
  refine js_c4i rfl rfl ⟨rfl, rfl⟩ rfl rfl (t_M_isIn rfl) (by omega) ?_
  refine js_ifc (tgt := 48) rfl rfl (fun h => ?_) (fun h => ?_)
  · have hf := jif_t hf h
    refine jR_in rfl ⟨rfl, rfl, rfl⟩ rfl ?_
    refine js_iconst (v := (-1 : Int32)) rfl ?_
    obtain rfl := Option.some.inj hf
    exact js_iret rfl rfl
  · have hf := jif_f hf h
    refine js_aload_n rfl ?_
    refine js_iload_n rfl ?_
    refine js_iconst (v := (0 : Int32)) rfl ?_
    refine js_bipush (v := (9 : Int32)) rfl ?_
    refine js_c4i rfl rfl ⟨rfl, rfl⟩ rfl rfl (t_M_isIn rfl) (by omega) ?_
    refine js_ifc (tgt := 48) rfl rfl (fun h => ?_) (fun h => ?_)
    · have hf := jif_t hf h
      refine jR_in rfl ⟨rfl, rfl, rfl⟩ rfl ?_
      refine js_iconst (v := (-1 : Int32)) rfl ?_
      obtain rfl := Option.some.inj hf
      exact js_iret rfl rfl
    · have hf := jif_f hf h
      refine js_aload_n rfl ?_
      refine js_iload_n rfl ?_
      refine js_iconst (v := (0 : Int32)) rfl ?_
      refine js_sipush (v := (9999 : Int32)) rfl ?_
      refine js_c4i rfl rfl ⟨rfl, rfl⟩ rfl rfl (t_M_isIn rfl) (by omega) ?_
      refine js_ifc (tgt := 48) rfl rfl (fun h => ?_) (fun h => ?_)
      · have hf := jif_t hf h
        refine jR_in rfl ⟨rfl, rfl, rfl⟩ rfl ?_
        refine js_iconst (v := (-1 : Int32)) rfl ?_
        obtain rfl := Option.some.inj hf
        exact js_iret rfl rfl
      · have hf := jif_f hf h
        refine js_aload_n rfl ?_
        refine js_geti rfl rfl rfl ?_
        refine js_bipush (v := (10 : Int32)) rfl ?_
        refine js_icmp (tgt := 50) rfl rfl (fun h => ?_) (fun h => ?_)
        · have hf := jif_t hf h
          refine jR_in rfl ⟨rfl, rfl, rfl⟩ rfl ?_
          refine js_aload_n rfl ?_
          refine js_getr rfl rfl rfl ?_
          refine js_aload_n rfl ?_
          refine js_geti rfl rfl rfl ?_
          refine js_iload_n rfl ?_
          obtain ⟨hb6, hf⟩ := jg_some hf
          refine js_iast rfl hb6 ?_
          refine js_aload_n rfl ?_
          refine js_getr rfl rfl rfl ?_
          refine js_aload_n rfl ?_
          refine js_geti rfl rfl rfl ?_
          refine js_iload_n rfl ?_
          obtain ⟨hb8, hf⟩ := jg_some hf
          refine js_iast rfl hb8 ?_
          refine js_aload_n rfl ?_
          refine js_getr rfl rfl rfl ?_
          refine js_bipush (v := (6 : Int32)) rfl ?_
          refine js_aload_n rfl ?_
          refine js_geti rfl rfl rfl ?_
          refine js_iadd ?_
          refine js_iload_n rfl ?_
          obtain ⟨hb10, hf⟩ := jg_some hf
          refine js_iast rfl hb10 ?_
          refine js_aload_n rfl ?_
          refine js_getr rfl rfl rfl ?_
          refine js_bipush (v := (16 : Int32)) rfl ?_
          refine js_aload_n rfl ?_
          refine js_geti rfl rfl rfl ?_
          refine js_iadd ?_
          refine js_iconst (v := (0 : Int32)) rfl ?_
          obtain ⟨hb12, hf⟩ := jg_some hf
          refine js_iast rfl hb12 ?_
          refine js_aload_n rfl ?_
          refine js_getr rfl rfl rfl ?_
          refine js_bipush (v := (26 : Int32)) rfl ?_
          refine js_aload_n rfl ?_
          refine js_geti rfl rfl rfl ?_
          refine js_iadd ?_
          refine js_iconst (v := (0 : Int32)) rfl ?_
          obtain ⟨hb14, hf⟩ := jg_some hf
          refine js_iast rfl hb14 ?_
          refine js_aload_n rfl ?_
          refine js_aload_n rfl ?_
          refine js_geti rfl rfl rfl ?_
          refine js_iconst (v := (1 : Int32)) rfl ?_
          refine js_iadd ?_
          refine js_puti rfl rfl (Or.inl rfl) ?_
          refine js_aload_n rfl ?_
          refine js_iconst (v := (0 : Int32)) rfl ?_
          refine js_puti rfl rfl (Or.inl rfl) ?_
          refine js_aload_n rfl ?_
          refine js_geti rfl rfl rfl ?_
          refine js_iconst (v := (1 : Int32)) rfl ?_
          refine js_isub ?_
          obtain rfl := Option.some.inj hf
          exact js_iret rfl rfl
        · have hf := jif_f hf h
          refine js_iconst (v := (-1 : Int32)) rfl ?_
          obtain rfl := Option.some.inj hf
          exact js_iret rfl rfl
/-! SwallowsAirModel.swallow(II)I -/
def f_M_swallow (a1 : Int32) (a2 : Int32) (M : jp_M) : Option (Int32 × jp_M) :=
  let M1 := jp_set M 104 (upd (M 104) 0 (0 : Int32))
  if jp_c .eq (f_M_isIn a1 (0 : Int32) (9 : Int32)) 0 = true then (
  some ((-1 : Int32), M1)) else (
  if jp_c .eq (f_M_isIn a2 (1 : Int32) (9 : Int32)) 0 = true then (
  some ((-1 : Int32), M1)) else (
  if jp_c .ne (M1 104 7) (10 : Int32) = true then (
  jg (jp_in ((46 : Int32) + (M1 104 7)) 184) (
  let M4 := jp_set M1 105 (upd (M1 105) (Int32.toNatClampNeg ((46 : Int32) + (M1 104 7))) a1)
  jg (jp_in ((36 : Int32) + (M4 104 7)) 184) (
  let M6 := jp_set M4 105 (upd (M4 105) (Int32.toNatClampNeg ((36 : Int32) + (M4 104 7))) (0 : Int32))
  jg (jp_in (M6 104 7) 10) (
  let M8 := jp_set M6 110 (upd (M6 110) (Int32.toNatClampNeg (M6 104 7)) a2)
  let M10 := jp_set M8 104 (upd (M8 104) 7 ((M8 104 7) + (1 : Int32)))
  let M11 := jp_set M10 104 (upd (M10 104) 3 (0 : Int32))
  some (((M11 104 7) - (1 : Int32)), M11))))) else (
  some ((-1 : Int32), M1))))
theorem t_M_swallow {Ln : Nat} {xs : Nat → Int32} {sv : jp_V} {a1 : Int32} {a2 : Int32} {w : Nat} {M : jp_M} {res : Int32 × jp_M} (hf : f_M_swallow a1 a2 M = some res) : jE (jZ (jK Ln xs sv)) 1 185 [(.inr (some 104)), (.inl a1), (.inl a2)] (jSH w) M (some (.inl res.1), jSH w, res.2) := by
  unfold f_M_swallow at hf
  refine jE_in (L0 := [some (.inr (some 104)), some (.inl a1), some (.inl a2)]) rfl (Nat.le_of_ble_eq_true rfl) rfl (fun d hd => ?_)
  refine jR_in rfl ⟨rfl, rfl, rfl⟩ rfl ?_
  refine js_aload_n rfl ?_
  refine js_iconst (v := (0 : Int32)) rfl ?_
  refine js_puti rfl rfl (Or.inl rfl) ?_
  refine js_aload_n rfl ?_
  refine js_iload_n rfl ?_
  refine js_iconst (v := (0 : Int32)) rfl ?_
  refine js_bipush (v := (9 : Int32)) rfl ?_
  refine js_c4i rfl rfl ⟨rfl, rfl⟩ rfl rfl (t_M_isIn rfl) (by omega) ?_
  refine js_ifc (tgt := 36) rfl rfl (fun h => ?_) (fun h => ?_)
  · have hf := jif_t hf h
    refine jR_in rfl ⟨rfl, rfl, rfl⟩ rfl ?_
    refine js_iconst (v := (-1 : Int32)) rfl ?_
    obtain rfl := Option.some.inj hf
    exact js_iret rfl rfl
  · have hf := jif_f hf h
    refine js_aload_n rfl ?_
    refine js_iload_n rfl ?_
    refine js_iconst (v := (1 : Int32)) rfl ?_
    refine js_bipush (v := (9 : Int32)) rfl ?_
    refine js_c4i rfl rfl ⟨rfl, rfl⟩ rfl rfl (t_M_isIn rfl) (by omega) ?_
    refine js_ifc (tgt := 36) rfl rfl (fun h => ?_) (fun h => ?_)
    · have hf := jif_t hf h
      refine jR_in rfl ⟨rfl, rfl, rfl⟩ rfl ?_
      refine js_iconst (v := (-1 : Int32)) rfl ?_
      obtain rfl := Option.some.inj hf
      exact js_iret rfl rfl
    · have hf := jif_f hf h
      refine js_aload_n rfl ?_
      refine js_geti rfl rfl rfl ?_
      refine js_bipush (v := (10 : Int32)) rfl ?_
      refine js_icmp (tgt := 38) rfl rfl (fun h => ?_) (fun h => ?_)
      · have hf := jif_t hf h
        refine jR_in rfl ⟨rfl, rfl, rfl⟩ rfl ?_
        refine js_aload_n rfl ?_
        refine js_getr rfl rfl rfl ?_
        refine js_bipush (v := (46 : Int32)) rfl ?_
        refine js_aload_n rfl ?_
        refine js_geti rfl rfl rfl ?_
        refine js_iadd ?_
        refine js_iload_n rfl ?_
        obtain ⟨hb5, hf⟩ := jg_some hf
        refine js_iast rfl hb5 ?_
        refine js_aload_n rfl ?_
        refine js_getr rfl rfl rfl ?_
        refine js_bipush (v := (36 : Int32)) rfl ?_
        refine js_aload_n rfl ?_
        refine js_geti rfl rfl rfl ?_
        refine js_iadd ?_
        refine js_iconst (v := (0 : Int32)) rfl ?_
        obtain ⟨hb7, hf⟩ := jg_some hf
        refine js_iast rfl hb7 ?_
        refine js_aload_n rfl ?_
        refine js_getr rfl rfl rfl ?_
        refine js_aload_n rfl ?_
        refine js_geti rfl rfl rfl ?_
        refine js_iload_n rfl ?_
        obtain ⟨hb9, hf⟩ := jg_some hf
        refine js_iast rfl hb9 ?_
        refine js_aload_n rfl ?_
        refine js_aload_n rfl ?_
        refine js_geti rfl rfl rfl ?_
        refine js_iconst (v := (1 : Int32)) rfl ?_
        refine js_iadd ?_
        refine js_puti rfl rfl (Or.inl rfl) ?_
        refine js_aload_n rfl ?_
        refine js_iconst (v := (0 : Int32)) rfl ?_
        refine js_puti rfl rfl (Or.inl rfl) ?_
        refine js_aload_n rfl ?_
        refine js_geti rfl rfl rfl ?_
        refine js_iconst (v := (1 : Int32)) rfl ?_
        refine js_isub ?_
        obtain rfl := Option.some.inj hf
        exact js_iret rfl rfl
      · have hf := jif_f hf h
        refine js_iconst (v := (-1 : Int32)) rfl ?_
        obtain rfl := Option.some.inj hf
        exact js_iret rfl rfl
/-! SwallowsAirModel.isBird(I)Z -/
def f_M_isBird (a1 : Int32) (M : jp_M) : Int32 :=
  if jp_c .lt a1 0 = true then (
  (0 : Int32)) else (
  if jp_c .ge a1 (M 104 7) = true then (
  (0 : Int32)) else (
  (1 : Int32)))
theorem t_M_isBird {Ln : Nat} {xs : Nat → Int32} {sv : jp_V} {a1 : Int32} {w : Nat} {M : jp_M} {res : Int32} (hf : f_M_isBird a1 M = res) : jE (jZ (jK Ln xs sv)) 0 178 [(.inr (some 104)), (.inl a1)] (jSH w) M (some (.inl res), jSH w, M) := by
  unfold f_M_isBird at hf
  refine jE_in (L0 := [some (.inr (some 104)), some (.inl a1)]) rfl (Nat.le_of_ble_eq_true rfl) rfl (fun d hd => ?_)
  refine jR_in rfl ⟨rfl, rfl, rfl⟩ rfl ?_
  refine js_iload_n rfl ?_
  refine js_ifc (tgt := 16) rfl rfl (fun h => ?_) (fun h => ?_)
  · have hf := jif_t hf h
    refine jR_in rfl ⟨rfl, rfl, rfl⟩ rfl ?_
    refine js_iconst (v := (0 : Int32)) rfl ?_
    subst hf
    exact js_iret rfl rfl
  · have hf := jif_f hf h
    refine js_iload_n rfl ?_
    refine js_aload_n rfl ?_
    refine js_geti rfl rfl rfl ?_
    refine js_icmp (tgt := 16) rfl rfl (fun h => ?_) (fun h => ?_)
    · have hf := jif_t hf h
      refine jR_in rfl ⟨rfl, rfl, rfl⟩ rfl ?_
      refine js_iconst (v := (0 : Int32)) rfl ?_
      subst hf
      exact js_iret rfl rfl
    · have hf := jif_f hf h
      refine js_iconst (v := (1 : Int32)) rfl ?_
      refine js_goto (tgt := 17) rfl rfl ?_
      refine jR_in rfl ⟨rfl, rfl, rfl⟩ rfl ?_
      subst hf
      exact js_iret rfl rfl
theorem b_M_isBird {a1 : Int32} {M : jp_M} {res : Int32} (hf : f_M_isBird a1 M = res) : res = 0 ∨ res = 1 := by
  unfold f_M_isBird at hf
  rcases jif_d hf with ⟨h, hf⟩ | ⟨h, hf⟩
  · subst hf
    exact Or.inl rfl
  · rcases jif_d hf with ⟨h, hf⟩ | ⟨h, hf⟩
    · subst hf
      exact Or.inl rfl
    · subst hf
      exact Or.inr rfl
/-! SwallowsAirModel.isPerson(I)Z -/
def f_M_isPerson (a1 : Int32) (M : jp_M) : Int32 :=
  if jp_c .lt a1 0 = true then (
  (0 : Int32)) else (
  if jp_c .ge a1 (M 104 6) = true then (
  (0 : Int32)) else (
  (1 : Int32)))
theorem t_M_isPerson {Ln : Nat} {xs : Nat → Int32} {sv : jp_V} {a1 : Int32} {w : Nat} {M : jp_M} {res : Int32} (hf : f_M_isPerson a1 M = res) : jE (jZ (jK Ln xs sv)) 0 177 [(.inr (some 104)), (.inl a1)] (jSH w) M (some (.inl res), jSH w, M) := by
  unfold f_M_isPerson at hf
  refine jE_in (L0 := [some (.inr (some 104)), some (.inl a1)]) rfl (Nat.le_of_ble_eq_true rfl) rfl (fun d hd => ?_)
  refine jR_in rfl ⟨rfl, rfl, rfl⟩ rfl ?_
  refine js_iload_n rfl ?_
  refine js_ifc (tgt := 16) rfl rfl (fun h => ?_) (fun h => ?_)
  · have hf := jif_t hf h
    refine jR_in rfl ⟨rfl, rfl, rfl⟩ rfl ?_
    refine js_iconst (v := (0 : Int32)) rfl ?_
    subst hf
    exact js_iret rfl rfl
  · have hf := jif_f hf h
    refine js_iload_n rfl ?_
    refine js_aload_n rfl ?_
    refine js_geti rfl rfl rfl ?_
    refine js_icmp (tgt := 16) rfl rfl (fun h => ?_) (fun h => ?_)
    · have hf := jif_t hf h
      refine jR_in rfl ⟨rfl, rfl, rfl⟩ rfl ?_
      refine js_iconst (v := (0 : Int32)) rfl ?_
      subst hf
      exact js_iret rfl rfl
    · have hf := jif_f hf h
      refine js_iconst (v := (1 : Int32)) rfl ?_
      refine js_goto (tgt := 17) rfl rfl ?_
      refine jR_in rfl ⟨rfl, rfl, rfl⟩ rfl ?_
      subst hf
      exact js_iret rfl rfl
theorem b_M_isPerson {a1 : Int32} {M : jp_M} {res : Int32} (hf : f_M_isPerson a1 M = res) : res = 0 ∨ res = 1 := by
  unfold f_M_isPerson at hf
  rcases jif_d hf with ⟨h, hf⟩ | ⟨h, hf⟩
  · subst hf
    exact Or.inl rfl
  · rcases jif_d hf with ⟨h, hf⟩ | ⟨h, hf⟩
    · subst hf
      exact Or.inl rfl
    · subst hf
      exact Or.inr rfl
/-! SwallowsAirModel.canSet(III)Z -/
def f_M_canSet_89  (s1 : Int32) (s2 : Int32) (s3 : Int32) (M : jp_M) : Int32 :=
  if jp_c .eq (f_M_isIn s1 s2 s3) 0 = true then (
  (0 : Int32)) else (
  (1 : Int32))
theorem t_M_canSet_89 {Ln : Nat} {xs : Nat → Int32} {sv : jp_V} {d : Nat} (hd : 1 ≤ d)  (s1 : Int32) (s2 : Int32) (s3 : Int32) (o0 : Option jp_V) (o1 : Option jp_V) (o2 : Option jp_V) (o3 : Option jp_V) (w : Nat) (M : jp_M) {res : Int32} (hf : f_M_canSet_89  s1 s2 s3 M = res) : jR (jZ (jK Ln xs sv)) d 186 89 ([o0, o1, o2, o3], [.inl s3, .inl s2, .inl s1, (.inr (some 104))], jSH w, M) (some (.inl res), jSH w, M) := by
  unfold f_M_canSet_89 at hf
  refine jR_in rfl ⟨rfl, rfl, rfl⟩ rfl ?_
  refine js_c4i rfl rfl ⟨rfl, rfl⟩ rfl rfl (t_M_isIn rfl) (by omega) ?_
  refine js_ifc (tgt := 99) rfl rfl (fun h => ?_) (fun h => ?_)
  · have hf := jif_t hf h
    refine jR_in rfl ⟨rfl, rfl, rfl⟩ rfl ?_
    refine js_iconst (v := (0 : Int32)) rfl ?_
    subst hf
    exact js_iret rfl rfl
  · have hf := jif_f hf h
    refine js_iconst (v := (1 : Int32)) rfl ?_
    refine js_goto (tgt := 100) rfl rfl ?_
    refine jR_in rfl ⟨rfl, rfl, rfl⟩ rfl ?_
    subst hf
    exact js_iret rfl rfl
theorem b_M_canSet_89  (s1 : Int32) (s2 : Int32) (s3 : Int32) (M : jp_M) {res : Int32} (hf : f_M_canSet_89  s1 s2 s3 M = res) : res = 0 ∨ res = 1 := by
  unfold f_M_canSet_89 at hf
  rcases jif_d hf with ⟨h, hf⟩ | ⟨h, hf⟩
  · subst hf
    exact Or.inl rfl
  · subst hf
    exact Or.inr rfl
def f_M_canSet (a1 : Int32) (a2 : Int32) (a3 : Int32) (M : jp_M) : Int32 :=
  if jp_c .ne a1 (5 : Int32) = true then (
  if jp_c .ne a1 (4 : Int32) = true then (
  if jp_c .eq (f_M_isIn a1 (0 : Int32) (3 : Int32)) 0 = true then (
  (0 : Int32)) else (
  if jp_c .eq (f_M_isPerson a2 M) 0 = true then (
  (0 : Int32)) else (
  if jp_c .ne a1 (1 : Int32) = true then (
  if jp_c .ne a1 (2 : Int32) = true then (
  f_M_canSet_89 a3 (0 : Int32) (7 : Int32) M) else (
  f_M_canSet_89 a3 (0 : Int32) (9 : Int32) M)) else (
  f_M_canSet_89 a3 (0 : Int32) (9999 : Int32) M)))) else (
  if jp_c .eq (f_M_isBird a2 M) 0 = true then (
  (0 : Int32)) else (
  if jp_c .eq (f_M_isIn a3 (1 : Int32) (9 : Int32)) 0 = true then (
  (0 : Int32)) else (
  (1 : Int32))))) else (
  (f_M_isIn a3 (0 : Int32) (9999 : Int32)))
theorem t_M_canSet {Ln : Nat} {xs : Nat → Int32} {sv : jp_V} {a1 : Int32} {a2 : Int32} {a3 : Int32} {w : Nat} {M : jp_M} {res : Int32} (hf : f_M_canSet a1 a2 a3 M = res) : jE (jZ (jK Ln xs sv)) 1 186 [(.inr (some 104)), (.inl a1), (.inl a2), (.inl a3)] (jSH w) M (some (.inl res), jSH w, M) := by
  unfold f_M_canSet at hf
  refine jE_in (L0 := [some (.inr (some 104)), some (.inl a1), some (.inl a2), some (.inl a3)]) rfl (Nat.le_of_ble_eq_true rfl) rfl (fun d hd => ?_)
  refine jR_in rfl ⟨rfl, rfl, rfl⟩ rfl ?_
  refine js_iload_n rfl ?_
  refine js_iconst (v := (5 : Int32)) rfl ?_
  refine js_icmp (tgt := 15) rfl rfl (fun h => ?_) (fun h => ?_)
  · have hf := jif_t hf h
    refine jR_in rfl ⟨rfl, rfl, rfl⟩ rfl ?_
    refine js_iload_n rfl ?_
    refine js_iconst (v := (4 : Int32)) rfl ?_
    refine js_icmp (tgt := 45) rfl rfl (fun h => ?_) (fun h => ?_)
    · have hf := jif_t hf h
      refine jR_in rfl ⟨rfl, rfl, rfl⟩ rfl ?_
      refine js_aload_n rfl ?_
      refine js_iload_n rfl ?_
      refine js_iconst (v := (0 : Int32)) rfl ?_
      refine js_iconst (v := (3 : Int32)) rfl ?_
      refine js_c4i rfl rfl ⟨rfl, rfl⟩ rfl rfl (t_M_isIn rfl) (by omega) ?_
      refine js_ifc (tgt := 99) rfl rfl (fun h => ?_) (fun h => ?_)
      · have hf := jif_t hf h
        refine jR_in rfl ⟨rfl, rfl, rfl⟩ rfl ?_
        refine js_iconst (v := (0 : Int32)) rfl ?_
        subst hf
        exact js_iret rfl rfl
      · have hf := jif_f hf h
        refine js_aload_n rfl ?_
        refine js_iload_n rfl ?_
        refine js_c2i rfl rfl ⟨rfl, rfl⟩ rfl rfl (t_M_isPerson rfl) (by omega) ?_
        refine js_ifc (tgt := 99) rfl rfl (fun h => ?_) (fun h => ?_)
        · have hf := jif_t hf h
          refine jR_in rfl ⟨rfl, rfl, rfl⟩ rfl ?_
          refine js_iconst (v := (0 : Int32)) rfl ?_
          subst hf
          exact js_iret rfl rfl
        · have hf := jif_f hf h
          refine js_aload_n rfl ?_
          refine js_iload_n rfl ?_
          refine js_iconst (v := (0 : Int32)) rfl ?_
          refine js_iload_n rfl ?_
          refine js_iconst (v := (1 : Int32)) rfl ?_
          refine js_icmp (tgt := 77) rfl rfl (fun h => ?_) (fun h => ?_)
          · have hf := jif_t hf h
            refine jR_in rfl ⟨rfl, rfl, rfl⟩ rfl ?_
            refine js_iload_n rfl ?_
            refine js_iconst (v := (2 : Int32)) rfl ?_
            refine js_icmp (tgt := 87) rfl rfl (fun h => ?_) (fun h => ?_)
            · have hf := jif_t hf h
              refine jR_in rfl ⟨rfl, rfl, rfl⟩ rfl ?_
              refine js_bipush (v := (7 : Int32)) rfl ?_
              exact jS_out rfl ⟨rfl, rfl, rfl⟩ rfl (t_M_canSet_89 hd _ _ _ _ _ _ _ _ _ hf)
            · have hf := jif_f hf h
              refine js_bipush (v := (9 : Int32)) rfl ?_
              refine js_goto (tgt := 89) rfl rfl ?_
              exact t_M_canSet_89 hd _ _ _ _ _ _ _ _ _ hf
          · have hf := jif_f hf h
            refine js_sipush (v := (9999 : Int32)) rfl ?_
            refine js_goto (tgt := 89) rfl rfl ?_
            exact t_M_canSet_89 hd _ _ _ _ _ _ _ _ _ hf
    · have hf := jif_f hf h
      refine js_aload_n rfl ?_
      refine js_iload_n rfl ?_
      refine js_c2i rfl rfl ⟨rfl, rfl⟩ rfl rfl (t_M_isBird rfl) (by omega) ?_
      refine js_ifc (tgt := 43) rfl rfl (fun h => ?_) (fun h => ?_)
      · have hf := jif_t hf h
        refine jR_in rfl ⟨rfl, rfl, rfl⟩ rfl ?_
        refine js_iconst (v := (0 : Int32)) rfl ?_
        subst hf
        exact js_iret rfl rfl
      · have hf := jif_f hf h
        refine js_aload_n rfl ?_
        refine js_iload_n rfl ?_
        refine js_iconst (v := (1 : Int32)) rfl ?_
        refine js_bipush (v := (9 : Int32)) rfl ?_
        refine js_c4i rfl rfl ⟨rfl, rfl⟩ rfl rfl (t_M_isIn rfl) (by omega) ?_
        refine js_ifc (tgt := 43) rfl rfl (fun h => ?_) (fun h => ?_)
        · have hf := jif_t hf h
          refine jR_in rfl ⟨rfl, rfl, rfl⟩ rfl ?_
          refine js_iconst (v := (0 : Int32)) rfl ?_
          subst hf
          exact js_iret rfl rfl
        · have hf := jif_f hf h
          refine js_iconst (v := (1 : Int32)) rfl ?_
          refine js_goto (tgt := 44) rfl rfl ?_
          refine jR_in rfl ⟨rfl, rfl, rfl⟩ rfl ?_
          subst hf
          exact js_iret rfl rfl
  · have hf := jif_f hf h
    refine js_aload_n rfl ?_
    refine js_iload_n rfl ?_
    refine js_iconst (v := (0 : Int32)) rfl ?_
    refine js_sipush (v := (9999 : Int32)) rfl ?_
    refine js_c4i rfl rfl ⟨rfl, rfl⟩ rfl rfl (t_M_isIn rfl) (by omega) ?_
    subst hf
    exact js_iret (jbool (b_M_isIn rfl)) rfl
theorem b_M_canSet {a1 : Int32} {a2 : Int32} {a3 : Int32} {M : jp_M} {res : Int32} (hf : f_M_canSet a1 a2 a3 M = res) : res = 0 ∨ res = 1 := by
  unfold f_M_canSet at hf
  rcases jif_d hf with ⟨h, hf⟩ | ⟨h, hf⟩
  · rcases jif_d hf with ⟨h, hf⟩ | ⟨h, hf⟩
    · rcases jif_d hf with ⟨h, hf⟩ | ⟨h, hf⟩
      · subst hf
        exact Or.inl rfl
      · rcases jif_d hf with ⟨h, hf⟩ | ⟨h, hf⟩
        · subst hf
          exact Or.inl rfl
        · rcases jif_d hf with ⟨h, hf⟩ | ⟨h, hf⟩
          · rcases jif_d hf with ⟨h, hf⟩ | ⟨h, hf⟩
            · exact b_M_canSet_89 _ _ _ _ hf
            · exact b_M_canSet_89 _ _ _ _ hf
          · exact b_M_canSet_89 _ _ _ _ hf
    · rcases jif_d hf with ⟨h, hf⟩ | ⟨h, hf⟩
      · subst hf
        exact Or.inl rfl
      · rcases jif_d hf with ⟨h, hf⟩ | ⟨h, hf⟩
        · subst hf
          exact Or.inl rfl
        · subst hf
          exact Or.inr rfl
  · subst hf
    exact (b_M_isIn rfl)
/-! SwallowsAirModel.set(III)Z -/
def f_M_set_82  (l1 : Int32) (l3 : Int32) (M : jp_M) : Option (Int32 × jp_M) :=
  if jp_c .ne l1 (5 : Int32) = true then (
  let M1 := jp_set M 104 (upd (M 104) 3 (0 : Int32))
  some ((1 : Int32), M1)) else (
  let M2 := jp_set M 105 (upd (M 105) 0 l3)
  let M3 := jp_set M2 104 (upd (M2 104) 3 (0 : Int32))
  some ((1 : Int32), M3))
theorem t_M_set_82 {Ln : Nat} {xs : Nat → Int32} {sv : jp_V} {d : Nat} (hd : 2 ≤ d)  (l1 : Int32) (l3 : Int32) (o2 : Option jp_V) (w : Nat) (M : jp_M) {res : Int32 × jp_M} (hf : f_M_set_82  l1 l3 M = some res) : jR (jZ (jK Ln xs sv)) d 187 82 ([some (.inr (some 104)), some (.inl l1), o2, some (.inl l3)], [], jSH w, M) (some (.inl res.1), jSH w, res.2) := by
  unfold f_M_set_82 at hf
  refine jR_in rfl ⟨rfl, rfl, rfl⟩ rfl ?_
  refine js_iload_n rfl ?_
  refine js_iconst (v := (5 : Int32)) rfl ?_
  refine js_icmp (tgt := 94) rfl rfl (fun h => ?_) (fun h => ?_)
  · have hf := jif_t hf h
    refine jR_in rfl ⟨rfl, rfl, rfl⟩ rfl ?_
    refine js_aload_n rfl ?_
    refine js_iconst (v := (0 : Int32)) rfl ?_
    refine js_puti rfl rfl (Or.inl rfl) ?_
    refine js_iconst (v := (1 : Int32)) rfl ?_
    obtain rfl := Option.some.inj hf
    exact js_iret rfl rfl
  · have hf := jif_f hf h
    refine js_aload_n rfl ?_
    refine js_getr rfl rfl rfl ?_
    refine js_iconst (v := (0 : Int32)) rfl ?_
    refine js_iload_n rfl ?_
    refine js_iast rfl (by decide) ?_
    refine js_aload_n rfl ?_
    refine js_iconst (v := (0 : Int32)) rfl ?_
    refine js_puti rfl rfl (Or.inl rfl) ?_
    refine js_iconst (v := (1 : Int32)) rfl ?_
    obtain rfl := Option.some.inj hf
    exact js_iret rfl rfl
theorem b_M_set_82  (l1 : Int32) (l3 : Int32) (M : jp_M) {res : Int32 × jp_M} (hf : f_M_set_82  l1 l3 M = some res) : res.1 = 0 ∨ res.1 = 1 := by
  unfold f_M_set_82 at hf
  rcases jif_d hf with ⟨h, hf⟩ | ⟨h, hf⟩
  · obtain rfl := Option.some.inj hf
    exact Or.inr rfl
  · obtain rfl := Option.some.inj hf
    exact Or.inr rfl
def f_M_set_70  (l1 : Int32) (l2 : Int32) (l3 : Int32) (M : jp_M) : Option (Int32 × jp_M) :=
  if jp_c .ne l1 (4 : Int32) = true then (
  f_M_set_82 l1 l3 M) else (
  jg (jp_in l2 10) (
  let M1 := jp_set M 110 (upd (M 110) (Int32.toNatClampNeg l2) l3)
  f_M_set_82 l1 l3 M1))
theorem t_M_set_70 {Ln : Nat} {xs : Nat → Int32} {sv : jp_V} {d : Nat} (hd : 2 ≤ d)  (l1 : Int32) (l2 : Int32) (l3 : Int32) (w : Nat) (M : jp_M) {res : Int32 × jp_M} (hf : f_M_set_70  l1 l2 l3 M = some res) : jR (jZ (jK Ln xs sv)) d 187 70 ([some (.inr (some 104)), some (.inl l1), some (.inl l2), some (.inl l3)], [], jSH w, M) (some (.inl res.1), jSH w, res.2) := by
  unfold f_M_set_70 at hf
  refine jR_in rfl ⟨rfl, rfl, rfl⟩ rfl ?_
  refine js_iload_n rfl ?_
  refine js_iconst (v := (4 : Int32)) rfl ?_
  refine js_icmp (tgt := 82) rfl rfl (fun h => ?_) (fun h => ?_)
  · have hf := jif_t hf h
    exact t_M_set_82 hd _ _ _ _ _ hf
  · have hf := jif_f hf h
    refine js_aload_n rfl ?_
    refine js_getr rfl rfl rfl ?_
    refine js_iload_n rfl ?_
    refine js_iload_n rfl ?_
    obtain ⟨hb2, hf⟩ := jg_some hf
    refine js_iast rfl hb2 ?_
    exact jS_out rfl ⟨rfl, rfl, rfl⟩ rfl (t_M_set_82 hd _ _ _ _ _ hf)
theorem b_M_set_70  (l1 : Int32) (l2 : Int32) (l3 : Int32) (M : jp_M) {res : Int32 × jp_M} (hf : f_M_set_70  l1 l2 l3 M = some res) : res.1 = 0 ∨ res.1 = 1 := by
  unfold f_M_set_70 at hf
  rcases jif_d hf with ⟨h, hf⟩ | ⟨h, hf⟩
  · exact b_M_set_82 _ _ _ hf
  · obtain ⟨hb2, hf⟩ := jg_some hf
    exact b_M_set_82 _ _ _ hf
def f_M_set_55  (l1 : Int32) (l2 : Int32) (l3 : Int32) (M : jp_M) : Option (Int32 × jp_M) :=
  if jp_c .ne l1 (3 : Int32) = true then (
  f_M_set_70 l1 l2 l3 M) else (
  jg (jp_in ((26 : Int32) + l2) 184) (
  let M1 := jp_set M 105 (upd (M 105) (Int32.toNatClampNeg ((26 : Int32) + l2)) l3)
  f_M_set_70 l1 l2 l3 M1))
theorem t_M_set_55 {Ln : Nat} {xs : Nat → Int32} {sv : jp_V} {d : Nat} (hd : 2 ≤ d)  (l1 : Int32) (l2 : Int32) (l3 : Int32) (w : Nat) (M : jp_M) {res : Int32 × jp_M} (hf : f_M_set_55  l1 l2 l3 M = some res) : jR (jZ (jK Ln xs sv)) d 187 55 ([some (.inr (some 104)), some (.inl l1), some (.inl l2), some (.inl l3)], [], jSH w, M) (some (.inl res.1), jSH w, res.2) := by
  unfold f_M_set_55 at hf
  refine jR_in rfl ⟨rfl, rfl, rfl⟩ rfl ?_
  refine js_iload_n rfl ?_
  refine js_iconst (v := (3 : Int32)) rfl ?_
  refine js_icmp (tgt := 70) rfl rfl (fun h => ?_) (fun h => ?_)
  · have hf := jif_t hf h
    exact t_M_set_70 hd _ _ _ _ _ hf
  · have hf := jif_f hf h
    refine js_aload_n rfl ?_
    refine js_getr rfl rfl rfl ?_
    refine js_bipush (v := (26 : Int32)) rfl ?_
    refine js_iload_n rfl ?_
    refine js_iadd ?_
    refine js_iload_n rfl ?_
    obtain ⟨hb2, hf⟩ := jg_some hf
    refine js_iast rfl hb2 ?_
    exact jS_out rfl ⟨rfl, rfl, rfl⟩ rfl (t_M_set_70 hd _ _ _ _ _ hf)
theorem b_M_set_55  (l1 : Int32) (l2 : Int32) (l3 : Int32) (M : jp_M) {res : Int32 × jp_M} (hf : f_M_set_55  l1 l2 l3 M = some res) : res.1 = 0 ∨ res.1 = 1 := by
  unfold f_M_set_55 at hf
  rcases jif_d hf with ⟨h, hf⟩ | ⟨h, hf⟩
  · exact b_M_set_70 _ _ _ _ hf
  · obtain ⟨hb2, hf⟩ := jg_some hf
    exact b_M_set_70 _ _ _ _ hf
def f_M_set_43  (l1 : Int32) (l2 : Int32) (l3 : Int32) (M : jp_M) : Option (Int32 × jp_M) :=
  if jp_c .ne l1 (2 : Int32) = true then (
  f_M_set_55 l1 l2 l3 M) else (
  jg (jp_in l2 10) (
  let M1 := jp_set M 109 (upd (M 109) (Int32.toNatClampNeg l2) l3)
  f_M_set_55 l1 l2 l3 M1))
theorem t_M_set_43 {Ln : Nat} {xs : Nat → Int32} {sv : jp_V} {d : Nat} (hd : 2 ≤ d)  (l1 : Int32) (l2 : Int32) (l3 : Int32) (w : Nat) (M : jp_M) {res : Int32 × jp_M} (hf : f_M_set_43  l1 l2 l3 M = some res) : jR (jZ (jK Ln xs sv)) d 187 43 ([some (.inr (some 104)), some (.inl l1), some (.inl l2), some (.inl l3)], [], jSH w, M) (some (.inl res.1), jSH w, res.2) := by
  unfold f_M_set_43 at hf
  refine jR_in rfl ⟨rfl, rfl, rfl⟩ rfl ?_
  refine js_iload_n rfl ?_
  refine js_iconst (v := (2 : Int32)) rfl ?_
  refine js_icmp (tgt := 55) rfl rfl (fun h => ?_) (fun h => ?_)
  · have hf := jif_t hf h
    exact t_M_set_55 hd _ _ _ _ _ hf
  · have hf := jif_f hf h
    refine js_aload_n rfl ?_
    refine js_getr rfl rfl rfl ?_
    refine js_iload_n rfl ?_
    refine js_iload_n rfl ?_
    obtain ⟨hb2, hf⟩ := jg_some hf
    refine js_iast rfl hb2 ?_
    exact jS_out rfl ⟨rfl, rfl, rfl⟩ rfl (t_M_set_55 hd _ _ _ _ _ hf)
theorem b_M_set_43  (l1 : Int32) (l2 : Int32) (l3 : Int32) (M : jp_M) {res : Int32 × jp_M} (hf : f_M_set_43  l1 l2 l3 M = some res) : res.1 = 0 ∨ res.1 = 1 := by
  unfold f_M_set_43 at hf
  rcases jif_d hf with ⟨h, hf⟩ | ⟨h, hf⟩
  · exact b_M_set_55 _ _ _ _ hf
  · obtain ⟨hb2, hf⟩ := jg_some hf
    exact b_M_set_55 _ _ _ _ hf
def f_M_set_28  (l1 : Int32) (l2 : Int32) (l3 : Int32) (M : jp_M) : Option (Int32 × jp_M) :=
  if jp_c .ne l1 (1 : Int32) = true then (
  f_M_set_43 l1 l2 l3 M) else (
  jg (jp_in ((6 : Int32) + l2) 184) (
  let M1 := jp_set M 105 (upd (M 105) (Int32.toNatClampNeg ((6 : Int32) + l2)) l3)
  f_M_set_43 l1 l2 l3 M1))
theorem t_M_set_28 {Ln : Nat} {xs : Nat → Int32} {sv : jp_V} {d : Nat} (hd : 2 ≤ d)  (l1 : Int32) (l2 : Int32) (l3 : Int32) (w : Nat) (M : jp_M) {res : Int32 × jp_M} (hf : f_M_set_28  l1 l2 l3 M = some res) : jR (jZ (jK Ln xs sv)) d 187 28 ([some (.inr (some 104)), some (.inl l1), some (.inl l2), some (.inl l3)], [], jSH w, M) (some (.inl res.1), jSH w, res.2) := by
  unfold f_M_set_28 at hf
  refine jR_in rfl ⟨rfl, rfl, rfl⟩ rfl ?_
  refine js_iload_n rfl ?_
  refine js_iconst (v := (1 : Int32)) rfl ?_
  refine js_icmp (tgt := 43) rfl rfl (fun h => ?_) (fun h => ?_)
  · have hf := jif_t hf h
    exact t_M_set_43 hd _ _ _ _ _ hf
  · have hf := jif_f hf h
    refine js_aload_n rfl ?_
    refine js_getr rfl rfl rfl ?_
    refine js_bipush (v := (6 : Int32)) rfl ?_
    refine js_iload_n rfl ?_
    refine js_iadd ?_
    refine js_iload_n rfl ?_
    obtain ⟨hb2, hf⟩ := jg_some hf
    refine js_iast rfl hb2 ?_
    exact jS_out rfl ⟨rfl, rfl, rfl⟩ rfl (t_M_set_43 hd _ _ _ _ _ hf)
theorem b_M_set_28  (l1 : Int32) (l2 : Int32) (l3 : Int32) (M : jp_M) {res : Int32 × jp_M} (hf : f_M_set_28  l1 l2 l3 M = some res) : res.1 = 0 ∨ res.1 = 1 := by
  unfold f_M_set_28 at hf
  rcases jif_d hf with ⟨h, hf⟩ | ⟨h, hf⟩
  · exact b_M_set_43 _ _ _ _ hf
  · obtain ⟨hb2, hf⟩ := jg_some hf
    exact b_M_set_43 _ _ _ _ hf
def f_M_set (a1 : Int32) (a2 : Int32) (a3 : Int32) (M : jp_M) : Option (Int32 × jp_M) :=
  let M1 := jp_set M 104 (upd (M 104) 0 (0 : Int32))
  if jp_c .ne (f_M_canSet a1 a2 a3 M1) 0 = true then (
  if jp_c .ne a1 0 = true then (
  f_M_set_28 a1 a2 a3 M1) else (
  jg (jp_in a2 10) (
  let M3 := jp_set M1 108 (upd (M1 108) (Int32.toNatClampNeg a2) a3)
  f_M_set_28 a1 a2 a3 M3))) else (
  some ((0 : Int32), M1))
theorem t_M_set {Ln : Nat} {xs : Nat → Int32} {sv : jp_V} {a1 : Int32} {a2 : Int32} {a3 : Int32} {w : Nat} {M : jp_M} {res : Int32 × jp_M} (hf : f_M_set a1 a2 a3 M = some res) : jE (jZ (jK Ln xs sv)) 2 187 [(.inr (some 104)), (.inl a1), (.inl a2), (.inl a3)] (jSH w) M (some (.inl res.1), jSH w, res.2) := by
  unfold f_M_set at hf
  refine jE_in (L0 := [some (.inr (some 104)), some (.inl a1), some (.inl a2), some (.inl a3)]) rfl (Nat.le_of_ble_eq_true rfl) rfl (fun d hd => ?_)
  refine jR_in rfl ⟨rfl, rfl, rfl⟩ rfl ?_
  refine js_aload_n rfl ?_
  refine js_iconst (v := (0 : Int32)) rfl ?_
  refine js_puti rfl rfl (Or.inl rfl) ?_
  refine js_aload_n rfl ?_
  refine js_iload_n rfl ?_
  refine js_iload_n rfl ?_
  refine js_iload_n rfl ?_
  refine js_c4i rfl rfl ⟨rfl, rfl⟩ rfl rfl (t_M_canSet rfl) (by omega) ?_
  refine js_ifc (tgt := 17) rfl rfl (fun h => ?_) (fun h => ?_)
  · have hf := jif_t hf h
    refine jR_in rfl ⟨rfl, rfl, rfl⟩ rfl ?_
    refine js_iload_n rfl ?_
    refine js_ifc (tgt := 28) rfl rfl (fun h => ?_) (fun h => ?_)
    · have hf := jif_t hf h
      exact t_M_set_28 hd _ _ _ _ _ hf
    · have hf := jif_f hf h
      refine js_aload_n rfl ?_
      refine js_getr rfl rfl rfl ?_
      refine js_iload_n rfl ?_
      refine js_iload_n rfl ?_
      obtain ⟨hb4, hf⟩ := jg_some hf
      refine js_iast rfl hb4 ?_
      exact jS_out rfl ⟨rfl, rfl, rfl⟩ rfl (t_M_set_28 hd _ _ _ _ _ hf)
  · have hf := jif_f hf h
    refine js_iconst (v := (0 : Int32)) rfl ?_
    obtain rfl := Option.some.inj hf
    exact js_iret rfl rfl
theorem b_M_set {a1 : Int32} {a2 : Int32} {a3 : Int32} {M : jp_M} {res : Int32 × jp_M} (hf : f_M_set a1 a2 a3 M = some res) : res.1 = 0 ∨ res.1 = 1 := by
  unfold f_M_set at hf
  rcases jif_d hf with ⟨h, hf⟩ | ⟨h, hf⟩
  · rcases jif_d hf with ⟨h, hf⟩ | ⟨h, hf⟩
    · exact b_M_set_28 _ _ _ _ hf
    · obtain ⟨hb4, hf⟩ := jg_some hf
      exact b_M_set_28 _ _ _ _ hf
  · obtain rfl := Option.some.inj hf
    exact Or.inl rfl
/-! SwallowsAirModel.types(I)V -/
def f_M_types_3  : Nat → Int32 → Int32 → jp_M → Option (jp_M)
  | 0, _, _, _ => none
  | n + 1, l1, l2, M =>
    if jp_c .lt l2 0 = true then (
    some M) else (
    jg (jp_in (M 104 13) 400) (
    let M1 := jp_set M 112 (upd (M 112) (Int32.toNatClampNeg (M 104 13)) ((l1 >>> (l2 &&& 31)) &&& (255 : Int32)))
    let M3 := jp_set M1 104 (upd (M1 104) 13 ((M1 104 13) + (1 : Int32)))
    f_M_types_3 n l1 (l2 + (-8 : Int32)) M3))
theorem t_M_types_3 {Ln : Nat} {xs : Nat → Int32} {sv : jp_V} {d : Nat} (hd : 0 ≤ d)  : ∀ (n : Nat) (l1 : Int32) (l2 : Int32) (w : Nat) (M : jp_M) {res : jp_M}, f_M_types_3 n  l1 l2 M = some res → jR (jZ (jK Ln xs sv)) d 188 3 ([some (.inr (some 104)), some (.inl l1), some (.inl l2)], [], jSH w, M) (none, jSH w, res) := by
  intro n
  induction n with
  | zero =>
    intro l1 l2 w M res hf
    cases hf
  | succ n ih =>
    intro l1 l2 w M res hf
    rw [f_M_types_3] at hf
    refine jR_in rfl ⟨rfl, rfl, rfl⟩ rfl ?_
    refine js_iload_n rfl ?_
    refine js_ifc (tgt := 39) rfl rfl (fun h => ?_) (fun h => ?_)
    · have hf := jif_t hf h
      refine jR_in rfl ⟨rfl, rfl, rfl⟩ rfl ?_
      obtain rfl := Option.some.inj hf
      exact js_ret rfl rfl
    · have hf := jif_f hf h
      refine js_aload_n rfl ?_
      refine js_getr rfl rfl rfl ?_
      refine js_aload_n rfl ?_
      refine js_geti rfl rfl rfl ?_
      refine js_iload_n rfl ?_
      refine js_iload_n rfl ?_
      refine js_ishr ?_
      refine js_sipush (v := (255 : Int32)) rfl ?_
      refine js_iand ?_
      obtain ⟨hb2, hf⟩ := jg_some hf
      refine js_iast rfl hb2 ?_
      refine js_aload_n rfl ?_
      refine js_aload_n rfl ?_
      refine js_geti rfl rfl rfl ?_
      refine js_iconst (v := (1 : Int32)) rfl ?_
      refine js_iadd ?_
      refine js_puti rfl rfl (Or.inl rfl) ?_
      refine js_iinc (v := (-8 : Int32)) rfl rfl rfl rfl ?_
      refine js_goto (tgt := 3) rfl rfl ?_
      exact ih _ _ _ _ hf
def f_M_types (a1 : Int32) (M : jp_M) : Option (jp_M) :=
  f_M_types_3 jFu a1 (24 : Int32) M
theorem t_M_types {Ln : Nat} {xs : Nat → Int32} {sv : jp_V} {a1 : Int32} {w : Nat} {M : jp_M} {res : jp_M} (hf : f_M_types a1 M = some res) : jE (jZ (jK Ln xs sv)) 0 188 [(.inr (some 104)), (.inl a1)] (jSH w) M (none, jSH w, res) := by
  unfold f_M_types at hf
  refine jE_in (L0 := [some (.inr (some 104)), some (.inl a1), none]) rfl (Nat.le_of_ble_eq_true rfl) rfl (fun d hd => ?_)
  refine jR_in rfl ⟨rfl, rfl, rfl⟩ rfl ?_
  refine js_bipush (v := (24 : Int32)) rfl ?_
  refine js_istore_n rfl rfl ?_
  exact jS_out rfl ⟨rfl, rfl, rfl⟩ rfl (t_M_types_3 hd jFu _ _ _ _ hf)
/-! SwallowsAirModel.feed(IIIII)I -/
def f_M_feed (a1 : Int32) (a2 : Int32) (a3 : Int32) (a4 : Int32) (a5 : Int32) (M : jp_M) : Option (Int32 × jp_M) :=
  let M1 := jp_set M 104 (upd (M 104) 0 (0 : Int32))
  if jp_c .le (M1 104 13) (380 : Int32) = true then (
  (f_M_types a1 M1).bind fun q2 => (
  (f_M_types a2 q2).bind fun q3 => (
  (f_M_types a3 q3).bind fun q4 => (
  (f_M_types a4 q4).bind fun q5 => (
  (f_M_types a5 q5).bind fun q6 => (
  some ((q6 104 13), q6))))))) else (
  some ((-1 : Int32), M1))
theorem t_M_feed {Ln : Nat} {xs : Nat → Int32} {sv : jp_V} {a1 : Int32} {a2 : Int32} {a3 : Int32} {a4 : Int32} {a5 : Int32} {w : Nat} {M : jp_M} {res : Int32 × jp_M} (hf : f_M_feed a1 a2 a3 a4 a5 M = some res) : jE (jZ (jK Ln xs sv)) 1 189 [(.inr (some 104)), (.inl a1), (.inl a2), (.inl a3), (.inl a4), (.inl a5)] (jSH w) M (some (.inl res.1), jSH w, res.2) := by
  unfold f_M_feed at hf
  refine jE_in (L0 := [some (.inr (some 104)), some (.inl a1), some (.inl a2), some (.inl a3), some (.inl a4), some (.inl a5)]) rfl (Nat.le_of_ble_eq_true rfl) rfl (fun d hd => ?_)
  refine jR_in rfl ⟨rfl, rfl, rfl⟩ rfl ?_
  refine js_aload_n rfl ?_
  refine js_iconst (v := (0 : Int32)) rfl ?_
  refine js_puti rfl rfl (Or.inl rfl) ?_
  refine js_aload_n rfl ?_
  refine js_geti rfl rfl rfl ?_
  refine js_sipush (v := (380 : Int32)) rfl ?_
  refine js_icmp (tgt := 17) rfl rfl (fun h => ?_) (fun h => ?_)
  · have hf := jif_t hf h
    refine jR_in rfl ⟨rfl, rfl, rfl⟩ rfl ?_
    refine js_aload_n rfl ?_
    refine js_iload_n rfl ?_
    obtain ⟨q2, hc_2, hf⟩ := jbind hf
    refine js_c2v (w := 0) rfl rfl ⟨rfl, rfl⟩ rfl rfl (t_M_types hc_2) (by omega) ?_
    refine js_aload_n rfl ?_
    refine js_iload_n rfl ?_
    obtain ⟨q3, hc_3, hf⟩ := jbind hf
    refine js_c2v (w := 0) rfl rfl ⟨rfl, rfl⟩ rfl rfl (t_M_types hc_3) (by omega) ?_
    refine js_aload_n rfl ?_
    refine js_iload_n rfl ?_
    obtain ⟨q4, hc_4, hf⟩ := jbind hf
    refine js_c2v (w := 0) rfl rfl ⟨rfl, rfl⟩ rfl rfl (t_M_types hc_4) (by omega) ?_
    refine js_aload_n rfl ?_
    refine js_iload rfl ?_
    obtain ⟨q5, hc_5, hf⟩ := jbind hf
    refine js_c2v (w := 0) rfl rfl ⟨rfl, rfl⟩ rfl rfl (t_M_types hc_5) (by omega) ?_
    refine js_aload_n rfl ?_
    refine js_iload rfl ?_
    obtain ⟨q6, hc_6, hf⟩ := jbind hf
    refine js_c2v (w := 0) rfl rfl ⟨rfl, rfl⟩ rfl rfl (t_M_types hc_6) (by omega) ?_
    refine js_aload_n rfl ?_
    refine js_geti rfl rfl rfl ?_
    obtain rfl := Option.some.inj hf
    exact js_iret rfl rfl
  · have hf := jif_f hf h
    refine js_iconst (v := (-1 : Int32)) rfl ?_
    obtain rfl := Option.some.inj hf
    exact js_iret rfl rfl
/-! SwallowsAirModel.end(I)Z -/
def f_M_end (a1 : Int32) (M : jp_M) : Int32 × jp_M :=
  let M1 := jp_set M 104 (upd (M 104) 0 (0 : Int32))
  if jp_c .ne (f_M_isIn a1 (0 : Int32) (M1 104 13)) 0 = true then (
  let M3 := jp_set M1 104 (upd (M1 104) 13 a1)
  ((1 : Int32), M3)) else (
  ((0 : Int32), M1))
theorem t_M_end {Ln : Nat} {xs : Nat → Int32} {sv : jp_V} {a1 : Int32} {w : Nat} {M : jp_M} {res : Int32 × jp_M} (hf : f_M_end a1 M = res) : jE (jZ (jK Ln xs sv)) 1 190 [(.inr (some 104)), (.inl a1)] (jSH w) M (some (.inl res.1), jSH w, res.2) := by
  unfold f_M_end at hf
  refine jE_in (L0 := [some (.inr (some 104)), some (.inl a1)]) rfl (Nat.le_of_ble_eq_true rfl) rfl (fun d hd => ?_)
  refine jR_in rfl ⟨rfl, rfl, rfl⟩ rfl ?_
  refine js_aload_n rfl ?_
  refine js_iconst (v := (0 : Int32)) rfl ?_
  refine js_puti rfl rfl (Or.inl rfl) ?_
  refine js_aload_n rfl ?_
  refine js_iload_n rfl ?_
  refine js_iconst (v := (0 : Int32)) rfl ?_
  refine js_aload_n rfl ?_
  refine js_geti rfl rfl rfl ?_
  refine js_c4i rfl rfl ⟨rfl, rfl⟩ rfl rfl (t_M_isIn rfl) (by omega) ?_
  refine js_ifc (tgt := 20) rfl rfl (fun h => ?_) (fun h => ?_)
  · have hf := jif_t hf h
    refine jR_in rfl ⟨rfl, rfl, rfl⟩ rfl ?_
    refine js_aload_n rfl ?_
    refine js_iload_n rfl ?_
    refine js_puti rfl rfl (Or.inl rfl) ?_
    refine js_iconst (v := (1 : Int32)) rfl ?_
    subst hf
    exact js_iret rfl rfl
  · have hf := jif_f hf h
    refine js_iconst (v := (0 : Int32)) rfl ?_
    subst hf
    exact js_iret rfl rfl
theorem b_M_end {a1 : Int32} {M : jp_M} {res : Int32 × jp_M} (hf : f_M_end a1 M = res) : res.1 = 0 ∨ res.1 = 1 := by
  unfold f_M_end at hf
  rcases jif_d hf with ⟨h, hf⟩ | ⟨h, hf⟩
  · subst hf
    exact Or.inr rfl
  · subst hf
    exact Or.inl rfl
/-! SwallowsAirModel.raw(I)I -/
def f_M_raw (a1 : Int32) (M : jp_M) : Option (Int32) :=
  if jp_c .ge a1 (M 104 13) = true then (
  some (-1 : Int32)) else (
  jg (jp_in a1 400) (
  some (M 112 (Int32.toNatClampNeg a1))))
theorem t_M_raw {Ln : Nat} {xs : Nat → Int32} {sv : jp_V} {a1 : Int32} {w : Nat} {M : jp_M} {res : Int32} (hf : f_M_raw a1 M = some res) : jE (jZ (jK Ln xs sv)) 0 191 [(.inr (some 104)), (.inl a1)] (jSH w) M (some (.inl res), jSH w, M) := by
  unfold f_M_raw at hf
  refine jE_in (L0 := [some (.inr (some 104)), some (.inl a1)]) rfl (Nat.le_of_ble_eq_true rfl) rfl (fun d hd => ?_)
  refine jR_in rfl ⟨rfl, rfl, rfl⟩ rfl ?_
  refine js_iload_n rfl ?_
  refine js_aload_n rfl ?_
  refine js_geti rfl rfl rfl ?_
  refine js_icmp (tgt := 17) rfl rfl (fun h => ?_) (fun h => ?_)
  · have hf := jif_t hf h
    refine jR_in rfl ⟨rfl, rfl, rfl⟩ rfl ?_
    refine js_iconst (v := (-1 : Int32)) rfl ?_
    obtain rfl := Option.some.inj hf
    exact js_iret rfl rfl
  · have hf := jif_f hf h
    refine js_aload_n rfl ?_
    refine js_getr rfl rfl rfl ?_
    refine js_iload_n rfl ?_
    obtain ⟨hb1, hf⟩ := jg_some hf
    refine js_iald rfl hb1 ?_
    refine js_goto (tgt := 18) rfl rfl ?_
    refine jR_in rfl ⟨rfl, rfl, rfl⟩ rfl ?_
    obtain rfl := Option.some.inj hf
    exact js_iret rfl rfl
/-! SwallowsAirModel.isLetter(I)Z -/
def f_M_isLetter_24   : Int32 :=
  (1 : Int32)
theorem t_M_isLetter_24 {Ln : Nat} {xs : Nat → Int32} {sv : jp_V} {d : Nat} (hd : 1 ≤ d)  (o0 : Option jp_V) (o1 : Option jp_V) (w : Nat) (M : jp_M) {res : Int32} (hf : f_M_isLetter_24   = res) : jR (jZ (jK Ln xs sv)) d 192 24 ([o0, o1], [], jSH w, M) (some (.inl res), jSH w, M) := by
  unfold f_M_isLetter_24 at hf
  refine jR_in rfl ⟨rfl, rfl, rfl⟩ rfl ?_
  refine js_iconst (v := (1 : Int32)) rfl ?_
  refine js_goto (tgt := 29) rfl rfl ?_
  refine jR_in rfl ⟨rfl, rfl, rfl⟩ rfl ?_
  subst hf
  exact js_iret rfl rfl
theorem b_M_isLetter_24   {res : Int32} (hf : f_M_isLetter_24   = res) : res = 0 ∨ res = 1 := by
  unfold f_M_isLetter_24 at hf
  subst hf
  exact Or.inr rfl
def f_M_isLetter (a1 : Int32) : Int32 :=
  if jp_c .ne (f_M_isIn a1 (97 : Int32) (122 : Int32)) 0 = true then (
  f_M_isLetter_24) else (
  if jp_c .eq (f_M_isIn a1 (65 : Int32) (90 : Int32)) 0 = true then (
  (0 : Int32)) else (
  f_M_isLetter_24))
theorem t_M_isLetter {Ln : Nat} {xs : Nat → Int32} {sv : jp_V} {a1 : Int32} {w : Nat} {M : jp_M} {res : Int32} (hf : f_M_isLetter a1 = res) : jE (jZ (jK Ln xs sv)) 1 192 [(.inr (some 104)), (.inl a1)] (jSH w) M (some (.inl res), jSH w, M) := by
  unfold f_M_isLetter at hf
  refine jE_in (L0 := [some (.inr (some 104)), some (.inl a1)]) rfl (Nat.le_of_ble_eq_true rfl) rfl (fun d hd => ?_)
  refine jR_in rfl ⟨rfl, rfl, rfl⟩ rfl ?_
  refine js_aload_n rfl ?_
  refine js_iload_n rfl ?_
  refine js_bipush (v := (97 : Int32)) rfl ?_
  refine js_bipush (v := (122 : Int32)) rfl ?_
  refine js_c4i rfl rfl ⟨rfl, rfl⟩ rfl rfl (t_M_isIn rfl) (by omega) ?_
  refine js_ifc (tgt := 24) rfl rfl (fun h => ?_) (fun h => ?_)
  · have hf := jif_t hf h
    exact t_M_isLetter_24 hd _ _ _ _ hf
  · have hf := jif_f hf h
    refine js_aload_n rfl ?_
    refine js_iload_n rfl ?_
    refine js_bipush (v := (65 : Int32)) rfl ?_
    refine js_bipush (v := (90 : Int32)) rfl ?_
    refine js_c4i rfl rfl ⟨rfl, rfl⟩ rfl rfl (t_M_isIn rfl) (by omega) ?_
    refine js_ifc (tgt := 28) rfl rfl (fun h => ?_) (fun h => ?_)
    · have hf := jif_t hf h
      refine jR_in rfl ⟨rfl, rfl, rfl⟩ rfl ?_
      refine js_iconst (v := (0 : Int32)) rfl ?_
      subst hf
      exact js_iret rfl rfl
    · have hf := jif_f hf h
      exact jS_out rfl ⟨rfl, rfl, rfl⟩ rfl (t_M_isLetter_24 hd _ _ _ _ hf)
theorem b_M_isLetter {a1 : Int32} {res : Int32} (hf : f_M_isLetter a1 = res) : res = 0 ∨ res = 1 := by
  unfold f_M_isLetter at hf
  rcases jif_d hf with ⟨h, hf⟩ | ⟨h, hf⟩
  · exact b_M_isLetter_24 hf
  · rcases jif_d hf with ⟨h, hf⟩ | ⟨h, hf⟩
    · subst hf
      exact Or.inl rfl
    · exact b_M_isLetter_24 hf
/-! SwallowsAirModel.wordAt(II)I -/
def f_M_wordAt_94  : Nat → (Int32 → Int32 → Int32 → Int32 → jp_M → Option (Int32)) → Int32 → Int32 → Int32 → Int32 → jp_M → Option (Int32)
  | 0, _, _, _, _, _, _ => none
  | n + 1, c4, l1, l2, l3, l4, M =>
    jg (jp_in l4 164) (
    if jp_c .eq (M 113 (Int32.toNatClampNeg l4)) (32 : Int32) = true then (
    c4 l1 l2 l3 l4 M) else (
    f_M_wordAt_94 n c4 l1 l2 l3 (l4 + (1 : Int32)) M))
theorem t_M_wordAt_94 {Ln : Nat} {xs : Nat → Int32} {sv : jp_V} {d : Nat} (hd : 0 ≤ d) {c4 : Int32 → Int32 → Int32 → Int32 → jp_M → Option (Int32)} (hc4 : ∀ (l1 : Int32) (l2 : Int32) (l3 : Int32) (l4 : Int32) (o5 : Option jp_V) (w : Nat) (M : jp_M) (res : Int32), c4 l1 l2 l3 l4 M = some res → jR (jZ (jK Ln xs sv)) d 195 5 ([some (.inr (some 104)), some (.inl l1), some (.inl l2), some (.inl l3), some (.inl l4), o5], [], jSH w, M) (some (.inl res), jSH w, M)) : ∀ (n : Nat) (l1 : Int32) (l2 : Int32) (l3 : Int32) (l4 : Int32) (o5 : Option jp_V) (w : Nat) (M : jp_M) {res : Int32}, f_M_wordAt_94 n c4 l1 l2 l3 l4 M = some res → jR (jZ (jK Ln xs sv)) d 195 94 ([some (.inr (some 104)), some (.inl l1), some (.inl l2), some (.inl l3), some (.inl l4), o5], [], jSH w, M) (some (.inl res), jSH w, M) := by
  intro n
  induction n with
  | zero =>
    intro l1 l2 l3 l4 o5 w M res hf
    cases hf
  | succ n ih =>
    intro l1 l2 l3 l4 o5 w M res hf
    rw [f_M_wordAt_94] at hf
    refine jR_in rfl ⟨rfl, rfl, rfl⟩ rfl ?_
    refine js_aload_n rfl ?_
    refine js_getr rfl rfl rfl ?_
    refine js_iload rfl ?_
    obtain ⟨hb1, hf⟩ := jg_some hf
    refine js_iald rfl hb1 ?_
    refine js_bipush (v := (32 : Int32)) rfl ?_
    refine js_icmp (tgt := 115) rfl rfl (fun h => ?_) (fun h => ?_)
    · have hf := jif_t hf h
      refine jR_in rfl ⟨rfl, rfl, rfl⟩ rfl ?_
      refine js_goto (tgt := 5) rfl rfl ?_
      exact hc4 _ _ _ _ _ _ _ _ hf
    · have hf := jif_f hf h
      refine js_iload rfl ?_
      refine js_iconst (v := (1 : Int32)) rfl ?_
      refine js_iadd ?_
      refine js_istore rfl rfl ?_
      refine js_goto (tgt := 94) rfl rfl ?_
      exact ih _ _ _ _ _ _ _ hf
def f_M_wordAt_88 (c4 : Int32 → Int32 → Int32 → Int32 → jp_M → Option (Int32)) (l1 : Int32) (l2 : Int32) (l3 : Int32) (l4 : Int32) (M : jp_M) : Option (Int32) :=
  f_M_wordAt_94 jFu c4 l1 l2 l3 (l4 + (1 : Int32)) M
theorem t_M_wordAt_88 {Ln : Nat} {xs : Nat → Int32} {sv : jp_V} {d : Nat} (hd : 0 ≤ d) {c4 : Int32 → Int32 → Int32 → Int32 → jp_M → Option (Int32)} (hc4 : ∀ (l1 : Int32) (l2 : Int32) (l3 : Int32) (l4 : Int32) (o5 : Option jp_V) (w : Nat) (M : jp_M) (res : Int32), c4 l1 l2 l3 l4 M = some res → jR (jZ (jK Ln xs sv)) d 195 5 ([some (.inr (some 104)), some (.inl l1), some (.inl l2), some (.inl l3), some (.inl l4), o5], [], jSH w, M) (some (.inl res), jSH w, M)) (l1 : Int32) (l2 : Int32) (l3 : Int32) (l4 : Int32) (o5 : Option jp_V) (w : Nat) (M : jp_M) {res : Int32} (hf : f_M_wordAt_88 c4 l1 l2 l3 l4 M = some res) : jR (jZ (jK Ln xs sv)) d 195 88 ([some (.inr (some 104)), some (.inl l1), some (.inl l2), some (.inl l3), some (.inl l4), o5], [], jSH w, M) (some (.inl res), jSH w, M) := by
  unfold f_M_wordAt_88 at hf
  refine jR_in rfl ⟨rfl, rfl, rfl⟩ rfl ?_
  refine js_iload rfl ?_
  refine js_iconst (v := (1 : Int32)) rfl ?_
  refine js_iadd ?_
  refine js_istore rfl rfl ?_
  exact jS_out rfl ⟨rfl, rfl, rfl⟩ rfl (t_M_wordAt_94 hd hc4 jFu _ _ _ _ _ _ _ hf)
def f_M_wordAt_61 (c4 : Int32 → Int32 → Int32 → Int32 → jp_M → Option (Int32)) (l1 : Int32) (l2 : Int32) (l3 : Int32) (l4 : Int32) (l5 : Int32) (M : jp_M) : Option (Int32) :=
  if jp_c .ne (l1 + l5) l2 = true then (
  f_M_wordAt_88 c4 l1 l2 l3 l4 M) else (
  jg (jp_in ((l4 + (1 : Int32)) + l5) 164) (
  if jp_c .ne (M 113 (Int32.toNatClampNeg ((l4 + (1 : Int32)) + l5))) (32 : Int32) = true then (
  f_M_wordAt_88 c4 l1 l2 l3 l4 M) else (
  some l3)))
theorem t_M_wordAt_61 {Ln : Nat} {xs : Nat → Int32} {sv : jp_V} {d : Nat} (hd : 0 ≤ d) {c4 : Int32 → Int32 → Int32 → Int32 → jp_M → Option (Int32)} (hc4 : ∀ (l1 : Int32) (l2 : Int32) (l3 : Int32) (l4 : Int32) (o5 : Option jp_V) (w : Nat) (M : jp_M) (res : Int32), c4 l1 l2 l3 l4 M = some res → jR (jZ (jK Ln xs sv)) d 195 5 ([some (.inr (some 104)), some (.inl l1), some (.inl l2), some (.inl l3), some (.inl l4), o5], [], jSH w, M) (some (.inl res), jSH w, M)) (l1 : Int32) (l2 : Int32) (l3 : Int32) (l4 : Int32) (l5 : Int32) (w : Nat) (M : jp_M) {res : Int32} (hf : f_M_wordAt_61 c4 l1 l2 l3 l4 l5 M = some res) : jR (jZ (jK Ln xs sv)) d 195 61 ([some (.inr (some 104)), some (.inl l1), some (.inl l2), some (.inl l3), some (.inl l4), some (.inl l5)], [], jSH w, M) (some (.inl res), jSH w, M) := by
  unfold f_M_wordAt_61 at hf
  refine jR_in rfl ⟨rfl, rfl, rfl⟩ rfl ?_
  refine js_iload_n rfl ?_
  refine js_iload rfl ?_
  refine js_iadd ?_
  refine js_iload_n rfl ?_
  refine js_icmp (tgt := 88) rfl rfl (fun h => ?_) (fun h => ?_)
  · have hf := jif_t hf h
    exact t_M_wordAt_88 hd hc4 _ _ _ _ _ _ _ hf
  · have hf := jif_f hf h
    refine js_aload_n rfl ?_
    refine js_getr rfl rfl rfl ?_
    refine js_iload rfl ?_
    refine js_iconst (v := (1 : Int32)) rfl ?_
    refine js_iadd ?_
    refine js_iload rfl ?_
    refine js_iadd ?_
    obtain ⟨hb1, hf⟩ := jg_some hf
    refine js_iald rfl hb1 ?_
    refine js_bipush (v := (32 : Int32)) rfl ?_
    refine js_icmp (tgt := 88) rfl rfl (fun h => ?_) (fun h => ?_)
    · have hf := jif_t hf h
      exact t_M_wordAt_88 hd hc4 _ _ _ _ _ _ _ hf
    · have hf := jif_f hf h
      refine js_iload_n rfl ?_
      obtain rfl := Option.some.inj hf
      exact js_iret rfl rfl
def f_M_wordAt_20  : Nat → (Int32 → Int32 → Int32 → Int32 → jp_M → Option (Int32)) → Int32 → Int32 → Int32 → Int32 → Int32 → jp_M → Option (Int32)
  | 0, _, _, _, _, _, _, _ => none
  | n + 1, c4, l1, l2, l3, l4, l5, M =>
    if jp_c .ge (l1 + l5) l2 = true then (
    f_M_wordAt_61 c4 l1 l2 l3 l4 l5 M) else (
    jg (jp_in ((l4 + (1 : Int32)) + l5) 164) (
    jg (jp_in (l1 + l5) 400) (
    if jp_c .ne (M 113 (Int32.toNatClampNeg ((l4 + (1 : Int32)) + l5))) (M 112 (Int32.toNatClampNeg (l1 + l5))) = true then (
    f_M_wordAt_61 c4 l1 l2 l3 l4 l5 M) else (
    f_M_wordAt_20 n c4 l1 l2 l3 l4 (l5 + (1 : Int32)) M))))
theorem t_M_wordAt_20 {Ln : Nat} {xs : Nat → Int32} {sv : jp_V} {d : Nat} (hd : 0 ≤ d) {c4 : Int32 → Int32 → Int32 → Int32 → jp_M → Option (Int32)} (hc4 : ∀ (l1 : Int32) (l2 : Int32) (l3 : Int32) (l4 : Int32) (o5 : Option jp_V) (w : Nat) (M : jp_M) (res : Int32), c4 l1 l2 l3 l4 M = some res → jR (jZ (jK Ln xs sv)) d 195 5 ([some (.inr (some 104)), some (.inl l1), some (.inl l2), some (.inl l3), some (.inl l4), o5], [], jSH w, M) (some (.inl res), jSH w, M)) : ∀ (n : Nat) (l1 : Int32) (l2 : Int32) (l3 : Int32) (l4 : Int32) (l5 : Int32) (w : Nat) (M : jp_M) {res : Int32}, f_M_wordAt_20 n c4 l1 l2 l3 l4 l5 M = some res → jR (jZ (jK Ln xs sv)) d 195 20 ([some (.inr (some 104)), some (.inl l1), some (.inl l2), some (.inl l3), some (.inl l4), some (.inl l5)], [], jSH w, M) (some (.inl res), jSH w, M) := by
  intro n
  induction n with
  | zero =>
    intro l1 l2 l3 l4 l5 w M res hf
    cases hf
  | succ n ih =>
    intro l1 l2 l3 l4 l5 w M res hf
    rw [f_M_wordAt_20] at hf
    refine jR_in rfl ⟨rfl, rfl, rfl⟩ rfl ?_
    refine js_iload_n rfl ?_
    refine js_iload rfl ?_
    refine js_iadd ?_
    refine js_iload_n rfl ?_
    refine js_icmp (tgt := 61) rfl rfl (fun h => ?_) (fun h => ?_)
    · have hf := jif_t hf h
      exact t_M_wordAt_61 hd hc4 _ _ _ _ _ _ _ hf
    · have hf := jif_f hf h
      refine js_aload_n rfl ?_
      refine js_getr rfl rfl rfl ?_
      refine js_iload rfl ?_
      refine js_iconst (v := (1 : Int32)) rfl ?_
      refine js_iadd ?_
      refine js_iload rfl ?_
      refine js_iadd ?_
      obtain ⟨hb1, hf⟩ := jg_some hf
      refine js_iald rfl hb1 ?_
      refine js_aload_n rfl ?_
      refine js_getr rfl rfl rfl ?_
      refine js_iload_n rfl ?_
      refine js_iload rfl ?_
      refine js_iadd ?_
      obtain ⟨hb2, hf⟩ := jg_some hf
      refine js_iald rfl hb2 ?_
      refine js_icmp (tgt := 61) rfl rfl (fun h => ?_) (fun h => ?_)
      · have hf := jif_t hf h
        exact t_M_wordAt_61 hd hc4 _ _ _ _ _ _ _ hf
      · have hf := jif_f hf h
        refine js_iload rfl ?_
        refine js_iconst (v := (1 : Int32)) rfl ?_
        refine js_iadd ?_
        refine js_istore rfl rfl ?_
        refine js_goto (tgt := 20) rfl rfl ?_
        exact ih _ _ _ _ _ _ _ hf
def f_M_wordAt_5  : Nat → Int32 → Int32 → Int32 → Int32 → jp_M → Option (Int32)
  | 0, _, _, _, _, _ => none
  | n + 1, l1, l2, l3, l4, M =>
    if jp_c .ge l4 (163 : Int32) = true then (
    some (-1 : Int32)) else (
    f_M_wordAt_20 jFu (f_M_wordAt_5 n ) l1 l2 (l3 + (1 : Int32)) l4 (0 : Int32) M)
theorem t_M_wordAt_5 {Ln : Nat} {xs : Nat → Int32} {sv : jp_V} {d : Nat} (hd : 0 ≤ d)  : ∀ (n : Nat) (l1 : Int32) (l2 : Int32) (l3 : Int32) (l4 : Int32) (o5 : Option jp_V) (w : Nat) (M : jp_M) {res : Int32}, f_M_wordAt_5 n  l1 l2 l3 l4 M = some res → jR (jZ (jK Ln xs sv)) d 195 5 ([some (.inr (some 104)), some (.inl l1), some (.inl l2), some (.inl l3), some (.inl l4), o5], [], jSH w, M) (some (.inl res), jSH w, M) := by
  intro n
  induction n with
  | zero =>
    intro l1 l2 l3 l4 o5 w M res hf
    cases hf
  | succ n ih =>
    intro l1 l2 l3 l4 o5 w M res hf
    rw [f_M_wordAt_5] at hf
    refine jR_in rfl ⟨rfl, rfl, rfl⟩ rfl ?_
    refine js_iload rfl ?_
    refine js_sipush (v := (163 : Int32)) rfl ?_
    refine js_icmp (tgt := 118) rfl rfl (fun h => ?_) (fun h => ?_)
    · have hf := jif_t hf h
      refine jR_in rfl ⟨rfl, rfl, rfl⟩ rfl ?_
      refine js_iconst (v := (-1 : Int32)) rfl ?_
      obtain rfl := Option.some.inj hf
      exact js_iret rfl rfl
    · have hf := jif_f hf h
      refine js_iconst (v := (0 : Int32)) rfl ?_
      refine js_istore rfl rfl ?_
      refine js_iload_n rfl ?_
      refine js_iconst (v := (1 : Int32)) rfl ?_
      refine js_iadd ?_
      refine js_istore_n rfl rfl ?_
      exact jS_out rfl ⟨rfl, rfl, rfl⟩ rfl (t_M_wordAt_20 hd (fun l1 l2 l3 l4 o5 w M res hf => ih l1 l2 l3 l4 o5 w M hf) jFu _ _ _ _ _ _ _ hf)
def f_M_wordAt (a1 : Int32) (a2 : Int32) (M : jp_M) : Option (Int32) :=
  f_M_wordAt_5 jFu a1 a2 (-1 : Int32) (0 : Int32) M
theorem t_M_wordAt {Ln : Nat} {xs : Nat → Int32} {sv : jp_V} {a1 : Int32} {a2 : Int32} {w : Nat} {M : jp_M} {res : Int32} (hf : f_M_wordAt a1 a2 M = some res) : jE (jZ (jK Ln xs sv)) 0 195 [(.inr (some 104)), (.inl a1), (.inl a2)] (jSH w) M (some (.inl res), jSH w, M) := by
  unfold f_M_wordAt at hf
  refine jE_in (L0 := [some (.inr (some 104)), some (.inl a1), some (.inl a2), none, none, none]) rfl (Nat.le_of_ble_eq_true rfl) rfl (fun d hd => ?_)
  refine jR_in rfl ⟨rfl, rfl, rfl⟩ rfl ?_
  refine js_iconst (v := (-1 : Int32)) rfl ?_
  refine js_istore_n rfl rfl ?_
  refine js_iconst (v := (0 : Int32)) rfl ?_
  refine js_istore rfl rfl ?_
  exact jS_out rfl ⟨rfl, rfl, rfl⟩ rfl (t_M_wordAt_5 hd jFu _ _ _ _ _ _ _ hf)
/-! SwallowsAirModel.isDigit(I)Z -/
def f_M_isDigit (a1 : Int32) : Int32 :=
  (f_M_isIn a1 (48 : Int32) (57 : Int32))
theorem t_M_isDigit {Ln : Nat} {xs : Nat → Int32} {sv : jp_V} {a1 : Int32} {w : Nat} {M : jp_M} {res : Int32} (hf : f_M_isDigit a1 = res) : jE (jZ (jK Ln xs sv)) 1 193 [(.inr (some 104)), (.inl a1)] (jSH w) M (some (.inl res), jSH w, M) := by
  unfold f_M_isDigit at hf
  refine jE_in (L0 := [some (.inr (some 104)), some (.inl a1)]) rfl (Nat.le_of_ble_eq_true rfl) rfl (fun d hd => ?_)
  refine jR_in rfl ⟨rfl, rfl, rfl⟩ rfl ?_
  refine js_aload_n rfl ?_
  refine js_iload_n rfl ?_
  refine js_bipush (v := (48 : Int32)) rfl ?_
  refine js_bipush (v := (57 : Int32)) rfl ?_
  refine js_c4i rfl rfl ⟨rfl, rfl⟩ rfl rfl (t_M_isIn rfl) (by omega) ?_
  subst hf
  exact js_iret (jbool (b_M_isIn rfl)) rfl
theorem b_M_isDigit {a1 : Int32} {res : Int32} (hf : f_M_isDigit a1 = res) : res = 0 ∨ res = 1 := by
  unfold f_M_isDigit at hf
  subst hf
  exact (b_M_isIn rfl)
/-! SwallowsAirModel.isMarkSign(I)Z -/
def f_M_isMarkSign_60   : Int32 :=
  (1 : Int32)
theorem t_M_isMarkSign_60 {Ln : Nat} {xs : Nat → Int32} {sv : jp_V} {d : Nat} (hd : 0 ≤ d)  (o0 : Option jp_V) (o1 : Option jp_V) (w : Nat) (M : jp_M) {res : Int32} (hf : f_M_isMarkSign_60   = res) : jR (jZ (jK Ln xs sv)) d 194 60 ([o0, o1], [], jSH w, M) (some (.inl res), jSH w, M) := by
  unfold f_M_isMarkSign_60 at hf
  refine jR_in rfl ⟨rfl, rfl, rfl⟩ rfl ?_
  refine js_iconst (v := (1 : Int32)) rfl ?_
  refine js_goto (tgt := 65) rfl rfl ?_
  refine jR_in rfl ⟨rfl, rfl, rfl⟩ rfl ?_
  subst hf
  exact js_iret rfl rfl
theorem b_M_isMarkSign_60   {res : Int32} (hf : f_M_isMarkSign_60   = res) : res = 0 ∨ res = 1 := by
  unfold f_M_isMarkSign_60 at hf
  subst hf
  exact Or.inr rfl
def f_M_isMarkSign (a1 : Int32) : Int32 :=
  if jp_c .eq a1 (59 : Int32) = true then (
  f_M_isMarkSign_60) else (
  if jp_c .eq a1 (43 : Int32) = true then (
  f_M_isMarkSign_60) else (
  if jp_c .eq a1 (45 : Int32) = true then (
  f_M_isMarkSign_60) else (
  if jp_c .eq a1 (42 : Int32) = true then (
  f_M_isMarkSign_60) else (
  if jp_c .eq a1 (47 : Int32) = true then (
  f_M_isMarkSign_60) else (
  if jp_c .eq a1 (40 : Int32) = true then (
  f_M_isMarkSign_60) else (
  if jp_c .eq a1 (41 : Int32) = true then (
  f_M_isMarkSign_60) else (
  if jp_c .eq a1 (60 : Int32) = true then (
  f_M_isMarkSign_60) else (
  if jp_c .eq a1 (61 : Int32) = true then (
  f_M_isMarkSign_60) else (
  if jp_c .ne a1 (62 : Int32) = true then (
  (0 : Int32)) else (
  f_M_isMarkSign_60))))))))))
theorem t_M_isMarkSign {Ln : Nat} {xs : Nat → Int32} {sv : jp_V} {a1 : Int32} {w : Nat} {M : jp_M} {res : Int32} (hf : f_M_isMarkSign a1 = res) : jE (jZ (jK Ln xs sv)) 0 194 [(.inr (some 104)), (.inl a1)] (jSH w) M (some (.inl res), jSH w, M) := by
  unfold f_M_isMarkSign at hf
  refine jE_in (L0 := [some (.inr (some 104)), some (.inl a1)]) rfl (Nat.le_of_ble_eq_true rfl) rfl (fun d hd => ?_)
  refine jR_in rfl ⟨rfl, rfl, rfl⟩ rfl ?_
  refine js_iload_n rfl ?_
  refine js_bipush (v := (59 : Int32)) rfl ?_
  refine js_icmp (tgt := 60) rfl rfl (fun h => ?_) (fun h => ?_)
  · have hf := jif_t hf h
    exact t_M_isMarkSign_60 hd _ _ _ _ hf
  · have hf := jif_f hf h
    refine js_iload_n rfl ?_
    refine js_bipush (v := (43 : Int32)) rfl ?_
    refine js_icmp (tgt := 60) rfl rfl (fun h => ?_) (fun h => ?_)
    · have hf := jif_t hf h
      exact t_M_isMarkSign_60 hd _ _ _ _ hf
    · have hf := jif_f hf h
      refine js_iload_n rfl ?_
      refine js_bipush (v := (45 : Int32)) rfl ?_
      refine js_icmp (tgt := 60) rfl rfl (fun h => ?_) (fun h => ?_)
      · have hf := jif_t hf h
        exact t_M_isMarkSign_60 hd _ _ _ _ hf
      · have hf := jif_f hf h
        refine js_iload_n rfl ?_
        refine js_bipush (v := (42 : Int32)) rfl ?_
        refine js_icmp (tgt := 60) rfl rfl (fun h => ?_) (fun h => ?_)
        · have hf := jif_t hf h
          exact t_M_isMarkSign_60 hd _ _ _ _ hf
        · have hf := jif_f hf h
          refine js_iload_n rfl ?_
          refine js_bipush (v := (47 : Int32)) rfl ?_
          refine js_icmp (tgt := 60) rfl rfl (fun h => ?_) (fun h => ?_)
          · have hf := jif_t hf h
            exact t_M_isMarkSign_60 hd _ _ _ _ hf
          · have hf := jif_f hf h
            refine js_iload_n rfl ?_
            refine js_bipush (v := (40 : Int32)) rfl ?_
            refine js_icmp (tgt := 60) rfl rfl (fun h => ?_) (fun h => ?_)
            · have hf := jif_t hf h
              exact t_M_isMarkSign_60 hd _ _ _ _ hf
            · have hf := jif_f hf h
              refine js_iload_n rfl ?_
              refine js_bipush (v := (41 : Int32)) rfl ?_
              refine js_icmp (tgt := 60) rfl rfl (fun h => ?_) (fun h => ?_)
              · have hf := jif_t hf h
                exact t_M_isMarkSign_60 hd _ _ _ _ hf
              · have hf := jif_f hf h
                refine js_iload_n rfl ?_
                refine js_bipush (v := (60 : Int32)) rfl ?_
                refine js_icmp (tgt := 60) rfl rfl (fun h => ?_) (fun h => ?_)
                · have hf := jif_t hf h
                  exact t_M_isMarkSign_60 hd _ _ _ _ hf
                · have hf := jif_f hf h
                  refine js_iload_n rfl ?_
                  refine js_bipush (v := (61 : Int32)) rfl ?_
                  refine js_icmp (tgt := 60) rfl rfl (fun h => ?_) (fun h => ?_)
                  · have hf := jif_t hf h
                    exact t_M_isMarkSign_60 hd _ _ _ _ hf
                  · have hf := jif_f hf h
                    refine js_iload_n rfl ?_
                    refine js_bipush (v := (62 : Int32)) rfl ?_
                    refine js_icmp (tgt := 64) rfl rfl (fun h => ?_) (fun h => ?_)
                    · have hf := jif_t hf h
                      refine jR_in rfl ⟨rfl, rfl, rfl⟩ rfl ?_
                      refine js_iconst (v := (0 : Int32)) rfl ?_
                      subst hf
                      exact js_iret rfl rfl
                    · have hf := jif_f hf h
                      exact jS_out rfl ⟨rfl, rfl, rfl⟩ rfl (t_M_isMarkSign_60 hd _ _ _ _ hf)
theorem b_M_isMarkSign {a1 : Int32} {res : Int32} (hf : f_M_isMarkSign a1 = res) : res = 0 ∨ res = 1 := by
  unfold f_M_isMarkSign at hf
  rcases jif_d hf with ⟨h, hf⟩ | ⟨h, hf⟩
  · exact b_M_isMarkSign_60 hf
  · rcases jif_d hf with ⟨h, hf⟩ | ⟨h, hf⟩
    · exact b_M_isMarkSign_60 hf
    · rcases jif_d hf with ⟨h, hf⟩ | ⟨h, hf⟩
      · exact b_M_isMarkSign_60 hf
      · rcases jif_d hf with ⟨h, hf⟩ | ⟨h, hf⟩
        · exact b_M_isMarkSign_60 hf
        · rcases jif_d hf with ⟨h, hf⟩ | ⟨h, hf⟩
          · exact b_M_isMarkSign_60 hf
          · rcases jif_d hf with ⟨h, hf⟩ | ⟨h, hf⟩
            · exact b_M_isMarkSign_60 hf
            · rcases jif_d hf with ⟨h, hf⟩ | ⟨h, hf⟩
              · exact b_M_isMarkSign_60 hf
              · rcases jif_d hf with ⟨h, hf⟩ | ⟨h, hf⟩
                · exact b_M_isMarkSign_60 hf
                · rcases jif_d hf with ⟨h, hf⟩ | ⟨h, hf⟩
                  · exact b_M_isMarkSign_60 hf
                  · rcases jif_d hf with ⟨h, hf⟩ | ⟨h, hf⟩
                    · subst hf
                      exact Or.inl rfl
                    · exact b_M_isMarkSign_60 hf
/-! SwallowsAirModel.reads()V -/
def f_M_reads_26 (c0 : jp_M → Option (jp_M)) (M : jp_M) : Option (jp_M) :=
  let M1 := jp_set M 104 (upd (M 104) 14 ((M 104 14) + (1 : Int32)))
  c0 M1
theorem t_M_reads_26 {Ln : Nat} {xs : Nat → Int32} {sv : jp_V} {d : Nat} (hd : 2 ≤ d) {c0 : jp_M → Option (jp_M)} (hc0 : ∀ (o1 : Option jp_V) (w : Nat) (M : jp_M) (res : jp_M), c0 M = some res → jR (jZ (jK Ln xs sv)) d 196 0 ([some (.inr (some 104)), o1], [], jSH w, M) (none, jSH w, res)) (o1 : Option jp_V) (w : Nat) (M : jp_M) {res : jp_M} (hf : f_M_reads_26 c0 M = some res) : jR (jZ (jK Ln xs sv)) d 196 26 ([some (.inr (some 104)), o1], [], jSH w, M) (none, jSH w, res) := by
  unfold f_M_reads_26 at hf
  refine jR_in rfl ⟨rfl, rfl, rfl⟩ rfl ?_
  refine js_aload_n rfl ?_
  refine js_aload_n rfl ?_
  refine js_geti rfl rfl rfl ?_
  refine js_iconst (v := (1 : Int32)) rfl ?_
  refine js_iadd ?_
  refine js_puti rfl rfl (Or.inl rfl) ?_
  refine js_goto (tgt := 0) rfl rfl ?_
  exact hc0 _ _ _ _ hf
def f_M_reads_95  : Nat → jp_M → Option (jp_M)
  | 0, _ => none
  | n + 1, M =>
    (f_M_raw (M 104 14) M).bind fun q1 => (
    if jp_c .eq (f_M_isLetter q1) 0 = true then (
    (f_M_wordAt (M 104 15) (M 104 14) M).bind fun q3 => (
    let M4 := jp_set M 104 (upd (M 104) 17 q3)
    if jp_c .eq (M4 104 17) (-1 : Int32) = true then (
    some M4) else (
    let M5 := jp_set M4 104 (upd (M4 104) 16 (2 : Int32))
    some M5))) else (
    let M6 := jp_set M 104 (upd (M 104) 14 ((M 104 14) + (1 : Int32)))
    f_M_reads_95 n M6))
theorem t_M_reads_95 {Ln : Nat} {xs : Nat → Int32} {sv : jp_V} {d : Nat} (hd : 2 ≤ d)  : ∀ (n : Nat) (o1 : Option jp_V) (w : Nat) (M : jp_M) {res : jp_M}, f_M_reads_95 n  M = some res → jR (jZ (jK Ln xs sv)) d 196 95 ([some (.inr (some 104)), o1], [], jSH w, M) (none, jSH w, res) := by
  intro n
  induction n with
  | zero =>
    intro o1 w M res hf
    cases hf
  | succ n ih =>
    intro o1 w M res hf
    rw [f_M_reads_95] at hf
    refine jR_in rfl ⟨rfl, rfl, rfl⟩ rfl ?_
    refine js_aload_n rfl ?_
    refine js_aload_n rfl ?_
    refine js_aload_n rfl ?_
    refine js_geti rfl rfl rfl ?_
    obtain ⟨q1, hc_1, hf⟩ := jbind hf
    refine js_c2i rfl rfl ⟨rfl, rfl⟩ rfl rfl (t_M_raw hc_1) (by omega) ?_
    refine js_c2i rfl rfl ⟨rfl, rfl⟩ rfl rfl (t_M_isLetter rfl) (by omega) ?_
    refine js_ifc (tgt := 123) rfl rfl (fun h => ?_) (fun h => ?_)
    · have hf := jif_t hf h
      refine jR_in rfl ⟨rfl, rfl, rfl⟩ rfl ?_
      refine js_aload_n rfl ?_
      refine js_aload_n rfl ?_
      refine js_aload_n rfl ?_
      refine js_geti rfl rfl rfl ?_
      refine js_aload_n rfl ?_
      refine js_geti rfl rfl rfl ?_
      obtain ⟨q3, hc_3, hf⟩ := jbind hf
      refine js_c3i rfl rfl ⟨rfl, rfl⟩ rfl rfl (t_M_wordAt hc_3) (by omega) ?_
      refine js_puti rfl rfl (Or.inl rfl) ?_
      refine js_aload_n rfl ?_
      refine js_geti rfl rfl rfl ?_
      refine js_iconst (v := (-1 : Int32)) rfl ?_
      refine js_icmp (tgt := 273) rfl rfl (fun h => ?_) (fun h => ?_)
      · have hf := jif_t hf h
        refine jR_in rfl ⟨rfl, rfl, rfl⟩ rfl ?_
        obtain rfl := Option.some.inj hf
        exact js_ret rfl rfl
      · have hf := jif_f hf h
        refine js_aload_n rfl ?_
        refine js_iconst (v := (2 : Int32)) rfl ?_
        refine js_puti rfl rfl (Or.inl rfl) ?_
        refine js_goto (tgt := 273) rfl rfl ?_
        refine jR_in rfl ⟨rfl, rfl, rfl⟩ rfl ?_
        obtain rfl := Option.some.inj hf
        exact js_ret rfl rfl
    · have hf := jif_f hf h
      refine js_aload_n rfl ?_
      refine js_aload_n rfl ?_
      refine js_geti rfl rfl rfl ?_
      refine js_iconst (v := (1 : Int32)) rfl ?_
      refine js_iadd ?_
      refine js_puti rfl rfl (Or.inl rfl) ?_
      refine js_goto (tgt := 95) rfl rfl ?_
      exact ih _ _ _ hf
def f_M_reads_223 (c90 : jp_M → Option (jp_M)) (s1 : Int32) (M : jp_M) : Option (jp_M) :=
  let M1 := jp_set M 104 (upd (M 104) 17 s1)
  let M2 := jp_set M1 104 (upd (M1 104) 14 ((M1 104 14) + (1 : Int32)))
  c90 M2
theorem t_M_reads_223 {Ln : Nat} {xs : Nat → Int32} {sv : jp_V} {d : Nat} (hd : 2 ≤ d) {c90 : jp_M → Option (jp_M)} (hc90 : ∀ (o1 : Option jp_V) (w : Nat) (M : jp_M) (res : jp_M), c90 M = some res → jR (jZ (jK Ln xs sv)) d 196 171 ([some (.inr (some 104)), o1], [], jSH w, M) (none, jSH w, res)) (s1 : Int32) (o1 : Option jp_V) (w : Nat) (M : jp_M) {res : jp_M} (hf : f_M_reads_223 c90 s1 M = some res) : jR (jZ (jK Ln xs sv)) d 196 223 ([some (.inr (some 104)), o1], [.inl s1, (.inr (some 104))], jSH w, M) (none, jSH w, res) := by
  unfold f_M_reads_223 at hf
  refine jR_in rfl ⟨rfl, rfl, rfl⟩ rfl ?_
  refine js_puti rfl rfl (Or.inl rfl) ?_
  refine js_aload_n rfl ?_
  refine js_aload_n rfl ?_
  refine js_geti rfl rfl rfl ?_
  refine js_iconst (v := (1 : Int32)) rfl ?_
  refine js_iadd ?_
  refine js_puti rfl rfl (Or.inl rfl) ?_
  refine js_goto (tgt := 171) rfl rfl ?_
  exact hc90 _ _ _ _ hf
def f_M_reads_171  : Nat → jp_M → Option (jp_M)
  | 0, _ => none
  | n + 1, M =>
    (f_M_raw (M 104 14) M).bind fun q1 => (
    if jp_c .eq (f_M_isDigit q1) 0 = true then (
    if jp_c .ge ((M 104 14) - (M 104 15)) (5 : Int32) = true then (
    some M) else (
    let M3 := jp_set M 104 (upd (M 104) 16 (3 : Int32))
    some M3)) else (
    if jp_c .ge (M 104 17) (10000 : Int32) = true then (
    f_M_reads_223 (f_M_reads_171 n ) (M 104 17) M) else (
    (f_M_raw (M 104 14) M).bind fun q4 => (
    f_M_reads_223 (f_M_reads_171 n ) ((((10 : Int32) * (M 104 17)) + q4) - (48 : Int32)) M))))
theorem t_M_reads_171 {Ln : Nat} {xs : Nat → Int32} {sv : jp_V} {d : Nat} (hd : 2 ≤ d)  : ∀ (n : Nat) (o1 : Option jp_V) (w : Nat) (M : jp_M) {res : jp_M}, f_M_reads_171 n  M = some res → jR (jZ (jK Ln xs sv)) d 196 171 ([some (.inr (some 104)), o1], [], jSH w, M) (none, jSH w, res) := by
  intro n
  induction n with
  | zero =>
    intro o1 w M res hf
    cases hf
  | succ n ih =>
    intro o1 w M res hf
    rw [f_M_reads_171] at hf
    refine jR_in rfl ⟨rfl, rfl, rfl⟩ rfl ?_
    refine js_aload_n rfl ?_
    refine js_aload_n rfl ?_
    refine js_aload_n rfl ?_
    refine js_geti rfl rfl rfl ?_
    obtain ⟨q1, hc_1, hf⟩ := jbind hf
    refine js_c2i rfl rfl ⟨rfl, rfl⟩ rfl rfl (t_M_raw hc_1) (by omega) ?_
    refine js_c2i rfl rfl ⟨rfl, rfl⟩ rfl rfl (t_M_isDigit rfl) (by omega) ?_
    refine js_ifc (tgt := 239) rfl rfl (fun h => ?_) (fun h => ?_)
    · have hf := jif_t hf h
      refine jR_in rfl ⟨rfl, rfl, rfl⟩ rfl ?_
      refine js_aload_n rfl ?_
      refine js_geti rfl rfl rfl ?_
      refine js_aload_n rfl ?_
      refine js_geti rfl rfl rfl ?_
      refine js_isub ?_
      refine js_iconst (v := (5 : Int32)) rfl ?_
      refine js_icmp (tgt := 273) rfl rfl (fun h => ?_) (fun h => ?_)
      · have hf := jif_t hf h
        refine jR_in rfl ⟨rfl, rfl, rfl⟩ rfl ?_
        obtain rfl := Option.some.inj hf
        exact js_ret rfl rfl
      · have hf := jif_f hf h
        refine js_aload_n rfl ?_
        refine js_iconst (v := (3 : Int32)) rfl ?_
        refine js_puti rfl rfl (Or.inl rfl) ?_
        refine js_goto (tgt := 273) rfl rfl ?_
        refine jR_in rfl ⟨rfl, rfl, rfl⟩ rfl ?_
        obtain rfl := Option.some.inj hf
        exact js_ret rfl rfl
    · have hf := jif_f hf h
      refine js_aload_n rfl ?_
      refine js_aload_n rfl ?_
      refine js_geti rfl rfl rfl ?_
      refine js_sipush (v := (10000 : Int32)) rfl ?_
      refine js_icmp (tgt := 219) rfl rfl (fun h => ?_) (fun h => ?_)
      · have hf := jif_t hf h
        refine jR_in rfl ⟨rfl, rfl, rfl⟩ rfl ?_
        refine js_aload_n rfl ?_
        refine js_geti rfl rfl rfl ?_
        exact jS_out rfl ⟨rfl, rfl, rfl⟩ rfl (t_M_reads_223 hd (fun o1 w M res hf => ih o1 w M hf) _ _ _ _ hf)
      · have hf := jif_f hf h
        refine js_bipush (v := (10 : Int32)) rfl ?_
        refine js_aload_n rfl ?_
        refine js_geti rfl rfl rfl ?_
        refine js_imul ?_
        refine js_aload_n rfl ?_
        refine js_aload_n rfl ?_
        refine js_geti rfl rfl rfl ?_
        obtain ⟨q4, hc_4, hf⟩ := jbind hf
        refine js_c2i rfl rfl ⟨rfl, rfl⟩ rfl rfl (t_M_raw hc_4) (by omega) ?_
        refine js_iadd ?_
        refine js_bipush (v := (48 : Int32)) rfl ?_
        refine js_isub ?_
        refine js_goto (tgt := 223) rfl rfl ?_
        exact t_M_reads_223 hd (fun o1 w M res hf => ih o1 w M hf) _ _ _ _ hf
def f_M_reads_0  : Nat → jp_M → Option (jp_M)
  | 0, _ => none
  | n + 1, M =>
    (f_M_raw (M 104 14) M).bind fun q1 => (
    if jp_c .eq q1 (32 : Int32) = true then (
    f_M_reads_26 (f_M_reads_0 n ) M) else (
    (f_M_raw (M 104 14) M).bind fun q2 => (
    if jp_c .ne q2 (10 : Int32) = true then (
    let M3 := jp_set M 104 (upd (M 104) 15 (M 104 14))
    let M4 := jp_set M3 104 (upd (M3 104) 16 (1 : Int32))
    (f_M_raw (M4 104 14) M4).bind fun q5 => (
    if jp_c .ne q5 (-1 : Int32) = true then (
    let M6 := jp_set M4 104 (upd (M4 104) 14 ((M4 104 14) + (1 : Int32)))
    let M7 := jp_set M6 104 (upd (M6 104) 17 q5)
    if jp_c .eq (f_M_isLetter q5) 0 = true then (
    if jp_c .eq (f_M_isDigit q5) 0 = true then (
    if jp_c .eq (f_M_isMarkSign q5) 0 = true then (
    some M7) else (
    let M11 := jp_set M7 104 (upd (M7 104) 16 (4 : Int32))
    some M11)) else (
    let M12 := jp_set M7 104 (upd (M7 104) 17 (q5 - (48 : Int32)))
    f_M_reads_171 jFu M12)) else (
    f_M_reads_95 jFu M7)) else (
    let M13 := jp_set M4 104 (upd (M4 104) 16 (0 : Int32))
    some M13))) else (
    f_M_reads_26 (f_M_reads_0 n ) M))))
theorem t_M_reads_0 {Ln : Nat} {xs : Nat → Int32} {sv : jp_V} {d : Nat} (hd : 2 ≤ d)  : ∀ (n : Nat) (o1 : Option jp_V) (w : Nat) (M : jp_M) {res : jp_M}, f_M_reads_0 n  M = some res → jR (jZ (jK Ln xs sv)) d 196 0 ([some (.inr (some 104)), o1], [], jSH w, M) (none, jSH w, res) := by
  intro n
  induction n with
  | zero =>
    intro o1 w M res hf
    cases hf
  | succ n ih =>
    intro o1 w M res hf
    rw [f_M_reads_0] at hf
    refine jR_in rfl ⟨rfl, rfl, rfl⟩ rfl ?_
    refine js_aload_n rfl ?_
    refine js_aload_n rfl ?_
    refine js_geti rfl rfl rfl ?_
    obtain ⟨q1, hc_1, hf⟩ := jbind hf
    refine js_c2i rfl rfl ⟨rfl, rfl⟩ rfl rfl (t_M_raw hc_1) (by omega) ?_
    refine js_bipush (v := (32 : Int32)) rfl ?_
    refine js_icmp (tgt := 26) rfl rfl (fun h => ?_) (fun h => ?_)
    · have hf := jif_t hf h
      exact t_M_reads_26 hd (fun o1 w M res hf => ih o1 w M hf) _ _ _ hf
    · have hf := jif_f hf h
      refine js_aload_n rfl ?_
      refine js_aload_n rfl ?_
      refine js_geti rfl rfl rfl ?_
      obtain ⟨q2, hc_2, hf⟩ := jbind hf
      refine js_c2i rfl rfl ⟨rfl, rfl⟩ rfl rfl (t_M_raw hc_2) (by omega) ?_
      refine js_bipush (v := (10 : Int32)) rfl ?_
      refine js_icmp (tgt := 39) rfl rfl (fun h => ?_) (fun h => ?_)
      · have hf := jif_t hf h
        refine jR_in rfl ⟨rfl, rfl, rfl⟩ rfl ?_
        refine js_aload_n rfl ?_
        refine js_aload_n rfl ?_
        refine js_geti rfl rfl rfl ?_
        refine js_puti rfl rfl (Or.inl rfl) ?_
        refine js_aload_n rfl ?_
        refine js_iconst (v := (1 : Int32)) rfl ?_
        refine js_puti rfl rfl (Or.inl rfl) ?_
        refine js_aload_n rfl ?_
        refine js_aload_n rfl ?_
        refine js_geti rfl rfl rfl ?_
        obtain ⟨q5, hc_5, hf⟩ := jbind hf
        refine js_c2i rfl rfl ⟨rfl, rfl⟩ rfl rfl (t_M_raw hc_5) (by omega) ?_
        refine js_istore_n rfl rfl ?_
        refine js_iload_n rfl ?_
        refine js_iconst (v := (-1 : Int32)) rfl ?_
        refine js_icmp (tgt := 72) rfl rfl (fun h => ?_) (fun h => ?_)
        · have hf := jif_t hf h
          refine jR_in rfl ⟨rfl, rfl, rfl⟩ rfl ?_
          refine js_aload_n rfl ?_
          refine js_aload_n rfl ?_
          refine js_geti rfl rfl rfl ?_
          refine js_iconst (v := (1 : Int32)) rfl ?_
          refine js_iadd ?_
          refine js_puti rfl rfl (Or.inl rfl) ?_
          refine js_aload_n rfl ?_
          refine js_iload_n rfl ?_
          refine js_puti rfl rfl (Or.inl rfl) ?_
          refine js_aload_n rfl ?_
          refine js_iload_n rfl ?_
          refine js_c2i rfl rfl ⟨rfl, rfl⟩ rfl rfl (t_M_isLetter rfl) (by omega) ?_
          refine js_ifc (tgt := 155) rfl rfl (fun h => ?_) (fun h => ?_)
          · have hf := jif_t hf h
            refine jR_in rfl ⟨rfl, rfl, rfl⟩ rfl ?_
            refine js_aload_n rfl ?_
            refine js_iload_n rfl ?_
            refine js_c2i rfl rfl ⟨rfl, rfl⟩ rfl rfl (t_M_isDigit rfl) (by omega) ?_
            refine js_ifc (tgt := 260) rfl rfl (fun h => ?_) (fun h => ?_)
            · have hf := jif_t hf h
              refine jR_in rfl ⟨rfl, rfl, rfl⟩ rfl ?_
              refine js_aload_n rfl ?_
              refine js_iload_n rfl ?_
              refine js_c2i rfl rfl ⟨rfl, rfl⟩ rfl rfl (t_M_isMarkSign rfl) (by omega) ?_
              refine js_ifc (tgt := 273) rfl rfl (fun h => ?_) (fun h => ?_)
              · have hf := jif_t hf h
                refine jR_in rfl ⟨rfl, rfl, rfl⟩ rfl ?_
                obtain rfl := Option.some.inj hf
                exact js_ret rfl rfl
              · have hf := jif_f hf h
                refine js_aload_n rfl ?_
                refine js_iconst (v := (4 : Int32)) rfl ?_
                refine js_puti rfl rfl (Or.inl rfl) ?_
                obtain rfl := Option.some.inj hf
                exact js_ret rfl rfl
            · have hf := jif_f hf h
              refine js_aload_n rfl ?_
              refine js_iload_n rfl ?_
              refine js_bipush (v := (48 : Int32)) rfl ?_
              refine js_isub ?_
              refine js_puti rfl rfl (Or.inl rfl) ?_
              exact jS_out rfl ⟨rfl, rfl, rfl⟩ rfl (t_M_reads_171 hd jFu _ _ _ hf)
          · have hf := jif_f hf h
            exact jS_out rfl ⟨rfl, rfl, rfl⟩ rfl (t_M_reads_95 hd jFu _ _ _ hf)
        · have hf := jif_f hf h
          refine js_aload_n rfl ?_
          refine js_iconst (v := (0 : Int32)) rfl ?_
          refine js_puti rfl rfl (Or.inl rfl) ?_
          obtain rfl := Option.some.inj hf
          exact js_ret rfl rfl
      · have hf := jif_f hf h
        exact jS_out rfl ⟨rfl, rfl, rfl⟩ rfl (t_M_reads_26 hd (fun o1 w M res hf => ih o1 w M hf) _ _ _ hf)
def f_M_reads (M : jp_M) : Option (jp_M) :=
  f_M_reads_0 jFu M
theorem t_M_reads {Ln : Nat} {xs : Nat → Int32} {sv : jp_V} {w : Nat} {M : jp_M} {res : jp_M} (hf : f_M_reads M = some res) : jE (jZ (jK Ln xs sv)) 2 196 [(.inr (some 104))] (jSH w) M (none, jSH w, res) := by
  unfold f_M_reads at hf
  refine jE_in (L0 := [some (.inr (some 104)), none]) rfl (Nat.le_of_ble_eq_true rfl) rfl (fun d hd => ?_)
  exact t_M_reads_0 hd jFu _ _ _ hf
/-! SwallowsAirModel.isWord(I)Z -/
def f_M_isWord (a1 : Int32) (M : jp_M) : Int32 :=
  if jp_c .ne (M 104 16) (2 : Int32) = true then (
  (0 : Int32)) else (
  if jp_c .ne (M 104 17) a1 = true then (
  (0 : Int32)) else (
  (1 : Int32)))
theorem t_M_isWord {Ln : Nat} {xs : Nat → Int32} {sv : jp_V} {a1 : Int32} {w : Nat} {M : jp_M} {res : Int32} (hf : f_M_isWord a1 M = res) : jE (jZ (jK Ln xs sv)) 0 198 [(.inr (some 104)), (.inl a1)] (jSH w) M (some (.inl res), jSH w, M) := by
  unfold f_M_isWord at hf
  refine jE_in (L0 := [some (.inr (some 104)), some (.inl a1)]) rfl (Nat.le_of_ble_eq_true rfl) rfl (fun d hd => ?_)
  refine jR_in rfl ⟨rfl, rfl, rfl⟩ rfl ?_
  refine js_aload_n rfl ?_
  refine js_geti rfl rfl rfl ?_
  refine js_iconst (v := (2 : Int32)) rfl ?_
  refine js_icmp (tgt := 20) rfl rfl (fun h => ?_) (fun h => ?_)
  · have hf := jif_t hf h
    refine jR_in rfl ⟨rfl, rfl, rfl⟩ rfl ?_
    refine js_iconst (v := (0 : Int32)) rfl ?_
    subst hf
    exact js_iret rfl rfl
  · have hf := jif_f hf h
    refine js_aload_n rfl ?_
    refine js_geti rfl rfl rfl ?_
    refine js_iload_n rfl ?_
    refine js_icmp (tgt := 20) rfl rfl (fun h => ?_) (fun h => ?_)
    · have hf := jif_t hf h
      refine jR_in rfl ⟨rfl, rfl, rfl⟩ rfl ?_
      refine js_iconst (v := (0 : Int32)) rfl ?_
      subst hf
      exact js_iret rfl rfl
    · have hf := jif_f hf h
      refine js_iconst (v := (1 : Int32)) rfl ?_
      refine js_goto (tgt := 21) rfl rfl ?_
      refine jR_in rfl ⟨rfl, rfl, rfl⟩ rfl ?_
      subst hf
      exact js_iret rfl rfl
theorem b_M_isWord {a1 : Int32} {M : jp_M} {res : Int32} (hf : f_M_isWord a1 M = res) : res = 0 ∨ res = 1 := by
  unfold f_M_isWord at hf
  rcases jif_d hf with ⟨h, hf⟩ | ⟨h, hf⟩
  · subst hf
    exact Or.inl rfl
  · rcases jif_d hf with ⟨h, hf⟩ | ⟨h, hf⟩
    · subst hf
      exact Or.inl rfl
    · subst hf
      exact Or.inr rfl
/-! SwallowsAirModel.errs(I)I -/
def f_M_errs (a1 : Int32) (M : jp_M) : Int32 × jp_M :=
  let M1 := jp_set M 104 (upd (M 104) 31 a1)
  let M2 := jp_set M1 104 (upd (M1 104) 32 (M1 104 15))
  ((-1 : Int32), M2)
theorem t_M_errs {Ln : Nat} {xs : Nat → Int32} {sv : jp_V} {a1 : Int32} {w : Nat} {M : jp_M} {res : Int32 × jp_M} (hf : f_M_errs a1 M = res) : jE (jZ (jK Ln xs sv)) 0 197 [(.inr (some 104)), (.inl a1)] (jSH w) M (some (.inl res.1), jSH w, res.2) := by
  unfold f_M_errs at hf
  refine jE_in (L0 := [some (.inr (some 104)), some (.inl a1)]) rfl (Nat.le_of_ble_eq_true rfl) rfl (fun d hd => ?_)
  refine jR_in rfl ⟨rfl, rfl, rfl⟩ rfl ?_
  refine js_aload_n rfl ?_
  refine js_iload_n rfl ?_
  refine js_puti rfl rfl (Or.inl rfl) ?_
  refine js_aload_n rfl ?_
  refine js_aload_n rfl ?_
  refine js_geti rfl rfl rfl ?_
  refine js_puti rfl rfl (Or.inl rfl) ?_
  refine js_iconst (v := (-1 : Int32)) rfl ?_
  subst hf
  exact js_iret rfl rfl
/-! SwallowsAirModel.readNumber(II)I -/
def f_M_readNumber (a1 : Int32) (a2 : Int32) (M : jp_M) : Option (Int32 × jp_M) :=
  if jp_c .eq (M 104 16) (3 : Int32) = true then (
  if jp_c .ne (f_M_isIn (M 104 17) a1 a2) 0 = true then (
  (f_M_reads M).bind fun q2 => (
  some ((M 104 17), q2))) else (
  let q3 := f_M_errs (2 : Int32) M
  some (q3.1, q3.2))) else (
  let q4 := f_M_errs (1 : Int32) M
  some (q4.1, q4.2))
theorem t_M_readNumber {Ln : Nat} {xs : Nat → Int32} {sv : jp_V} {a1 : Int32} {a2 : Int32} {w : Nat} {M : jp_M} {res : Int32 × jp_M} (hf : f_M_readNumber a1 a2 M = some res) : jE (jZ (jK Ln xs sv)) 3 212 [(.inr (some 104)), (.inl a1), (.inl a2)] (jSH w) M (some (.inl res.1), jSH w, res.2) := by
  unfold f_M_readNumber at hf
  refine jE_in (L0 := [some (.inr (some 104)), some (.inl a1), some (.inl a2), none]) rfl (Nat.le_of_ble_eq_true rfl) rfl (fun d hd => ?_)
  refine jR_in rfl ⟨rfl, rfl, rfl⟩ rfl ?_
  refine js_aload_n rfl ?_
  refine js_geti rfl rfl rfl ?_
  refine js_iconst (v := (3 : Int32)) rfl ?_
  refine js_icmp (tgt := 14) rfl rfl (fun h => ?_) (fun h => ?_)
  · have hf := jif_t hf h
    refine jR_in rfl ⟨rfl, rfl, rfl⟩ rfl ?_
    refine js_aload_n rfl ?_
    refine js_aload_n rfl ?_
    refine js_geti rfl rfl rfl ?_
    refine js_iload_n rfl ?_
    refine js_iload_n rfl ?_
    refine js_c4i rfl rfl ⟨rfl, rfl⟩ rfl rfl (t_M_isIn rfl) (by omega) ?_
    refine js_ifc (tgt := 33) rfl rfl (fun h => ?_) (fun h => ?_)
    · have hf := jif_t hf h
      refine jR_in rfl ⟨rfl, rfl, rfl⟩ rfl ?_
      refine js_aload_n rfl ?_
      refine js_geti rfl rfl rfl ?_
      refine js_istore_n rfl rfl ?_
      refine js_aload_n rfl ?_
      obtain ⟨q2, hc_2, hf⟩ := jbind hf
      refine js_c1v (w := 0) rfl rfl ⟨rfl, rfl⟩ rfl rfl (t_M_reads hc_2) (by omega) ?_
      refine js_iload_n rfl ?_
      obtain rfl := Option.some.inj hf
      exact js_iret rfl rfl
    · have hf := jif_f hf h
      refine js_aload_n rfl ?_
      refine js_iconst (v := (2 : Int32)) rfl ?_
      refine js_c2i rfl rfl ⟨rfl, rfl⟩ rfl rfl (t_M_errs rfl) (by omega) ?_
      obtain rfl := Option.some.inj hf
      exact js_iret rfl rfl
  · have hf := jif_f hf h
    refine js_aload_n rfl ?_
    refine js_iconst (v := (1 : Int32)) rfl ?_
    refine js_c2i rfl rfl ⟨rfl, rfl⟩ rfl rfl (t_M_errs rfl) (by omega) ?_
    obtain rfl := Option.some.inj hf
    exact js_iret rfl rfl
/-! SwallowsAirModel.readTold(III)I -/
def f_M_readTold (a1 : Int32) (a2 : Int32) (a3 : Int32) (M : jp_M) : Option (Int32 × jp_M) :=
  if jp_c .ne (f_M_isWord a1 M) 0 = true then (
  (f_M_reads M).bind fun q2 => (
  (f_M_readNumber a2 a3 q2).bind fun q3 => (
  some (q3.1, q3.2)))) else (
  let q4 := f_M_errs (1 : Int32) M
  some (q4.1, q4.2))
theorem t_M_readTold {Ln : Nat} {xs : Nat → Int32} {sv : jp_V} {a1 : Int32} {a2 : Int32} {a3 : Int32} {w : Nat} {M : jp_M} {res : Int32 × jp_M} (hf : f_M_readTold a1 a2 a3 M = some res) : jE (jZ (jK Ln xs sv)) 4 214 [(.inr (some 104)), (.inl a1), (.inl a2), (.inl a3)] (jSH w) M (some (.inl res.1), jSH w, res.2) := by
  unfold f_M_readTold at hf
  refine jE_in (L0 := [some (.inr (some 104)), some (.inl a1), some (.inl a2), some (.inl a3)]) rfl (Nat.le_of_ble_eq_true rfl) rfl (fun d hd => ?_)
  refine jR_in rfl ⟨rfl, rfl, rfl⟩ rfl ?_
  refine js_aload_n rfl ?_
  refine js_iload_n rfl ?_
  refine js_c2i rfl rfl ⟨rfl, rfl⟩ rfl rfl (t_M_isWord rfl) (by omega) ?_
  refine js_ifc (tgt := 14) rfl rfl (fun h => ?_) (fun h => ?_)
  · have hf := jif_t hf h
    refine jR_in rfl ⟨rfl, rfl, rfl⟩ rfl ?_
    refine js_aload_n rfl ?_
    obtain ⟨q2, hc_2, hf⟩ := jbind hf
    refine js_c1v (w := 0) rfl rfl ⟨rfl, rfl⟩ rfl rfl (t_M_reads hc_2) (by omega) ?_
    refine js_aload_n rfl ?_
    refine js_iload_n rfl ?_
    refine js_iload_n rfl ?_
    obtain ⟨q3, hc_3, hf⟩ := jbind hf
    refine js_c3i rfl rfl ⟨rfl, rfl⟩ rfl rfl (t_M_readNumber hc_3) (by omega) ?_
    obtain rfl := Option.some.inj hf
    exact js_iret rfl rfl
  · have hf := jif_f hf h
    refine js_aload_n rfl ?_
    refine js_iconst (v := (1 : Int32)) rfl ?_
    refine js_c2i rfl rfl ⟨rfl, rfl⟩ rfl rfl (t_M_errs rfl) (by omega) ?_
    obtain rfl := Option.some.inj hf
    exact js_iret rfl rfl
/-! SwallowsAirModel.readAir(I)I -/
def f_M_readAir (a1 : Int32) (M : jp_M) : Option (Int32 × jp_M) :=
  (f_M_readTold (25 : Int32) (0 : Int32) (9 : Int32) M).bind fun q1 => (
  jg (jp_in (a1 + (3 : Int32)) 224) (
  let M2 := jp_set q1.2 122 (upd (q1.2 122) (Int32.toNatClampNeg (a1 + (3 : Int32))) q1.1)
  jg (jp_in (a1 + (3 : Int32)) 224) (
  if jp_c .ne (M2 122 (Int32.toNatClampNeg (a1 + (3 : Int32)))) (-1 : Int32) = true then (
  (f_M_readNumber (0 : Int32) (7 : Int32) M2).bind fun q5 => (
  jg (jp_in (a1 + (4 : Int32)) 224) (
  let M6 := jp_set q5.2 122 (upd (q5.2 122) (Int32.toNatClampNeg (a1 + (4 : Int32))) q5.1)
  jg (jp_in (a1 + (4 : Int32)) 224) (
  if jp_c .ne (M6 122 (Int32.toNatClampNeg (a1 + (4 : Int32)))) (-1 : Int32) = true then (
  jg (jp_in (a1 + (4 : Int32)) 224) (
  (f_M_readNumber (M6 122 (Int32.toNatClampNeg (a1 + (4 : Int32)))) (7 : Int32) M6).bind fun q10 => (
  jg (jp_in (a1 + (5 : Int32)) 224) (
  let M11 := jp_set q10.2 122 (upd (q10.2 122) (Int32.toNatClampNeg (a1 + (5 : Int32))) q10.1)
  jg (jp_in (a1 + (5 : Int32)) 224) (
  some ((M11 122 (Int32.toNatClampNeg (a1 + (5 : Int32)))), M11)))))) else (
  some ((-1 : Int32), M6)))))) else (
  some ((-1 : Int32), M2)))))
theorem t_M_readAir {Ln : Nat} {xs : Nat → Int32} {sv : jp_V} {a1 : Int32} {w : Nat} {M : jp_M} {res : Int32 × jp_M} (hf : f_M_readAir a1 M = some res) : jE (jZ (jK Ln xs sv)) 5 215 [(.inr (some 104)), (.inl a1)] (jSH w) M (some (.inl res.1), jSH w, res.2) := by
  unfold f_M_readAir at hf
  refine jE_in (L0 := [some (.inr (some 104)), some (.inl a1)]) rfl (Nat.le_of_ble_eq_true rfl) rfl (fun d hd => ?_)
  refine jR_in rfl ⟨rfl, rfl, rfl⟩ rfl ?_
  refine js_aload_n rfl ?_
  refine js_getr rfl rfl rfl ?_
  refine js_iload_n rfl ?_
  refine js_iconst (v := (3 : Int32)) rfl ?_
  refine js_iadd ?_
  refine js_aload_n rfl ?_
  refine js_bipush (v := (25 : Int32)) rfl ?_
  refine js_iconst (v := (0 : Int32)) rfl ?_
  refine js_bipush (v := (9 : Int32)) rfl ?_
  obtain ⟨q1, hc_1, hf⟩ := jbind hf
  refine js_c4i rfl rfl ⟨rfl, rfl⟩ rfl rfl (t_M_readTold hc_1) (by omega) ?_
  obtain ⟨hb3, hf⟩ := jg_some hf
  refine js_iast rfl hb3 ?_
  refine js_aload_n rfl ?_
  refine js_getr rfl rfl rfl ?_
  refine js_iload_n rfl ?_
  refine js_iconst (v := (3 : Int32)) rfl ?_
  refine js_iadd ?_
  obtain ⟨hb4, hf⟩ := jg_some hf
  refine js_iald rfl hb4 ?_
  refine js_iconst (v := (-1 : Int32)) rfl ?_
  refine js_icmp (tgt := 31) rfl rfl (fun h => ?_) (fun h => ?_)
  · have hf := jif_t hf h
    refine jR_in rfl ⟨rfl, rfl, rfl⟩ rfl ?_
    refine js_aload_n rfl ?_
    refine js_getr rfl rfl rfl ?_
    refine js_iload_n rfl ?_
    refine js_iconst (v := (4 : Int32)) rfl ?_
    refine js_iadd ?_
    refine js_aload_n rfl ?_
    refine js_iconst (v := (0 : Int32)) rfl ?_
    refine js_bipush (v := (7 : Int32)) rfl ?_
    obtain ⟨q5, hc_5, hf⟩ := jbind hf
    refine js_c3i rfl rfl ⟨rfl, rfl⟩ rfl rfl (t_M_readNumber hc_5) (by omega) ?_
    obtain ⟨hb7, hf⟩ := jg_some hf
    refine js_iast rfl hb7 ?_
    refine js_aload_n rfl ?_
    refine js_getr rfl rfl rfl ?_
    refine js_iload_n rfl ?_
    refine js_iconst (v := (4 : Int32)) rfl ?_
    refine js_iadd ?_
    obtain ⟨hb8, hf⟩ := jg_some hf
    refine js_iald rfl hb8 ?_
    refine js_iconst (v := (-1 : Int32)) rfl ?_
    refine js_icmp (tgt := 60) rfl rfl (fun h => ?_) (fun h => ?_)
    · have hf := jif_t hf h
      refine jR_in rfl ⟨rfl, rfl, rfl⟩ rfl ?_
      refine js_aload_n rfl ?_
      refine js_getr rfl rfl rfl ?_
      refine js_iload_n rfl ?_
      refine js_iconst (v := (5 : Int32)) rfl ?_
      refine js_iadd ?_
      refine js_aload_n rfl ?_
      refine js_aload_n rfl ?_
      refine js_getr rfl rfl rfl ?_
      refine js_iload_n rfl ?_
      refine js_iconst (v := (4 : Int32)) rfl ?_
      refine js_iadd ?_
      obtain ⟨hb9, hf⟩ := jg_some hf
      refine js_iald rfl hb9 ?_
      refine js_bipush (v := (7 : Int32)) rfl ?_
      obtain ⟨q10, hc_10, hf⟩ := jbind hf
      refine js_c3i rfl rfl ⟨rfl, rfl⟩ rfl rfl (t_M_readNumber hc_10) (by omega) ?_
      obtain ⟨hb12, hf⟩ := jg_some hf
      refine js_iast rfl hb12 ?_
      refine js_aload_n rfl ?_
      refine js_getr rfl rfl rfl ?_
      refine js_iload_n rfl ?_
      refine js_iconst (v := (5 : Int32)) rfl ?_
      refine js_iadd ?_
      obtain ⟨hb13, hf⟩ := jg_some hf
      refine js_iald rfl hb13 ?_
      obtain rfl := Option.some.inj hf
      exact js_iret rfl rfl
    · have hf := jif_f hf h
      refine js_iconst (v := (-1 : Int32)) rfl ?_
      obtain rfl := Option.some.inj hf
      exact js_iret rfl rfl
  · have hf := jif_f hf h
    refine js_iconst (v := (-1 : Int32)) rfl ?_
    obtain rfl := Option.some.inj hf
    exact js_iret rfl rfl
/-! SwallowsAirModel.isSign(I)Z -/
def f_M_isSign (a1 : Int32) (M : jp_M) : Int32 :=
  if jp_c .ne (M 104 16) (4 : Int32) = true then (
  (0 : Int32)) else (
  if jp_c .ne (M 104 17) a1 = true then (
  (0 : Int32)) else (
  (1 : Int32)))
theorem t_M_isSign {Ln : Nat} {xs : Nat → Int32} {sv : jp_V} {a1 : Int32} {w : Nat} {M : jp_M} {res : Int32} (hf : f_M_isSign a1 M = res) : jE (jZ (jK Ln xs sv)) 0 199 [(.inr (some 104)), (.inl a1)] (jSH w) M (some (.inl res), jSH w, M) := by
  unfold f_M_isSign at hf
  refine jE_in (L0 := [some (.inr (some 104)), some (.inl a1)]) rfl (Nat.le_of_ble_eq_true rfl) rfl (fun d hd => ?_)
  refine jR_in rfl ⟨rfl, rfl, rfl⟩ rfl ?_
  refine js_aload_n rfl ?_
  refine js_geti rfl rfl rfl ?_
  refine js_iconst (v := (4 : Int32)) rfl ?_
  refine js_icmp (tgt := 20) rfl rfl (fun h => ?_) (fun h => ?_)
  · have hf := jif_t hf h
    refine jR_in rfl ⟨rfl, rfl, rfl⟩ rfl ?_
    refine js_iconst (v := (0 : Int32)) rfl ?_
    subst hf
    exact js_iret rfl rfl
  · have hf := jif_f hf h
    refine js_aload_n rfl ?_
    refine js_geti rfl rfl rfl ?_
    refine js_iload_n rfl ?_
    refine js_icmp (tgt := 20) rfl rfl (fun h => ?_) (fun h => ?_)
    · have hf := jif_t hf h
      refine jR_in rfl ⟨rfl, rfl, rfl⟩ rfl ?_
      refine js_iconst (v := (0 : Int32)) rfl ?_
      subst hf
      exact js_iret rfl rfl
    · have hf := jif_f hf h
      refine js_iconst (v := (1 : Int32)) rfl ?_
      refine js_goto (tgt := 21) rfl rfl ?_
      refine jR_in rfl ⟨rfl, rfl, rfl⟩ rfl ?_
      subst hf
      exact js_iret rfl rfl
theorem b_M_isSign {a1 : Int32} {M : jp_M} {res : Int32} (hf : f_M_isSign a1 M = res) : res = 0 ∨ res = 1 := by
  unfold f_M_isSign at hf
  rcases jif_d hf with ⟨h, hf⟩ | ⟨h, hf⟩
  · subst hf
    exact Or.inl rfl
  · rcases jif_d hf with ⟨h, hf⟩ | ⟨h, hf⟩
    · subst hf
      exact Or.inl rfl
    · subst hf
      exact Or.inr rfl
/-! SwallowsAirModel.readMark(I)I -/
def f_M_readMark (a1 : Int32) (M : jp_M) : Option (Int32 × jp_M) :=
  if jp_c .ne (f_M_isSign a1 M) 0 = true then (
  (f_M_reads M).bind fun q2 => (
  some ((0 : Int32), q2))) else (
  let q3 := f_M_errs (1 : Int32) M
  some (q3.1, q3.2))
theorem t_M_readMark {Ln : Nat} {xs : Nat → Int32} {sv : jp_V} {a1 : Int32} {w : Nat} {M : jp_M} {res : Int32 × jp_M} (hf : f_M_readMark a1 M = some res) : jE (jZ (jK Ln xs sv)) 3 213 [(.inr (some 104)), (.inl a1)] (jSH w) M (some (.inl res.1), jSH w, res.2) := by
  unfold f_M_readMark at hf
  refine jE_in (L0 := [some (.inr (some 104)), some (.inl a1)]) rfl (Nat.le_of_ble_eq_true rfl) rfl (fun d hd => ?_)
  refine jR_in rfl ⟨rfl, rfl, rfl⟩ rfl ?_
  refine js_aload_n rfl ?_
  refine js_iload_n rfl ?_
  refine js_c2i rfl rfl ⟨rfl, rfl⟩ rfl rfl (t_M_isSign rfl) (by omega) ?_
  refine js_ifc (tgt := 14) rfl rfl (fun h => ?_) (fun h => ?_)
  · have hf := jif_t hf h
    refine jR_in rfl ⟨rfl, rfl, rfl⟩ rfl ?_
    refine js_aload_n rfl ?_
    obtain ⟨q2, hc_2, hf⟩ := jbind hf
    refine js_c1v (w := 0) rfl rfl ⟨rfl, rfl⟩ rfl rfl (t_M_reads hc_2) (by omega) ?_
    refine js_iconst (v := (0 : Int32)) rfl ?_
    obtain rfl := Option.some.inj hf
    exact js_iret rfl rfl
  · have hf := jif_f hf h
    refine js_aload_n rfl ?_
    refine js_iconst (v := (1 : Int32)) rfl ?_
    refine js_c2i rfl rfl ⟨rfl, rfl⟩ rfl rfl (t_M_errs rfl) (by omega) ?_
    obtain rfl := Option.some.inj hf
    exact js_iret rfl rfl
/-! SwallowsAirModel.readPetition(I)I -/
def f_M_readPetition_86  (M : jp_M) : Option (Int32 × jp_M) :=
  let q1 := f_M_errs (1 : Int32) M
  some (q1.1, q1.2)
theorem t_M_readPetition_86 {Ln : Nat} {xs : Nat → Int32} {sv : jp_V} {d : Nat} (hd : 6 ≤ d)  (o1 : Option jp_V) (w : Nat) (M : jp_M) {res : Int32 × jp_M} (hf : f_M_readPetition_86  M = some res) : jR (jZ (jK Ln xs sv)) d 216 86 ([some (.inr (some 104)), o1], [], jSH w, M) (some (.inl res.1), jSH w, res.2) := by
  unfold f_M_readPetition_86 at hf
  refine jR_in rfl ⟨rfl, rfl, rfl⟩ rfl ?_
  refine js_aload_n rfl ?_
  refine js_iconst (v := (1 : Int32)) rfl ?_
  refine js_c2i rfl rfl ⟨rfl, rfl⟩ rfl rfl (t_M_errs rfl) (by omega) ?_
  obtain rfl := Option.some.inj hf
  exact js_iret rfl rfl
def f_M_readPetition (a1 : Int32) (M : jp_M) : Option (Int32 × jp_M) :=
  (f_M_readTold (17 : Int32) (0 : Int32) (9999 : Int32) M).bind fun q1 => (
  jg (jp_in a1 224) (
  let M2 := jp_set q1.2 122 (upd (q1.2 122) (Int32.toNatClampNeg a1) q1.1)
  jg (jp_in a1 224) (
  if jp_c .ne (M2 122 (Int32.toNatClampNeg a1)) (-1 : Int32) = true then (
  (f_M_readTold (18 : Int32) (0 : Int32) ((M2 104 6) - (1 : Int32)) M2).bind fun q5 => (
  jg (jp_in (a1 + (1 : Int32)) 224) (
  let M6 := jp_set q5.2 122 (upd (q5.2 122) (Int32.toNatClampNeg (a1 + (1 : Int32))) q5.1)
  jg (jp_in (a1 + (1 : Int32)) 224) (
  if jp_c .ne (M6 122 (Int32.toNatClampNeg (a1 + (1 : Int32)))) (-1 : Int32) = true then (
  if jp_c .ne (M6 104 16) (2 : Int32) = true then (
  f_M_readPetition_86 M6) else (
  if jp_c .ne (f_M_isIn (M6 104 17) (19 : Int32) (24 : Int32)) 0 = true then (
  jg (jp_in (a1 + (2 : Int32)) 224) (
  let M10 := jp_set M6 122 (upd (M6 122) (Int32.toNatClampNeg (a1 + (2 : Int32))) ((M6 104 17) - (19 : Int32)))
  (f_M_reads M10).bind fun q12 => (
  (f_M_readAir a1 q12).bind fun q13 => (
  if jp_c .ne q13.1 (-1 : Int32) = true then (
  (f_M_readTold (26 : Int32) (1 : Int32) (30 : Int32) q13.2).bind fun q14 => (
  jg (jp_in (a1 + (6 : Int32)) 224) (
  let M15 := jp_set q14.2 122 (upd (q14.2 122) (Int32.toNatClampNeg (a1 + (6 : Int32))) q14.1)
  jg (jp_in (a1 + (6 : Int32)) 224) (
  if jp_c .ne (M15 122 (Int32.toNatClampNeg (a1 + (6 : Int32)))) (-1 : Int32) = true then (
  (f_M_readMark (59 : Int32) M15).bind fun q18 => (
  some (q18.1, q18.2))) else (
  some ((-1 : Int32), M15)))))) else (
  some ((-1 : Int32), q13.2)))))) else (
  f_M_readPetition_86 M6))) else (
  some ((-1 : Int32), M6)))))) else (
  some ((-1 : Int32), M2)))))
theorem t_M_readPetition {Ln : Nat} {xs : Nat → Int32} {sv : jp_V} {a1 : Int32} {w : Nat} {M : jp_M} {res : Int32 × jp_M} (hf : f_M_readPetition a1 M = some res) : jE (jZ (jK Ln xs sv)) 6 216 [(.inr (some 104)), (.inl a1)] (jSH w) M (some (.inl res.1), jSH w, res.2) := by
  unfold f_M_readPetition at hf
  refine jE_in (L0 := [some (.inr (some 104)), some (.inl a1)]) rfl (Nat.le_of_ble_eq_true rfl) rfl (fun d hd => ?_)
  refine jR_in rfl ⟨rfl, rfl, rfl⟩ rfl ?_
  refine js_aload_n rfl ?_
  refine js_getr rfl rfl rfl ?_
  refine js_iload_n rfl ?_
  refine js_aload_n rfl ?_
  refine js_bipush (v := (17 : Int32)) rfl ?_
  refine js_iconst (v := (0 : Int32)) rfl ?_
  refine js_sipush (v := (9999 : Int32)) rfl ?_
  obtain ⟨q1, hc_1, hf⟩ := jbind hf
  refine js_c4i rfl rfl ⟨rfl, rfl⟩ rfl rfl (t_M_readTold hc_1) (by omega) ?_
  obtain ⟨hb3, hf⟩ := jg_some hf
  refine js_iast rfl hb3 ?_
  refine js_aload_n rfl ?_
  refine js_getr rfl rfl rfl ?_
  refine js_iload_n rfl ?_
  obtain ⟨hb4, hf⟩ := jg_some hf
  refine js_iald rfl hb4 ?_
  refine js_iconst (v := (-1 : Int32)) rfl ?_
  refine js_icmp (tgt := 28) rfl rfl (fun h => ?_) (fun h => ?_)
  · have hf := jif_t hf h
    refine jR_in rfl ⟨rfl, rfl, rfl⟩ rfl ?_
    refine js_aload_n rfl ?_
    refine js_getr rfl rfl rfl ?_
    refine js_iload_n rfl ?_
    refine js_iconst (v := (1 : Int32)) rfl ?_
    refine js_iadd ?_
    refine js_aload_n rfl ?_
    refine js_bipush (v := (18 : Int32)) rfl ?_
    refine js_iconst (v := (0 : Int32)) rfl ?_
    refine js_aload_n rfl ?_
    refine js_geti rfl rfl rfl ?_
    refine js_iconst (v := (1 : Int32)) rfl ?_
    refine js_isub ?_
    obtain ⟨q5, hc_5, hf⟩ := jbind hf
    refine js_c4i rfl rfl ⟨rfl, rfl⟩ rfl rfl (t_M_readTold hc_5) (by omega) ?_
    obtain ⟨hb7, hf⟩ := jg_some hf
    refine js_iast rfl hb7 ?_
    refine js_aload_n rfl ?_
    refine js_getr rfl rfl rfl ?_
    refine js_iload_n rfl ?_
    refine js_iconst (v := (1 : Int32)) rfl ?_
    refine js_iadd ?_
    obtain ⟨hb8, hf⟩ := jg_some hf
    refine js_iald rfl hb8 ?_
    refine js_iconst (v := (-1 : Int32)) rfl ?_
    refine js_icmp (tgt := 63) rfl rfl (fun h => ?_) (fun h => ?_)
    · have hf := jif_t hf h
      refine jR_in rfl ⟨rfl, rfl, rfl⟩ rfl ?_
      refine js_aload_n rfl ?_
      refine js_geti rfl rfl rfl ?_
      refine js_iconst (v := (2 : Int32)) rfl ?_
      refine js_icmp (tgt := 86) rfl rfl (fun h => ?_) (fun h => ?_)
      · have hf := jif_t hf h
        exact t_M_readPetition_86 hd _ _ _ hf
      · have hf := jif_f hf h
        refine js_aload_n rfl ?_
        refine js_aload_n rfl ?_
        refine js_geti rfl rfl rfl ?_
        refine js_bipush (v := (19 : Int32)) rfl ?_
        refine js_bipush (v := (24 : Int32)) rfl ?_
        refine js_c4i rfl rfl ⟨rfl, rfl⟩ rfl rfl (t_M_isIn rfl) (by omega) ?_
        refine js_ifc (tgt := 92) rfl rfl (fun h => ?_) (fun h => ?_)
        · have hf := jif_t hf h
          refine jR_in rfl ⟨rfl, rfl, rfl⟩ rfl ?_
          refine js_aload_n rfl ?_
          refine js_getr rfl rfl rfl ?_
          refine js_iload_n rfl ?_
          refine js_iconst (v := (2 : Int32)) rfl ?_
          refine js_iadd ?_
          refine js_aload_n rfl ?_
          refine js_geti rfl rfl rfl ?_
          refine js_bipush (v := (19 : Int32)) rfl ?_
          refine js_isub ?_
          obtain ⟨hb11, hf⟩ := jg_some hf
          refine js_iast rfl hb11 ?_
          refine js_aload_n rfl ?_
          obtain ⟨q12, hc_12, hf⟩ := jbind hf
          refine js_c1v (w := 0) rfl rfl ⟨rfl, rfl⟩ rfl rfl (t_M_reads hc_12) (by omega) ?_
          refine js_aload_n rfl ?_
          refine js_iload_n rfl ?_
          obtain ⟨q13, hc_13, hf⟩ := jbind hf
          refine js_c2i rfl rfl ⟨rfl, rfl⟩ rfl rfl (t_M_readAir hc_13) (by omega) ?_
          refine js_iconst (v := (-1 : Int32)) rfl ?_
          refine js_icmp (tgt := 122) rfl rfl (fun h => ?_) (fun h => ?_)
          · have hf := jif_t hf h
            refine jR_in rfl ⟨rfl, rfl, rfl⟩ rfl ?_
            refine js_aload_n rfl ?_
            refine js_getr rfl rfl rfl ?_
            refine js_iload_n rfl ?_
            refine js_bipush (v := (6 : Int32)) rfl ?_
            refine js_iadd ?_
            refine js_aload_n rfl ?_
            refine js_bipush (v := (26 : Int32)) rfl ?_
            refine js_iconst (v := (1 : Int32)) rfl ?_
            refine js_bipush (v := (30 : Int32)) rfl ?_
            obtain ⟨q14, hc_14, hf⟩ := jbind hf
            refine js_c4i rfl rfl ⟨rfl, rfl⟩ rfl rfl (t_M_readTold hc_14) (by omega) ?_
            obtain ⟨hb16, hf⟩ := jg_some hf
            refine js_iast rfl hb16 ?_
            refine js_aload_n rfl ?_
            refine js_getr rfl rfl rfl ?_
            refine js_iload_n rfl ?_
            refine js_bipush (v := (6 : Int32)) rfl ?_
            refine js_iadd ?_
            obtain ⟨hb17, hf⟩ := jg_some hf
            refine js_iald rfl hb17 ?_
            refine js_iconst (v := (-1 : Int32)) rfl ?_
            refine js_icmp (tgt := 157) rfl rfl (fun h => ?_) (fun h => ?_)
            · have hf := jif_t hf h
              refine jR_in rfl ⟨rfl, rfl, rfl⟩ rfl ?_
              refine js_aload_n rfl ?_
              refine js_bipush (v := (59 : Int32)) rfl ?_
              obtain ⟨q18, hc_18, hf⟩ := jbind hf
              refine js_c2i rfl rfl ⟨rfl, rfl⟩ rfl rfl (t_M_readMark hc_18) (by omega) ?_
              obtain rfl := Option.some.inj hf
              exact js_iret rfl rfl
            · have hf := jif_f hf h
              refine js_iconst (v := (-1 : Int32)) rfl ?_
              refine js_goto (tgt := 163) rfl rfl ?_
              refine jR_in rfl ⟨rfl, rfl, rfl⟩ rfl ?_
              obtain rfl := Option.some.inj hf
              exact js_iret rfl rfl
          · have hf := jif_f hf h
            refine js_iconst (v := (-1 : Int32)) rfl ?_
            obtain rfl := Option.some.inj hf
            exact js_iret rfl rfl
        · have hf := jif_f hf h
          exact jS_out rfl ⟨rfl, rfl, rfl⟩ rfl (t_M_readPetition_86 hd _ _ _ hf)
    · have hf := jif_f hf h
      refine js_iconst (v := (-1 : Int32)) rfl ?_
      obtain rfl := Option.some.inj hf
      exact js_iret rfl rfl
  · have hf := jif_f hf h
    refine js_iconst (v := (-1 : Int32)) rfl ?_
    obtain rfl := Option.some.inj hf
    exact js_iret rfl rfl
/-! SwallowsAirModel.readPetitions()I -/
def f_M_readPetitions_2  : Nat → Int32 → jp_M → Option (Int32 × jp_M)
  | 0, _, _ => none
  | n + 1, l1, M =>
    if jp_c .eq (f_M_isWord (17 : Int32) M) 0 = true then (
    if jp_c .ne (M 104 16) 0 = true then (
    let q2 := f_M_errs (1 : Int32) M
    some (q2.1, q2.2)) else (
    some (l1, M))) else (
    if jp_c .ne l1 (16 : Int32) = true then (
    (f_M_readPetition ((112 : Int32) + ((7 : Int32) * l1)) M).bind fun q3 => (
    if jp_c .ne q3.1 (-1 : Int32) = true then (
    f_M_readPetitions_2 n (l1 + (1 : Int32)) (q3.2)) else (
    some ((-1 : Int32), q3.2)))) else (
    let q4 := f_M_errs (3 : Int32) M
    some (q4.1, q4.2)))
theorem t_M_readPetitions_2 {Ln : Nat} {xs : Nat → Int32} {sv : jp_V} {d : Nat} (hd : 7 ≤ d)  : ∀ (n : Nat) (l1 : Int32) (w : Nat) (M : jp_M) {res : Int32 × jp_M}, f_M_readPetitions_2 n  l1 M = some res → jR (jZ (jK Ln xs sv)) d 217 2 ([some (.inr (some 104)), some (.inl l1)], [], jSH w, M) (some (.inl res.1), jSH w, res.2) := by
  intro n
  induction n with
  | zero =>
    intro l1 w M res hf
    cases hf
  | succ n ih =>
    intro l1 w M res hf
    rw [f_M_readPetitions_2] at hf
    refine jR_in rfl ⟨rfl, rfl, rfl⟩ rfl ?_
    refine js_aload_n rfl ?_
    refine js_bipush (v := (17 : Int32)) rfl ?_
    refine js_c2i rfl rfl ⟨rfl, rfl⟩ rfl rfl (t_M_isWord rfl) (by omega) ?_
    refine js_ifc (tgt := 47) rfl rfl (fun h => ?_) (fun h => ?_)
    · have hf := jif_t hf h
      refine jR_in rfl ⟨rfl, rfl, rfl⟩ rfl ?_
      refine js_aload_n rfl ?_
      refine js_geti rfl rfl rfl ?_
      refine js_ifc (tgt := 58) rfl rfl (fun h => ?_) (fun h => ?_)
      · have hf := jif_t hf h
        refine jR_in rfl ⟨rfl, rfl, rfl⟩ rfl ?_
        refine js_aload_n rfl ?_
        refine js_iconst (v := (1 : Int32)) rfl ?_
        refine js_c2i rfl rfl ⟨rfl, rfl⟩ rfl rfl (t_M_errs rfl) (by omega) ?_
        obtain rfl := Option.some.inj hf
        exact js_iret rfl rfl
      · have hf := jif_f hf h
        refine js_iload_n rfl ?_
        refine js_goto (tgt := 63) rfl rfl ?_
        refine jR_in rfl ⟨rfl, rfl, rfl⟩ rfl ?_
        obtain rfl := Option.some.inj hf
        exact js_iret rfl rfl
    · have hf := jif_f hf h
      refine js_iload_n rfl ?_
      refine js_bipush (v := (16 : Int32)) rfl ?_
      refine js_icmp (tgt := 23) rfl rfl (fun h => ?_) (fun h => ?_)
      · have hf := jif_t hf h
        refine jR_in rfl ⟨rfl, rfl, rfl⟩ rfl ?_
        refine js_aload_n rfl ?_
        refine js_bipush (v := (112 : Int32)) rfl ?_
        refine js_bipush (v := (7 : Int32)) rfl ?_
        refine js_iload_n rfl ?_
        refine js_imul ?_
        refine js_iadd ?_
        obtain ⟨q3, hc_3, hf⟩ := jbind hf
        refine js_c2i rfl rfl ⟨rfl, rfl⟩ rfl rfl (t_M_readPetition hc_3) (by omega) ?_
        refine js_iconst (v := (-1 : Int32)) rfl ?_
        refine js_icmp (tgt := 40) rfl rfl (fun h => ?_) (fun h => ?_)
        · have hf := jif_t hf h
          refine jR_in rfl ⟨rfl, rfl, rfl⟩ rfl ?_
          refine js_iload_n rfl ?_
          refine js_iconst (v := (1 : Int32)) rfl ?_
          refine js_iadd ?_
          refine js_istore_n rfl rfl ?_
          refine js_goto (tgt := 2) rfl rfl ?_
          exact ih _ _ _ hf
        · have hf := jif_f hf h
          refine js_iconst (v := (-1 : Int32)) rfl ?_
          obtain rfl := Option.some.inj hf
          exact js_iret rfl rfl
      · have hf := jif_f hf h
        refine js_aload_n rfl ?_
        refine js_iconst (v := (3 : Int32)) rfl ?_
        refine js_c2i rfl rfl ⟨rfl, rfl⟩ rfl rfl (t_M_errs rfl) (by omega) ?_
        obtain rfl := Option.some.inj hf
        exact js_iret rfl rfl
def f_M_readPetitions (M : jp_M) : Option (Int32 × jp_M) :=
  f_M_readPetitions_2 jFu (0 : Int32) M
theorem t_M_readPetitions {Ln : Nat} {xs : Nat → Int32} {sv : jp_V} {w : Nat} {M : jp_M} {res : Int32 × jp_M} (hf : f_M_readPetitions M = some res) : jE (jZ (jK Ln xs sv)) 7 217 [(.inr (some 104))] (jSH w) M (some (.inl res.1), jSH w, res.2) := by
  unfold f_M_readPetitions at hf
  refine jE_in (L0 := [some (.inr (some 104)), none]) rfl (Nat.le_of_ble_eq_true rfl) rfl (fun d hd => ?_)
  refine jR_in rfl ⟨rfl, rfl, rfl⟩ rfl ?_
  refine js_iconst (v := (0 : Int32)) rfl ?_
  refine js_istore_n rfl rfl ?_
  exact jS_out rfl ⟨rfl, rfl, rfl⟩ rfl (t_M_readPetitions_2 hd jFu _ _ _ hf)
