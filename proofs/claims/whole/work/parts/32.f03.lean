/-! SwallowsAir$Affairs.isTold(ILSwallowsAir$Sheet;)V -/
def f_A_isTold (a1 : Int32) (M : jp_M) : Option (jp_M) :=
  if jp_c .ne a1 (1 : Int32) = true then (
  if jp_c .ne a1 (2 : Int32) = true then (
  (f_S_becomes_1 M).bind fun q1 => (
  some q1)) else (
  (f_A_leases M).bind fun q2 => (
  some q2))) else (
  (f_S_becomes M).bind fun q3 => (
  some q3))
theorem t_A_isTold {Ln : Nat} {xs : Nat → Int32} {sv : jp_V} {a1 : Int32} {w : Nat} {M : jp_M} {res : jp_M} (hf : f_A_isTold a1 M = some res) : jE (jZ (jK Ln xs sv)) 2 2 [(.inr (some 1)), (.inl a1), (.inr (some 78))] (jSH w) M (none, jSH w, res) := by
  unfold f_A_isTold at hf
  refine jE_in (L0 := [some (.inr (some 1)), some (.inl a1), some (.inr (some 78))]) rfl (Nat.le_of_ble_eq_true rfl) rfl (fun d hd => ?_)
  refine jR_in rfl ⟨rfl, rfl, rfl⟩ rfl ?_
  refine js_iload_n rfl ?_
  refine js_iconst (v := (1 : Int32)) rfl ?_
  refine js_icmp (tgt := 16) rfl rfl (fun h => ?_) (fun h => ?_)
  · have hf := jif_t hf h
    refine jR_in rfl ⟨rfl, rfl, rfl⟩ rfl ?_
    refine js_iload_n rfl ?_
    refine js_iconst (v := (2 : Int32)) rfl ?_
    refine js_icmp (tgt := 29) rfl rfl (fun h => ?_) (fun h => ?_)
    · have hf := jif_t hf h
      refine jR_in rfl ⟨rfl, rfl, rfl⟩ rfl ?_
      refine js_aload_n rfl ?_
      refine js_getr rfl rfl rfl ?_
      refine js_aload_n rfl ?_
      obtain ⟨q1, hc_1, hf⟩ := jbind hf
      refine js_c2v (w := 0) rfl rfl ⟨rfl, rfl⟩ rfl rfl (t_S_becomes_1 hc_1) (by omega) ?_
      obtain rfl := Option.some.inj hf
      exact js_ret rfl rfl
    · have hf := jif_f hf h
      refine js_aload_n rfl ?_
      refine js_aload_n rfl ?_
      obtain ⟨q2, hc_2, hf⟩ := jbind hf
      refine js_c2v (w := 0) rfl rfl ⟨rfl, rfl⟩ rfl rfl (t_A_leases hc_2) (by omega) ?_
      refine js_goto (tgt := 37) rfl rfl ?_
      refine jR_in rfl ⟨rfl, rfl, rfl⟩ rfl ?_
      obtain rfl := Option.some.inj hf
      exact js_ret rfl rfl
  · have hf := jif_f hf h
    refine js_aload_n rfl ?_
    refine js_getr rfl rfl rfl ?_
    refine js_aload_n rfl ?_
    obtain ⟨q3, hc_3, hf⟩ := jbind hf
    refine js_c2v (w := 0) rfl rfl ⟨rfl, rfl⟩ rfl rfl (t_S_becomes hc_3) (by omega) ?_
    refine js_goto (tgt := 37) rfl rfl ?_
    refine jR_in rfl ⟨rfl, rfl, rfl⟩ rfl ?_
    obtain rfl := Option.some.inj hf
    exact js_ret rfl rfl
/-! SwallowsAir.fault(I)I -/
def f_C_fault (a1 : Int32) (M : jp_M) : Int32 :=
  if a1 = (0 : Int32) then (
  (M 68 7)) else if a1 = (1 : Int32) then (
  (M 68 8)) else (
  (-1 : Int32))
theorem t_C_fault {Ln : Nat} {xs : Nat → Int32} {sv : jp_V} {a1 : Int32} {w : Nat} {M : jp_M} {res : Int32} (hf : f_C_fault a1 M = res) : jE (jZ (jK Ln xs sv)) 0 124 [(.inr (some 0)), (.inl a1)] (jSH w) M (some (.inl res), jSH w, M) := by
  unfold f_C_fault at hf
  refine jE_in (L0 := [some (.inr (some 0)), some (.inl a1)]) rfl (Nat.le_of_ble_eq_true rfl) rfl (fun d hd => ?_)
  refine jR_in rfl ⟨rfl, rfl, rfl⟩ rfl ?_
  refine js_iload_n rfl ?_
  rcases jif_d hf with ⟨hk, hf⟩ | ⟨hk0, hf⟩
  · refine js_look (off := 27) (tgt := 28) rfl (by rw [hk]; rfl) rfl rfl ?_
    refine jR_in rfl ⟨rfl, rfl, rfl⟩ rfl ?_
    refine js_aload_n rfl ?_
    refine js_getr rfl rfl rfl ?_
    refine js_geti rfl rfl rfl ?_
    subst hf
    exact js_iret rfl rfl
  · rcases jif_d hf with ⟨hk, hf⟩ | ⟨hk1, hf⟩
    · refine js_look (off := 35) (tgt := 36) rfl (by rw [hk]; rfl) rfl rfl ?_
      refine jR_in rfl ⟨rfl, rfl, rfl⟩ rfl ?_
      refine js_aload_n rfl ?_
      refine js_getr rfl rfl rfl ?_
      refine js_geti rfl rfl rfl ?_
      subst hf
      exact js_iret rfl rfl
    · refine js_look (off := 43) (tgt := 44) rfl (jsw_6 hk0 hk1) rfl rfl ?_
      refine jR_in rfl ⟨rfl, rfl, rfl⟩ rfl ?_
      refine js_iconst (v := (-1 : Int32)) rfl ?_
      subst hf
      exact js_iret rfl rfl
/-! SwallowsAir.of(II)I -/
def f_C_of (a1 : Int32) (a2 : Int32) (M : jp_M) : Option (Int32) :=
  if jp_c .eq (f_W_hasPerson a1 M) 0 = true then (
  some (-1 : Int32)) else (
  if jp_c .ne (f_C_within a2 (4 : Int32)) 0 = true then (
  jg (jp_in (((5 : Int32) * a1) + a2) 50) (
  some (M 3 (Int32.toNatClampNeg (((5 : Int32) * a1) + a2))))) else (
  some (-1 : Int32)))
theorem t_C_of {Ln : Nat} {xs : Nat → Int32} {sv : jp_V} {a1 : Int32} {a2 : Int32} {w : Nat} {M : jp_M} {res : Int32} (hf : f_C_of a1 a2 M = some res) : jE (jZ (jK Ln xs sv)) 1 125 [(.inr (some 0)), (.inl a1), (.inl a2)] (jSH w) M (some (.inl res), jSH w, M) := by
  unfold f_C_of at hf
  refine jE_in (L0 := [some (.inr (some 0)), some (.inl a1), some (.inl a2)]) rfl (Nat.le_of_ble_eq_true rfl) rfl (fun d hd => ?_)
  refine jR_in rfl ⟨rfl, rfl, rfl⟩ rfl ?_
  refine js_aload_n rfl ?_
  refine js_getr rfl rfl rfl ?_
  refine js_getr rfl rfl rfl ?_
  refine js_iload_n rfl ?_
  refine js_c2i rfl rfl ⟨rfl, rfl⟩ rfl rfl (t_W_hasPerson rfl) (by omega) ?_
  refine js_ifc (tgt := 22) rfl rfl (fun h => ?_) (fun h => ?_)
  · have hf := jif_t hf h
    refine jR_in rfl ⟨rfl, rfl, rfl⟩ rfl ?_
    refine js_iconst (v := (-1 : Int32)) rfl ?_
    obtain rfl := Option.some.inj hf
    exact js_iret rfl rfl
  · have hf := jif_f hf h
    refine js_iload_n rfl ?_
    refine js_iconst (v := (4 : Int32)) rfl ?_
    refine js_c2i rfl rfl ⟨rfl, rfl⟩ rfl rfl (t_C_within rfl) (by omega) ?_
    refine js_ifc (tgt := 24) rfl rfl (fun h => ?_) (fun h => ?_)
    · have hf := jif_t hf h
      refine jR_in rfl ⟨rfl, rfl, rfl⟩ rfl ?_
      refine js_aload_n rfl ?_
      refine js_getr rfl rfl rfl ?_
      refine js_getr rfl rfl rfl ?_
      refine js_getr rfl rfl rfl ?_
      refine js_iconst (v := (5 : Int32)) rfl ?_
      refine js_iload_n rfl ?_
      refine js_imul ?_
      refine js_iload_n rfl ?_
      refine js_iadd ?_
      obtain ⟨hb3, hf⟩ := jg_some hf
      refine js_iald rfl hb3 ?_
      obtain rfl := Option.some.inj hf
      exact js_iret rfl rfl
    · have hf := jif_f hf h
      refine js_iconst (v := (-1 : Int32)) rfl ?_
      obtain rfl := Option.some.inj hf
      exact js_iret rfl rfl
/-! SwallowsAir.bird(II)I -/
def f_C_bird (a1 : Int32) (a2 : Int32) (M : jp_M) : Option (Int32) :=
  if jp_c .ne (f_W_hasSwallow a1 M) 0 = true then (
  if jp_c .eq (f_C_within a2 (2 : Int32)) 0 = true then (
  if jp_c .lt a2 (10 : Int32) = true then (
  some (-1 : Int32)) else (
  if jp_c .ge a2 (20 : Int32) = true then (
  some (-1 : Int32)) else (
  (f_A_sees a1 (a2 - (10 : Int32)) M).bind fun q3 => (
  if jp_c .eq q3 0 = true then (
  some (0 : Int32)) else (
  some (1 : Int32)))))) else (
  jg (jp_in (((3 : Int32) * a1) + a2) 30) (
  some (M 4 (Int32.toNatClampNeg (((3 : Int32) * a1) + a2)))))) else (
  some (-1 : Int32))
theorem t_C_bird {Ln : Nat} {xs : Nat → Int32} {sv : jp_V} {a1 : Int32} {a2 : Int32} {w : Nat} {M : jp_M} {res : Int32} (hf : f_C_bird a1 a2 M = some res) : jE (jZ (jK Ln xs sv)) 1 126 [(.inr (some 0)), (.inl a1), (.inl a2)] (jSH w) M (some (.inl res), jSH w, M) := by
  unfold f_C_bird at hf
  refine jE_in (L0 := [some (.inr (some 0)), some (.inl a1), some (.inl a2)]) rfl (Nat.le_of_ble_eq_true rfl) rfl (fun d hd => ?_)
  refine jR_in rfl ⟨rfl, rfl, rfl⟩ rfl ?_
  refine js_aload_n rfl ?_
  refine js_getr rfl rfl rfl ?_
  refine js_getr rfl rfl rfl ?_
  refine js_iload_n rfl ?_
  refine js_c2i rfl rfl ⟨rfl, rfl⟩ rfl rfl (t_W_hasSwallow rfl) (by omega) ?_
  refine js_ifc (tgt := 16) rfl rfl (fun h => ?_) (fun h => ?_)
  · have hf := jif_t hf h
    refine jR_in rfl ⟨rfl, rfl, rfl⟩ rfl ?_
    refine js_iload_n rfl ?_
    refine js_iconst (v := (2 : Int32)) rfl ?_
    refine js_c2i rfl rfl ⟨rfl, rfl⟩ rfl rfl (t_C_within rfl) (by omega) ?_
    refine js_ifc (tgt := 41) rfl rfl (fun h => ?_) (fun h => ?_)
    · have hf := jif_t hf h
      refine jR_in rfl ⟨rfl, rfl, rfl⟩ rfl ?_
      refine js_iload_n rfl ?_
      refine js_bipush (v := (10 : Int32)) rfl ?_
      refine js_icmp (tgt := 74) rfl rfl (fun h => ?_) (fun h => ?_)
      · have hf := jif_t hf h
        refine jR_in rfl ⟨rfl, rfl, rfl⟩ rfl ?_
        refine js_iconst (v := (-1 : Int32)) rfl ?_
        obtain rfl := Option.some.inj hf
        exact js_iret rfl rfl
      · have hf := jif_f hf h
        refine js_iload_n rfl ?_
        refine js_bipush (v := (20 : Int32)) rfl ?_
        refine js_icmp (tgt := 74) rfl rfl (fun h => ?_) (fun h => ?_)
        · have hf := jif_t hf h
          refine jR_in rfl ⟨rfl, rfl, rfl⟩ rfl ?_
          refine js_iconst (v := (-1 : Int32)) rfl ?_
          obtain rfl := Option.some.inj hf
          exact js_iret rfl rfl
        · have hf := jif_f hf h
          refine js_aload_n rfl ?_
          refine js_getr rfl rfl rfl ?_
          refine js_iload_n rfl ?_
          refine js_iload_n rfl ?_
          refine js_bipush (v := (10 : Int32)) rfl ?_
          refine js_isub ?_
          obtain ⟨q3, hc_3, hf⟩ := jbind hf
          refine js_c3i rfl rfl ⟨rfl, rfl⟩ rfl rfl (t_A_sees hc_3) (by omega) ?_
          refine js_ifc (tgt := 72) rfl rfl (fun h => ?_) (fun h => ?_)
          · have hf := jif_t hf h
            refine jR_in rfl ⟨rfl, rfl, rfl⟩ rfl ?_
            refine js_iconst (v := (0 : Int32)) rfl ?_
            obtain rfl := Option.some.inj hf
            exact js_iret rfl rfl
          · have hf := jif_f hf h
            refine js_iconst (v := (1 : Int32)) rfl ?_
            refine js_goto (tgt := 73) rfl rfl ?_
            refine jR_in rfl ⟨rfl, rfl, rfl⟩ rfl ?_
            obtain rfl := Option.some.inj hf
            exact js_iret rfl rfl
    · have hf := jif_f hf h
      refine js_aload_n rfl ?_
      refine js_getr rfl rfl rfl ?_
      refine js_getr rfl rfl rfl ?_
      refine js_getr rfl rfl rfl ?_
      refine js_iconst (v := (3 : Int32)) rfl ?_
      refine js_iload_n rfl ?_
      refine js_imul ?_
      refine js_iload_n rfl ?_
      refine js_iadd ?_
      obtain ⟨hb4, hf⟩ := jg_some hf
      refine js_iald rfl hb4 ?_
      obtain rfl := Option.some.inj hf
      exact js_iret rfl rfl
  · have hf := jif_f hf h
    refine js_iconst (v := (-1 : Int32)) rfl ?_
    obtain rfl := Option.some.inj hf
    exact js_iret rfl rfl
/-! SwallowsAir.use(II)I -/
def f_C_use (a1 : Int32) (a2 : Int32) (M : jp_M) : Option (Int32 × jp_M) :=
  if jp_c .lt a1 0 = true then (
  some ((-1 : Int32), M)) else (
  if jp_c .ge a1 (M 2 6) = true then (
  some ((-1 : Int32), M)) else (
  if jp_c .ne (f_C_within a2 (10 : Int32)) 0 = true then (
  if jp_c .ge a2 (8 : Int32) = true then (
  (f_L_tells_1 (a2 - (8 : Int32)) ((8 : Int32) * a1) M).bind fun q2 => (
  some (q2.1, q2.2))) else (
  jg (jp_in (((8 : Int32) * a1) + a2) 128) (
  some ((M 5 (Int32.toNatClampNeg (((8 : Int32) * a1) + a2))), M)))) else (
  some ((-1 : Int32), M))))
theorem t_C_use {Ln : Nat} {xs : Nat → Int32} {sv : jp_V} {a1 : Int32} {a2 : Int32} {w : Nat} {M : jp_M} {res : Int32 × jp_M} (hf : f_C_use a1 a2 M = some res) : jE (jZ (jK Ln xs sv)) 4 127 [(.inr (some 0)), (.inl a1), (.inl a2)] (jSH w) M (some (.inl res.1), jSH w, res.2) := by
  unfold f_C_use at hf
  refine jE_in (L0 := [some (.inr (some 0)), some (.inl a1), some (.inl a2), none]) rfl (Nat.le_of_ble_eq_true rfl) rfl (fun d hd => ?_)
  refine jR_in rfl ⟨rfl, rfl, rfl⟩ rfl ?_
  refine js_aload_n rfl ?_
  refine js_getr rfl rfl rfl ?_
  refine js_getr rfl rfl rfl ?_
  refine js_astore_n rfl rfl ?_
  refine js_iload_n rfl ?_
  refine js_ifc (tgt := 29) rfl rfl (fun h => ?_) (fun h => ?_)
  · have hf := jif_t hf h
    refine jR_in rfl ⟨rfl, rfl, rfl⟩ rfl ?_
    refine js_iconst (v := (-1 : Int32)) rfl ?_
    obtain rfl := Option.some.inj hf
    exact js_iret rfl rfl
  · have hf := jif_f hf h
    refine js_iload_n rfl ?_
    refine js_aload_n rfl ?_
    refine js_geti rfl rfl rfl ?_
    refine js_icmp (tgt := 29) rfl rfl (fun h => ?_) (fun h => ?_)
    · have hf := jif_t hf h
      refine jR_in rfl ⟨rfl, rfl, rfl⟩ rfl ?_
      refine js_iconst (v := (-1 : Int32)) rfl ?_
      obtain rfl := Option.some.inj hf
      exact js_iret rfl rfl
    · have hf := jif_f hf h
      refine js_iload_n rfl ?_
      refine js_bipush (v := (10 : Int32)) rfl ?_
      refine js_c2i rfl rfl ⟨rfl, rfl⟩ rfl rfl (t_C_within rfl) (by omega) ?_
      refine js_ifc (tgt := 31) rfl rfl (fun h => ?_) (fun h => ?_)
      · have hf := jif_t hf h
        refine jR_in rfl ⟨rfl, rfl, rfl⟩ rfl ?_
        refine js_iload_n rfl ?_
        refine js_bipush (v := (8 : Int32)) rfl ?_
        refine js_icmp (tgt := 49) rfl rfl (fun h => ?_) (fun h => ?_)
        · have hf := jif_t hf h
          refine jR_in rfl ⟨rfl, rfl, rfl⟩ rfl ?_
          refine js_aload_n rfl ?_
          refine js_getr rfl rfl rfl ?_
          refine js_getr rfl rfl rfl ?_
          refine js_iload_n rfl ?_
          refine js_bipush (v := (8 : Int32)) rfl ?_
          refine js_isub ?_
          refine js_aload_n rfl ?_
          refine js_aload_n rfl ?_
          refine js_getr rfl rfl rfl ?_
          refine js_bipush (v := (8 : Int32)) rfl ?_
          refine js_iload_n rfl ?_
          refine js_imul ?_
          obtain ⟨q2, hc_2, hf⟩ := jbind hf
          refine js_c5i rfl rfl ⟨rfl, rfl⟩ rfl rfl (t_L_tells_1 hc_2) (by omega) ?_
          obtain rfl := Option.some.inj hf
          exact js_iret rfl rfl
        · have hf := jif_f hf h
          refine js_aload_n rfl ?_
          refine js_getr rfl rfl rfl ?_
          refine js_bipush (v := (8 : Int32)) rfl ?_
          refine js_iload_n rfl ?_
          refine js_imul ?_
          refine js_iload_n rfl ?_
          refine js_iadd ?_
          obtain ⟨hb3, hf⟩ := jg_some hf
          refine js_iald rfl hb3 ?_
          obtain rfl := Option.some.inj hf
          exact js_iret rfl rfl
      · have hf := jif_f hf h
        refine js_iconst (v := (-1 : Int32)) rfl ?_
        obtain rfl := Option.some.inj hf
        exact js_iret rfl rfl
/-! SwallowsAir.lease(I)I -/
def f_C_lease (a1 : Int32) (M : jp_M) : Option (Int32) :=
  if jp_c .eq (f_C_within a1 (9 : Int32)) 0 = true then (
  some (-1 : Int32)) else (
  jg (jp_in a1 10) (
  some (M 16 (Int32.toNatClampNeg a1))))
theorem t_C_lease {Ln : Nat} {xs : Nat → Int32} {sv : jp_V} {a1 : Int32} {w : Nat} {M : jp_M} {res : Int32} (hf : f_C_lease a1 M = some res) : jE (jZ (jK Ln xs sv)) 1 128 [(.inr (some 0)), (.inl a1)] (jSH w) M (some (.inl res), jSH w, M) := by
  unfold f_C_lease at hf
  refine jE_in (L0 := [some (.inr (some 0)), some (.inl a1)]) rfl (Nat.le_of_ble_eq_true rfl) rfl (fun d hd => ?_)
  refine jR_in rfl ⟨rfl, rfl, rfl⟩ rfl ?_
  refine js_iload_n rfl ?_
  refine js_bipush (v := (9 : Int32)) rfl ?_
  refine js_c2i rfl rfl ⟨rfl, rfl⟩ rfl rfl (t_C_within rfl) (by omega) ?_
  refine js_ifc (tgt := 21) rfl rfl (fun h => ?_) (fun h => ?_)
  · have hf := jif_t hf h
    refine jR_in rfl ⟨rfl, rfl, rfl⟩ rfl ?_
    refine js_iconst (v := (-1 : Int32)) rfl ?_
    obtain rfl := Option.some.inj hf
    exact js_iret rfl rfl
  · have hf := jif_f hf h
    refine js_aload_n rfl ?_
    refine js_getr rfl rfl rfl ?_
    refine js_getr rfl rfl rfl ?_
    refine js_iload_n rfl ?_
    obtain ⟨hb2, hf⟩ := jg_some hf
    refine js_iald rfl hb2 ?_
    refine js_goto (tgt := 22) rfl rfl ?_
    refine jR_in rfl ⟨rfl, rfl, rfl⟩ rfl ?_
    obtain rfl := Option.some.inj hf
    exact js_iret rfl rfl
/-! SwallowsAir.book(II)I -/
def f_C_book (a1 : Int32) (a2 : Int32) (M : jp_M) : Option (Int32) :=
  if jp_c .lt a1 0 = true then (
  some (-1 : Int32)) else (
  if jp_c .ge a1 (M 2 7) = true then (
  some (-1 : Int32)) else (
  if jp_c .ne (f_C_within a2 (3 : Int32)) 0 = true then (
  jg (jp_in (((4 : Int32) * a1) + a2) 600) (
  some (M 6 (Int32.toNatClampNeg (((4 : Int32) * a1) + a2))))) else (
  some (-1 : Int32))))
theorem t_C_book {Ln : Nat} {xs : Nat → Int32} {sv : jp_V} {a1 : Int32} {a2 : Int32} {w : Nat} {M : jp_M} {res : Int32} (hf : f_C_book a1 a2 M = some res) : jE (jZ (jK Ln xs sv)) 1 129 [(.inr (some 0)), (.inl a1), (.inl a2)] (jSH w) M (some (.inl res), jSH w, M) := by
  unfold f_C_book at hf
  refine jE_in (L0 := [some (.inr (some 0)), some (.inl a1), some (.inl a2)]) rfl (Nat.le_of_ble_eq_true rfl) rfl (fun d hd => ?_)
  refine jR_in rfl ⟨rfl, rfl, rfl⟩ rfl ?_
  refine js_iload_n rfl ?_
  refine js_ifc (tgt := 26) rfl rfl (fun h => ?_) (fun h => ?_)
  · have hf := jif_t hf h
    refine jR_in rfl ⟨rfl, rfl, rfl⟩ rfl ?_
    refine js_iconst (v := (-1 : Int32)) rfl ?_
    obtain rfl := Option.some.inj hf
    exact js_iret rfl rfl
  · have hf := jif_f hf h
    refine js_iload_n rfl ?_
    refine js_aload_n rfl ?_
    refine js_getr rfl rfl rfl ?_
    refine js_getr rfl rfl rfl ?_
    refine js_geti rfl rfl rfl ?_
    refine js_icmp (tgt := 26) rfl rfl (fun h => ?_) (fun h => ?_)
    · have hf := jif_t hf h
      refine jR_in rfl ⟨rfl, rfl, rfl⟩ rfl ?_
      refine js_iconst (v := (-1 : Int32)) rfl ?_
      obtain rfl := Option.some.inj hf
      exact js_iret rfl rfl
    · have hf := jif_f hf h
      refine js_iload_n rfl ?_
      refine js_iconst (v := (3 : Int32)) rfl ?_
      refine js_c2i rfl rfl ⟨rfl, rfl⟩ rfl rfl (t_C_within rfl) (by omega) ?_
      refine js_ifc (tgt := 28) rfl rfl (fun h => ?_) (fun h => ?_)
      · have hf := jif_t hf h
        refine jR_in rfl ⟨rfl, rfl, rfl⟩ rfl ?_
        refine js_aload_n rfl ?_
        refine js_getr rfl rfl rfl ?_
        refine js_getr rfl rfl rfl ?_
        refine js_iconst (v := (4 : Int32)) rfl ?_
        refine js_iload_n rfl ?_
        refine js_imul ?_
        refine js_iload_n rfl ?_
        refine js_iadd ?_
        obtain ⟨hb2, hf⟩ := jg_some hf
        refine js_iald rfl hb2 ?_
        obtain rfl := Option.some.inj hf
        exact js_iret rfl rfl
      · have hf := jif_f hf h
        refine js_iconst (v := (-1 : Int32)) rfl ?_
        obtain rfl := Option.some.inj hf
        exact js_iret rfl rfl
/-! SwallowsAir.would(IIIII)I -/
def f_C_would (a1 : Int32) (a2 : Int32) (a3 : Int32) (a4 : Int32) (a5 : Int32) (M : jp_M) : Option (Int32 × jp_M) :=
  let q1 := f_K_wants a1 a2 a3 a4 a5 M
  if jp_c .ne q1.1 0 = true then (
  (f_L_tells (0 : Int32) (0 : Int32) q1.2).bind fun q2 => (
  (f_K_fits q2.2).bind fun q3 => (
  if jp_c .eq q3 0 = true then (
  some (((-2 : Int32) - q2.1), q2.2)) else (
  some (q2.1, q2.2))))) else (
  some ((-1 : Int32), q1.2))
theorem t_C_would {Ln : Nat} {xs : Nat → Int32} {sv : jp_V} {a1 : Int32} {a2 : Int32} {a3 : Int32} {a4 : Int32} {a5 : Int32} {w : Nat} {M : jp_M} {res : Int32 × jp_M} (hf : f_C_would a1 a2 a3 a4 a5 M = some res) : jE (jZ (jK Ln xs sv)) 4 130 [(.inr (some 0)), (.inl a1), (.inl a2), (.inl a3), (.inl a4), (.inl a5)] (jSH w) M (some (.inl res.1), jSH w, res.2) := by
  unfold f_C_would at hf
  refine jE_in (L0 := [some (.inr (some 0)), some (.inl a1), some (.inl a2), some (.inl a3), some (.inl a4), some (.inl a5), none]) rfl (Nat.le_of_ble_eq_true rfl) rfl (fun d hd => ?_)
  refine jR_in rfl ⟨rfl, rfl, rfl⟩ rfl ?_
  refine js_aload_n rfl ?_
  refine js_getr rfl rfl rfl ?_
  refine js_iload_n rfl ?_
  refine js_iload_n rfl ?_
  refine js_iload_n rfl ?_
  refine js_iload rfl ?_
  refine js_iload rfl ?_
  refine js_c6i rfl rfl ⟨rfl, rfl⟩ rfl rfl (t_K_wants rfl) (by omega) ?_
  refine js_ifc (tgt := 19) rfl rfl (fun h => ?_) (fun h => ?_)
  · have hf := jif_t hf h
    refine jR_in rfl ⟨rfl, rfl, rfl⟩ rfl ?_
    refine js_aload_n rfl ?_
    refine js_getr rfl rfl rfl ?_
    refine js_getr rfl rfl rfl ?_
    refine js_iconst (v := (0 : Int32)) rfl ?_
    refine js_aload_n rfl ?_
    refine js_getr rfl rfl rfl ?_
    refine js_getr rfl rfl rfl ?_
    refine js_aload_n rfl ?_
    refine js_getr rfl rfl rfl ?_
    refine js_getr rfl rfl rfl ?_
    refine js_iconst (v := (0 : Int32)) rfl ?_
    obtain ⟨q2, hc_2, hf⟩ := jbind hf
    refine js_c5i rfl rfl ⟨rfl, rfl⟩ rfl rfl (t_L_tells hc_2) (by omega) ?_
    refine js_istore rfl rfl ?_
    refine js_aload_n rfl ?_
    refine js_getr rfl rfl rfl ?_
    obtain ⟨q3, hc_3, hf⟩ := jbind hf
    refine js_c1i rfl rfl ⟨rfl, rfl⟩ rfl rfl (t_K_fits hc_3) (by omega) ?_
    refine js_ifc (tgt := 62) rfl rfl (fun h => ?_) (fun h => ?_)
    · have hf := jif_t hf h
      refine jR_in rfl ⟨rfl, rfl, rfl⟩ rfl ?_
      refine js_bipush (v := (-2 : Int32)) rfl ?_
      refine js_iload rfl ?_
      refine js_isub ?_
      obtain rfl := Option.some.inj hf
      exact js_iret rfl rfl
    · have hf := jif_f hf h
      refine js_iload rfl ?_
      refine js_goto (tgt := 67) rfl rfl ?_
      refine jR_in rfl ⟨rfl, rfl, rfl⟩ rfl ?_
      obtain rfl := Option.some.inj hf
      exact js_iret rfl rfl
  · have hf := jif_f hf h
    refine js_iconst (v := (-1 : Int32)) rfl ?_
    obtain rfl := Option.some.inj hf
    exact js_iret rfl rfl
/-! SwallowsAir$World.becomes(LSwallowsAir$World;)V -/
def f_W_becomes_6 (M : jp_M) : jp_M :=
  let M1 := jp_set M 50 (upd (M 50) 0 (M 2 0))
  let M2 := jp_set M1 50 (upd (M1 50) 1 (M1 2 1))
  let M3 := jp_set M2 50 (upd (M2 50) 2 (M2 2 2))
  let M4 := jp_set M3 50 (upd (M3 50) 3 (M3 2 3))
  let M5 := jp_set M4 50 (upd (M4 50) 4 (M4 2 4))
  let M6 := jp_set M5 50 (upd (M5 50) 5 (M5 2 5))
  let M7 := jp_set M6 50 (upd (M6 50) 6 (M6 2 6))
  let M8 := jp_set M7 50 (upd (M7 50) 7 (M7 2 7))
  let M9 := jp_set M8 51 (va_cpy (M8 3) (M8 51) 0 0 50)
  let M10 := jp_set M9 52 (va_cpy (M9 4) (M9 52) 0 0 30)
  let M11 := jp_set M10 53 (va_cpy (M10 5) (M10 53) 0 0 128)
  M11
theorem t_W_becomes_6 {Ln : Nat} {xs : Nat → Int32} {sv : jp_V} {w : Nat} {M : jp_M} {res : jp_M} (hf : f_W_becomes_6 M = res) : jE (jZ (jK Ln xs sv)) 0 96 [(.inr (some 50)), (.inr (some 2))] (jSH w) M (none, jSH w, res) := by
  unfold f_W_becomes_6 at hf
  refine jE_in (L0 := [some (.inr (some 50)), some (.inr (some 2))]) rfl (Nat.le_of_ble_eq_true rfl) rfl (fun d hd => ?_)
  refine jR_in rfl ⟨rfl, rfl, rfl⟩ rfl ?_
  refine js_aload_n rfl ?_
  refine js_ifnonnull (tgt := 5) rfl rfl ?_
  refine jR_in rfl ⟨rfl, rfl, rfl⟩ rfl ?_
  refine js_aload_n rfl ?_
  refine js_aload_n rfl ?_
  refine js_geti rfl rfl rfl ?_
  refine js_puti rfl rfl (Or.inl rfl) ?_
  refine js_aload_n rfl ?_
  refine js_aload_n rfl ?_
  refine js_geti rfl rfl rfl ?_
  refine js_puti rfl rfl (Or.inl rfl) ?_
  refine js_aload_n rfl ?_
  refine js_aload_n rfl ?_
  refine js_geti rfl rfl rfl ?_
  refine js_puti rfl rfl (Or.inl rfl) ?_
  refine js_aload_n rfl ?_
  refine js_aload_n rfl ?_
  refine js_geti rfl rfl rfl ?_
  refine js_puti rfl rfl (Or.inl rfl) ?_
  refine js_aload_n rfl ?_
  refine js_aload_n rfl ?_
  refine js_geti rfl rfl rfl ?_
  refine js_puti rfl rfl (Or.inl rfl) ?_
  refine js_aload_n rfl ?_
  refine js_aload_n rfl ?_
  refine js_geti rfl rfl rfl ?_
  refine js_puti rfl rfl (Or.inl rfl) ?_
  refine js_aload_n rfl ?_
  refine js_aload_n rfl ?_
  refine js_geti rfl rfl rfl ?_
  refine js_puti rfl rfl (Or.inl rfl) ?_
  refine js_aload_n rfl ?_
  refine js_aload_n rfl ?_
  refine js_geti rfl rfl rfl ?_
  refine js_puti rfl rfl (Or.inl rfl) ?_
  refine js_aload_n rfl ?_
  refine js_getr rfl rfl rfl ?_
  refine js_iconst (v := (0 : Int32)) rfl ?_
  refine js_aload_n rfl ?_
  refine js_getr rfl rfl rfl ?_
  refine js_iconst (v := (0 : Int32)) rfl ?_
  refine js_aload_n rfl ?_
  refine js_getr rfl rfl rfl ?_
  refine js_alen (v := (50 : Int32)) rfl rfl rfl ?_
  refine js_copy rfl rfl rfl (by decide) (by decide) rfl ?_
  refine js_aload_n rfl ?_
  refine js_getr rfl rfl rfl ?_
  refine js_iconst (v := (0 : Int32)) rfl ?_
  refine js_aload_n rfl ?_
  refine js_getr rfl rfl rfl ?_
  refine js_iconst (v := (0 : Int32)) rfl ?_
  refine js_aload_n rfl ?_
  refine js_getr rfl rfl rfl ?_
  refine js_alen (v := (30 : Int32)) rfl rfl rfl ?_
  refine js_copy rfl rfl rfl (by decide) (by decide) rfl ?_
  refine js_aload_n rfl ?_
  refine js_getr rfl rfl rfl ?_
  refine js_iconst (v := (0 : Int32)) rfl ?_
  refine js_aload_n rfl ?_
  refine js_getr rfl rfl rfl ?_
  refine js_iconst (v := (0 : Int32)) rfl ?_
  refine js_aload_n rfl ?_
  refine js_getr rfl rfl rfl ?_
  refine js_alen (v := (128 : Int32)) rfl rfl rfl ?_
  refine js_copy rfl rfl rfl (by decide) (by decide) rfl ?_
  subst hf
  exact js_ret rfl rfl
/-! SwallowsAir$World.marksOfAll()I -/
def f_W_marksOfAll_4  : Nat → Int32 → Int32 → jp_M → Option (Int32)
  | 0, _, _, _ => none
  | n + 1, l1, l2, M =>
    if jp_c .ge l2 (M 2 5) = true then (
    some l1) else (
    jg (jp_in (((3 : Int32) * l2) + (2 : Int32)) 30) (
    f_W_marksOfAll_4 n (l1 + (M 4 (Int32.toNatClampNeg (((3 : Int32) * l2) + (2 : Int32))))) (l2 + (1 : Int32)) M))
theorem t_W_marksOfAll_4 {Ln : Nat} {xs : Nat → Int32} {sv : jp_V} {d : Nat} (hd : 0 ≤ d)  : ∀ (n : Nat) (l1 : Int32) (l2 : Int32) (w : Nat) (M : jp_M) {res : Int32}, f_W_marksOfAll_4 n  l1 l2 M = some res → jR (jZ (jK Ln xs sv)) d 108 4 ([some (.inr (some 2)), some (.inl l1), some (.inl l2)], [], jSH w, M) (some (.inl res), jSH w, M) := by
  intro n
  induction n with
  | zero =>
    intro l1 l2 w M res hf
    cases hf
  | succ n ih =>
    intro l1 l2 w M res hf
    rw [f_W_marksOfAll_4] at hf
    refine jR_in rfl ⟨rfl, rfl, rfl⟩ rfl ?_
    refine js_iload_n rfl ?_
    refine js_aload_n rfl ?_
    refine js_geti rfl rfl rfl ?_
    refine js_icmp (tgt := 31) rfl rfl (fun h => ?_) (fun h => ?_)
    · have hf := jif_t hf h
      refine jR_in rfl ⟨rfl, rfl, rfl⟩ rfl ?_
      refine js_iload_n rfl ?_
      obtain rfl := Option.some.inj hf
      exact js_iret rfl rfl
    · have hf := jif_f hf h
      refine js_iload_n rfl ?_
      refine js_aload_n rfl ?_
      refine js_getr rfl rfl rfl ?_
      refine js_iconst (v := (3 : Int32)) rfl ?_
      refine js_iload_n rfl ?_
      refine js_imul ?_
      refine js_iconst (v := (2 : Int32)) rfl ?_
      refine js_iadd ?_
      obtain ⟨hb1, hf⟩ := jg_some hf
      refine js_iald rfl hb1 ?_
      refine js_iadd ?_
      refine js_istore_n rfl rfl ?_
      refine js_iinc (v := (1 : Int32)) rfl rfl rfl rfl ?_
      refine js_goto (tgt := 4) rfl rfl ?_
      exact ih _ _ _ _ hf
def f_W_marksOfAll (M : jp_M) : Option (Int32) :=
  f_W_marksOfAll_4 jFu (0 : Int32) (0 : Int32) M
theorem t_W_marksOfAll {Ln : Nat} {xs : Nat → Int32} {sv : jp_V} {w : Nat} {M : jp_M} {res : Int32} (hf : f_W_marksOfAll M = some res) : jE (jZ (jK Ln xs sv)) 0 108 [(.inr (some 2))] (jSH w) M (some (.inl res), jSH w, M) := by
  unfold f_W_marksOfAll at hf
  refine jE_in (L0 := [some (.inr (some 2)), none, none]) rfl (Nat.le_of_ble_eq_true rfl) rfl (fun d hd => ?_)
  refine jR_in rfl ⟨rfl, rfl, rfl⟩ rfl ?_
  refine js_iconst (v := (0 : Int32)) rfl ?_
  refine js_istore_n rfl rfl ?_
  refine js_iconst (v := (0 : Int32)) rfl ?_
  refine js_istore_n rfl rfl ?_
  exact jS_out rfl ⟨rfl, rfl, rfl⟩ rfl (t_W_marksOfAll_4 hd jFu _ _ _ _ hf)
/-! SwallowsAir$World.finedOfAll()I -/
def f_W_finedOfAll_4  : Nat → Int32 → Int32 → jp_M → Option (Int32)
  | 0, _, _, _ => none
  | n + 1, l1, l2, M =>
    if jp_c .ge l2 (M 2 4) = true then (
    some l1) else (
    jg (jp_in (((5 : Int32) * l2) + (4 : Int32)) 50) (
    f_W_finedOfAll_4 n (l1 + (M 3 (Int32.toNatClampNeg (((5 : Int32) * l2) + (4 : Int32))))) (l2 + (1 : Int32)) M))
theorem t_W_finedOfAll_4 {Ln : Nat} {xs : Nat → Int32} {sv : jp_V} {d : Nat} (hd : 0 ≤ d)  : ∀ (n : Nat) (l1 : Int32) (l2 : Int32) (w : Nat) (M : jp_M) {res : Int32}, f_W_finedOfAll_4 n  l1 l2 M = some res → jR (jZ (jK Ln xs sv)) d 107 4 ([some (.inr (some 2)), some (.inl l1), some (.inl l2)], [], jSH w, M) (some (.inl res), jSH w, M) := by
  intro n
  induction n with
  | zero =>
    intro l1 l2 w M res hf
    cases hf
  | succ n ih =>
    intro l1 l2 w M res hf
    rw [f_W_finedOfAll_4] at hf
    refine jR_in rfl ⟨rfl, rfl, rfl⟩ rfl ?_
    refine js_iload_n rfl ?_
    refine js_aload_n rfl ?_
    refine js_geti rfl rfl rfl ?_
    refine js_icmp (tgt := 31) rfl rfl (fun h => ?_) (fun h => ?_)
    · have hf := jif_t hf h
      refine jR_in rfl ⟨rfl, rfl, rfl⟩ rfl ?_
      refine js_iload_n rfl ?_
      obtain rfl := Option.some.inj hf
      exact js_iret rfl rfl
    · have hf := jif_f hf h
      refine js_iload_n rfl ?_
      refine js_aload_n rfl ?_
      refine js_getr rfl rfl rfl ?_
      refine js_iconst (v := (5 : Int32)) rfl ?_
      refine js_iload_n rfl ?_
      refine js_imul ?_
      refine js_iconst (v := (4 : Int32)) rfl ?_
      refine js_iadd ?_
      obtain ⟨hb1, hf⟩ := jg_some hf
      refine js_iald rfl hb1 ?_
      refine js_iadd ?_
      refine js_istore_n rfl rfl ?_
      refine js_iinc (v := (1 : Int32)) rfl rfl rfl rfl ?_
      refine js_goto (tgt := 4) rfl rfl ?_
      exact ih _ _ _ _ hf
def f_W_finedOfAll (M : jp_M) : Option (Int32) :=
  f_W_finedOfAll_4 jFu (0 : Int32) (0 : Int32) M
theorem t_W_finedOfAll {Ln : Nat} {xs : Nat → Int32} {sv : jp_V} {w : Nat} {M : jp_M} {res : Int32} (hf : f_W_finedOfAll M = some res) : jE (jZ (jK Ln xs sv)) 0 107 [(.inr (some 2))] (jSH w) M (some (.inl res), jSH w, M) := by
  unfold f_W_finedOfAll at hf
  refine jE_in (L0 := [some (.inr (some 2)), none, none]) rfl (Nat.le_of_ble_eq_true rfl) rfl (fun d hd => ?_)
  refine jR_in rfl ⟨rfl, rfl, rfl⟩ rfl ?_
  refine js_iconst (v := (0 : Int32)) rfl ?_
  refine js_istore_n rfl rfl ?_
  refine js_iconst (v := (0 : Int32)) rfl ?_
  refine js_istore_n rfl rfl ?_
  exact jS_out rfl ⟨rfl, rfl, rfl⟩ rfl (t_W_finedOfAll_4 hd jFu _ _ _ _ hf)
/-! SwallowsAir.tally(I)I -/
def f_C_tally (a1 : Int32) (M : jp_M) : Option (Int32) :=
  if a1 = (0 : Int32) then (
  some (M 2 2)) else if a1 = (1 : Int32) then (
  some (M 2 6)) else if a1 = (2 : Int32) then (
  (f_W_finedOfAll M).bind fun q1 => (
  some q1)) else (
  (f_W_marksOfAll M).bind fun q2 => (
  some q2))
theorem t_C_tally {Ln : Nat} {xs : Nat → Int32} {sv : jp_V} {a1 : Int32} {w : Nat} {M : jp_M} {res : Int32} (hf : f_C_tally a1 M = some res) : jE (jZ (jK Ln xs sv)) 1 161 [(.inr (some 0)), (.inl a1)] (jSH w) M (some (.inl res), jSH w, M) := by
  unfold f_C_tally at hf
  refine jE_in (L0 := [some (.inr (some 0)), some (.inl a1)]) rfl (Nat.le_of_ble_eq_true rfl) rfl (fun d hd => ?_)
  refine jR_in rfl ⟨rfl, rfl, rfl⟩ rfl ?_
  refine js_iload_n rfl ?_
  rcases jif_d hf with ⟨hk, hf⟩ | ⟨hk0, hf⟩
  · refine js_tabIn (v := (0 : Int32)) (off := 27) (tgt := 28) hk rfl rfl rfl rfl ?_
    refine jR_in rfl ⟨rfl, rfl, rfl⟩ rfl ?_
    refine js_aload_n rfl ?_
    refine js_getr rfl rfl rfl ?_
    refine js_getr rfl rfl rfl ?_
    refine js_geti rfl rfl rfl ?_
    obtain rfl := Option.some.inj hf
    exact js_iret rfl rfl
  · rcases jif_d hf with ⟨hk, hf⟩ | ⟨hk1, hf⟩
    · refine js_tabIn (v := (1 : Int32)) (off := 38) (tgt := 39) hk rfl rfl rfl rfl ?_
      refine jR_in rfl ⟨rfl, rfl, rfl⟩ rfl ?_
      refine js_aload_n rfl ?_
      refine js_getr rfl rfl rfl ?_
      refine js_getr rfl rfl rfl ?_
      refine js_geti rfl rfl rfl ?_
      obtain rfl := Option.some.inj hf
      exact js_iret rfl rfl
    · rcases jif_d hf with ⟨hk, hf⟩ | ⟨hk2, hf⟩
      · refine js_tabIn (v := (2 : Int32)) (off := 49) (tgt := 50) hk rfl rfl rfl rfl ?_
        refine jR_in rfl ⟨rfl, rfl, rfl⟩ rfl ?_
        refine js_aload_n rfl ?_
        refine js_getr rfl rfl rfl ?_
        refine js_getr rfl rfl rfl ?_
        obtain ⟨q1, hc_1, hf⟩ := jbind hf
        refine js_c1i rfl rfl ⟨rfl, rfl⟩ rfl rfl (t_W_finedOfAll hc_1) (by omega) ?_
        obtain rfl := Option.some.inj hf
        exact js_iret rfl rfl
      · refine js_tabOut (tgt := 61) (jsw_7 hk0 hk1 hk2) rfl rfl ?_
        refine jR_in rfl ⟨rfl, rfl, rfl⟩ rfl ?_
        refine js_aload_n rfl ?_
        refine js_getr rfl rfl rfl ?_
        refine js_getr rfl rfl rfl ?_
        obtain ⟨q2, hc_2, hf⟩ := jbind hf
        refine js_c1i rfl rfl ⟨rfl, rfl⟩ rfl rfl (t_W_marksOfAll hc_2) (by omega) ?_
        obtain rfl := Option.some.inj hf
        exact js_iret rfl rfl
/-! SwallowsAir$World.becomes(LSwallowsAir$World;)V -/
def f_W_becomes_7 (M : jp_M) : jp_M :=
  let M1 := jp_set M 2 (upd (M 2) 0 (M 50 0))
  let M2 := jp_set M1 2 (upd (M1 2) 1 (M1 50 1))
  let M3 := jp_set M2 2 (upd (M2 2) 2 (M2 50 2))
  let M4 := jp_set M3 2 (upd (M3 2) 3 (M3 50 3))
  let M5 := jp_set M4 2 (upd (M4 2) 4 (M4 50 4))
  let M6 := jp_set M5 2 (upd (M5 2) 5 (M5 50 5))
  let M7 := jp_set M6 2 (upd (M6 2) 6 (M6 50 6))
  let M8 := jp_set M7 2 (upd (M7 2) 7 (M7 50 7))
  let M9 := jp_set M8 3 (va_cpy (M8 51) (M8 3) 0 0 50)
  let M10 := jp_set M9 4 (va_cpy (M9 52) (M9 4) 0 0 30)
  let M11 := jp_set M10 5 (va_cpy (M10 53) (M10 5) 0 0 128)
  M11
theorem t_W_becomes_7 {Ln : Nat} {xs : Nat → Int32} {sv : jp_V} {w : Nat} {M : jp_M} {res : jp_M} (hf : f_W_becomes_7 M = res) : jE (jZ (jK Ln xs sv)) 0 96 [(.inr (some 2)), (.inr (some 50))] (jSH w) M (none, jSH w, res) := by
  unfold f_W_becomes_7 at hf
  refine jE_in (L0 := [some (.inr (some 2)), some (.inr (some 50))]) rfl (Nat.le_of_ble_eq_true rfl) rfl (fun d hd => ?_)
  refine jR_in rfl ⟨rfl, rfl, rfl⟩ rfl ?_
  refine js_aload_n rfl ?_
  refine js_ifnonnull (tgt := 5) rfl rfl ?_
  refine jR_in rfl ⟨rfl, rfl, rfl⟩ rfl ?_
  refine js_aload_n rfl ?_
  refine js_aload_n rfl ?_
  refine js_geti rfl rfl rfl ?_
  refine js_puti rfl rfl (Or.inl rfl) ?_
  refine js_aload_n rfl ?_
  refine js_aload_n rfl ?_
  refine js_geti rfl rfl rfl ?_
  refine js_puti rfl rfl (Or.inl rfl) ?_
  refine js_aload_n rfl ?_
  refine js_aload_n rfl ?_
  refine js_geti rfl rfl rfl ?_
  refine js_puti rfl rfl (Or.inl rfl) ?_
  refine js_aload_n rfl ?_
  refine js_aload_n rfl ?_
  refine js_geti rfl rfl rfl ?_
  refine js_puti rfl rfl (Or.inl rfl) ?_
  refine js_aload_n rfl ?_
  refine js_aload_n rfl ?_
  refine js_geti rfl rfl rfl ?_
  refine js_puti rfl rfl (Or.inl rfl) ?_
  refine js_aload_n rfl ?_
  refine js_aload_n rfl ?_
  refine js_geti rfl rfl rfl ?_
  refine js_puti rfl rfl (Or.inl rfl) ?_
  refine js_aload_n rfl ?_
  refine js_aload_n rfl ?_
  refine js_geti rfl rfl rfl ?_
  refine js_puti rfl rfl (Or.inl rfl) ?_
  refine js_aload_n rfl ?_
  refine js_aload_n rfl ?_
  refine js_geti rfl rfl rfl ?_
  refine js_puti rfl rfl (Or.inl rfl) ?_
  refine js_aload_n rfl ?_
  refine js_getr rfl rfl rfl ?_
  refine js_iconst (v := (0 : Int32)) rfl ?_
  refine js_aload_n rfl ?_
  refine js_getr rfl rfl rfl ?_
  refine js_iconst (v := (0 : Int32)) rfl ?_
  refine js_aload_n rfl ?_
  refine js_getr rfl rfl rfl ?_
  refine js_alen (v := (50 : Int32)) rfl rfl rfl ?_
  refine js_copy rfl rfl rfl (by decide) (by decide) rfl ?_
  refine js_aload_n rfl ?_
  refine js_getr rfl rfl rfl ?_
  refine js_iconst (v := (0 : Int32)) rfl ?_
  refine js_aload_n rfl ?_
  refine js_getr rfl rfl rfl ?_
  refine js_iconst (v := (0 : Int32)) rfl ?_
  refine js_aload_n rfl ?_
  refine js_getr rfl rfl rfl ?_
  refine js_alen (v := (30 : Int32)) rfl rfl rfl ?_
  refine js_copy rfl rfl rfl (by decide) (by decide) rfl ?_
  refine js_aload_n rfl ?_
  refine js_getr rfl rfl rfl ?_
  refine js_iconst (v := (0 : Int32)) rfl ?_
  refine js_aload_n rfl ?_
  refine js_getr rfl rfl rfl ?_
  refine js_iconst (v := (0 : Int32)) rfl ?_
  refine js_aload_n rfl ?_
  refine js_getr rfl rfl rfl ?_
  refine js_alen (v := (128 : Int32)) rfl rfl rfl ?_
  refine js_copy rfl rfl rfl (by decide) (by decide) rfl ?_
  subst hf
  exact js_ret rfl rfl
/-! SwallowsAir.goes(II)I -/
def f_C_goes_41  : Nat → Int32 → Int32 → Int32 → jp_M → Option (Int32 × jp_M)
  | 0, _, _, _, _ => none
  | n + 1, l1, l2, l3, M =>
    if jp_c .ge l3 l1 = true then (
    (f_C_tally l2 M).bind fun q1 => (
    let M2 := jp_set M 54 (upd (M 54) 3 (0 : Int32))
    let q3 := f_W_becomes_7 M2
    some (q1, q3))) else (
    (f_K_passesDay M).bind fun q4 => (
    f_C_goes_41 n l1 l2 (l3 + (1 : Int32)) (q4.2)))
theorem t_C_goes_41 {Ln : Nat} {xs : Nat → Int32} {sv : jp_V} {d : Nat} (hd : 7 ≤ d)  : ∀ (n : Nat) (l1 : Int32) (l2 : Int32) (l3 : Int32) (w : Nat) (M : jp_M) {res : Int32 × jp_M}, f_C_goes_41 n  l1 l2 l3 M = some res → jR (jZ (jK Ln xs sv)) d 131 41 ([some (.inr (some 0)), some (.inl l1), some (.inl l2), some (.inl l3)], [], jSH w, M) (some (.inl res.1), jSH w, res.2) := by
  intro n
  induction n with
  | zero =>
    intro l1 l2 l3 w M res hf
    cases hf
  | succ n ih =>
    intro l1 l2 l3 w M res hf
    rw [f_C_goes_41] at hf
    refine jR_in rfl ⟨rfl, rfl, rfl⟩ rfl ?_
    refine js_iload_n rfl ?_
    refine js_iload_n rfl ?_
    refine js_icmp (tgt := 60) rfl rfl (fun h => ?_) (fun h => ?_)
    · have hf := jif_t hf h
      refine jR_in rfl ⟨rfl, rfl, rfl⟩ rfl ?_
      refine js_aload_n rfl ?_
      refine js_iload_n rfl ?_
      obtain ⟨q1, hc_1, hf⟩ := jbind hf
      refine js_c2i rfl rfl ⟨rfl, rfl⟩ rfl rfl (t_C_tally hc_1) (by omega) ?_
      refine js_istore_n rfl rfl ?_
      refine js_aload_n rfl ?_
      refine js_getr rfl rfl rfl ?_
      refine js_iconst (v := (0 : Int32)) rfl ?_
      refine js_puti rfl rfl (Or.inr ⟨rfl, Or.inl rfl⟩) ?_
      refine js_aload_n rfl ?_
      refine js_getr rfl rfl rfl ?_
      refine js_getr rfl rfl rfl ?_
      refine js_aload_n rfl ?_
      refine js_getr rfl rfl rfl ?_
      refine js_c2v (w := 0) rfl rfl ⟨rfl, rfl⟩ rfl rfl (t_W_becomes_7 rfl) (by omega) ?_
      refine js_iload_n rfl ?_
      obtain rfl := Option.some.inj hf
      exact js_iret rfl rfl
    · have hf := jif_f hf h
      refine js_aload_n rfl ?_
      refine js_getr rfl rfl rfl ?_
      obtain ⟨q4, hc_4, hf⟩ := jbind hf
      refine js_c1i rfl rfl ⟨rfl, rfl⟩ rfl rfl (t_K_passesDay hc_4) (by omega) ?_
      refine js_pop ?_
      refine js_iinc (v := (1 : Int32)) rfl rfl rfl rfl ?_
      refine js_goto (tgt := 41) rfl rfl ?_
      exact ih _ _ _ _ _ hf
def f_C_goes (a1 : Int32) (a2 : Int32) (M : jp_M) : Option (Int32 × jp_M) :=
  if jp_c .eq (f_C_canGoBy a1) 0 = true then (
  some ((-1 : Int32), M)) else (
  if jp_c .ne (f_C_within a2 (3 : Int32)) 0 = true then (
  let q3 := f_W_becomes_6 M
  let M4 := jp_set q3 54 (upd (q3 54) 3 (1 : Int32))
  f_C_goes_41 jFu a1 a2 (0 : Int32) M4) else (
  some ((-1 : Int32), M)))
theorem t_C_goes {Ln : Nat} {xs : Nat → Int32} {sv : jp_V} {a1 : Int32} {a2 : Int32} {w : Nat} {M : jp_M} {res : Int32 × jp_M} (hf : f_C_goes a1 a2 M = some res) : jE (jZ (jK Ln xs sv)) 7 131 [(.inr (some 0)), (.inl a1), (.inl a2)] (jSH w) M (some (.inl res.1), jSH w, res.2) := by
  unfold f_C_goes at hf
  refine jE_in (L0 := [some (.inr (some 0)), some (.inl a1), some (.inl a2), none]) rfl (Nat.le_of_ble_eq_true rfl) rfl (fun d hd => ?_)
  refine jR_in rfl ⟨rfl, rfl, rfl⟩ rfl ?_
  refine js_iload_n rfl ?_
  refine js_c1i rfl rfl ⟨rfl, rfl⟩ rfl rfl (t_C_canGoBy rfl) (by omega) ?_
  refine js_ifc (tgt := 15) rfl rfl (fun h => ?_) (fun h => ?_)
  · have hf := jif_t hf h
    refine jR_in rfl ⟨rfl, rfl, rfl⟩ rfl ?_
    refine js_iconst (v := (-1 : Int32)) rfl ?_
    obtain rfl := Option.some.inj hf
    exact js_iret rfl rfl
  · have hf := jif_f hf h
    refine js_iload_n rfl ?_
    refine js_iconst (v := (3 : Int32)) rfl ?_
    refine js_c2i rfl rfl ⟨rfl, rfl⟩ rfl rfl (t_C_within rfl) (by omega) ?_
    refine js_ifc (tgt := 17) rfl rfl (fun h => ?_) (fun h => ?_)
    · have hf := jif_t hf h
      refine jR_in rfl ⟨rfl, rfl, rfl⟩ rfl ?_
      refine js_aload_n rfl ?_
      refine js_getr rfl rfl rfl ?_
      refine js_aload_n rfl ?_
      refine js_getr rfl rfl rfl ?_
      refine js_getr rfl rfl rfl ?_
      refine js_c2v (w := 0) rfl rfl ⟨rfl, rfl⟩ rfl rfl (t_W_becomes_6 rfl) (by omega) ?_
      refine js_aload_n rfl ?_
      refine js_getr rfl rfl rfl ?_
      refine js_iconst (v := (1 : Int32)) rfl ?_
      refine js_puti rfl rfl (Or.inr ⟨rfl, Or.inr rfl⟩) ?_
      refine js_iconst (v := (0 : Int32)) rfl ?_
      refine js_istore_n rfl rfl ?_
      exact jS_out rfl ⟨rfl, rfl, rfl⟩ rfl (t_C_goes_41 hd jFu _ _ _ _ _ hf)
    · have hf := jif_f hf h
      refine js_iconst (v := (-1 : Int32)) rfl ?_
      obtain rfl := Option.some.inj hf
      exact js_iret rfl rfl
/-! SwallowsAir.isCell(I)Z -/
def f_C_isCell (a0 : Int32) : Int32 :=
  if jp_c .lt a0 0 = true then (
  (0 : Int32)) else (
  if jp_c .ge (a0 / (10 : Int32)) (10 : Int32) = true then (
  (0 : Int32)) else (
  if jp_c .ge (a0 % (10 : Int32)) (8 : Int32) = true then (
  (0 : Int32)) else (
  (1 : Int32))))
theorem t_C_isCell {Ln : Nat} {xs : Nat → Int32} {sv : jp_V} {a0 : Int32} {w : Nat} {M : jp_M} {res : Int32} (hf : f_C_isCell a0 = res) : jE (jZ (jK Ln xs sv)) 0 153 [(.inl a0)] (jSH w) M (some (.inl res), jSH w, M) := by
  unfold f_C_isCell at hf
  refine jE_in (L0 := [some (.inl a0)]) rfl (Nat.le_of_ble_eq_true rfl) rfl (fun d hd => ?_)
  refine jR_in rfl ⟨rfl, rfl, rfl⟩ rfl ?_
  refine js_iload_n rfl ?_
  refine js_ifc (tgt := 26) rfl rfl (fun h => ?_) (fun h => ?_)
  · have hf := jif_t hf h
    refine jR_in rfl ⟨rfl, rfl, rfl⟩ rfl ?_
    refine js_iconst (v := (0 : Int32)) rfl ?_
    subst hf
    exact js_iret rfl rfl
  · have hf := jif_f hf h
    refine js_iload_n rfl ?_
    refine js_bipush (v := (10 : Int32)) rfl ?_
    refine js_idiv (by decide) ?_
    refine js_bipush (v := (10 : Int32)) rfl ?_
    refine js_icmp (tgt := 26) rfl rfl (fun h => ?_) (fun h => ?_)
    · have hf := jif_t hf h
      refine jR_in rfl ⟨rfl, rfl, rfl⟩ rfl ?_
      refine js_iconst (v := (0 : Int32)) rfl ?_
      subst hf
      exact js_iret rfl rfl
    · have hf := jif_f hf h
      refine js_iload_n rfl ?_
      refine js_bipush (v := (10 : Int32)) rfl ?_
      refine js_irem (by decide) ?_
      refine js_bipush (v := (8 : Int32)) rfl ?_
      refine js_icmp (tgt := 26) rfl rfl (fun h => ?_) (fun h => ?_)
      · have hf := jif_t hf h
        refine jR_in rfl ⟨rfl, rfl, rfl⟩ rfl ?_
        refine js_iconst (v := (0 : Int32)) rfl ?_
        subst hf
        exact js_iret rfl rfl
      · have hf := jif_f hf h
        refine js_iconst (v := (1 : Int32)) rfl ?_
        refine js_goto (tgt := 27) rfl rfl ?_
        refine jR_in rfl ⟨rfl, rfl, rfl⟩ rfl ?_
        subst hf
        exact js_iret rfl rfl
theorem b_C_isCell {a0 : Int32} {res : Int32} (hf : f_C_isCell a0 = res) : res = 0 ∨ res = 1 := by
  unfold f_C_isCell at hf
  rcases jif_d hf with ⟨h, hf⟩ | ⟨h, hf⟩
  · subst hf
    exact Or.inl rfl
  · rcases jif_d hf with ⟨h, hf⟩ | ⟨h, hf⟩
    · subst hf
      exact Or.inl rfl
    · rcases jif_d hf with ⟨h, hf⟩ | ⟨h, hf⟩
      · subst hf
        exact Or.inl rfl
      · subst hf
        exact Or.inr rfl
/-! SwallowsAir$AirThought.learnsFree()V -/
def f_T_learnsFree_2  : Nat → Int32 → jp_M → Option (jp_M)
  | 0, _, _ => none
  | n + 1, l1, M =>
    if jp_c .ge l1 (10 : Int32) = true then (
    some M) else (
    (f_W_usedAbove l1 M).bind fun q1 => (
    jg (jp_in l1 10) (
    let M2 := jp_set M 57 (upd (M 57) (Int32.toNatClampNeg l1) ((255 : Int32) &&& (q1 ^^^ (-1 : Int32))))
    f_T_learnsFree_2 n (l1 + (1 : Int32)) M2)))
theorem t_T_learnsFree_2 {Ln : Nat} {xs : Nat → Int32} {sv : jp_V} {d : Nat} (hd : 2 ≤ d)  : ∀ (n : Nat) (l1 : Int32) (w : Nat) (M : jp_M) {res : jp_M}, f_T_learnsFree_2 n  l1 M = some res → jR (jZ (jK Ln xs sv)) d 8 2 ([some (.inr (some 56)), some (.inl l1)], [], jSH w, M) (none, jSH w, res) := by
  intro n
  induction n with
  | zero =>
    intro l1 w M res hf
    cases hf
  | succ n ih =>
    intro l1 w M res hf
    rw [f_T_learnsFree_2] at hf
    refine jR_in rfl ⟨rfl, rfl, rfl⟩ rfl ?_
    refine js_iload_n rfl ?_
    refine js_bipush (v := (10 : Int32)) rfl ?_
    refine js_icmp (tgt := 34) rfl rfl (fun h => ?_) (fun h => ?_)
    · have hf := jif_t hf h
      refine jR_in rfl ⟨rfl, rfl, rfl⟩ rfl ?_
      obtain rfl := Option.some.inj hf
      exact js_ret rfl rfl
    · have hf := jif_f hf h
      refine js_aload_n rfl ?_
      refine js_getr rfl rfl rfl ?_
      refine js_iload_n rfl ?_
      refine js_sipush (v := (255 : Int32)) rfl ?_
      refine js_aload_n rfl ?_
      refine js_getr rfl rfl rfl ?_
      refine js_iload_n rfl ?_
      obtain ⟨q1, hc_1, hf⟩ := jbind hf
      refine js_c2i rfl rfl ⟨rfl, rfl⟩ rfl rfl (t_W_usedAbove hc_1) (by omega) ?_
      refine js_iconst (v := (-1 : Int32)) rfl ?_
      refine js_ixor ?_
      refine js_iand ?_
      obtain ⟨hb3, hf⟩ := jg_some hf
      refine js_iast rfl hb3 ?_
      refine js_iinc (v := (1 : Int32)) rfl rfl rfl rfl ?_
      refine js_goto (tgt := 2) rfl rfl ?_
      exact ih _ _ _ hf
def f_T_learnsFree (M : jp_M) : Option (jp_M) :=
  f_T_learnsFree_2 jFu (0 : Int32) M
theorem t_T_learnsFree {Ln : Nat} {xs : Nat → Int32} {sv : jp_V} {w : Nat} {M : jp_M} {res : jp_M} (hf : f_T_learnsFree M = some res) : jE (jZ (jK Ln xs sv)) 2 8 [(.inr (some 56))] (jSH w) M (none, jSH w, res) := by
  unfold f_T_learnsFree at hf
  refine jE_in (L0 := [some (.inr (some 56)), none]) rfl (Nat.le_of_ble_eq_true rfl) rfl (fun d hd => ?_)
  refine jR_in rfl ⟨rfl, rfl, rfl⟩ rfl ?_
  refine js_iconst (v := (0 : Int32)) rfl ?_
  refine js_istore_n rfl rfl ?_
  exact jS_out rfl ⟨rfl, rfl, rfl⟩ rfl (t_T_learnsFree_2 hd jFu _ _ _ hf)
/-! SwallowsAir$AirThought.isFree(II)Z -/
def f_T_isFree (a1 : Int32) (a2 : Int32) (M : jp_M) : Option (Int32) :=
  if jp_c .eq (f_C_within a1 (9 : Int32)) 0 = true then (
  some (0 : Int32)) else (
  if jp_c .eq (f_C_within a2 (7 : Int32)) 0 = true then (
  some (0 : Int32)) else (
  jg (jp_in a1 10) (
  if jp_c .ne (((M 57 (Int32.toNatClampNeg a1)) >>> (a2 &&& 31)) &&& (1 : Int32)) (1 : Int32) = true then (
  some (0 : Int32)) else (
  some (1 : Int32)))))
theorem t_T_isFree {Ln : Nat} {xs : Nat → Int32} {sv : jp_V} {a1 : Int32} {a2 : Int32} {w : Nat} {M : jp_M} {res : Int32} (hf : f_T_isFree a1 a2 M = some res) : jE (jZ (jK Ln xs sv)) 1 9 [(.inr (some 56)), (.inl a1), (.inl a2)] (jSH w) M (some (.inl res), jSH w, M) := by
  unfold f_T_isFree at hf
  refine jE_in (L0 := [some (.inr (some 56)), some (.inl a1), some (.inl a2)]) rfl (Nat.le_of_ble_eq_true rfl) rfl (fun d hd => ?_)
  refine jR_in rfl ⟨rfl, rfl, rfl⟩ rfl ?_
  refine js_iload_n rfl ?_
  refine js_bipush (v := (9 : Int32)) rfl ?_
  refine js_c2i rfl rfl ⟨rfl, rfl⟩ rfl rfl (t_C_within rfl) (by omega) ?_
  refine js_ifc (tgt := 36) rfl rfl (fun h => ?_) (fun h => ?_)
  · have hf := jif_t hf h
    refine jR_in rfl ⟨rfl, rfl, rfl⟩ rfl ?_
    refine js_iconst (v := (0 : Int32)) rfl ?_
    obtain rfl := Option.some.inj hf
    exact js_iret rfl rfl
  · have hf := jif_f hf h
    refine js_iload_n rfl ?_
    refine js_bipush (v := (7 : Int32)) rfl ?_
    refine js_c2i rfl rfl ⟨rfl, rfl⟩ rfl rfl (t_C_within rfl) (by omega) ?_
    refine js_ifc (tgt := 36) rfl rfl (fun h => ?_) (fun h => ?_)
    · have hf := jif_t hf h
      refine jR_in rfl ⟨rfl, rfl, rfl⟩ rfl ?_
      refine js_iconst (v := (0 : Int32)) rfl ?_
      obtain rfl := Option.some.inj hf
      exact js_iret rfl rfl
    · have hf := jif_f hf h
      refine js_aload_n rfl ?_
      refine js_getr rfl rfl rfl ?_
      refine js_iload_n rfl ?_
      obtain ⟨hb3, hf⟩ := jg_some hf
      refine js_iald rfl hb3 ?_
      refine js_iload_n rfl ?_
      refine js_ishr ?_
      refine js_iconst (v := (1 : Int32)) rfl ?_
      refine js_iand ?_
      refine js_iconst (v := (1 : Int32)) rfl ?_
      refine js_icmp (tgt := 36) rfl rfl (fun h => ?_) (fun h => ?_)
      · have hf := jif_t hf h
        refine jR_in rfl ⟨rfl, rfl, rfl⟩ rfl ?_
        refine js_iconst (v := (0 : Int32)) rfl ?_
        obtain rfl := Option.some.inj hf
        exact js_iret rfl rfl
      · have hf := jif_f hf h
        refine js_iconst (v := (1 : Int32)) rfl ?_
        refine js_goto (tgt := 37) rfl rfl ?_
        refine jR_in rfl ⟨rfl, rfl, rfl⟩ rfl ?_
        obtain rfl := Option.some.inj hf
        exact js_iret rfl rfl
theorem b_T_isFree {a1 : Int32} {a2 : Int32} {M : jp_M} {res : Int32} (hf : f_T_isFree a1 a2 M = some res) : res = 0 ∨ res = 1 := by
  unfold f_T_isFree at hf
  rcases jif_d hf with ⟨h, hf⟩ | ⟨h, hf⟩
  · obtain rfl := Option.some.inj hf
    exact Or.inl rfl
  · rcases jif_d hf with ⟨h, hf⟩ | ⟨h, hf⟩
    · obtain rfl := Option.some.inj hf
      exact Or.inl rfl
    · obtain ⟨hb3, hf⟩ := jg_some hf
      rcases jif_d hf with ⟨h, hf⟩ | ⟨h, hf⟩
      · obtain rfl := Option.some.inj hf
        exact Or.inl rfl
      · obtain rfl := Option.some.inj hf
        exact Or.inr rfl
/-! SwallowsAir$AirThought.reaches(III)V -/
def f_T_reaches_74  (l1 : Int32) (l4 : Int32) (M : jp_M) : Option (jp_M) :=
  jg (jp_in l4 80) (
  jg (jp_in l1 80) (
  if jp_c .ne (M 58 (Int32.toNatClampNeg l4)) ((M 58 (Int32.toNatClampNeg l1)) + (1 : Int32)) = true then (
  some M) else (
  jg (jp_in l4 80) (
  jg (jp_in l1 80) (
  jg (jp_in l4 80) (
  let M5 := jp_set M 59 (upd (M 59) (Int32.toNatClampNeg l4) (((M 59 (Int32.toNatClampNeg l4)) + (M 59 (Int32.toNatClampNeg l1))) % (1000000007 : Int32)))
  some M5))))))
theorem t_T_reaches_74 {Ln : Nat} {xs : Nat → Int32} {sv : jp_V} {d : Nat} (hd : 2 ≤ d)  (l1 : Int32) (l4 : Int32) (o2 : Option jp_V) (o3 : Option jp_V) (w : Nat) (M : jp_M) {res : jp_M} (hf : f_T_reaches_74  l1 l4 M = some res) : jR (jZ (jK Ln xs sv)) d 11 74 ([some (.inr (some 56)), some (.inl l1), o2, o3, some (.inl l4)], [], jSH w, M) (none, jSH w, res) := by
  unfold f_T_reaches_74 at hf
  refine jR_in rfl ⟨rfl, rfl, rfl⟩ rfl ?_
  refine js_aload_n rfl ?_
  refine js_getr rfl rfl rfl ?_
  refine js_iload rfl ?_
  obtain ⟨hb1, hf⟩ := jg_some hf
  refine js_iald rfl hb1 ?_
  refine js_aload_n rfl ?_
  refine js_getr rfl rfl rfl ?_
  refine js_iload_n rfl ?_
  obtain ⟨hb2, hf⟩ := jg_some hf
  refine js_iald rfl hb2 ?_
  refine js_iconst (v := (1 : Int32)) rfl ?_
  refine js_iadd ?_
  refine js_icmp (tgt := 116) rfl rfl (fun h => ?_) (fun h => ?_)
  · have hf := jif_t hf h
    refine jR_in rfl ⟨rfl, rfl, rfl⟩ rfl ?_
    obtain rfl := Option.some.inj hf
    exact js_ret rfl rfl
  · have hf := jif_f hf h
    refine js_aload_n rfl ?_
    refine js_getr rfl rfl rfl ?_
    refine js_iload rfl ?_
    refine js_aload_n rfl ?_
    refine js_getr rfl rfl rfl ?_
    refine js_iload rfl ?_
    obtain ⟨hb3, hf⟩ := jg_some hf
    refine js_iald rfl hb3 ?_
    refine js_aload_n rfl ?_
    refine js_getr rfl rfl rfl ?_
    refine js_iload_n rfl ?_
    obtain ⟨hb4, hf⟩ := jg_some hf
    refine js_iald rfl hb4 ?_
    refine js_iadd ?_
    refine js_ldc (v := (1000000007 : Int32)) rfl ?_
    refine js_irem (by decide) ?_
    obtain ⟨hb6, hf⟩ := jg_some hf
    refine js_iast rfl hb6 ?_
    obtain rfl := Option.some.inj hf
    exact js_ret rfl rfl
def f_T_reaches (a1 : Int32) (a2 : Int32) (a3 : Int32) (M : jp_M) : Option (jp_M) :=
  (f_T_isFree a2 a3 M).bind fun q1 => (
  if jp_c .ne q1 0 = true then (
  jg (jp_in (((8 : Int32) * a2) + a3) 80) (
  if jp_c .ne (M 58 (Int32.toNatClampNeg (((8 : Int32) * a2) + a3))) (-1 : Int32) = true then (
  f_T_reaches_74 a1 (((8 : Int32) * a2) + a3) M) else (
  if jp_c .ge (M 56 5) (80 : Int32) = true then (
  f_T_reaches_74 a1 (((8 : Int32) * a2) + a3) M) else (
  jg (jp_in a1 80) (
  jg (jp_in (((8 : Int32) * a2) + a3) 80) (
  let M4 := jp_set M 58 (upd (M 58) (Int32.toNatClampNeg (((8 : Int32) * a2) + a3)) ((M 58 (Int32.toNatClampNeg a1)) + (1 : Int32)))
  jg (jp_in (M4 56 5) 80) (
  let M6 := jp_set M4 60 (upd (M4 60) (Int32.toNatClampNeg (M4 56 5)) (((8 : Int32) * a2) + a3))
  let M8 := jp_set M6 56 (upd (M6 56) 5 ((M6 56 5) + (1 : Int32)))
  f_T_reaches_74 a1 (((8 : Int32) * a2) + a3) M8))))))) else (
  some M))
theorem t_T_reaches {Ln : Nat} {xs : Nat → Int32} {sv : jp_V} {a1 : Int32} {a2 : Int32} {a3 : Int32} {w : Nat} {M : jp_M} {res : jp_M} (hf : f_T_reaches a1 a2 a3 M = some res) : jE (jZ (jK Ln xs sv)) 2 11 [(.inr (some 56)), (.inl a1), (.inl a2), (.inl a3)] (jSH w) M (none, jSH w, res) := by
  unfold f_T_reaches at hf
  refine jE_in (L0 := [some (.inr (some 56)), some (.inl a1), some (.inl a2), some (.inl a3), none]) rfl (Nat.le_of_ble_eq_true rfl) rfl (fun d hd => ?_)
  refine jR_in rfl ⟨rfl, rfl, rfl⟩ rfl ?_
  refine js_aload_n rfl ?_
  refine js_iload_n rfl ?_
  refine js_iload_n rfl ?_
  obtain ⟨q1, hc_1, hf⟩ := jbind hf
  refine js_c3i rfl rfl ⟨rfl, rfl⟩ rfl rfl (t_T_isFree hc_1) (by omega) ?_
  refine js_ifc (tgt := 10) rfl rfl (fun h => ?_) (fun h => ?_)
  · have hf := jif_t hf h
    refine jR_in rfl ⟨rfl, rfl, rfl⟩ rfl ?_
    refine js_bipush (v := (8 : Int32)) rfl ?_
    refine js_iload_n rfl ?_
    refine js_imul ?_
    refine js_iload_n rfl ?_
    refine js_iadd ?_
    refine js_istore rfl rfl ?_
    refine js_aload_n rfl ?_
    refine js_getr rfl rfl rfl ?_
    refine js_iload rfl ?_
    obtain ⟨hb2, hf⟩ := jg_some hf
    refine js_iald rfl hb2 ?_
    refine js_iconst (v := (-1 : Int32)) rfl ?_
    refine js_icmp (tgt := 74) rfl rfl (fun h => ?_) (fun h => ?_)
    · have hf := jif_t hf h
      exact t_T_reaches_74 hd _ _ _ _ _ _ hf
    · have hf := jif_f hf h
      refine js_aload_n rfl ?_
      refine js_geti rfl rfl rfl ?_
      refine js_bipush (v := (80 : Int32)) rfl ?_
      refine js_icmp (tgt := 74) rfl rfl (fun h => ?_) (fun h => ?_)
      · have hf := jif_t hf h
        exact t_T_reaches_74 hd _ _ _ _ _ _ hf
      · have hf := jif_f hf h
        refine js_aload_n rfl ?_
        refine js_getr rfl rfl rfl ?_
        refine js_iload rfl ?_
        refine js_aload_n rfl ?_
        refine js_getr rfl rfl rfl ?_
        refine js_iload_n rfl ?_
        obtain ⟨hb3, hf⟩ := jg_some hf
        refine js_iald rfl hb3 ?_
        refine js_iconst (v := (1 : Int32)) rfl ?_
        refine js_iadd ?_
        obtain ⟨hb5, hf⟩ := jg_some hf
        refine js_iast rfl hb5 ?_
        refine js_aload_n rfl ?_
        refine js_getr rfl rfl rfl ?_
        refine js_aload_n rfl ?_
        refine js_geti rfl rfl rfl ?_
        refine js_iload rfl ?_
        obtain ⟨hb7, hf⟩ := jg_some hf
        refine js_iast rfl hb7 ?_
        refine js_aload_n rfl ?_
        refine js_dup ?_
        refine js_geti rfl rfl rfl ?_
        refine js_iconst (v := (1 : Int32)) rfl ?_
        refine js_iadd ?_
        refine js_puti rfl rfl (Or.inl rfl) ?_
        exact jS_out rfl ⟨rfl, rfl, rfl⟩ rfl (t_T_reaches_74 hd _ _ _ _ _ _ hf)
  · have hf := jif_f hf h
    obtain rfl := Option.some.inj hf
    exact js_ret rfl rfl
/-! SwallowsAir$AirThought.walks(II)Z -/
def f_T_walks_234  (l4 : Int32) (M : jp_M) : Option (Int32 × jp_M) :=
  jg (jp_in l4 80) (
  let M2 := jp_set M 56 (upd (M 56) 6 (M 58 (Int32.toNatClampNeg l4)))
  jg (jp_in l4 80) (
  let M4 := jp_set M2 56 (upd (M2 56) 7 (M2 59 (Int32.toNatClampNeg l4)))
  if jp_c .eq (M4 56 6) (-1 : Int32) = true then (
  some ((0 : Int32), M4)) else (
  some ((1 : Int32), M4))))
theorem t_T_walks_234 {Ln : Nat} {xs : Nat → Int32} {sv : jp_V} {d : Nat} (hd : 3 ≤ d)  (l4 : Int32) (o1 : Option jp_V) (o2 : Option jp_V) (o3 : Option jp_V) (o5 : Option jp_V) (o6 : Option jp_V) (o7 : Option jp_V) (w : Nat) (M : jp_M) {res : Int32 × jp_M} (hf : f_T_walks_234  l4 M = some res) : jR (jZ (jK Ln xs sv)) d 10 234 ([some (.inr (some 56)), o1, o2, o3, some (.inl l4), o5, o6, o7], [], jSH w, M) (some (.inl res.1), jSH w, res.2) := by
  unfold f_T_walks_234 at hf
  refine jR_in rfl ⟨rfl, rfl, rfl⟩ rfl ?_
  refine js_aload_n rfl ?_
  refine js_aload_n rfl ?_
  refine js_getr rfl rfl rfl ?_
  refine js_iload rfl ?_
  obtain ⟨hb1, hf⟩ := jg_some hf
  refine js_iald rfl hb1 ?_
  refine js_puti rfl rfl (Or.inl rfl) ?_
  refine js_aload_n rfl ?_
  refine js_aload_n rfl ?_
  refine js_getr rfl rfl rfl ?_
  refine js_iload rfl ?_
  obtain ⟨hb3, hf⟩ := jg_some hf
  refine js_iald rfl hb3 ?_
  refine js_puti rfl rfl (Or.inl rfl) ?_
  refine js_aload_n rfl ?_
  refine js_geti rfl rfl rfl ?_
  refine js_iconst (v := (-1 : Int32)) rfl ?_
  refine js_icmp (tgt := 268) rfl rfl (fun h => ?_) (fun h => ?_)
  · have hf := jif_t hf h
    refine jR_in rfl ⟨rfl, rfl, rfl⟩ rfl ?_
    refine js_iconst (v := (0 : Int32)) rfl ?_
    obtain rfl := Option.some.inj hf
    exact js_iret rfl rfl
  · have hf := jif_f hf h
    refine js_iconst (v := (1 : Int32)) rfl ?_
    refine js_goto (tgt := 269) rfl rfl ?_
    refine jR_in rfl ⟨rfl, rfl, rfl⟩ rfl ?_
    obtain rfl := Option.some.inj hf
    exact js_iret rfl rfl
theorem b_T_walks_234  (l4 : Int32) (M : jp_M) {res : Int32 × jp_M} (hf : f_T_walks_234  l4 M = some res) : res.1 = 0 ∨ res.1 = 1 := by
  unfold f_T_walks_234 at hf
  obtain ⟨hb1, hf⟩ := jg_some hf
  obtain ⟨hb3, hf⟩ := jg_some hf
  rcases jif_d hf with ⟨h, hf⟩ | ⟨h, hf⟩
  · obtain rfl := Option.some.inj hf
    exact Or.inl rfl
  · obtain rfl := Option.some.inj hf
    exact Or.inr rfl
def f_T_walks_120  : Nat → Int32 → Int32 → jp_M → Option (Int32 × jp_M)
  | 0, _, _, _ => none
  | n + 1, l4, l5, M =>
    if jp_c .ge l5 (M 56 5) = true then (
    f_T_walks_234 l4 M) else (
    if jp_c .ge l5 (80 : Int32) = true then (
    f_T_walks_234 l4 M) else (
    jg (jp_in l5 80) (
    jg (jp_in l5 80) (
    jg (jp_in l5 80) (
    (f_T_reaches (M 60 (Int32.toNatClampNeg l5)) (((M 60 (Int32.toNatClampNeg l5)) / (8 : Int32)) - (1 : Int32)) ((M 60 (Int32.toNatClampNeg l5)) % (8 : Int32)) M).bind fun q4 => (
    jg (jp_in l5 80) (
    (f_T_reaches (q4 60 (Int32.toNatClampNeg l5)) (((M 60 (Int32.toNatClampNeg l5)) / (8 : Int32)) + (1 : Int32)) ((M 60 (Int32.toNatClampNeg l5)) % (8 : Int32)) q4).bind fun q6 => (
    jg (jp_in l5 80) (
    (f_T_reaches (q6 60 (Int32.toNatClampNeg l5)) ((M 60 (Int32.toNatClampNeg l5)) / (8 : Int32)) (((M 60 (Int32.toNatClampNeg l5)) % (8 : Int32)) - (1 : Int32)) q6).bind fun q8 => (
    jg (jp_in l5 80) (
    (f_T_reaches (q8 60 (Int32.toNatClampNeg l5)) ((M 60 (Int32.toNatClampNeg l5)) / (8 : Int32)) (((M 60 (Int32.toNatClampNeg l5)) % (8 : Int32)) + (1 : Int32)) q8).bind fun q10 => (
    f_T_walks_120 n l4 (l5 + (1 : Int32)) q10))))))))))))
theorem t_T_walks_120 {Ln : Nat} {xs : Nat → Int32} {sv : jp_V} {d : Nat} (hd : 3 ≤ d)  : ∀ (n : Nat) (l4 : Int32) (l5 : Int32) (o1 : Option jp_V) (o2 : Option jp_V) (o3 : Option jp_V) (o6 : Option jp_V) (o7 : Option jp_V) (w : Nat) (M : jp_M) {res : Int32 × jp_M}, f_T_walks_120 n  l4 l5 M = some res → jR (jZ (jK Ln xs sv)) d 10 120 ([some (.inr (some 56)), o1, o2, o3, some (.inl l4), some (.inl l5), o6, o7], [], jSH w, M) (some (.inl res.1), jSH w, res.2) := by
  intro n
  induction n with
  | zero =>
    intro l4 l5 o1 o2 o3 o6 o7 w M res hf
    cases hf
  | succ n ih =>
    intro l4 l5 o1 o2 o3 o6 o7 w M res hf
    rw [f_T_walks_120] at hf
    refine jR_in rfl ⟨rfl, rfl, rfl⟩ rfl ?_
    refine js_iload rfl ?_
    refine js_aload_n rfl ?_
    refine js_geti rfl rfl rfl ?_
    refine js_icmp (tgt := 234) rfl rfl (fun h => ?_) (fun h => ?_)
    · have hf := jif_t hf h
      exact t_T_walks_234 hd _ _ _ _ _ _ _ _ _ hf
    · have hf := jif_f hf h
      refine js_iload rfl ?_
      refine js_bipush (v := (80 : Int32)) rfl ?_
      refine js_icmp (tgt := 234) rfl rfl (fun h => ?_) (fun h => ?_)
      · have hf := jif_t hf h
        exact t_T_walks_234 hd _ _ _ _ _ _ _ _ _ hf
      · have hf := jif_f hf h
        refine js_aload_n rfl ?_
        refine js_getr rfl rfl rfl ?_
        refine js_iload rfl ?_
        obtain ⟨hb1, hf⟩ := jg_some hf
        refine js_iald rfl hb1 ?_
        refine js_bipush (v := (8 : Int32)) rfl ?_
        refine js_idiv (by decide) ?_
        refine js_istore rfl rfl ?_
        refine js_aload_n rfl ?_
        refine js_getr rfl rfl rfl ?_
        refine js_iload rfl ?_
        obtain ⟨hb2, hf⟩ := jg_some hf
        refine js_iald rfl hb2 ?_
        refine js_bipush (v := (8 : Int32)) rfl ?_
        refine js_irem (by decide) ?_
        refine js_istore rfl rfl ?_
        refine js_aload_n rfl ?_
        refine js_aload_n rfl ?_
        refine js_getr rfl rfl rfl ?_
        refine js_iload rfl ?_
        obtain ⟨hb3, hf⟩ := jg_some hf
        refine js_iald rfl hb3 ?_
        refine js_iload rfl ?_
        refine js_iconst (v := (1 : Int32)) rfl ?_
        refine js_isub ?_
        refine js_iload rfl ?_
        obtain ⟨q4, hc_4, hf⟩ := jbind hf
        refine js_c4v (w := 0) rfl rfl ⟨rfl, rfl⟩ rfl rfl (t_T_reaches hc_4) (by omega) ?_
        refine js_aload_n rfl ?_
        refine js_aload_n rfl ?_
        refine js_getr rfl rfl rfl ?_
        refine js_iload rfl ?_
        obtain ⟨hb5, hf⟩ := jg_some hf
        refine js_iald rfl hb5 ?_
        refine js_iload rfl ?_
        refine js_iconst (v := (1 : Int32)) rfl ?_
        refine js_iadd ?_
        refine js_iload rfl ?_
        obtain ⟨q6, hc_6, hf⟩ := jbind hf
        refine js_c4v (w := 0) rfl rfl ⟨rfl, rfl⟩ rfl rfl (t_T_reaches hc_6) (by omega) ?_
        refine js_aload_n rfl ?_
        refine js_aload_n rfl ?_
        refine js_getr rfl rfl rfl ?_
        refine js_iload rfl ?_
        obtain ⟨hb7, hf⟩ := jg_some hf
        refine js_iald rfl hb7 ?_
        refine js_iload rfl ?_
        refine js_iload rfl ?_
        refine js_iconst (v := (1 : Int32)) rfl ?_
        refine js_isub ?_
        obtain ⟨q8, hc_8, hf⟩ := jbind hf
        refine js_c4v (w := 0) rfl rfl ⟨rfl, rfl⟩ rfl rfl (t_T_reaches hc_8) (by omega) ?_
        refine js_aload_n rfl ?_
        refine js_aload_n rfl ?_
        refine js_getr rfl rfl rfl ?_
        refine js_iload rfl ?_
        obtain ⟨hb9, hf⟩ := jg_some hf
        refine js_iald rfl hb9 ?_
        refine js_iload rfl ?_
        refine js_iload rfl ?_
        refine js_iconst (v := (1 : Int32)) rfl ?_
        refine js_iadd ?_
        obtain ⟨q10, hc_10, hf⟩ := jbind hf
        refine js_c4v (w := 0) rfl rfl ⟨rfl, rfl⟩ rfl rfl (t_T_reaches hc_10) (by omega) ?_
        refine js_iinc (v := (1 : Int32)) rfl rfl rfl rfl ?_
        refine js_goto (tgt := 120) rfl rfl ?_
        exact ih _ _ _ _ _ _ _ _ _ hf
theorem b_T_walks_120  : ∀ (n : Nat) (l4 : Int32) (l5 : Int32) (M : jp_M) {res : Int32 × jp_M}, f_T_walks_120 n  l4 l5 M = some res → (res.1 = 0 ∨ res.1 = 1) := by
  intro n
  induction n with
  | zero =>
    intro l4 l5 M res hf
    cases hf
  | succ n ih =>
    intro l4 l5 M res hf
    rw [f_T_walks_120] at hf
    rcases jif_d hf with ⟨h, hf⟩ | ⟨h, hf⟩
    · exact b_T_walks_234 _ _ hf
    · rcases jif_d hf with ⟨h, hf⟩ | ⟨h, hf⟩
      · exact b_T_walks_234 _ _ hf
      · obtain ⟨hb1, hf⟩ := jg_some hf
        obtain ⟨hb2, hf⟩ := jg_some hf
        obtain ⟨hb3, hf⟩ := jg_some hf
        obtain ⟨q4, hc_4, hf⟩ := jbind hf
        obtain ⟨hb5, hf⟩ := jg_some hf
        obtain ⟨q6, hc_6, hf⟩ := jbind hf
        obtain ⟨hb7, hf⟩ := jg_some hf
        obtain ⟨q8, hc_8, hf⟩ := jbind hf
        obtain ⟨hb9, hf⟩ := jg_some hf
        obtain ⟨q10, hc_10, hf⟩ := jbind hf
        exact ih _ _ _ hf
def f_T_walks_38  : Nat → Int32 → Int32 → Int32 → jp_M → Option (Int32 × jp_M)
  | 0, _, _, _, _ => none
  | n + 1, l1, l2, l3, M =>
    if jp_c .ge l3 (80 : Int32) = true then (
    jg (jp_in (((8 : Int32) * (l1 / (10 : Int32))) + (l1 % (10 : Int32))) 80) (
    let M1 := jp_set M 58 (upd (M 58) (Int32.toNatClampNeg (((8 : Int32) * (l1 / (10 : Int32))) + (l1 % (10 : Int32)))) (0 : Int32))
    jg (jp_in (((8 : Int32) * (l1 / (10 : Int32))) + (l1 % (10 : Int32))) 80) (
    let M3 := jp_set M1 59 (upd (M1 59) (Int32.toNatClampNeg (((8 : Int32) * (l1 / (10 : Int32))) + (l1 % (10 : Int32)))) (1 : Int32))
    let M5 := jp_set M3 60 (upd (M3 60) 0 (((8 : Int32) * (l1 / (10 : Int32))) + (l1 % (10 : Int32))))
    let M6 := jp_set M5 56 (upd (M5 56) 5 (1 : Int32))
    f_T_walks_120 jFu (((8 : Int32) * (l2 / (10 : Int32))) + (l2 % (10 : Int32))) (0 : Int32) M6))) else (
    jg (jp_in l3 80) (
    let M7 := jp_set M 58 (upd (M 58) (Int32.toNatClampNeg l3) (-1 : Int32))
    jg (jp_in l3 80) (
    let M9 := jp_set M7 59 (upd (M7 59) (Int32.toNatClampNeg l3) (0 : Int32))
    f_T_walks_38 n l1 l2 (l3 + (1 : Int32)) M9)))
theorem t_T_walks_38 {Ln : Nat} {xs : Nat → Int32} {sv : jp_V} {d : Nat} (hd : 3 ≤ d)  : ∀ (n : Nat) (l1 : Int32) (l2 : Int32) (l3 : Int32) (o4 : Option jp_V) (o5 : Option jp_V) (o6 : Option jp_V) (o7 : Option jp_V) (w : Nat) (M : jp_M) {res : Int32 × jp_M}, f_T_walks_38 n  l1 l2 l3 M = some res → jR (jZ (jK Ln xs sv)) d 10 38 ([some (.inr (some 56)), some (.inl l1), some (.inl l2), some (.inl l3), o4, o5, o6, o7], [], jSH w, M) (some (.inl res.1), jSH w, res.2) := by
  intro n
  induction n with
  | zero =>
    intro l1 l2 l3 o4 o5 o6 o7 w M res hf
    cases hf
  | succ n ih =>
    intro l1 l2 l3 o4 o5 o6 o7 w M res hf
    rw [f_T_walks_38] at hf
    refine jR_in rfl ⟨rfl, rfl, rfl⟩ rfl ?_
    refine js_iload_n rfl ?_
    refine js_bipush (v := (80 : Int32)) rfl ?_
    refine js_icmp (tgt := 64) rfl rfl (fun h => ?_) (fun h => ?_)
    · have hf := jif_t hf h
      refine jR_in rfl ⟨rfl, rfl, rfl⟩ rfl ?_
      refine js_bipush (v := (8 : Int32)) rfl ?_
      refine js_iload_n rfl ?_
      refine js_bipush (v := (10 : Int32)) rfl ?_
      refine js_idiv (by decide) ?_
      refine js_imul ?_
      refine js_iload_n rfl ?_
      refine js_bipush (v := (10 : Int32)) rfl ?_
      refine js_irem (by decide) ?_
      refine js_iadd ?_
      refine js_istore_n rfl rfl ?_
      refine js_bipush (v := (8 : Int32)) rfl ?_
      refine js_iload_n rfl ?_
      refine js_bipush (v := (10 : Int32)) rfl ?_
      refine js_idiv (by decide) ?_
      refine js_imul ?_
      refine js_iload_n rfl ?_
      refine js_bipush (v := (10 : Int32)) rfl ?_
      refine js_irem (by decide) ?_
      refine js_iadd ?_
      refine js_istore rfl rfl ?_
      refine js_aload_n rfl ?_
      refine js_getr rfl rfl rfl ?_
      refine js_iload_n rfl ?_
      refine js_iconst (v := (0 : Int32)) rfl ?_
      obtain ⟨hb2, hf⟩ := jg_some hf
      refine js_iast rfl hb2 ?_
      refine js_aload_n rfl ?_
      refine js_getr rfl rfl rfl ?_
      refine js_iload_n rfl ?_
      refine js_iconst (v := (1 : Int32)) rfl ?_
      obtain ⟨hb4, hf⟩ := jg_some hf
      refine js_iast rfl hb4 ?_
      refine js_aload_n rfl ?_
      refine js_getr rfl rfl rfl ?_
      refine js_iconst (v := (0 : Int32)) rfl ?_
      refine js_iload_n rfl ?_
      refine js_iast rfl (by decide) ?_
      refine js_aload_n rfl ?_
      refine js_iconst (v := (1 : Int32)) rfl ?_
      refine js_puti rfl rfl (Or.inl rfl) ?_
      refine js_iconst (v := (0 : Int32)) rfl ?_
      refine js_istore rfl rfl ?_
      exact jS_out rfl ⟨rfl, rfl, rfl⟩ rfl (t_T_walks_120 hd jFu _ _ _ _ _ _ _ _ _ hf)
    · have hf := jif_f hf h
      refine js_aload_n rfl ?_
      refine js_getr rfl rfl rfl ?_
      refine js_iload_n rfl ?_
      refine js_iconst (v := (-1 : Int32)) rfl ?_
      obtain ⟨hb8, hf⟩ := jg_some hf
      refine js_iast rfl hb8 ?_
      refine js_aload_n rfl ?_
      refine js_getr rfl rfl rfl ?_
      refine js_iload_n rfl ?_
      refine js_iconst (v := (0 : Int32)) rfl ?_
      obtain ⟨hb10, hf⟩ := jg_some hf
      refine js_iast rfl hb10 ?_
      refine js_iinc (v := (1 : Int32)) rfl rfl rfl rfl ?_
      refine js_goto (tgt := 38) rfl rfl ?_
      exact ih _ _ _ _ _ _ _ _ _ hf
theorem b_T_walks_38  : ∀ (n : Nat) (l1 : Int32) (l2 : Int32) (l3 : Int32) (M : jp_M) {res : Int32 × jp_M}, f_T_walks_38 n  l1 l2 l3 M = some res → (res.1 = 0 ∨ res.1 = 1) := by
  intro n
  induction n with
  | zero =>
    intro l1 l2 l3 M res hf
    cases hf
  | succ n ih =>
    intro l1 l2 l3 M res hf
    rw [f_T_walks_38] at hf
    rcases jif_d hf with ⟨h, hf⟩ | ⟨h, hf⟩
    · obtain ⟨hb2, hf⟩ := jg_some hf
      obtain ⟨hb4, hf⟩ := jg_some hf
      exact b_T_walks_120 jFu _ _ _ hf
    · obtain ⟨hb8, hf⟩ := jg_some hf
      obtain ⟨hb10, hf⟩ := jg_some hf
      exact ih _ _ _ _ hf
def f_T_walks (a1 : Int32) (a2 : Int32) (M : jp_M) : Option (Int32 × jp_M) :=
  (f_T_learnsFree M).bind fun q1 => (
  (f_T_isFree (a1 / (10 : Int32)) (a1 % (10 : Int32)) q1).bind fun q2 => (
  if jp_c .eq q2 0 = true then (
  some ((0 : Int32), q1)) else (
  (f_T_isFree (a2 / (10 : Int32)) (a2 % (10 : Int32)) q1).bind fun q3 => (
  if jp_c .ne q3 0 = true then (
  f_T_walks_38 jFu a1 a2 (0 : Int32) q1) else (
  some ((0 : Int32), q1))))))
theorem t_T_walks {Ln : Nat} {xs : Nat → Int32} {sv : jp_V} {a1 : Int32} {a2 : Int32} {w : Nat} {M : jp_M} {res : Int32 × jp_M} (hf : f_T_walks a1 a2 M = some res) : jE (jZ (jK Ln xs sv)) 3 10 [(.inr (some 56)), (.inl a1), (.inl a2)] (jSH w) M (some (.inl res.1), jSH w, res.2) := by
  unfold f_T_walks at hf
  refine jE_in (L0 := [some (.inr (some 56)), some (.inl a1), some (.inl a2), none, none, none, none, none]) rfl (Nat.le_of_ble_eq_true rfl) rfl (fun d hd => ?_)
  refine jR_in rfl ⟨rfl, rfl, rfl⟩ rfl ?_
  refine js_aload_n rfl ?_
  obtain ⟨q1, hc_1, hf⟩ := jbind hf
  refine js_c1v (w := 0) rfl rfl ⟨rfl, rfl⟩ rfl rfl (t_T_learnsFree hc_1) (by omega) ?_
  refine js_aload_n rfl ?_
  refine js_iload_n rfl ?_
  refine js_bipush (v := (10 : Int32)) rfl ?_
  refine js_idiv (by decide) ?_
  refine js_iload_n rfl ?_
  refine js_bipush (v := (10 : Int32)) rfl ?_
  refine js_irem (by decide) ?_
  obtain ⟨q2, hc_2, hf⟩ := jbind hf
  refine js_c3i rfl rfl ⟨rfl, rfl⟩ rfl rfl (t_T_isFree hc_2) (by omega) ?_
  refine js_ifc (tgt := 34) rfl rfl (fun h => ?_) (fun h => ?_)
  · have hf := jif_t hf h
    refine jR_in rfl ⟨rfl, rfl, rfl⟩ rfl ?_
    refine js_iconst (v := (0 : Int32)) rfl ?_
    obtain rfl := Option.some.inj hf
    exact js_iret rfl rfl
  · have hf := jif_f hf h
    refine js_aload_n rfl ?_
    refine js_iload_n rfl ?_
    refine js_bipush (v := (10 : Int32)) rfl ?_
    refine js_idiv (by decide) ?_
    refine js_iload_n rfl ?_
    refine js_bipush (v := (10 : Int32)) rfl ?_
    refine js_irem (by decide) ?_
    obtain ⟨q3, hc_3, hf⟩ := jbind hf
    refine js_c3i rfl rfl ⟨rfl, rfl⟩ rfl rfl (t_T_isFree hc_3) (by omega) ?_
    refine js_ifc (tgt := 36) rfl rfl (fun h => ?_) (fun h => ?_)
    · have hf := jif_t hf h
      refine jR_in rfl ⟨rfl, rfl, rfl⟩ rfl ?_
      refine js_iconst (v := (0 : Int32)) rfl ?_
      refine js_istore_n rfl rfl ?_
      exact jS_out rfl ⟨rfl, rfl, rfl⟩ rfl (t_T_walks_38 hd jFu _ _ _ _ _ _ _ _ _ hf)
    · have hf := jif_f hf h
      refine js_iconst (v := (0 : Int32)) rfl ?_
      obtain rfl := Option.some.inj hf
      exact js_iret rfl rfl
theorem b_T_walks {a1 : Int32} {a2 : Int32} {M : jp_M} {res : Int32 × jp_M} (hf : f_T_walks a1 a2 M = some res) : res.1 = 0 ∨ res.1 = 1 := by
  unfold f_T_walks at hf
  obtain ⟨q1, hc_1, hf⟩ := jbind hf
  obtain ⟨q2, hc_2, hf⟩ := jbind hf
  rcases jif_d hf with ⟨h, hf⟩ | ⟨h, hf⟩
  · obtain rfl := Option.some.inj hf
    exact Or.inl rfl
  · obtain ⟨q3, hc_3, hf⟩ := jbind hf
    rcases jif_d hf with ⟨h, hf⟩ | ⟨h, hf⟩
    · exact b_T_walks_38 jFu _ _ _ _ hf
    · obtain rfl := Option.some.inj hf
      exact Or.inl rfl
/-! SwallowsAir.through(III)I -/
def f_C_through (a1 : Int32) (a2 : Int32) (a3 : Int32) (M : jp_M) : Option (Int32 × jp_M) :=
  if jp_c .eq (f_C_isCell a1) 0 = true then (
  some ((-1 : Int32), M)) else (
  if jp_c .eq (f_C_isCell a2) 0 = true then (
  some ((-1 : Int32), M)) else (
  if jp_c .eq (f_C_within a3 (1 : Int32)) 0 = true then (
  some ((-1 : Int32), M)) else (
  (f_T_walks a1 a2 M).bind fun q4 => (
  if jp_c .ne q4.1 0 = true then (
  if jp_c .ne a3 0 = true then (
  some ((q4.2 56 7), q4.2)) else (
  some ((q4.2 56 6), q4.2))) else (
  some ((-1 : Int32), q4.2))))))
theorem t_C_through {Ln : Nat} {xs : Nat → Int32} {sv : jp_V} {a1 : Int32} {a2 : Int32} {a3 : Int32} {w : Nat} {M : jp_M} {res : Int32 × jp_M} (hf : f_C_through a1 a2 a3 M = some res) : jE (jZ (jK Ln xs sv)) 4 132 [(.inr (some 0)), (.inl a1), (.inl a2), (.inl a3)] (jSH w) M (some (.inl res.1), jSH w, res.2) := by
  unfold f_C_through at hf
  refine jE_in (L0 := [some (.inr (some 0)), some (.inl a1), some (.inl a2), some (.inl a3)]) rfl (Nat.le_of_ble_eq_true rfl) rfl (fun d hd => ?_)
  refine jR_in rfl ⟨rfl, rfl, rfl⟩ rfl ?_
  refine js_iload_n rfl ?_
  refine js_c1i rfl rfl ⟨rfl, rfl⟩ rfl rfl (t_C_isCell rfl) (by omega) ?_
  refine js_ifc (tgt := 34) rfl rfl (fun h => ?_) (fun h => ?_)
  · have hf := jif_t hf h
    refine jR_in rfl ⟨rfl, rfl, rfl⟩ rfl ?_
    refine js_iconst (v := (-1 : Int32)) rfl ?_
    obtain rfl := Option.some.inj hf
    exact js_iret rfl rfl
  · have hf := jif_f hf h
    refine js_iload_n rfl ?_
    refine js_c1i rfl rfl ⟨rfl, rfl⟩ rfl rfl (t_C_isCell rfl) (by omega) ?_
    refine js_ifc (tgt := 34) rfl rfl (fun h => ?_) (fun h => ?_)
    · have hf := jif_t hf h
      refine jR_in rfl ⟨rfl, rfl, rfl⟩ rfl ?_
      refine js_iconst (v := (-1 : Int32)) rfl ?_
      obtain rfl := Option.some.inj hf
      exact js_iret rfl rfl
    · have hf := jif_f hf h
      refine js_iload_n rfl ?_
      refine js_iconst (v := (1 : Int32)) rfl ?_
      refine js_c2i rfl rfl ⟨rfl, rfl⟩ rfl rfl (t_C_within rfl) (by omega) ?_
      refine js_ifc (tgt := 34) rfl rfl (fun h => ?_) (fun h => ?_)
      · have hf := jif_t hf h
        refine jR_in rfl ⟨rfl, rfl, rfl⟩ rfl ?_
        refine js_iconst (v := (-1 : Int32)) rfl ?_
        obtain rfl := Option.some.inj hf
        exact js_iret rfl rfl
      · have hf := jif_f hf h
        refine js_aload_n rfl ?_
        refine js_getr rfl rfl rfl ?_
        refine js_iload_n rfl ?_
        refine js_iload_n rfl ?_
        obtain ⟨q4, hc_4, hf⟩ := jbind hf
        refine js_c3i rfl rfl ⟨rfl, rfl⟩ rfl rfl (t_T_walks hc_4) (by omega) ?_
        refine js_ifc (tgt := 36) rfl rfl (fun h => ?_) (fun h => ?_)
        · have hf := jif_t hf h
          refine jR_in rfl ⟨rfl, rfl, rfl⟩ rfl ?_
          refine js_iload_n rfl ?_
          refine js_ifc (tgt := 50) rfl rfl (fun h => ?_) (fun h => ?_)
          · have hf := jif_t hf h
            refine jR_in rfl ⟨rfl, rfl, rfl⟩ rfl ?_
            refine js_aload_n rfl ?_
            refine js_getr rfl rfl rfl ?_
            refine js_geti rfl rfl rfl ?_
            obtain rfl := Option.some.inj hf
            exact js_iret rfl rfl
          · have hf := jif_f hf h
            refine js_aload_n rfl ?_
            refine js_getr rfl rfl rfl ?_
            refine js_geti rfl rfl rfl ?_
            refine js_goto (tgt := 57) rfl rfl ?_
            refine jR_in rfl ⟨rfl, rfl, rfl⟩ rfl ?_
            obtain rfl := Option.some.inj hf
            exact js_iret rfl rfl
        · have hf := jif_f hf h
          refine js_iconst (v := (-1 : Int32)) rfl ?_
          obtain rfl := Option.some.inj hf
          exact js_iret rfl rfl
/-! SwallowsAir$AirThought.runUp(II)I -/
def f_T_runUp_5  : Nat → Int32 → Int32 → Int32 → jp_M → Option (Int32)
  | 0, _, _, _, _ => none
  | n + 1, l1, l3, l4, M =>
    if jp_c .ge l4 (8 : Int32) = true then (
    some l3) else (
    (f_T_isFree l1 l4 M).bind fun q1 => (
    if jp_c .eq q1 0 = true then (
    some l3) else (
    f_T_runUp_5 n l1 (l3 + (1 : Int32)) (l4 + (1 : Int32)) M)))
theorem t_T_runUp_5 {Ln : Nat} {xs : Nat → Int32} {sv : jp_V} {d : Nat} (hd : 2 ≤ d)  : ∀ (n : Nat) (l1 : Int32) (l3 : Int32) (l4 : Int32) (o2 : Option jp_V) (w : Nat) (M : jp_M) {res : Int32}, f_T_runUp_5 n  l1 l3 l4 M = some res → jR (jZ (jK Ln xs sv)) d 14 5 ([some (.inr (some 56)), some (.inl l1), o2, some (.inl l3), some (.inl l4)], [], jSH w, M) (some (.inl res), jSH w, M) := by
  intro n
  induction n with
  | zero =>
    intro l1 l3 l4 o2 w M res hf
    cases hf
  | succ n ih =>
    intro l1 l3 l4 o2 w M res hf
    rw [f_T_runUp_5] at hf
    refine jR_in rfl ⟨rfl, rfl, rfl⟩ rfl ?_
    refine js_iload rfl ?_
    refine js_bipush (v := (8 : Int32)) rfl ?_
    refine js_icmp (tgt := 31) rfl rfl (fun h => ?_) (fun h => ?_)
    · have hf := jif_t hf h
      refine jR_in rfl ⟨rfl, rfl, rfl⟩ rfl ?_
      refine js_iload_n rfl ?_
      obtain rfl := Option.some.inj hf
      exact js_iret rfl rfl
    · have hf := jif_f hf h
      refine js_aload_n rfl ?_
      refine js_iload_n rfl ?_
      refine js_iload rfl ?_
      obtain ⟨q1, hc_1, hf⟩ := jbind hf
      refine js_c3i rfl rfl ⟨rfl, rfl⟩ rfl rfl (t_T_isFree hc_1) (by omega) ?_
      refine js_ifc (tgt := 31) rfl rfl (fun h => ?_) (fun h => ?_)
      · have hf := jif_t hf h
        refine jR_in rfl ⟨rfl, rfl, rfl⟩ rfl ?_
        refine js_iload_n rfl ?_
        obtain rfl := Option.some.inj hf
        exact js_iret rfl rfl
      · have hf := jif_f hf h
        refine js_iinc (v := (1 : Int32)) rfl rfl rfl rfl ?_
        refine js_iinc (v := (1 : Int32)) rfl rfl rfl rfl ?_
        refine js_goto (tgt := 5) rfl rfl ?_
        exact ih _ _ _ _ _ _ hf
def f_T_runUp (a1 : Int32) (a2 : Int32) (M : jp_M) : Option (Int32) :=
  f_T_runUp_5 jFu a1 (0 : Int32) a2 M
theorem t_T_runUp {Ln : Nat} {xs : Nat → Int32} {sv : jp_V} {a1 : Int32} {a2 : Int32} {w : Nat} {M : jp_M} {res : Int32} (hf : f_T_runUp a1 a2 M = some res) : jE (jZ (jK Ln xs sv)) 2 14 [(.inr (some 56)), (.inl a1), (.inl a2)] (jSH w) M (some (.inl res), jSH w, M) := by
  unfold f_T_runUp at hf
  refine jE_in (L0 := [some (.inr (some 56)), some (.inl a1), some (.inl a2), none, none]) rfl (Nat.le_of_ble_eq_true rfl) rfl (fun d hd => ?_)
  refine jR_in rfl ⟨rfl, rfl, rfl⟩ rfl ?_
  refine js_iconst (v := (0 : Int32)) rfl ?_
  refine js_istore_n rfl rfl ?_
  refine js_iload_n rfl ?_
  refine js_istore rfl rfl ?_
  exact jS_out rfl ⟨rfl, rfl, rfl⟩ rfl (t_T_runUp_5 hd jFu _ _ _ _ _ _ hf)
/-! SwallowsAir$AirThought.widensFrom(II)V -/
def f_T_widensFrom_64 (c4 : Int32 → Int32 → Int32 → Int32 → jp_M → Option (jp_M)) (l1 : Int32) (l2 : Int32) (l3 : Int32) (l4 : Int32) (M : jp_M) : Option (jp_M) :=
  c4 l1 l2 l3 (l4 + (1 : Int32)) M
theorem t_T_widensFrom_64 {Ln : Nat} {xs : Nat → Int32} {sv : jp_V} {d : Nat} (hd : 3 ≤ d) {c4 : Int32 → Int32 → Int32 → Int32 → jp_M → Option (jp_M)} (hc4 : ∀ (l1 : Int32) (l2 : Int32) (l3 : Int32) (l4 : Int32) (o5 : Option jp_V) (w : Nat) (M : jp_M) (res : jp_M), c4 l1 l2 l3 l4 M = some res → jR (jZ (jK Ln xs sv)) d 13 6 ([some (.inr (some 56)), some (.inl l1), some (.inl l2), some (.inl l3), some (.inl l4), o5], [], jSH w, M) (none, jSH w, res)) (l1 : Int32) (l2 : Int32) (l3 : Int32) (l4 : Int32) (o5 : Option jp_V) (w : Nat) (M : jp_M) {res : jp_M} (hf : f_T_widensFrom_64 c4 l1 l2 l3 l4 M = some res) : jR (jZ (jK Ln xs sv)) d 13 64 ([some (.inr (some 56)), some (.inl l1), some (.inl l2), some (.inl l3), some (.inl l4), o5], [], jSH w, M) (none, jSH w, res) := by
  unfold f_T_widensFrom_64 at hf
  refine jR_in rfl ⟨rfl, rfl, rfl⟩ rfl ?_
  refine js_iinc (v := (1 : Int32)) rfl rfl rfl rfl ?_
  refine js_goto (tgt := 6) rfl rfl ?_
  exact hc4 _ _ _ _ _ _ _ _ hf
def f_T_widensFrom_6  : Nat → Int32 → Int32 → Int32 → Int32 → jp_M → Option (jp_M)
  | 0, _, _, _, _, _ => none
  | n + 1, l1, l2, l3, l4, M =>
    if jp_c .ge l4 (10 : Int32) = true then (
    some M) else (
    if jp_c .le l3 0 = true then (
    some M) else (
    (f_T_runUp l4 l2 M).bind fun q1 => (
    if jp_c .le ((jp_min l3 q1) * ((l4 - l1) + (1 : Int32))) (M 56 8) = true then (
    f_T_widensFrom_64 (f_T_widensFrom_6 n ) l1 l2 (jp_min l3 q1) l4 M) else (
    let M2 := jp_set M 56 (upd (M 56) 8 ((jp_min l3 q1) * ((l4 - l1) + (1 : Int32))))
    let M3 := jp_set M2 56 (upd (M2 56) 9 (((10 : Int32) * l1) + l2))
    f_T_widensFrom_64 (f_T_widensFrom_6 n ) l1 l2 (jp_min l3 q1) l4 M3))))
theorem t_T_widensFrom_6 {Ln : Nat} {xs : Nat → Int32} {sv : jp_V} {d : Nat} (hd : 3 ≤ d)  : ∀ (n : Nat) (l1 : Int32) (l2 : Int32) (l3 : Int32) (l4 : Int32) (o5 : Option jp_V) (w : Nat) (M : jp_M) {res : jp_M}, f_T_widensFrom_6 n  l1 l2 l3 l4 M = some res → jR (jZ (jK Ln xs sv)) d 13 6 ([some (.inr (some 56)), some (.inl l1), some (.inl l2), some (.inl l3), some (.inl l4), o5], [], jSH w, M) (none, jSH w, res) := by
  intro n
  induction n with
  | zero =>
    intro l1 l2 l3 l4 o5 w M res hf
    cases hf
  | succ n ih =>
    intro l1 l2 l3 l4 o5 w M res hf
    rw [f_T_widensFrom_6] at hf
    refine jR_in rfl ⟨rfl, rfl, rfl⟩ rfl ?_
    refine js_iload rfl ?_
    refine js_bipush (v := (10 : Int32)) rfl ?_
    refine js_icmp (tgt := 70) rfl rfl (fun h => ?_) (fun h => ?_)
    · have hf := jif_t hf h
      refine jR_in rfl ⟨rfl, rfl, rfl⟩ rfl ?_
      obtain rfl := Option.some.inj hf
      exact js_ret rfl rfl
    · have hf := jif_f hf h
      refine js_iload_n rfl ?_
      refine js_ifc (tgt := 70) rfl rfl (fun h => ?_) (fun h => ?_)
      · have hf := jif_t hf h
        refine jR_in rfl ⟨rfl, rfl, rfl⟩ rfl ?_
        obtain rfl := Option.some.inj hf
        exact js_ret rfl rfl
      · have hf := jif_f hf h
        refine js_iload_n rfl ?_
        refine js_aload_n rfl ?_
        refine js_iload rfl ?_
        refine js_iload_n rfl ?_
        obtain ⟨q1, hc_1, hf⟩ := jbind hf
        refine js_c3i rfl rfl ⟨rfl, rfl⟩ rfl rfl (t_T_runUp hc_1) (by omega) ?_
        refine js_min rfl ?_
        refine js_istore_n rfl rfl ?_
        refine js_iload_n rfl ?_
        refine js_iload rfl ?_
        refine js_iload_n rfl ?_
        refine js_isub ?_
        refine js_iconst (v := (1 : Int32)) rfl ?_
        refine js_iadd ?_
        refine js_imul ?_
        refine js_istore rfl rfl ?_
        refine js_iload rfl ?_
        refine js_aload_n rfl ?_
        refine js_geti rfl rfl rfl ?_
        refine js_icmp (tgt := 64) rfl rfl (fun h => ?_) (fun h => ?_)
        · have hf := jif_t hf h
          exact t_T_widensFrom_64 hd (fun l1 l2 l3 l4 o5 w M res hf => ih l1 l2 l3 l4 o5 w M hf) _ _ _ _ _ _ _ hf
        · have hf := jif_f hf h
          refine js_aload_n rfl ?_
          refine js_iload rfl ?_
          refine js_puti rfl rfl (Or.inl rfl) ?_
          refine js_aload_n rfl ?_
          refine js_bipush (v := (10 : Int32)) rfl ?_
          refine js_iload_n rfl ?_
          refine js_imul ?_
          refine js_iload_n rfl ?_
          refine js_iadd ?_
          refine js_puti rfl rfl (Or.inl rfl) ?_
          exact jS_out rfl ⟨rfl, rfl, rfl⟩ rfl (t_T_widensFrom_64 hd (fun l1 l2 l3 l4 o5 w M res hf => ih l1 l2 l3 l4 o5 w M hf) _ _ _ _ _ _ _ hf)
def f_T_widensFrom (a1 : Int32) (a2 : Int32) (M : jp_M) : Option (jp_M) :=
  f_T_widensFrom_6 jFu a1 a2 (8 : Int32) a1 M
theorem t_T_widensFrom {Ln : Nat} {xs : Nat → Int32} {sv : jp_V} {a1 : Int32} {a2 : Int32} {w : Nat} {M : jp_M} {res : jp_M} (hf : f_T_widensFrom a1 a2 M = some res) : jE (jZ (jK Ln xs sv)) 3 13 [(.inr (some 56)), (.inl a1), (.inl a2)] (jSH w) M (none, jSH w, res) := by
  unfold f_T_widensFrom at hf
  refine jE_in (L0 := [some (.inr (some 56)), some (.inl a1), some (.inl a2), none, none, none]) rfl (Nat.le_of_ble_eq_true rfl) rfl (fun d hd => ?_)
  refine jR_in rfl ⟨rfl, rfl, rfl⟩ rfl ?_
  refine js_bipush (v := (8 : Int32)) rfl ?_
  refine js_istore_n rfl rfl ?_
  refine js_iload_n rfl ?_
  refine js_istore rfl rfl ?_
  exact jS_out rfl ⟨rfl, rfl, rfl⟩ rfl (t_T_widensFrom_6 hd jFu _ _ _ _ _ _ _ hf)
/-! SwallowsAir$AirThought.widens()V -/
def f_T_widens_24  : Nat → (Int32 → jp_M → Option (jp_M)) → Int32 → Int32 → jp_M → Option (jp_M)
  | 0, _, _, _, _ => none
  | n + 1, c10, l1, l2, M =>
    if jp_c .ge l2 (8 : Int32) = true then (
    c10 (l1 + (1 : Int32)) M) else (
    (f_T_widensFrom l1 l2 M).bind fun q1 => (
    f_T_widens_24 n c10 l1 (l2 + (1 : Int32)) q1))
theorem t_T_widens_24 {Ln : Nat} {xs : Nat → Int32} {sv : jp_V} {d : Nat} (hd : 4 ≤ d) {c10 : Int32 → jp_M → Option (jp_M)} (hc10 : ∀ (l1 : Int32) (o2 : Option jp_V) (w : Nat) (M : jp_M) (res : jp_M), c10 l1 M = some res → jR (jZ (jK Ln xs sv)) d 12 16 ([some (.inr (some 56)), some (.inl l1), o2], [], jSH w, M) (none, jSH w, res)) : ∀ (n : Nat) (l1 : Int32) (l2 : Int32) (w : Nat) (M : jp_M) {res : jp_M}, f_T_widens_24 n c10 l1 l2 M = some res → jR (jZ (jK Ln xs sv)) d 12 24 ([some (.inr (some 56)), some (.inl l1), some (.inl l2)], [], jSH w, M) (none, jSH w, res) := by
  intro n
  induction n with
  | zero =>
    intro l1 l2 w M res hf
    cases hf
  | succ n ih =>
    intro l1 l2 w M res hf
    rw [f_T_widens_24] at hf
    refine jR_in rfl ⟨rfl, rfl, rfl⟩ rfl ?_
    refine js_iload_n rfl ?_
    refine js_bipush (v := (8 : Int32)) rfl ?_
    refine js_icmp (tgt := 42) rfl rfl (fun h => ?_) (fun h => ?_)
    · have hf := jif_t hf h
      refine jR_in rfl ⟨rfl, rfl, rfl⟩ rfl ?_
      refine js_iinc (v := (1 : Int32)) rfl rfl rfl rfl ?_
      refine js_goto (tgt := 16) rfl rfl ?_
      exact hc10 _ _ _ _ _ hf
    · have hf := jif_f hf h
      refine js_aload_n rfl ?_
      refine js_iload_n rfl ?_
      refine js_iload_n rfl ?_
      obtain ⟨q1, hc_1, hf⟩ := jbind hf
      refine js_c3v (w := 0) rfl rfl ⟨rfl, rfl⟩ rfl rfl (t_T_widensFrom hc_1) (by omega) ?_
      refine js_iinc (v := (1 : Int32)) rfl rfl rfl rfl ?_
      refine js_goto (tgt := 24) rfl rfl ?_
      exact ih _ _ _ _ hf
def f_T_widens_16  : Nat → Int32 → jp_M → Option (jp_M)
  | 0, _, _ => none
  | n + 1, l1, M =>
    if jp_c .ge l1 (10 : Int32) = true then (
    some M) else (
    f_T_widens_24 jFu (f_T_widens_16 n ) l1 (0 : Int32) M)
theorem t_T_widens_16 {Ln : Nat} {xs : Nat → Int32} {sv : jp_V} {d : Nat} (hd : 4 ≤ d)  : ∀ (n : Nat) (l1 : Int32) (o2 : Option jp_V) (w : Nat) (M : jp_M) {res : jp_M}, f_T_widens_16 n  l1 M = some res → jR (jZ (jK Ln xs sv)) d 12 16 ([some (.inr (some 56)), some (.inl l1), o2], [], jSH w, M) (none, jSH w, res) := by
  intro n
  induction n with
  | zero =>
    intro l1 o2 w M res hf
    cases hf
  | succ n ih =>
    intro l1 o2 w M res hf
    rw [f_T_widens_16] at hf
    refine jR_in rfl ⟨rfl, rfl, rfl⟩ rfl ?_
    refine js_iload_n rfl ?_
    refine js_bipush (v := (10 : Int32)) rfl ?_
    refine js_icmp (tgt := 48) rfl rfl (fun h => ?_) (fun h => ?_)
    · have hf := jif_t hf h
      refine jR_in rfl ⟨rfl, rfl, rfl⟩ rfl ?_
      obtain rfl := Option.some.inj hf
      exact js_ret rfl rfl
    · have hf := jif_f hf h
      refine js_iconst (v := (0 : Int32)) rfl ?_
      refine js_istore_n rfl rfl ?_
      exact jS_out rfl ⟨rfl, rfl, rfl⟩ rfl (t_T_widens_24 hd (fun l1 o2 w M res hf => ih l1 o2 w M hf) jFu _ _ _ _ hf)
def f_T_widens (M : jp_M) : Option (jp_M) :=
  (f_T_learnsFree M).bind fun q1 => (
  let M2 := jp_set q1 56 (upd (q1 56) 8 (0 : Int32))
  let M3 := jp_set M2 56 (upd (M2 56) 9 (-1 : Int32))
  f_T_widens_16 jFu (0 : Int32) M3)
theorem t_T_widens {Ln : Nat} {xs : Nat → Int32} {sv : jp_V} {w : Nat} {M : jp_M} {res : jp_M} (hf : f_T_widens M = some res) : jE (jZ (jK Ln xs sv)) 4 12 [(.inr (some 56))] (jSH w) M (none, jSH w, res) := by
  unfold f_T_widens at hf
  refine jE_in (L0 := [some (.inr (some 56)), none, none]) rfl (Nat.le_of_ble_eq_true rfl) rfl (fun d hd => ?_)
  refine jR_in rfl ⟨rfl, rfl, rfl⟩ rfl ?_
  refine js_aload_n rfl ?_
  obtain ⟨q1, hc_1, hf⟩ := jbind hf
  refine js_c1v (w := 0) rfl rfl ⟨rfl, rfl⟩ rfl rfl (t_T_learnsFree hc_1) (by omega) ?_
  refine js_aload_n rfl ?_
  refine js_iconst (v := (0 : Int32)) rfl ?_
  refine js_puti rfl rfl (Or.inl rfl) ?_
  refine js_aload_n rfl ?_
  refine js_iconst (v := (-1 : Int32)) rfl ?_
  refine js_puti rfl rfl (Or.inl rfl) ?_
  refine js_iconst (v := (0 : Int32)) rfl ?_
  refine js_istore_n rfl rfl ?_
  exact jS_out rfl ⟨rfl, rfl, rfl⟩ rfl (t_T_widens_16 hd jFu _ _ _ _ hf)
/-! SwallowsAir.wide(I)I -/
def f_C_wide (a1 : Int32) (M : jp_M) : Option (Int32 × jp_M) :=
  if jp_c .ne (f_C_within a1 (1 : Int32)) 0 = true then (
  (f_T_widens M).bind fun q2 => (
  if jp_c .ne a1 0 = true then (
  some ((q2 56 9), q2)) else (
  some ((q2 56 8), q2)))) else (
  some ((-1 : Int32), M))
theorem t_C_wide {Ln : Nat} {xs : Nat → Int32} {sv : jp_V} {a1 : Int32} {w : Nat} {M : jp_M} {res : Int32 × jp_M} (hf : f_C_wide a1 M = some res) : jE (jZ (jK Ln xs sv)) 5 133 [(.inr (some 0)), (.inl a1)] (jSH w) M (some (.inl res.1), jSH w, res.2) := by
  unfold f_C_wide at hf
  refine jE_in (L0 := [some (.inr (some 0)), some (.inl a1)]) rfl (Nat.le_of_ble_eq_true rfl) rfl (fun d hd => ?_)
  refine jR_in rfl ⟨rfl, rfl, rfl⟩ rfl ?_
  refine js_iload_n rfl ?_
  refine js_iconst (v := (1 : Int32)) rfl ?_
  refine js_c2i rfl rfl ⟨rfl, rfl⟩ rfl rfl (t_C_within rfl) (by omega) ?_
  refine js_ifc (tgt := 10) rfl rfl (fun h => ?_) (fun h => ?_)
  · have hf := jif_t hf h
    refine jR_in rfl ⟨rfl, rfl, rfl⟩ rfl ?_
    refine js_aload_n rfl ?_
    refine js_getr rfl rfl rfl ?_
    obtain ⟨q2, hc_2, hf⟩ := jbind hf
    refine js_c1v (w := 0) rfl rfl ⟨rfl, rfl⟩ rfl rfl (t_T_widens hc_2) (by omega) ?_
    refine js_iload_n rfl ?_
    refine js_ifc (tgt := 31) rfl rfl (fun h => ?_) (fun h => ?_)
    · have hf := jif_t hf h
      refine jR_in rfl ⟨rfl, rfl, rfl⟩ rfl ?_
      refine js_aload_n rfl ?_
      refine js_getr rfl rfl rfl ?_
      refine js_geti rfl rfl rfl ?_
      obtain rfl := Option.some.inj hf
      exact js_iret rfl rfl
    · have hf := jif_f hf h
      refine js_aload_n rfl ?_
      refine js_getr rfl rfl rfl ?_
      refine js_geti rfl rfl rfl ?_
      refine js_goto (tgt := 38) rfl rfl ?_
      refine jR_in rfl ⟨rfl, rfl, rfl⟩ rfl ?_
      obtain rfl := Option.some.inj hf
      exact js_iret rfl rfl
  · have hf := jif_f hf h
    refine js_iconst (v := (-1 : Int32)) rfl ?_
    obtain rfl := Option.some.inj hf
    exact js_iret rfl rfl
/-! SwallowsAir.wish(III)I -/
def f_C_wish (a1 : Int32) (a2 : Int32) (a3 : Int32) (M : jp_M) : Option (Int32 × jp_M) :=
  if jp_c .ne a1 (-1 : Int32) = true then (
  if jp_c .ge (M 19 0) (8 : Int32) = true then (
  some ((-1 : Int32), M)) else (
  if jp_c .eq (f_C_within a1 (99 : Int32)) 0 = true then (
  some ((-1 : Int32), M)) else (
  if jp_c .lt a2 a1 = true then (
  some ((-1 : Int32), M)) else (
  if jp_c .gt a2 (99 : Int32) = true then (
  some ((-1 : Int32), M)) else (
  if jp_c .ne (f_C_within a3 (99 : Int32)) 0 = true then (
  jg (jp_in ((3 : Int32) * (M 19 0)) 24) (
  let M3 := jp_set M 20 (upd (M 20) (Int32.toNatClampNeg ((3 : Int32) * (M 19 0))) a1)
  jg (jp_in (((3 : Int32) * (M 19 0)) + (1 : Int32)) 24) (
  let M5 := jp_set M3 20 (upd (M3 20) (Int32.toNatClampNeg (((3 : Int32) * (M 19 0)) + (1 : Int32))) a2)
  jg (jp_in (((3 : Int32) * (M 19 0)) + (2 : Int32)) 24) (
  let M7 := jp_set M5 20 (upd (M5 20) (Int32.toNatClampNeg (((3 : Int32) * (M 19 0)) + (2 : Int32))) a3)
  let M9 := jp_set M7 19 (upd (M7 19) 0 ((M7 19 0) + (1 : Int32)))
  some ((M9 19 0), M9))))) else (
  some ((-1 : Int32), M))))))) else (
  let M10 := jp_set M 19 (upd (M 19) 0 (0 : Int32))
  some ((0 : Int32), M10))
theorem t_C_wish {Ln : Nat} {xs : Nat → Int32} {sv : jp_V} {a1 : Int32} {a2 : Int32} {a3 : Int32} {w : Nat} {M : jp_M} {res : Int32 × jp_M} (hf : f_C_wish a1 a2 a3 M = some res) : jE (jZ (jK Ln xs sv)) 1 134 [(.inr (some 0)), (.inl a1), (.inl a2), (.inl a3)] (jSH w) M (some (.inl res.1), jSH w, res.2) := by
  unfold f_C_wish at hf
  refine jE_in (L0 := [some (.inr (some 0)), some (.inl a1), some (.inl a2), some (.inl a3), none, none]) rfl (Nat.le_of_ble_eq_true rfl) rfl (fun d hd => ?_)
  refine jR_in rfl ⟨rfl, rfl, rfl⟩ rfl ?_
  refine js_aload_n rfl ?_
  refine js_getr rfl rfl rfl ?_
  refine js_getr rfl rfl rfl ?_
  refine js_astore rfl rfl ?_
  refine js_iload_n rfl ?_
  refine js_iconst (v := (-1 : Int32)) rfl ?_
  refine js_icmp (tgt := 22) rfl rfl (fun h => ?_) (fun h => ?_)
  · have hf := jif_t hf h
    refine jR_in rfl ⟨rfl, rfl, rfl⟩ rfl ?_
    refine js_aload rfl ?_
    refine js_geti rfl rfl rfl ?_
    refine js_bipush (v := (8 : Int32)) rfl ?_
    refine js_icmp (tgt := 61) rfl rfl (fun h => ?_) (fun h => ?_)
    · have hf := jif_t hf h
      refine jR_in rfl ⟨rfl, rfl, rfl⟩ rfl ?_
      refine js_iconst (v := (-1 : Int32)) rfl ?_
      obtain rfl := Option.some.inj hf
      exact js_iret rfl rfl
    · have hf := jif_f hf h
      refine js_iload_n rfl ?_
      refine js_bipush (v := (99 : Int32)) rfl ?_
      refine js_c2i rfl rfl ⟨rfl, rfl⟩ rfl rfl (t_C_within rfl) (by omega) ?_
      refine js_ifc (tgt := 61) rfl rfl (fun h => ?_) (fun h => ?_)
      · have hf := jif_t hf h
        refine jR_in rfl ⟨rfl, rfl, rfl⟩ rfl ?_
        refine js_iconst (v := (-1 : Int32)) rfl ?_
        obtain rfl := Option.some.inj hf
        exact js_iret rfl rfl
      · have hf := jif_f hf h
        refine js_iload_n rfl ?_
        refine js_iload_n rfl ?_
        refine js_icmp (tgt := 61) rfl rfl (fun h => ?_) (fun h => ?_)
        · have hf := jif_t hf h
          refine jR_in rfl ⟨rfl, rfl, rfl⟩ rfl ?_
          refine js_iconst (v := (-1 : Int32)) rfl ?_
          obtain rfl := Option.some.inj hf
          exact js_iret rfl rfl
        · have hf := jif_f hf h
          refine js_iload_n rfl ?_
          refine js_bipush (v := (99 : Int32)) rfl ?_
          refine js_icmp (tgt := 61) rfl rfl (fun h => ?_) (fun h => ?_)
          · have hf := jif_t hf h
            refine jR_in rfl ⟨rfl, rfl, rfl⟩ rfl ?_
            refine js_iconst (v := (-1 : Int32)) rfl ?_
            obtain rfl := Option.some.inj hf
            exact js_iret rfl rfl
          · have hf := jif_f hf h
            refine js_iload_n rfl ?_
            refine js_bipush (v := (99 : Int32)) rfl ?_
            refine js_c2i rfl rfl ⟨rfl, rfl⟩ rfl rfl (t_C_within rfl) (by omega) ?_
            refine js_ifc (tgt := 63) rfl rfl (fun h => ?_) (fun h => ?_)
            · have hf := jif_t hf h
              refine jR_in rfl ⟨rfl, rfl, rfl⟩ rfl ?_
              refine js_iconst (v := (3 : Int32)) rfl ?_
              refine js_aload rfl ?_
              refine js_geti rfl rfl rfl ?_
              refine js_imul ?_
              refine js_istore rfl rfl ?_
              refine js_aload rfl ?_
              refine js_getr rfl rfl rfl ?_
              refine js_iload rfl ?_
              refine js_iload_n rfl ?_
              obtain ⟨hb4, hf⟩ := jg_some hf
              refine js_iast rfl hb4 ?_
              refine js_aload rfl ?_
              refine js_getr rfl rfl rfl ?_
              refine js_iload rfl ?_
              refine js_iconst (v := (1 : Int32)) rfl ?_
              refine js_iadd ?_
              refine js_iload_n rfl ?_
              obtain ⟨hb6, hf⟩ := jg_some hf
              refine js_iast rfl hb6 ?_
              refine js_aload rfl ?_
              refine js_getr rfl rfl rfl ?_
              refine js_iload rfl ?_
              refine js_iconst (v := (2 : Int32)) rfl ?_
              refine js_iadd ?_
              refine js_iload_n rfl ?_
              obtain ⟨hb8, hf⟩ := jg_some hf
              refine js_iast rfl hb8 ?_
              refine js_aload rfl ?_
              refine js_dup ?_
              refine js_geti rfl rfl rfl ?_
              refine js_iconst (v := (1 : Int32)) rfl ?_
              refine js_iadd ?_
              refine js_puti rfl rfl (Or.inl rfl) ?_
              refine js_aload rfl ?_
              refine js_geti rfl rfl rfl ?_
              obtain rfl := Option.some.inj hf
              exact js_iret rfl rfl
            · have hf := jif_f hf h
              refine js_iconst (v := (-1 : Int32)) rfl ?_
              obtain rfl := Option.some.inj hf
              exact js_iret rfl rfl
  · have hf := jif_f hf h
    refine js_aload rfl ?_
    refine js_iconst (v := (0 : Int32)) rfl ?_
    refine js_puti rfl rfl (Or.inl rfl) ?_
    refine js_iconst (v := (0 : Int32)) rfl ?_
    obtain rfl := Option.some.inj hf
    exact js_iret rfl rfl
/-! SwallowsAir$ToldThought.shareDay(II)Z -/
def f_TT_shareDay (a1 : Int32) (a2 : Int32) (M : jp_M) : Option (Int32) :=
  jg (jp_in a1 24) (
  jg (jp_in (a2 + (1 : Int32)) 24) (
  if jp_c .gt (M 20 (Int32.toNatClampNeg a1)) (M 20 (Int32.toNatClampNeg (a2 + (1 : Int32)))) = true then (
  some (0 : Int32)) else (
  jg (jp_in a2 24) (
  jg (jp_in (a1 + (1 : Int32)) 24) (
  if jp_c .gt (M 20 (Int32.toNatClampNeg a2)) (M 20 (Int32.toNatClampNeg (a1 + (1 : Int32)))) = true then (
  some (0 : Int32)) else (
  some (1 : Int32)))))))
theorem t_TT_shareDay {Ln : Nat} {xs : Nat → Int32} {sv : jp_V} {a1 : Int32} {a2 : Int32} {w : Nat} {M : jp_M} {res : Int32} (hf : f_TT_shareDay a1 a2 M = some res) : jE (jZ (jK Ln xs sv)) 0 79 [(.inr (some 61)), (.inl a1), (.inl a2)] (jSH w) M (some (.inl res), jSH w, M) := by
  unfold f_TT_shareDay at hf
  refine jE_in (L0 := [some (.inr (some 61)), some (.inl a1), some (.inl a2), none]) rfl (Nat.le_of_ble_eq_true rfl) rfl (fun d hd => ?_)
  refine jR_in rfl ⟨rfl, rfl, rfl⟩ rfl ?_
  refine js_aload_n rfl ?_
  refine js_getr rfl rfl rfl ?_
  refine js_getr rfl rfl rfl ?_
  refine js_astore_n rfl rfl ?_
  refine js_aload_n rfl ?_
  refine js_iload_n rfl ?_
  obtain ⟨hb1, hf⟩ := jg_some hf
  refine js_iald rfl hb1 ?_
  refine js_aload_n rfl ?_
  refine js_iload_n rfl ?_
  refine js_iconst (v := (1 : Int32)) rfl ?_
  refine js_iadd ?_
  obtain ⟨hb2, hf⟩ := jg_some hf
  refine js_iald rfl hb2 ?_
  refine js_icmp (tgt := 34) rfl rfl (fun h => ?_) (fun h => ?_)
  · have hf := jif_t hf h
    refine jR_in rfl ⟨rfl, rfl, rfl⟩ rfl ?_
    refine js_iconst (v := (0 : Int32)) rfl ?_
    obtain rfl := Option.some.inj hf
    exact js_iret rfl rfl
  · have hf := jif_f hf h
    refine js_aload_n rfl ?_
    refine js_iload_n rfl ?_
    obtain ⟨hb3, hf⟩ := jg_some hf
    refine js_iald rfl hb3 ?_
    refine js_aload_n rfl ?_
    refine js_iload_n rfl ?_
    refine js_iconst (v := (1 : Int32)) rfl ?_
    refine js_iadd ?_
    obtain ⟨hb4, hf⟩ := jg_some hf
    refine js_iald rfl hb4 ?_
    refine js_icmp (tgt := 34) rfl rfl (fun h => ?_) (fun h => ?_)
    · have hf := jif_t hf h
      refine jR_in rfl ⟨rfl, rfl, rfl⟩ rfl ?_
      refine js_iconst (v := (0 : Int32)) rfl ?_
      obtain rfl := Option.some.inj hf
      exact js_iret rfl rfl
    · have hf := jif_f hf h
      refine js_iconst (v := (1 : Int32)) rfl ?_
      refine js_goto (tgt := 35) rfl rfl ?_
      refine jR_in rfl ⟨rfl, rfl, rfl⟩ rfl ?_
      obtain rfl := Option.some.inj hf
      exact js_iret rfl rfl
theorem b_TT_shareDay {a1 : Int32} {a2 : Int32} {M : jp_M} {res : Int32} (hf : f_TT_shareDay a1 a2 M = some res) : res = 0 ∨ res = 1 := by
  unfold f_TT_shareDay at hf
  obtain ⟨hb1, hf⟩ := jg_some hf
  obtain ⟨hb2, hf⟩ := jg_some hf
  rcases jif_d hf with ⟨h, hf⟩ | ⟨h, hf⟩
  · obtain rfl := Option.some.inj hf
    exact Or.inl rfl
  · obtain ⟨hb3, hf⟩ := jg_some hf
    obtain ⟨hb4, hf⟩ := jg_some hf
    rcases jif_d hf with ⟨h, hf⟩ | ⟨h, hf⟩
    · obtain rfl := Option.some.inj hf
      exact Or.inl rfl
    · obtain rfl := Option.some.inj hf
      exact Or.inr rfl
/-! SwallowsAir$ToldThought.learnsClashes()V -/
def f_TT_learnsClashes_63 (c2 : Int32 → jp_M → Option (jp_M)) (c14 : Int32 → Int32 → jp_M → Option (jp_M)) (l1 : Int32) (l2 : Int32) (M : jp_M) : Option (jp_M) :=
  c14 l1 (l2 + (1 : Int32)) M
theorem t_TT_learnsClashes_63 {Ln : Nat} {xs : Nat → Int32} {sv : jp_V} {d : Nat} (hd : 1 ≤ d) {c2 : Int32 → jp_M → Option (jp_M)} (hc2 : ∀ (l1 : Int32) (o2 : Option jp_V) (w : Nat) (M : jp_M) (res : jp_M), c2 l1 M = some res → jR (jZ (jK Ln xs sv)) d 78 2 ([some (.inr (some 61)), some (.inl l1), o2], [], jSH w, M) (none, jSH w, res)) {c14 : Int32 → Int32 → jp_M → Option (jp_M)} (hc14 : ∀ (l1 : Int32) (l2 : Int32) (w : Nat) (M : jp_M) (res : jp_M), c14 l1 l2 M = some res → jR (jZ (jK Ln xs sv)) d 78 22 ([some (.inr (some 61)), some (.inl l1), some (.inl l2)], [], jSH w, M) (none, jSH w, res)) (l1 : Int32) (l2 : Int32) (w : Nat) (M : jp_M) {res : jp_M} (hf : f_TT_learnsClashes_63 c2 c14 l1 l2 M = some res) : jR (jZ (jK Ln xs sv)) d 78 63 ([some (.inr (some 61)), some (.inl l1), some (.inl l2)], [], jSH w, M) (none, jSH w, res) := by
  unfold f_TT_learnsClashes_63 at hf
  refine jR_in rfl ⟨rfl, rfl, rfl⟩ rfl ?_
  refine js_iinc (v := (1 : Int32)) rfl rfl rfl rfl ?_
  refine js_goto (tgt := 22) rfl rfl ?_
  exact hc14 _ _ _ _ _ hf
def f_TT_learnsClashes_22  : Nat → (Int32 → jp_M → Option (jp_M)) → Int32 → Int32 → jp_M → Option (jp_M)
  | 0, _, _, _, _ => none
  | n + 1, c2, l1, l2, M =>
    if jp_c .ge l2 (M 19 0) = true then (
    c2 (l1 + (1 : Int32)) M) else (
    if jp_c .eq l2 l1 = true then (
    f_TT_learnsClashes_63 c2 (f_TT_learnsClashes_22 n c2) l1 l2 M) else (
    (f_TT_shareDay ((3 : Int32) * l1) ((3 : Int32) * l2) M).bind fun q1 => (
    if jp_c .eq q1 0 = true then (
    f_TT_learnsClashes_63 c2 (f_TT_learnsClashes_22 n c2) l1 l2 M) else (
    jg (jp_in l1 8) (
    jg (jp_in l1 8) (
    let M3 := jp_set M 62 (upd (M 62) (Int32.toNatClampNeg l1) ((M 62 (Int32.toNatClampNeg l1)) ||| ((1 : Int32) <<< (l2 &&& 31))))
    f_TT_learnsClashes_63 c2 (f_TT_learnsClashes_22 n c2) l1 l2 M3))))))
theorem t_TT_learnsClashes_22 {Ln : Nat} {xs : Nat → Int32} {sv : jp_V} {d : Nat} (hd : 1 ≤ d) {c2 : Int32 → jp_M → Option (jp_M)} (hc2 : ∀ (l1 : Int32) (o2 : Option jp_V) (w : Nat) (M : jp_M) (res : jp_M), c2 l1 M = some res → jR (jZ (jK Ln xs sv)) d 78 2 ([some (.inr (some 61)), some (.inl l1), o2], [], jSH w, M) (none, jSH w, res)) : ∀ (n : Nat) (l1 : Int32) (l2 : Int32) (w : Nat) (M : jp_M) {res : jp_M}, f_TT_learnsClashes_22 n c2 l1 l2 M = some res → jR (jZ (jK Ln xs sv)) d 78 22 ([some (.inr (some 61)), some (.inl l1), some (.inl l2)], [], jSH w, M) (none, jSH w, res) := by
  intro n
  induction n with
  | zero =>
    intro l1 l2 w M res hf
    cases hf
  | succ n ih =>
    intro l1 l2 w M res hf
    rw [f_TT_learnsClashes_22] at hf
    refine jR_in rfl ⟨rfl, rfl, rfl⟩ rfl ?_
    refine js_iload_n rfl ?_
    refine js_aload_n rfl ?_
    refine js_getr rfl rfl rfl ?_
    refine js_geti rfl rfl rfl ?_
    refine js_icmp (tgt := 69) rfl rfl (fun h => ?_) (fun h => ?_)
    · have hf := jif_t hf h
      refine jR_in rfl ⟨rfl, rfl, rfl⟩ rfl ?_
      refine js_iinc (v := (1 : Int32)) rfl rfl rfl rfl ?_
      refine js_goto (tgt := 2) rfl rfl ?_
      exact hc2 _ _ _ _ _ hf
    · have hf := jif_f hf h
      refine js_iload_n rfl ?_
      refine js_iload_n rfl ?_
      refine js_icmp (tgt := 63) rfl rfl (fun h => ?_) (fun h => ?_)
      · have hf := jif_t hf h
        exact t_TT_learnsClashes_63 hd hc2 (fun l1 l2 w M res hf => ih l1 l2 w M hf) _ _ _ _ hf
      · have hf := jif_f hf h
        refine js_aload_n rfl ?_
        refine js_iconst (v := (3 : Int32)) rfl ?_
        refine js_iload_n rfl ?_
        refine js_imul ?_
        refine js_iconst (v := (3 : Int32)) rfl ?_
        refine js_iload_n rfl ?_
        refine js_imul ?_
        obtain ⟨q1, hc_1, hf⟩ := jbind hf
        refine js_c3i rfl rfl ⟨rfl, rfl⟩ rfl rfl (t_TT_shareDay hc_1) (by omega) ?_
        refine js_ifc (tgt := 63) rfl rfl (fun h => ?_) (fun h => ?_)
        · have hf := jif_t hf h
          exact t_TT_learnsClashes_63 hd hc2 (fun l1 l2 w M res hf => ih l1 l2 w M hf) _ _ _ _ hf
        · have hf := jif_f hf h
          refine js_aload_n rfl ?_
          refine js_getr rfl rfl rfl ?_
          refine js_iload_n rfl ?_
          refine js_dup2 ?_
          obtain ⟨hb2, hf⟩ := jg_some hf
          refine js_iald rfl hb2 ?_
          refine js_iconst (v := (1 : Int32)) rfl ?_
          refine js_iload_n rfl ?_
          refine js_ishl ?_
          refine js_ior ?_
          obtain ⟨hb4, hf⟩ := jg_some hf
          refine js_iast rfl hb4 ?_
          exact jS_out rfl ⟨rfl, rfl, rfl⟩ rfl (t_TT_learnsClashes_63 hd hc2 (fun l1 l2 w M res hf => ih l1 l2 w M hf) _ _ _ _ hf)
def f_TT_learnsClashes_2  : Nat → Int32 → jp_M → Option (jp_M)
  | 0, _, _ => none
  | n + 1, l1, M =>
    if jp_c .ge l1 (M 19 0) = true then (
    some M) else (
    jg (jp_in l1 8) (
    let M1 := jp_set M 62 (upd (M 62) (Int32.toNatClampNeg l1) (0 : Int32))
    f_TT_learnsClashes_22 jFu (f_TT_learnsClashes_2 n ) l1 (0 : Int32) M1))
theorem t_TT_learnsClashes_2 {Ln : Nat} {xs : Nat → Int32} {sv : jp_V} {d : Nat} (hd : 1 ≤ d)  : ∀ (n : Nat) (l1 : Int32) (o2 : Option jp_V) (w : Nat) (M : jp_M) {res : jp_M}, f_TT_learnsClashes_2 n  l1 M = some res → jR (jZ (jK Ln xs sv)) d 78 2 ([some (.inr (some 61)), some (.inl l1), o2], [], jSH w, M) (none, jSH w, res) := by
  intro n
  induction n with
  | zero =>
    intro l1 o2 w M res hf
    cases hf
  | succ n ih =>
    intro l1 o2 w M res hf
    rw [f_TT_learnsClashes_2] at hf
    refine jR_in rfl ⟨rfl, rfl, rfl⟩ rfl ?_
    refine js_iload_n rfl ?_
    refine js_aload_n rfl ?_
    refine js_getr rfl rfl rfl ?_
    refine js_geti rfl rfl rfl ?_
    refine js_icmp (tgt := 75) rfl rfl (fun h => ?_) (fun h => ?_)
    · have hf := jif_t hf h
      refine jR_in rfl ⟨rfl, rfl, rfl⟩ rfl ?_
      obtain rfl := Option.some.inj hf
      exact js_ret rfl rfl
    · have hf := jif_f hf h
      refine js_aload_n rfl ?_
      refine js_getr rfl rfl rfl ?_
      refine js_iload_n rfl ?_
      refine js_iconst (v := (0 : Int32)) rfl ?_
      obtain ⟨hb2, hf⟩ := jg_some hf
      refine js_iast rfl hb2 ?_
      refine js_iconst (v := (0 : Int32)) rfl ?_
      refine js_istore_n rfl rfl ?_
      exact jS_out rfl ⟨rfl, rfl, rfl⟩ rfl (t_TT_learnsClashes_22 hd (fun l1 o2 w M res hf => ih l1 o2 w M hf) jFu _ _ _ _ hf)
def f_TT_learnsClashes (M : jp_M) : Option (jp_M) :=
  f_TT_learnsClashes_2 jFu (0 : Int32) M
theorem t_TT_learnsClashes {Ln : Nat} {xs : Nat → Int32} {sv : jp_V} {w : Nat} {M : jp_M} {res : jp_M} (hf : f_TT_learnsClashes M = some res) : jE (jZ (jK Ln xs sv)) 1 78 [(.inr (some 61))] (jSH w) M (none, jSH w, res) := by
  unfold f_TT_learnsClashes at hf
  refine jE_in (L0 := [some (.inr (some 61)), none, none]) rfl (Nat.le_of_ble_eq_true rfl) rfl (fun d hd => ?_)
  refine jR_in rfl ⟨rfl, rfl, rfl⟩ rfl ?_
  refine js_iconst (v := (0 : Int32)) rfl ?_
  refine js_istore_n rfl rfl ?_
  exact jS_out rfl ⟨rfl, rfl, rfl⟩ rfl (t_TT_learnsClashes_2 hd jFu _ _ _ _ hf)
/-! SwallowsAir$ToldThought.worthOf(I)I -/
def f_TT_worthOf_53 (c4 : Int32 → Int32 → Int32 → jp_M → Option (Int32)) (l1 : Int32) (l2 : Int32) (l3 : Int32) (M : jp_M) : Option (Int32) :=
  c4 l1 l2 (l3 + (1 : Int32)) M
theorem t_TT_worthOf_53 {Ln : Nat} {xs : Nat → Int32} {sv : jp_V} {d : Nat} (hd : 0 ≤ d) {c4 : Int32 → Int32 → Int32 → jp_M → Option (Int32)} (hc4 : ∀ (l1 : Int32) (l2 : Int32) (l3 : Int32) (w : Nat) (M : jp_M) (res : Int32), c4 l1 l2 l3 M = some res → jR (jZ (jK Ln xs sv)) d 80 4 ([some (.inr (some 61)), some (.inl l1), some (.inl l2), some (.inl l3)], [], jSH w, M) (some (.inl res), jSH w, M)) (l1 : Int32) (l2 : Int32) (l3 : Int32) (w : Nat) (M : jp_M) {res : Int32} (hf : f_TT_worthOf_53 c4 l1 l2 l3 M = some res) : jR (jZ (jK Ln xs sv)) d 80 53 ([some (.inr (some 61)), some (.inl l1), some (.inl l2), some (.inl l3)], [], jSH w, M) (some (.inl res), jSH w, M) := by
  unfold f_TT_worthOf_53 at hf
  refine jR_in rfl ⟨rfl, rfl, rfl⟩ rfl ?_
  refine js_iinc (v := (1 : Int32)) rfl rfl rfl rfl ?_
  refine js_goto (tgt := 4) rfl rfl ?_
  exact hc4 _ _ _ _ _ _ hf
def f_TT_worthOf_4  : Nat → Int32 → Int32 → Int32 → jp_M → Option (Int32)
  | 0, _, _, _, _ => none
  | n + 1, l1, l2, l3, M =>
    if jp_c .ge l3 (M 19 0) = true then (
    some l2) else (
    if jp_c .ne ((l1 >>> (l3 &&& 31)) &&& (1 : Int32)) (1 : Int32) = true then (
    f_TT_worthOf_53 (f_TT_worthOf_4 n ) l1 l2 l3 M) else (
    jg (jp_in l3 8) (
    if jp_c .eq ((M 62 (Int32.toNatClampNeg l3)) &&& l1) 0 = true then (
    jg (jp_in (((3 : Int32) * l3) + (2 : Int32)) 24) (
    f_TT_worthOf_53 (f_TT_worthOf_4 n ) l1 (l2 + (M 20 (Int32.toNatClampNeg (((3 : Int32) * l3) + (2 : Int32))))) l3 M)) else (
    some (-1 : Int32)))))
theorem t_TT_worthOf_4 {Ln : Nat} {xs : Nat → Int32} {sv : jp_V} {d : Nat} (hd : 0 ≤ d)  : ∀ (n : Nat) (l1 : Int32) (l2 : Int32) (l3 : Int32) (w : Nat) (M : jp_M) {res : Int32}, f_TT_worthOf_4 n  l1 l2 l3 M = some res → jR (jZ (jK Ln xs sv)) d 80 4 ([some (.inr (some 61)), some (.inl l1), some (.inl l2), some (.inl l3)], [], jSH w, M) (some (.inl res), jSH w, M) := by
  intro n
  induction n with
  | zero =>
    intro l1 l2 l3 w M res hf
    cases hf
  | succ n ih =>
    intro l1 l2 l3 w M res hf
    rw [f_TT_worthOf_4] at hf
    refine jR_in rfl ⟨rfl, rfl, rfl⟩ rfl ?_
    refine js_iload_n rfl ?_
    refine js_aload_n rfl ?_
    refine js_getr rfl rfl rfl ?_
    refine js_geti rfl rfl rfl ?_
    refine js_icmp (tgt := 59) rfl rfl (fun h => ?_) (fun h => ?_)
    · have hf := jif_t hf h
      refine jR_in rfl ⟨rfl, rfl, rfl⟩ rfl ?_
      refine js_iload_n rfl ?_
      obtain rfl := Option.some.inj hf
      exact js_iret rfl rfl
    · have hf := jif_f hf h
      refine js_iload_n rfl ?_
      refine js_iload_n rfl ?_
      refine js_ishr ?_
      refine js_iconst (v := (1 : Int32)) rfl ?_
      refine js_iand ?_
      refine js_iconst (v := (1 : Int32)) rfl ?_
      refine js_icmp (tgt := 53) rfl rfl (fun h => ?_) (fun h => ?_)
      · have hf := jif_t hf h
        exact t_TT_worthOf_53 hd (fun l1 l2 l3 w M res hf => ih l1 l2 l3 w M hf) _ _ _ _ _ hf
      · have hf := jif_f hf h
        refine js_aload_n rfl ?_
        refine js_getr rfl rfl rfl ?_
        refine js_iload_n rfl ?_
        obtain ⟨hb1, hf⟩ := jg_some hf
        refine js_iald rfl hb1 ?_
        refine js_iload_n rfl ?_
        refine js_iand ?_
        refine js_ifc (tgt := 37) rfl rfl (fun h => ?_) (fun h => ?_)
        · have hf := jif_t hf h
          refine jR_in rfl ⟨rfl, rfl, rfl⟩ rfl ?_
          refine js_iload_n rfl ?_
          refine js_aload_n rfl ?_
          refine js_getr rfl rfl rfl ?_
          refine js_getr rfl rfl rfl ?_
          refine js_iconst (v := (3 : Int32)) rfl ?_
          refine js_iload_n rfl ?_
          refine js_imul ?_
          refine js_iconst (v := (2 : Int32)) rfl ?_
          refine js_iadd ?_
          obtain ⟨hb2, hf⟩ := jg_some hf
          refine js_iald rfl hb2 ?_
          refine js_iadd ?_
          refine js_istore_n rfl rfl ?_
          exact jS_out rfl ⟨rfl, rfl, rfl⟩ rfl (t_TT_worthOf_53 hd (fun l1 l2 l3 w M res hf => ih l1 l2 l3 w M hf) _ _ _ _ _ hf)
        · have hf := jif_f hf h
          refine js_iconst (v := (-1 : Int32)) rfl ?_
          obtain rfl := Option.some.inj hf
          exact js_iret rfl rfl
def f_TT_worthOf (a1 : Int32) (M : jp_M) : Option (Int32) :=
  f_TT_worthOf_4 jFu a1 (0 : Int32) (0 : Int32) M
theorem t_TT_worthOf {Ln : Nat} {xs : Nat → Int32} {sv : jp_V} {a1 : Int32} {w : Nat} {M : jp_M} {res : Int32} (hf : f_TT_worthOf a1 M = some res) : jE (jZ (jK Ln xs sv)) 0 80 [(.inr (some 61)), (.inl a1)] (jSH w) M (some (.inl res), jSH w, M) := by
  unfold f_TT_worthOf at hf
  refine jE_in (L0 := [some (.inr (some 61)), some (.inl a1), none, none]) rfl (Nat.le_of_ble_eq_true rfl) rfl (fun d hd => ?_)
  refine jR_in rfl ⟨rfl, rfl, rfl⟩ rfl ?_
  refine js_iconst (v := (0 : Int32)) rfl ?_
  refine js_istore_n rfl rfl ?_
  refine js_iconst (v := (0 : Int32)) rfl ?_
  refine js_istore_n rfl rfl ?_
  exact jS_out rfl ⟨rfl, rfl, rfl⟩ rfl (t_TT_worthOf_4 hd jFu _ _ _ _ _ hf)
/-! SwallowsAir$ToldThought.choosesWishes()V -/
def f_TT_choosesWishes_53 (c10 : Int32 → jp_M → Option (jp_M)) (l1 : Int32) (M : jp_M) : Option (jp_M) :=
  c10 (l1 + (1 : Int32)) M
theorem t_TT_choosesWishes_53 {Ln : Nat} {xs : Nat → Int32} {sv : jp_V} {d : Nat} (hd : 2 ≤ d) {c10 : Int32 → jp_M → Option (jp_M)} (hc10 : ∀ (l1 : Int32) (o2 : Option jp_V) (w : Nat) (M : jp_M) (res : jp_M), c10 l1 M = some res → jR (jZ (jK Ln xs sv)) d 77 16 ([some (.inr (some 61)), some (.inl l1), o2], [], jSH w, M) (none, jSH w, res)) (l1 : Int32) (o2 : Option jp_V) (w : Nat) (M : jp_M) {res : jp_M} (hf : f_TT_choosesWishes_53 c10 l1 M = some res) : jR (jZ (jK Ln xs sv)) d 77 53 ([some (.inr (some 61)), some (.inl l1), o2], [], jSH w, M) (none, jSH w, res) := by
  unfold f_TT_choosesWishes_53 at hf
  refine jR_in rfl ⟨rfl, rfl, rfl⟩ rfl ?_
  refine js_iinc (v := (1 : Int32)) rfl rfl rfl rfl ?_
  refine js_goto (tgt := 16) rfl rfl ?_
  exact hc10 _ _ _ _ _ hf
def f_TT_choosesWishes_16  : Nat → Int32 → jp_M → Option (jp_M)
  | 0, _, _ => none
  | n + 1, l1, M =>
    if jp_c .ge l1 ((1 : Int32) <<< ((M 19 0) &&& 31)) = true then (
    some M) else (
    (f_TT_worthOf l1 M).bind fun q1 => (
    if jp_c .le q1 (M 61 7) = true then (
    f_TT_choosesWishes_53 (f_TT_choosesWishes_16 n ) l1 M) else (
    let M2 := jp_set M 61 (upd (M 61) 7 q1)
    let M3 := jp_set M2 61 (upd (M2 61) 8 l1)
    f_TT_choosesWishes_53 (f_TT_choosesWishes_16 n ) l1 M3)))
theorem t_TT_choosesWishes_16 {Ln : Nat} {xs : Nat → Int32} {sv : jp_V} {d : Nat} (hd : 2 ≤ d)  : ∀ (n : Nat) (l1 : Int32) (o2 : Option jp_V) (w : Nat) (M : jp_M) {res : jp_M}, f_TT_choosesWishes_16 n  l1 M = some res → jR (jZ (jK Ln xs sv)) d 77 16 ([some (.inr (some 61)), some (.inl l1), o2], [], jSH w, M) (none, jSH w, res) := by
  intro n
  induction n with
  | zero =>
    intro l1 o2 w M res hf
    cases hf
  | succ n ih =>
    intro l1 o2 w M res hf
    rw [f_TT_choosesWishes_16] at hf
    refine jR_in rfl ⟨rfl, rfl, rfl⟩ rfl ?_
    refine js_iload_n rfl ?_
    refine js_iconst (v := (1 : Int32)) rfl ?_
    refine js_aload_n rfl ?_
    refine js_getr rfl rfl rfl ?_
    refine js_geti rfl rfl rfl ?_
    refine js_ishl ?_
    refine js_icmp (tgt := 59) rfl rfl (fun h => ?_) (fun h => ?_)
    · have hf := jif_t hf h
      refine jR_in rfl ⟨rfl, rfl, rfl⟩ rfl ?_
      obtain rfl := Option.some.inj hf
      exact js_ret rfl rfl
    · have hf := jif_f hf h
      refine js_aload_n rfl ?_
      refine js_iload_n rfl ?_
      obtain ⟨q1, hc_1, hf⟩ := jbind hf
      refine js_c2i rfl rfl ⟨rfl, rfl⟩ rfl rfl (t_TT_worthOf hc_1) (by omega) ?_
      refine js_istore_n rfl rfl ?_
      refine js_iload_n rfl ?_
      refine js_aload_n rfl ?_
      refine js_geti rfl rfl rfl ?_
      refine js_icmp (tgt := 53) rfl rfl (fun h => ?_) (fun h => ?_)
      · have hf := jif_t hf h
        exact t_TT_choosesWishes_53 hd (fun l1 o2 w M res hf => ih l1 o2 w M hf) _ _ _ _ hf
      · have hf := jif_f hf h
        refine js_aload_n rfl ?_
        refine js_iload_n rfl ?_
        refine js_puti rfl rfl (Or.inl rfl) ?_
        refine js_aload_n rfl ?_
        refine js_iload_n rfl ?_
        refine js_puti rfl rfl (Or.inl rfl) ?_
        exact jS_out rfl ⟨rfl, rfl, rfl⟩ rfl (t_TT_choosesWishes_53 hd (fun l1 o2 w M res hf => ih l1 o2 w M hf) _ _ _ _ hf)
def f_TT_choosesWishes (M : jp_M) : Option (jp_M) :=
  (f_TT_learnsClashes M).bind fun q1 => (
  let M2 := jp_set q1 61 (upd (q1 61) 7 (0 : Int32))
  let M3 := jp_set M2 61 (upd (M2 61) 8 (0 : Int32))
  f_TT_choosesWishes_16 jFu (1 : Int32) M3)
theorem t_TT_choosesWishes {Ln : Nat} {xs : Nat → Int32} {sv : jp_V} {w : Nat} {M : jp_M} {res : jp_M} (hf : f_TT_choosesWishes M = some res) : jE (jZ (jK Ln xs sv)) 2 77 [(.inr (some 61))] (jSH w) M (none, jSH w, res) := by
  unfold f_TT_choosesWishes at hf
  refine jE_in (L0 := [some (.inr (some 61)), none, none]) rfl (Nat.le_of_ble_eq_true rfl) rfl (fun d hd => ?_)
  refine jR_in rfl ⟨rfl, rfl, rfl⟩ rfl ?_
  refine js_aload_n rfl ?_
  obtain ⟨q1, hc_1, hf⟩ := jbind hf
  refine js_c1v (w := 0) rfl rfl ⟨rfl, rfl⟩ rfl rfl (t_TT_learnsClashes hc_1) (by omega) ?_
  refine js_aload_n rfl ?_
  refine js_iconst (v := (0 : Int32)) rfl ?_
  refine js_puti rfl rfl (Or.inl rfl) ?_
  refine js_aload_n rfl ?_
  refine js_iconst (v := (0 : Int32)) rfl ?_
  refine js_puti rfl rfl (Or.inl rfl) ?_
  refine js_iconst (v := (1 : Int32)) rfl ?_
  refine js_istore_n rfl rfl ?_
  exact jS_out rfl ⟨rfl, rfl, rfl⟩ rfl (t_TT_choosesWishes_16 hd jFu _ _ _ _ hf)
/-! SwallowsAir.beside(I)I -/
def f_C_beside (a1 : Int32) (M : jp_M) : Option (Int32 × jp_M) :=
  if jp_c .ne (f_C_within a1 (1 : Int32)) 0 = true then (
  (f_TT_choosesWishes M).bind fun q2 => (
  if jp_c .ne a1 0 = true then (
  some ((q2 61 8), q2)) else (
  some ((q2 61 7), q2)))) else (
  some ((-1 : Int32), M))
theorem t_C_beside {Ln : Nat} {xs : Nat → Int32} {sv : jp_V} {a1 : Int32} {w : Nat} {M : jp_M} {res : Int32 × jp_M} (hf : f_C_beside a1 M = some res) : jE (jZ (jK Ln xs sv)) 3 135 [(.inr (some 0)), (.inl a1)] (jSH w) M (some (.inl res.1), jSH w, res.2) := by
  unfold f_C_beside at hf
  refine jE_in (L0 := [some (.inr (some 0)), some (.inl a1)]) rfl (Nat.le_of_ble_eq_true rfl) rfl (fun d hd => ?_)
  refine jR_in rfl ⟨rfl, rfl, rfl⟩ rfl ?_
  refine js_iload_n rfl ?_
  refine js_iconst (v := (1 : Int32)) rfl ?_
  refine js_c2i rfl rfl ⟨rfl, rfl⟩ rfl rfl (t_C_within rfl) (by omega) ?_
  refine js_ifc (tgt := 10) rfl rfl (fun h => ?_) (fun h => ?_)
  · have hf := jif_t hf h
    refine jR_in rfl ⟨rfl, rfl, rfl⟩ rfl ?_
    refine js_aload_n rfl ?_
    refine js_getr rfl rfl rfl ?_
    obtain ⟨q2, hc_2, hf⟩ := jbind hf
    refine js_c1v (w := 0) rfl rfl ⟨rfl, rfl⟩ rfl rfl (t_TT_choosesWishes hc_2) (by omega) ?_
    refine js_iload_n rfl ?_
    refine js_ifc (tgt := 31) rfl rfl (fun h => ?_) (fun h => ?_)
    · have hf := jif_t hf h
      refine jR_in rfl ⟨rfl, rfl, rfl⟩ rfl ?_
      refine js_aload_n rfl ?_
      refine js_getr rfl rfl rfl ?_
      refine js_geti rfl rfl rfl ?_
      obtain rfl := Option.some.inj hf
      exact js_iret rfl rfl
    · have hf := jif_f hf h
      refine js_aload_n rfl ?_
      refine js_getr rfl rfl rfl ?_
      refine js_geti rfl rfl rfl ?_
      refine js_goto (tgt := 38) rfl rfl ?_
      refine jR_in rfl ⟨rfl, rfl, rfl⟩ rfl ?_
      obtain rfl := Option.some.inj hf
      exact js_iret rfl rfl
  · have hf := jif_f hf h
    refine js_iconst (v := (-1 : Int32)) rfl ?_
    obtain rfl := Option.some.inj hf
    exact js_iret rfl rfl
/-! SwallowsAir.kite(II)I -/
def f_C_kite (a1 : Int32) (a2 : Int32) (M : jp_M) : Option (Int32 × jp_M) :=
  if jp_c .ne a1 (-1 : Int32) = true then (
  if jp_c .ge (M 19 1) (10 : Int32) = true then (
  some ((-1 : Int32), M)) else (
  if jp_c .eq (f_C_within a1 (99 : Int32)) 0 = true then (
  some ((-1 : Int32), M)) else (
  if jp_c .ne (f_C_within a2 (99 : Int32)) 0 = true then (
  jg (jp_in ((2 : Int32) * (M 19 1)) 20) (
  let M3 := jp_set M 21 (upd (M 21) (Int32.toNatClampNeg ((2 : Int32) * (M 19 1))) a1)
  jg (jp_in (((2 : Int32) * (M3 19 1)) + (1 : Int32)) 20) (
  let M5 := jp_set M3 21 (upd (M3 21) (Int32.toNatClampNeg (((2 : Int32) * (M3 19 1)) + (1 : Int32))) a2)
  let M7 := jp_set M5 19 (upd (M5 19) 1 ((M5 19 1) + (1 : Int32)))
  some ((M7 19 1), M7)))) else (
  some ((-1 : Int32), M))))) else (
  let M8 := jp_set M 19 (upd (M 19) 1 (0 : Int32))
  some ((0 : Int32), M8))
theorem t_C_kite {Ln : Nat} {xs : Nat → Int32} {sv : jp_V} {a1 : Int32} {a2 : Int32} {w : Nat} {M : jp_M} {res : Int32 × jp_M} (hf : f_C_kite a1 a2 M = some res) : jE (jZ (jK Ln xs sv)) 1 136 [(.inr (some 0)), (.inl a1), (.inl a2)] (jSH w) M (some (.inl res.1), jSH w, res.2) := by
  unfold f_C_kite at hf
  refine jE_in (L0 := [some (.inr (some 0)), some (.inl a1), some (.inl a2), none]) rfl (Nat.le_of_ble_eq_true rfl) rfl (fun d hd => ?_)
  refine jR_in rfl ⟨rfl, rfl, rfl⟩ rfl ?_
  refine js_aload_n rfl ?_
  refine js_getr rfl rfl rfl ?_
  refine js_getr rfl rfl rfl ?_
  refine js_astore_n rfl rfl ?_
  refine js_iload_n rfl ?_
  refine js_iconst (v := (-1 : Int32)) rfl ?_
  refine js_icmp (tgt := 20) rfl rfl (fun h => ?_) (fun h => ?_)
  · have hf := jif_t hf h
    refine jR_in rfl ⟨rfl, rfl, rfl⟩ rfl ?_
    refine js_aload_n rfl ?_
    refine js_geti rfl rfl rfl ?_
    refine js_bipush (v := (10 : Int32)) rfl ?_
    refine js_icmp (tgt := 47) rfl rfl (fun h => ?_) (fun h => ?_)
    · have hf := jif_t hf h
      refine jR_in rfl ⟨rfl, rfl, rfl⟩ rfl ?_
      refine js_iconst (v := (-1 : Int32)) rfl ?_
      obtain rfl := Option.some.inj hf
      exact js_iret rfl rfl
    · have hf := jif_f hf h
      refine js_iload_n rfl ?_
      refine js_bipush (v := (99 : Int32)) rfl ?_
      refine js_c2i rfl rfl ⟨rfl, rfl⟩ rfl rfl (t_C_within rfl) (by omega) ?_
      refine js_ifc (tgt := 47) rfl rfl (fun h => ?_) (fun h => ?_)
      · have hf := jif_t hf h
        refine jR_in rfl ⟨rfl, rfl, rfl⟩ rfl ?_
        refine js_iconst (v := (-1 : Int32)) rfl ?_
        obtain rfl := Option.some.inj hf
        exact js_iret rfl rfl
      · have hf := jif_f hf h
        refine js_iload_n rfl ?_
        refine js_bipush (v := (99 : Int32)) rfl ?_
        refine js_c2i rfl rfl ⟨rfl, rfl⟩ rfl rfl (t_C_within rfl) (by omega) ?_
        refine js_ifc (tgt := 49) rfl rfl (fun h => ?_) (fun h => ?_)
        · have hf := jif_t hf h
          refine jR_in rfl ⟨rfl, rfl, rfl⟩ rfl ?_
          refine js_aload_n rfl ?_
          refine js_getr rfl rfl rfl ?_
          refine js_iconst (v := (2 : Int32)) rfl ?_
          refine js_aload_n rfl ?_
          refine js_geti rfl rfl rfl ?_
          refine js_imul ?_
          refine js_iload_n rfl ?_
          obtain ⟨hb4, hf⟩ := jg_some hf
          refine js_iast rfl hb4 ?_
          refine js_aload_n rfl ?_
          refine js_getr rfl rfl rfl ?_
          refine js_iconst (v := (2 : Int32)) rfl ?_
          refine js_aload_n rfl ?_
          refine js_geti rfl rfl rfl ?_
          refine js_imul ?_
          refine js_iconst (v := (1 : Int32)) rfl ?_
          refine js_iadd ?_
          refine js_iload_n rfl ?_
          obtain ⟨hb6, hf⟩ := jg_some hf
          refine js_iast rfl hb6 ?_
          refine js_aload_n rfl ?_
          refine js_dup ?_
          refine js_geti rfl rfl rfl ?_
          refine js_iconst (v := (1 : Int32)) rfl ?_
          refine js_iadd ?_
          refine js_puti rfl rfl (Or.inl rfl) ?_
          refine js_aload_n rfl ?_
          refine js_geti rfl rfl rfl ?_
          obtain rfl := Option.some.inj hf
          exact js_iret rfl rfl
        · have hf := jif_f hf h
          refine js_iconst (v := (-1 : Int32)) rfl ?_
          obtain rfl := Option.some.inj hf
          exact js_iret rfl rfl
  · have hf := jif_f hf h
    refine js_aload_n rfl ?_
    refine js_iconst (v := (0 : Int32)) rfl ?_
    refine js_puti rfl rfl (Or.inl rfl) ?_
    refine js_iconst (v := (0 : Int32)) rfl ?_
    obtain rfl := Option.some.inj hf
    exact js_iret rfl rfl
/-! SwallowsAir$ToldThought.crosses(II)Z -/
def f_TT_crosses (a1 : Int32) (a2 : Int32) (M : jp_M) : Option (Int32) :=
  jg (jp_in ((2 : Int32) * a1) 20) (
  jg (jp_in ((2 : Int32) * a2) 20) (
  if jp_c .ge (M 21 (Int32.toNatClampNeg ((2 : Int32) * a1))) (M 21 (Int32.toNatClampNeg ((2 : Int32) * a2))) = true then (
  some (0 : Int32)) else (
  jg (jp_in (((2 : Int32) * a1) + (1 : Int32)) 20) (
  jg (jp_in (((2 : Int32) * a2) + (1 : Int32)) 20) (
  if jp_c .le (M 21 (Int32.toNatClampNeg (((2 : Int32) * a1) + (1 : Int32)))) (M 21 (Int32.toNatClampNeg (((2 : Int32) * a2) + (1 : Int32)))) = true then (
  some (0 : Int32)) else (
  some (1 : Int32)))))))
theorem t_TT_crosses {Ln : Nat} {xs : Nat → Int32} {sv : jp_V} {a1 : Int32} {a2 : Int32} {w : Nat} {M : jp_M} {res : Int32} (hf : f_TT_crosses a1 a2 M = some res) : jE (jZ (jK Ln xs sv)) 0 82 [(.inr (some 61)), (.inl a1), (.inl a2)] (jSH w) M (some (.inl res), jSH w, M) := by
  unfold f_TT_crosses at hf
  refine jE_in (L0 := [some (.inr (some 61)), some (.inl a1), some (.inl a2), none]) rfl (Nat.le_of_ble_eq_true rfl) rfl (fun d hd => ?_)
  refine jR_in rfl ⟨rfl, rfl, rfl⟩ rfl ?_
  refine js_aload_n rfl ?_
  refine js_getr rfl rfl rfl ?_
  refine js_getr rfl rfl rfl ?_
  refine js_astore_n rfl rfl ?_
  refine js_aload_n rfl ?_
  refine js_iconst (v := (2 : Int32)) rfl ?_
  refine js_iload_n rfl ?_
  refine js_imul ?_
  obtain ⟨hb1, hf⟩ := jg_some hf
  refine js_iald rfl hb1 ?_
  refine js_aload_n rfl ?_
  refine js_iconst (v := (2 : Int32)) rfl ?_
  refine js_iload_n rfl ?_
  refine js_imul ?_
  obtain ⟨hb2, hf⟩ := jg_some hf
  refine js_iald rfl hb2 ?_
  refine js_icmp (tgt := 42) rfl rfl (fun h => ?_) (fun h => ?_)
  · have hf := jif_t hf h
    refine jR_in rfl ⟨rfl, rfl, rfl⟩ rfl ?_
    refine js_iconst (v := (0 : Int32)) rfl ?_
    obtain rfl := Option.some.inj hf
    exact js_iret rfl rfl
  · have hf := jif_f hf h
    refine js_aload_n rfl ?_
    refine js_iconst (v := (2 : Int32)) rfl ?_
    refine js_iload_n rfl ?_
    refine js_imul ?_
    refine js_iconst (v := (1 : Int32)) rfl ?_
    refine js_iadd ?_
    obtain ⟨hb3, hf⟩ := jg_some hf
    refine js_iald rfl hb3 ?_
    refine js_aload_n rfl ?_
    refine js_iconst (v := (2 : Int32)) rfl ?_
    refine js_iload_n rfl ?_
    refine js_imul ?_
    refine js_iconst (v := (1 : Int32)) rfl ?_
    refine js_iadd ?_
    obtain ⟨hb4, hf⟩ := jg_some hf
    refine js_iald rfl hb4 ?_
    refine js_icmp (tgt := 42) rfl rfl (fun h => ?_) (fun h => ?_)
    · have hf := jif_t hf h
      refine jR_in rfl ⟨rfl, rfl, rfl⟩ rfl ?_
      refine js_iconst (v := (0 : Int32)) rfl ?_
      obtain rfl := Option.some.inj hf
      exact js_iret rfl rfl
    · have hf := jif_f hf h
      refine js_iconst (v := (1 : Int32)) rfl ?_
      refine js_goto (tgt := 43) rfl rfl ?_
      refine jR_in rfl ⟨rfl, rfl, rfl⟩ rfl ?_
      obtain rfl := Option.some.inj hf
      exact js_iret rfl rfl
theorem b_TT_crosses {a1 : Int32} {a2 : Int32} {M : jp_M} {res : Int32} (hf : f_TT_crosses a1 a2 M = some res) : res = 0 ∨ res = 1 := by
  unfold f_TT_crosses at hf
  obtain ⟨hb1, hf⟩ := jg_some hf
  obtain ⟨hb2, hf⟩ := jg_some hf
  rcases jif_d hf with ⟨h, hf⟩ | ⟨h, hf⟩
  · obtain rfl := Option.some.inj hf
    exact Or.inl rfl
  · obtain ⟨hb3, hf⟩ := jg_some hf
    obtain ⟨hb4, hf⟩ := jg_some hf
    rcases jif_d hf with ⟨h, hf⟩ | ⟨h, hf⟩
    · obtain rfl := Option.some.inj hf
      exact Or.inl rfl
    · obtain rfl := Option.some.inj hf
      exact Or.inr rfl
/-! SwallowsAir$ToldThought.lengthensChain(I)V -/
def f_TT_lengthensChain_45 (c2 : Int32 → Int32 → jp_M → Option (jp_M)) (l1 : Int32) (l2 : Int32) (M : jp_M) : Option (jp_M) :=
  c2 l1 (l2 + (1 : Int32)) M
theorem t_TT_lengthensChain_45 {Ln : Nat} {xs : Nat → Int32} {sv : jp_V} {d : Nat} (hd : 1 ≤ d) {c2 : Int32 → Int32 → jp_M → Option (jp_M)} (hc2 : ∀ (l1 : Int32) (l2 : Int32) (w : Nat) (M : jp_M) (res : jp_M), c2 l1 l2 M = some res → jR (jZ (jK Ln xs sv)) d 84 2 ([some (.inr (some 61)), some (.inl l1), some (.inl l2)], [], jSH w, M) (none, jSH w, res)) (l1 : Int32) (l2 : Int32) (w : Nat) (M : jp_M) {res : jp_M} (hf : f_TT_lengthensChain_45 c2 l1 l2 M = some res) : jR (jZ (jK Ln xs sv)) d 84 45 ([some (.inr (some 61)), some (.inl l1), some (.inl l2)], [], jSH w, M) (none, jSH w, res) := by
  unfold f_TT_lengthensChain_45 at hf
  refine jR_in rfl ⟨rfl, rfl, rfl⟩ rfl ?_
  refine js_iinc (v := (1 : Int32)) rfl rfl rfl rfl ?_
  refine js_goto (tgt := 2) rfl rfl ?_
  exact hc2 _ _ _ _ _ hf
def f_TT_lengthensChain_2  : Nat → Int32 → Int32 → jp_M → Option (jp_M)
  | 0, _, _, _ => none
  | n + 1, l1, l2, M =>
    if jp_c .ge l2 (M 19 1) = true then (
    some M) else (
    (f_TT_crosses l2 l1 M).bind fun q1 => (
    if jp_c .eq q1 0 = true then (
    f_TT_lengthensChain_45 (f_TT_lengthensChain_2 n ) l1 l2 M) else (
    jg (jp_in l1 10) (
    jg (jp_in l2 10) (
    jg (jp_in l1 10) (
    let M4 := jp_set M 63 (upd (M 63) (Int32.toNatClampNeg l1) (jp_max (M 63 (Int32.toNatClampNeg l1)) ((M 63 (Int32.toNatClampNeg l2)) + (1 : Int32))))
    f_TT_lengthensChain_45 (f_TT_lengthensChain_2 n ) l1 l2 M4))))))
theorem t_TT_lengthensChain_2 {Ln : Nat} {xs : Nat → Int32} {sv : jp_V} {d : Nat} (hd : 1 ≤ d)  : ∀ (n : Nat) (l1 : Int32) (l2 : Int32) (w : Nat) (M : jp_M) {res : jp_M}, f_TT_lengthensChain_2 n  l1 l2 M = some res → jR (jZ (jK Ln xs sv)) d 84 2 ([some (.inr (some 61)), some (.inl l1), some (.inl l2)], [], jSH w, M) (none, jSH w, res) := by
  intro n
  induction n with
  | zero =>
    intro l1 l2 w M res hf
    cases hf
  | succ n ih =>
    intro l1 l2 w M res hf
    rw [f_TT_lengthensChain_2] at hf
    refine jR_in rfl ⟨rfl, rfl, rfl⟩ rfl ?_
    refine js_iload_n rfl ?_
    refine js_aload_n rfl ?_
    refine js_getr rfl rfl rfl ?_
    refine js_geti rfl rfl rfl ?_
    refine js_icmp (tgt := 51) rfl rfl (fun h => ?_) (fun h => ?_)
    · have hf := jif_t hf h
      refine jR_in rfl ⟨rfl, rfl, rfl⟩ rfl ?_
      obtain rfl := Option.some.inj hf
      exact js_ret rfl rfl
    · have hf := jif_f hf h
      refine js_aload_n rfl ?_
      refine js_iload_n rfl ?_
      refine js_iload_n rfl ?_
      obtain ⟨q1, hc_1, hf⟩ := jbind hf
      refine js_c3i rfl rfl ⟨rfl, rfl⟩ rfl rfl (t_TT_crosses hc_1) (by omega) ?_
      refine js_ifc (tgt := 45) rfl rfl (fun h => ?_) (fun h => ?_)
      · have hf := jif_t hf h
        exact t_TT_lengthensChain_45 hd (fun l1 l2 w M res hf => ih l1 l2 w M hf) _ _ _ _ hf
      · have hf := jif_f hf h
        refine js_aload_n rfl ?_
        refine js_getr rfl rfl rfl ?_
        refine js_iload_n rfl ?_
        refine js_aload_n rfl ?_
        refine js_getr rfl rfl rfl ?_
        refine js_iload_n rfl ?_
        obtain ⟨hb2, hf⟩ := jg_some hf
        refine js_iald rfl hb2 ?_
        refine js_aload_n rfl ?_
        refine js_getr rfl rfl rfl ?_
        refine js_iload_n rfl ?_
        obtain ⟨hb3, hf⟩ := jg_some hf
        refine js_iald rfl hb3 ?_
        refine js_iconst (v := (1 : Int32)) rfl ?_
        refine js_iadd ?_
        refine js_max rfl ?_
        obtain ⟨hb5, hf⟩ := jg_some hf
        refine js_iast rfl hb5 ?_
        exact jS_out rfl ⟨rfl, rfl, rfl⟩ rfl (t_TT_lengthensChain_45 hd (fun l1 l2 w M res hf => ih l1 l2 w M hf) _ _ _ _ hf)
def f_TT_lengthensChain (a1 : Int32) (M : jp_M) : Option (jp_M) :=
  f_TT_lengthensChain_2 jFu a1 (0 : Int32) M
theorem t_TT_lengthensChain {Ln : Nat} {xs : Nat → Int32} {sv : jp_V} {a1 : Int32} {w : Nat} {M : jp_M} {res : jp_M} (hf : f_TT_lengthensChain a1 M = some res) : jE (jZ (jK Ln xs sv)) 1 84 [(.inr (some 61)), (.inl a1)] (jSH w) M (none, jSH w, res) := by
  unfold f_TT_lengthensChain at hf
  refine jE_in (L0 := [some (.inr (some 61)), some (.inl a1), none]) rfl (Nat.le_of_ble_eq_true rfl) rfl (fun d hd => ?_)
  refine jR_in rfl ⟨rfl, rfl, rfl⟩ rfl ?_
  refine js_iconst (v := (0 : Int32)) rfl ?_
  refine js_istore_n rfl rfl ?_
  exact jS_out rfl ⟨rfl, rfl, rfl⟩ rfl (t_TT_lengthensChain_2 hd jFu _ _ _ _ hf)
/-! SwallowsAir$ToldThought.layers()I -/
def f_TT_layers_43  : Nat → (Int32 → Int32 → jp_M → Option (Int32 × jp_M)) → Int32 → Int32 → Int32 → jp_M → Option (Int32 × jp_M)
  | 0, _, _, _, _, _ => none
  | n + 1, c18, l1, l2, l3, M =>
    if jp_c .ge l3 (M 19 1) = true then (
    c18 l1 (l2 + (1 : Int32)) M) else (
    (f_TT_lengthensChain l3 M).bind fun q1 => (
    jg (jp_in l3 10) (
    f_TT_layers_43 n c18 (jp_max l1 (q1 63 (Int32.toNatClampNeg l3))) l2 (l3 + (1 : Int32)) q1)))
theorem t_TT_layers_43 {Ln : Nat} {xs : Nat → Int32} {sv : jp_V} {d : Nat} (hd : 2 ≤ d) {c18 : Int32 → Int32 → jp_M → Option (Int32 × jp_M)} (hc18 : ∀ (l1 : Int32) (l2 : Int32) (o3 : Option jp_V) (w : Nat) (M : jp_M) (res : Int32 × jp_M), c18 l1 l2 M = some res → jR (jZ (jK Ln xs sv)) d 83 30 ([some (.inr (some 61)), some (.inl l1), some (.inl l2), o3], [], jSH w, M) (some (.inl res.1), jSH w, res.2)) : ∀ (n : Nat) (l1 : Int32) (l2 : Int32) (l3 : Int32) (w : Nat) (M : jp_M) {res : Int32 × jp_M}, f_TT_layers_43 n c18 l1 l2 l3 M = some res → jR (jZ (jK Ln xs sv)) d 83 43 ([some (.inr (some 61)), some (.inl l1), some (.inl l2), some (.inl l3)], [], jSH w, M) (some (.inl res.1), jSH w, res.2) := by
  intro n
  induction n with
  | zero =>
    intro l1 l2 l3 w M res hf
    cases hf
  | succ n ih =>
    intro l1 l2 l3 w M res hf
    rw [f_TT_layers_43] at hf
    refine jR_in rfl ⟨rfl, rfl, rfl⟩ rfl ?_
    refine js_iload_n rfl ?_
    refine js_aload_n rfl ?_
    refine js_getr rfl rfl rfl ?_
    refine js_geti rfl rfl rfl ?_
    refine js_icmp (tgt := 76) rfl rfl (fun h => ?_) (fun h => ?_)
    · have hf := jif_t hf h
      refine jR_in rfl ⟨rfl, rfl, rfl⟩ rfl ?_
      refine js_iinc (v := (1 : Int32)) rfl rfl rfl rfl ?_
      refine js_goto (tgt := 30) rfl rfl ?_
      exact hc18 _ _ _ _ _ _ hf
    · have hf := jif_f hf h
      refine js_aload_n rfl ?_
      refine js_iload_n rfl ?_
      obtain ⟨q1, hc_1, hf⟩ := jbind hf
      refine js_c2v (w := 0) rfl rfl ⟨rfl, rfl⟩ rfl rfl (t_TT_lengthensChain hc_1) (by omega) ?_
      refine js_iload_n rfl ?_
      refine js_aload_n rfl ?_
      refine js_getr rfl rfl rfl ?_
      refine js_iload_n rfl ?_
      obtain ⟨hb2, hf⟩ := jg_some hf
      refine js_iald rfl hb2 ?_
      refine js_max rfl ?_
      refine js_istore_n rfl rfl ?_
      refine js_iinc (v := (1 : Int32)) rfl rfl rfl rfl ?_
      refine js_goto (tgt := 43) rfl rfl ?_
      exact ih _ _ _ _ _ hf
def f_TT_layers_30  : Nat → Int32 → Int32 → jp_M → Option (Int32 × jp_M)
  | 0, _, _, _ => none
  | n + 1, l1, l2, M =>
    if jp_c .ge l2 (M 19 1) = true then (
    some (l1, M)) else (
    f_TT_layers_43 jFu (f_TT_layers_30 n ) l1 l2 (0 : Int32) M)
theorem t_TT_layers_30 {Ln : Nat} {xs : Nat → Int32} {sv : jp_V} {d : Nat} (hd : 2 ≤ d)  : ∀ (n : Nat) (l1 : Int32) (l2 : Int32) (o3 : Option jp_V) (w : Nat) (M : jp_M) {res : Int32 × jp_M}, f_TT_layers_30 n  l1 l2 M = some res → jR (jZ (jK Ln xs sv)) d 83 30 ([some (.inr (some 61)), some (.inl l1), some (.inl l2), o3], [], jSH w, M) (some (.inl res.1), jSH w, res.2) := by
  intro n
  induction n with
  | zero =>
    intro l1 l2 o3 w M res hf
    cases hf
  | succ n ih =>
    intro l1 l2 o3 w M res hf
    rw [f_TT_layers_30] at hf
    refine jR_in rfl ⟨rfl, rfl, rfl⟩ rfl ?_
    refine js_iload_n rfl ?_
    refine js_aload_n rfl ?_
    refine js_getr rfl rfl rfl ?_
    refine js_geti rfl rfl rfl ?_
    refine js_icmp (tgt := 82) rfl rfl (fun h => ?_) (fun h => ?_)
    · have hf := jif_t hf h
      refine jR_in rfl ⟨rfl, rfl, rfl⟩ rfl ?_
      refine js_iload_n rfl ?_
      obtain rfl := Option.some.inj hf
      exact js_iret rfl rfl
    · have hf := jif_f hf h
      refine js_iconst (v := (0 : Int32)) rfl ?_
      refine js_istore_n rfl rfl ?_
      exact jS_out rfl ⟨rfl, rfl, rfl⟩ rfl (t_TT_layers_43 hd (fun l1 l2 o3 w M res hf => ih l1 l2 o3 w M hf) jFu _ _ _ _ _ hf)
def f_TT_layers_4  : Nat → Int32 → Int32 → jp_M → Option (Int32 × jp_M)
  | 0, _, _, _ => none
  | n + 1, l1, l2, M =>
    if jp_c .ge l2 (M 19 1) = true then (
    f_TT_layers_30 jFu l1 (0 : Int32) M) else (
    jg (jp_in l2 10) (
    let M1 := jp_set M 63 (upd (M 63) (Int32.toNatClampNeg l2) (1 : Int32))
    f_TT_layers_4 n l1 (l2 + (1 : Int32)) M1))
theorem t_TT_layers_4 {Ln : Nat} {xs : Nat → Int32} {sv : jp_V} {d : Nat} (hd : 2 ≤ d)  : ∀ (n : Nat) (l1 : Int32) (l2 : Int32) (o3 : Option jp_V) (w : Nat) (M : jp_M) {res : Int32 × jp_M}, f_TT_layers_4 n  l1 l2 M = some res → jR (jZ (jK Ln xs sv)) d 83 4 ([some (.inr (some 61)), some (.inl l1), some (.inl l2), o3], [], jSH w, M) (some (.inl res.1), jSH w, res.2) := by
  intro n
  induction n with
  | zero =>
    intro l1 l2 o3 w M res hf
    cases hf
  | succ n ih =>
    intro l1 l2 o3 w M res hf
    rw [f_TT_layers_4] at hf
    refine jR_in rfl ⟨rfl, rfl, rfl⟩ rfl ?_
    refine js_iload_n rfl ?_
    refine js_aload_n rfl ?_
    refine js_getr rfl rfl rfl ?_
    refine js_geti rfl rfl rfl ?_
    refine js_icmp (tgt := 28) rfl rfl (fun h => ?_) (fun h => ?_)
    · have hf := jif_t hf h
      refine jR_in rfl ⟨rfl, rfl, rfl⟩ rfl ?_
      refine js_iconst (v := (0 : Int32)) rfl ?_
      refine js_istore_n rfl rfl ?_
      exact jS_out rfl ⟨rfl, rfl, rfl⟩ rfl (t_TT_layers_30 hd jFu _ _ _ _ _ hf)
    · have hf := jif_f hf h
      refine js_aload_n rfl ?_
      refine js_getr rfl rfl rfl ?_
      refine js_iload_n rfl ?_
      refine js_iconst (v := (1 : Int32)) rfl ?_
      obtain ⟨hb2, hf⟩ := jg_some hf
      refine js_iast rfl hb2 ?_
      refine js_iinc (v := (1 : Int32)) rfl rfl rfl rfl ?_
      refine js_goto (tgt := 4) rfl rfl ?_
      exact ih _ _ _ _ _ hf
def f_TT_layers (M : jp_M) : Option (Int32 × jp_M) :=
  f_TT_layers_4 jFu (0 : Int32) (0 : Int32) M
theorem t_TT_layers {Ln : Nat} {xs : Nat → Int32} {sv : jp_V} {w : Nat} {M : jp_M} {res : Int32 × jp_M} (hf : f_TT_layers M = some res) : jE (jZ (jK Ln xs sv)) 2 83 [(.inr (some 61))] (jSH w) M (some (.inl res.1), jSH w, res.2) := by
  unfold f_TT_layers at hf
  refine jE_in (L0 := [some (.inr (some 61)), none, none, none]) rfl (Nat.le_of_ble_eq_true rfl) rfl (fun d hd => ?_)
  refine jR_in rfl ⟨rfl, rfl, rfl⟩ rfl ?_
  refine js_iconst (v := (0 : Int32)) rfl ?_
  refine js_istore_n rfl rfl ?_
  refine js_iconst (v := (0 : Int32)) rfl ?_
  refine js_istore_n rfl rfl ?_
  exact jS_out rfl ⟨rfl, rfl, rfl⟩ rfl (t_TT_layers_4 hd jFu _ _ _ _ _ hf)
/-! SwallowsAir$ToldThought.crossings()I -/
def f_TT_crossings_40 (c4 : Int32 → Int32 → jp_M → Option (Int32)) (c11 : Int32 → Int32 → Int32 → jp_M → Option (Int32)) (l1 : Int32) (l2 : Int32) (l3 : Int32) (M : jp_M) : Option (Int32) :=
  c11 l1 l2 (l3 + (1 : Int32)) M
theorem t_TT_crossings_40 {Ln : Nat} {xs : Nat → Int32} {sv : jp_V} {d : Nat} (hd : 1 ≤ d) {c4 : Int32 → Int32 → jp_M → Option (Int32)} (hc4 : ∀ (l1 : Int32) (l2 : Int32) (o3 : Option jp_V) (w : Nat) (M : jp_M) (res : Int32), c4 l1 l2 M = some res → jR (jZ (jK Ln xs sv)) d 81 4 ([some (.inr (some 61)), some (.inl l1), some (.inl l2), o3], [], jSH w, M) (some (.inl res), jSH w, M)) {c11 : Int32 → Int32 → Int32 → jp_M → Option (Int32)} (hc11 : ∀ (l1 : Int32) (l2 : Int32) (l3 : Int32) (w : Nat) (M : jp_M) (res : Int32), c11 l1 l2 l3 M = some res → jR (jZ (jK Ln xs sv)) d 81 17 ([some (.inr (some 61)), some (.inl l1), some (.inl l2), some (.inl l3)], [], jSH w, M) (some (.inl res), jSH w, M)) (l1 : Int32) (l2 : Int32) (l3 : Int32) (w : Nat) (M : jp_M) {res : Int32} (hf : f_TT_crossings_40 c4 c11 l1 l2 l3 M = some res) : jR (jZ (jK Ln xs sv)) d 81 40 ([some (.inr (some 61)), some (.inl l1), some (.inl l2), some (.inl l3)], [], jSH w, M) (some (.inl res), jSH w, M) := by
  unfold f_TT_crossings_40 at hf
  refine jR_in rfl ⟨rfl, rfl, rfl⟩ rfl ?_
  refine js_iinc (v := (1 : Int32)) rfl rfl rfl rfl ?_
  refine js_goto (tgt := 17) rfl rfl ?_
  exact hc11 _ _ _ _ _ _ hf
def f_TT_crossings_17  : Nat → (Int32 → Int32 → jp_M → Option (Int32)) → Int32 → Int32 → Int32 → jp_M → Option (Int32)
  | 0, _, _, _, _, _ => none
  | n + 1, c4, l1, l2, l3, M =>
    if jp_c .ge l3 (M 19 1) = true then (
    c4 l1 (l2 + (1 : Int32)) M) else (
    (f_TT_crosses l2 l3 M).bind fun q1 => (
    if jp_c .eq q1 0 = true then (
    f_TT_crossings_40 c4 (f_TT_crossings_17 n c4) l1 l2 l3 M) else (
    f_TT_crossings_40 c4 (f_TT_crossings_17 n c4) (l1 + (1 : Int32)) l2 l3 M)))
theorem t_TT_crossings_17 {Ln : Nat} {xs : Nat → Int32} {sv : jp_V} {d : Nat} (hd : 1 ≤ d) {c4 : Int32 → Int32 → jp_M → Option (Int32)} (hc4 : ∀ (l1 : Int32) (l2 : Int32) (o3 : Option jp_V) (w : Nat) (M : jp_M) (res : Int32), c4 l1 l2 M = some res → jR (jZ (jK Ln xs sv)) d 81 4 ([some (.inr (some 61)), some (.inl l1), some (.inl l2), o3], [], jSH w, M) (some (.inl res), jSH w, M)) : ∀ (n : Nat) (l1 : Int32) (l2 : Int32) (l3 : Int32) (w : Nat) (M : jp_M) {res : Int32}, f_TT_crossings_17 n c4 l1 l2 l3 M = some res → jR (jZ (jK Ln xs sv)) d 81 17 ([some (.inr (some 61)), some (.inl l1), some (.inl l2), some (.inl l3)], [], jSH w, M) (some (.inl res), jSH w, M) := by
  intro n
  induction n with
  | zero =>
    intro l1 l2 l3 w M res hf
    cases hf
  | succ n ih =>
    intro l1 l2 l3 w M res hf
    rw [f_TT_crossings_17] at hf
    refine jR_in rfl ⟨rfl, rfl, rfl⟩ rfl ?_
    refine js_iload_n rfl ?_
    refine js_aload_n rfl ?_
    refine js_getr rfl rfl rfl ?_
    refine js_geti rfl rfl rfl ?_
    refine js_icmp (tgt := 46) rfl rfl (fun h => ?_) (fun h => ?_)
    · have hf := jif_t hf h
      refine jR_in rfl ⟨rfl, rfl, rfl⟩ rfl ?_
      refine js_iinc (v := (1 : Int32)) rfl rfl rfl rfl ?_
      refine js_goto (tgt := 4) rfl rfl ?_
      exact hc4 _ _ _ _ _ _ hf
    · have hf := jif_f hf h
      refine js_aload_n rfl ?_
      refine js_iload_n rfl ?_
      refine js_iload_n rfl ?_
      obtain ⟨q1, hc_1, hf⟩ := jbind hf
      refine js_c3i rfl rfl ⟨rfl, rfl⟩ rfl rfl (t_TT_crosses hc_1) (by omega) ?_
      refine js_ifc (tgt := 40) rfl rfl (fun h => ?_) (fun h => ?_)
      · have hf := jif_t hf h
        exact t_TT_crossings_40 hd hc4 (fun l1 l2 l3 w M res hf => ih l1 l2 l3 w M hf) _ _ _ _ _ hf
      · have hf := jif_f hf h
        refine js_iinc (v := (1 : Int32)) rfl rfl rfl rfl ?_
        exact jS_out rfl ⟨rfl, rfl, rfl⟩ rfl (t_TT_crossings_40 hd hc4 (fun l1 l2 l3 w M res hf => ih l1 l2 l3 w M hf) _ _ _ _ _ hf)
def f_TT_crossings_4  : Nat → Int32 → Int32 → jp_M → Option (Int32)
  | 0, _, _, _ => none
  | n + 1, l1, l2, M =>
    if jp_c .ge l2 (M 19 1) = true then (
    some l1) else (
    f_TT_crossings_17 jFu (f_TT_crossings_4 n ) l1 l2 (0 : Int32) M)
theorem t_TT_crossings_4 {Ln : Nat} {xs : Nat → Int32} {sv : jp_V} {d : Nat} (hd : 1 ≤ d)  : ∀ (n : Nat) (l1 : Int32) (l2 : Int32) (o3 : Option jp_V) (w : Nat) (M : jp_M) {res : Int32}, f_TT_crossings_4 n  l1 l2 M = some res → jR (jZ (jK Ln xs sv)) d 81 4 ([some (.inr (some 61)), some (.inl l1), some (.inl l2), o3], [], jSH w, M) (some (.inl res), jSH w, M) := by
  intro n
  induction n with
  | zero =>
    intro l1 l2 o3 w M res hf
    cases hf
  | succ n ih =>
    intro l1 l2 o3 w M res hf
    rw [f_TT_crossings_4] at hf
    refine jR_in rfl ⟨rfl, rfl, rfl⟩ rfl ?_
    refine js_iload_n rfl ?_
    refine js_aload_n rfl ?_
    refine js_getr rfl rfl rfl ?_
    refine js_geti rfl rfl rfl ?_
    refine js_icmp (tgt := 52) rfl rfl (fun h => ?_) (fun h => ?_)
    · have hf := jif_t hf h
      refine jR_in rfl ⟨rfl, rfl, rfl⟩ rfl ?_
      refine js_iload_n rfl ?_
      obtain rfl := Option.some.inj hf
      exact js_iret rfl rfl
    · have hf := jif_f hf h
      refine js_iconst (v := (0 : Int32)) rfl ?_
      refine js_istore_n rfl rfl ?_
      exact jS_out rfl ⟨rfl, rfl, rfl⟩ rfl (t_TT_crossings_17 hd (fun l1 l2 o3 w M res hf => ih l1 l2 o3 w M hf) jFu _ _ _ _ _ hf)
def f_TT_crossings (M : jp_M) : Option (Int32) :=
  f_TT_crossings_4 jFu (0 : Int32) (0 : Int32) M
theorem t_TT_crossings {Ln : Nat} {xs : Nat → Int32} {sv : jp_V} {w : Nat} {M : jp_M} {res : Int32} (hf : f_TT_crossings M = some res) : jE (jZ (jK Ln xs sv)) 1 81 [(.inr (some 61))] (jSH w) M (some (.inl res), jSH w, M) := by
  unfold f_TT_crossings at hf
  refine jE_in (L0 := [some (.inr (some 61)), none, none, none]) rfl (Nat.le_of_ble_eq_true rfl) rfl (fun d hd => ?_)
  refine jR_in rfl ⟨rfl, rfl, rfl⟩ rfl ?_
  refine js_iconst (v := (0 : Int32)) rfl ?_
  refine js_istore_n rfl rfl ?_
  refine js_iconst (v := (0 : Int32)) rfl ?_
  refine js_istore_n rfl rfl ?_
  exact jS_out rfl ⟨rfl, rfl, rfl⟩ rfl (t_TT_crossings_4 hd jFu _ _ _ _ _ hf)
/-! SwallowsAir.strings(I)I -/
def f_C_strings (a1 : Int32) (M : jp_M) : Option (Int32 × jp_M) :=
  if a1 = (0 : Int32) then (
  (f_TT_crossings M).bind fun q1 => (
  some (q1, M))) else if a1 = (1 : Int32) then (
  (f_TT_layers M).bind fun q2 => (
  some (q2.1, q2.2))) else (
  some ((-1 : Int32), M))
theorem t_C_strings {Ln : Nat} {xs : Nat → Int32} {sv : jp_V} {a1 : Int32} {w : Nat} {M : jp_M} {res : Int32 × jp_M} (hf : f_C_strings a1 M = some res) : jE (jZ (jK Ln xs sv)) 3 137 [(.inr (some 0)), (.inl a1)] (jSH w) M (some (.inl res.1), jSH w, res.2) := by
  unfold f_C_strings at hf
  refine jE_in (L0 := [some (.inr (some 0)), some (.inl a1)]) rfl (Nat.le_of_ble_eq_true rfl) rfl (fun d hd => ?_)
  refine jR_in rfl ⟨rfl, rfl, rfl⟩ rfl ?_
  refine js_iload_n rfl ?_
  rcases jif_d hf with ⟨hk, hf⟩ | ⟨hk0, hf⟩
  · refine js_look (off := 27) (tgt := 28) rfl (by rw [hk]; rfl) rfl rfl ?_
    refine jR_in rfl ⟨rfl, rfl, rfl⟩ rfl ?_
    refine js_aload_n rfl ?_
    refine js_getr rfl rfl rfl ?_
    obtain ⟨q1, hc_1, hf⟩ := jbind hf
    refine js_c1i rfl rfl ⟨rfl, rfl⟩ rfl rfl (t_TT_crossings hc_1) (by omega) ?_
    obtain rfl := Option.some.inj hf
    exact js_iret rfl rfl
  · rcases jif_d hf with ⟨hk, hf⟩ | ⟨hk1, hf⟩
    · refine js_look (off := 35) (tgt := 36) rfl (by rw [hk]; rfl) rfl rfl ?_
      refine jR_in rfl ⟨rfl, rfl, rfl⟩ rfl ?_
      refine js_aload_n rfl ?_
      refine js_getr rfl rfl rfl ?_
      obtain ⟨q2, hc_2, hf⟩ := jbind hf
      refine js_c1i rfl rfl ⟨rfl, rfl⟩ rfl rfl (t_TT_layers hc_2) (by omega) ?_
      obtain rfl := Option.some.inj hf
      exact js_iret rfl rfl
    · refine js_look (off := 43) (tgt := 44) rfl (jsw_6 hk0 hk1) rfl rfl ?_
      refine jR_in rfl ⟨rfl, rfl, rfl⟩ rfl ?_
      refine js_iconst (v := (-1 : Int32)) rfl ?_
      obtain rfl := Option.some.inj hf
      exact js_iret rfl rfl
/-! SwallowsAir.way(III)Z -/
def f_C_way (a1 : Int32) (a2 : Int32) (a3 : Int32) (M : jp_M) : Option (Int32 × jp_M) :=
  if jp_c .eq (f_C_within a1 (5 : Int32)) 0 = true then (
  some ((0 : Int32), M)) else (
  if jp_c .eq (f_C_within a2 (5 : Int32)) 0 = true then (
  some ((0 : Int32), M)) else (
  if jp_c .ne (f_C_within a3 (99 : Int32)) 0 = true then (
  jg (jp_in (((6 : Int32) * a1) + a2) 36) (
  let M4 := jp_set M 23 (upd (M 23) (Int32.toNatClampNeg (((6 : Int32) * a1) + a2)) a3)
  some ((1 : Int32), M4))) else (
  some ((0 : Int32), M))))
theorem t_C_way {Ln : Nat} {xs : Nat → Int32} {sv : jp_V} {a1 : Int32} {a2 : Int32} {a3 : Int32} {w : Nat} {M : jp_M} {res : Int32 × jp_M} (hf : f_C_way a1 a2 a3 M = some res) : jE (jZ (jK Ln xs sv)) 1 138 [(.inr (some 0)), (.inl a1), (.inl a2), (.inl a3)] (jSH w) M (some (.inl res.1), jSH w, res.2) := by
  unfold f_C_way at hf
  refine jE_in (L0 := [some (.inr (some 0)), some (.inl a1), some (.inl a2), some (.inl a3)]) rfl (Nat.le_of_ble_eq_true rfl) rfl (fun d hd => ?_)
  refine jR_in rfl ⟨rfl, rfl, rfl⟩ rfl ?_
  refine js_iload_n rfl ?_
  refine js_iconst (v := (5 : Int32)) rfl ?_
  refine js_c2i rfl rfl ⟨rfl, rfl⟩ rfl rfl (t_C_within rfl) (by omega) ?_
  refine js_ifc (tgt := 25) rfl rfl (fun h => ?_) (fun h => ?_)
  · have hf := jif_t hf h
    refine jR_in rfl ⟨rfl, rfl, rfl⟩ rfl ?_
    refine js_iconst (v := (0 : Int32)) rfl ?_
    obtain rfl := Option.some.inj hf
    exact js_iret rfl rfl
  · have hf := jif_f hf h
    refine js_iload_n rfl ?_
    refine js_iconst (v := (5 : Int32)) rfl ?_
    refine js_c2i rfl rfl ⟨rfl, rfl⟩ rfl rfl (t_C_within rfl) (by omega) ?_
    refine js_ifc (tgt := 25) rfl rfl (fun h => ?_) (fun h => ?_)
    · have hf := jif_t hf h
      refine jR_in rfl ⟨rfl, rfl, rfl⟩ rfl ?_
      refine js_iconst (v := (0 : Int32)) rfl ?_
      obtain rfl := Option.some.inj hf
      exact js_iret rfl rfl
    · have hf := jif_f hf h
      refine js_iload_n rfl ?_
      refine js_bipush (v := (99 : Int32)) rfl ?_
      refine js_c2i rfl rfl ⟨rfl, rfl⟩ rfl rfl (t_C_within rfl) (by omega) ?_
      refine js_ifc (tgt := 27) rfl rfl (fun h => ?_) (fun h => ?_)
      · have hf := jif_t hf h
        refine jR_in rfl ⟨rfl, rfl, rfl⟩ rfl ?_
        refine js_aload_n rfl ?_
        refine js_getr rfl rfl rfl ?_
        refine js_getr rfl rfl rfl ?_
        refine js_getr rfl rfl rfl ?_
        refine js_bipush (v := (6 : Int32)) rfl ?_
        refine js_iload_n rfl ?_
        refine js_imul ?_
        refine js_iload_n rfl ?_
        refine js_iadd ?_
        refine js_iload_n rfl ?_
        obtain ⟨hb5, hf⟩ := jg_some hf
        refine js_iast rfl hb5 ?_
        refine js_iconst (v := (1 : Int32)) rfl ?_
        obtain rfl := Option.some.inj hf
        exact js_iret rfl rfl
      · have hf := jif_f hf h
        refine js_iconst (v := (0 : Int32)) rfl ?_
        obtain rfl := Option.some.inj hf
        exact js_iret rfl rfl
theorem b_C_way {a1 : Int32} {a2 : Int32} {a3 : Int32} {M : jp_M} {res : Int32 × jp_M} (hf : f_C_way a1 a2 a3 M = some res) : res.1 = 0 ∨ res.1 = 1 := by
  unfold f_C_way at hf
  rcases jif_d hf with ⟨h, hf⟩ | ⟨h, hf⟩
  · obtain rfl := Option.some.inj hf
    exact Or.inl rfl
  · rcases jif_d hf with ⟨h, hf⟩ | ⟨h, hf⟩
    · obtain rfl := Option.some.inj hf
      exact Or.inl rfl
    · rcases jif_d hf with ⟨h, hf⟩ | ⟨h, hf⟩
      · obtain ⟨hb5, hf⟩ := jg_some hf
        obtain rfl := Option.some.inj hf
        exact Or.inr rfl
      · obtain rfl := Option.some.inj hf
        exact Or.inl rfl
/-! java/lang/Integer.bitCount(I)I -/
def f_JI_bitCount (a0 : Int32) : Int32 :=
  ((((((((a0 - ((jp_ushr a0 (1 : Int32)) &&& (1431655765 : Int32))) &&& (858993459 : Int32)) + ((jp_ushr (a0 - ((jp_ushr a0 (1 : Int32)) &&& (1431655765 : Int32))) (2 : Int32)) &&& (858993459 : Int32))) + (jp_ushr (((a0 - ((jp_ushr a0 (1 : Int32)) &&& (1431655765 : Int32))) &&& (858993459 : Int32)) + ((jp_ushr (a0 - ((jp_ushr a0 (1 : Int32)) &&& (1431655765 : Int32))) (2 : Int32)) &&& (858993459 : Int32))) (4 : Int32))) &&& (252645135 : Int32)) + (jp_ushr (((((a0 - ((jp_ushr a0 (1 : Int32)) &&& (1431655765 : Int32))) &&& (858993459 : Int32)) + ((jp_ushr (a0 - ((jp_ushr a0 (1 : Int32)) &&& (1431655765 : Int32))) (2 : Int32)) &&& (858993459 : Int32))) + (jp_ushr (((a0 - ((jp_ushr a0 (1 : Int32)) &&& (1431655765 : Int32))) &&& (858993459 : Int32)) + ((jp_ushr (a0 - ((jp_ushr a0 (1 : Int32)) &&& (1431655765 : Int32))) (2 : Int32)) &&& (858993459 : Int32))) (4 : Int32))) &&& (252645135 : Int32)) (8 : Int32))) + (jp_ushr ((((((a0 - ((jp_ushr a0 (1 : Int32)) &&& (1431655765 : Int32))) &&& (858993459 : Int32)) + ((jp_ushr (a0 - ((jp_ushr a0 (1 : Int32)) &&& (1431655765 : Int32))) (2 : Int32)) &&& (858993459 : Int32))) + (jp_ushr (((a0 - ((jp_ushr a0 (1 : Int32)) &&& (1431655765 : Int32))) &&& (858993459 : Int32)) + ((jp_ushr (a0 - ((jp_ushr a0 (1 : Int32)) &&& (1431655765 : Int32))) (2 : Int32)) &&& (858993459 : Int32))) (4 : Int32))) &&& (252645135 : Int32)) + (jp_ushr (((((a0 - ((jp_ushr a0 (1 : Int32)) &&& (1431655765 : Int32))) &&& (858993459 : Int32)) + ((jp_ushr (a0 - ((jp_ushr a0 (1 : Int32)) &&& (1431655765 : Int32))) (2 : Int32)) &&& (858993459 : Int32))) + (jp_ushr (((a0 - ((jp_ushr a0 (1 : Int32)) &&& (1431655765 : Int32))) &&& (858993459 : Int32)) + ((jp_ushr (a0 - ((jp_ushr a0 (1 : Int32)) &&& (1431655765 : Int32))) (2 : Int32)) &&& (858993459 : Int32))) (4 : Int32))) &&& (252645135 : Int32)) (8 : Int32))) (16 : Int32))) &&& (63 : Int32))
theorem t_JI_bitCount {Ln : Nat} {xs : Nat → Int32} {sv : jp_V} {a0 : Int32} {w : Nat} {M : jp_M} {res : Int32} (hf : f_JI_bitCount a0 = res) : jE (jZ (jK Ln xs sv)) 0 302 [(.inl a0)] (jSH w) M (some (.inl res), jSH w, M) := by
  unfold f_JI_bitCount at hf
  refine jE_in (L0 := [some (.inl a0)]) rfl (Nat.le_of_ble_eq_true rfl) rfl (fun d hd => ?_)
  refine jR_in rfl ⟨rfl, rfl, rfl⟩ rfl ?_
  refine js_iload_n rfl ?_
  refine js_iload_n rfl ?_
  refine js_iconst (v := (1 : Int32)) rfl ?_
  refine js_iushr ?_
  refine js_ldcw (v := (1431655765 : Int32)) rfl ?_
  refine js_iand ?_
  refine js_isub ?_
  refine js_istore_n rfl rfl ?_
  refine js_iload_n rfl ?_
  refine js_ldcw (v := (858993459 : Int32)) rfl ?_
  refine js_iand ?_
  refine js_iload_n rfl ?_
  refine js_iconst (v := (2 : Int32)) rfl ?_
  refine js_iushr ?_
  refine js_ldcw (v := (858993459 : Int32)) rfl ?_
  refine js_iand ?_
  refine js_iadd ?_
  refine js_istore_n rfl rfl ?_
  refine js_iload_n rfl ?_
  refine js_iload_n rfl ?_
  refine js_iconst (v := (4 : Int32)) rfl ?_
  refine js_iushr ?_
  refine js_iadd ?_
  refine js_ldcw (v := (252645135 : Int32)) rfl ?_
  refine js_iand ?_
  refine js_istore_n rfl rfl ?_
  refine js_iload_n rfl ?_
  refine js_iload_n rfl ?_
  refine js_bipush (v := (8 : Int32)) rfl ?_
  refine js_iushr ?_
  refine js_iadd ?_
  refine js_istore_n rfl rfl ?_
  refine js_iload_n rfl ?_
  refine js_iload_n rfl ?_
  refine js_bipush (v := (16 : Int32)) rfl ?_
  refine js_iushr ?_
  refine js_iadd ?_
  refine js_istore_n rfl rfl ?_
  refine js_iload_n rfl ?_
  refine js_bipush (v := (63 : Int32)) rfl ?_
  refine js_iand ?_
  subst hf
  exact js_iret rfl rfl
/-! SwallowsAir$ToldThought.costOf(III)I -/
def f_TT_costOf_53  (l4 : Int32) (l5 : Int32) (s0 : Int32) (M : jp_M) : Option (Int32) :=
  if jp_c .eq s0 0 = true then (
  some (594 : Int32)) else (
  jg (jp_in l4 36) (
  jg (jp_in l5 64) (
  some ((M 23 (Int32.toNatClampNeg l4)) + (M 64 (Int32.toNatClampNeg l5))))))
theorem t_TT_costOf_53 {Ln : Nat} {xs : Nat → Int32} {sv : jp_V} {d : Nat} (hd : 1 ≤ d)  (l4 : Int32) (l5 : Int32) (s0 : Int32) (o1 : Option jp_V) (o2 : Option jp_V) (o3 : Option jp_V) (o6 : Option jp_V) (w : Nat) (M : jp_M) {res : Int32} (hf : f_TT_costOf_53  l4 l5 s0 M = some res) : jR (jZ (jK Ln xs sv)) d 86 53 ([some (.inr (some 61)), o1, o2, o3, some (.inl l4), some (.inl l5), o6], [.inl s0], jSH w, M) (some (.inl res), jSH w, M) := by
  unfold f_TT_costOf_53 at hf
  refine jR_in rfl ⟨rfl, rfl, rfl⟩ rfl ?_
  refine js_istore rfl rfl ?_
  refine js_iload rfl ?_
  refine js_ifc (tgt := 81) rfl rfl (fun h => ?_) (fun h => ?_)
  · have hf := jif_t hf h
    refine jR_in rfl ⟨rfl, rfl, rfl⟩ rfl ?_
    refine js_sipush (v := (594 : Int32)) rfl ?_
    obtain rfl := Option.some.inj hf
    exact js_iret rfl rfl
  · have hf := jif_f hf h
    refine js_aload_n rfl ?_
    refine js_getr rfl rfl rfl ?_
    refine js_getr rfl rfl rfl ?_
    refine js_iload rfl ?_
    obtain ⟨hb1, hf⟩ := jg_some hf
    refine js_iald rfl hb1 ?_
    refine js_aload_n rfl ?_
    refine js_getr rfl rfl rfl ?_
    refine js_iload rfl ?_
    obtain ⟨hb2, hf⟩ := jg_some hf
    refine js_iald rfl hb2 ?_
    refine js_iadd ?_
    refine js_goto (tgt := 84) rfl rfl ?_
    refine jR_in rfl ⟨rfl, rfl, rfl⟩ rfl ?_
    obtain rfl := Option.some.inj hf
    exact js_iret rfl rfl
def f_TT_costOf_52  (l4 : Int32) (l5 : Int32) (M : jp_M) : Option (Int32) :=
  f_TT_costOf_53 l4 l5 (0 : Int32) M
theorem t_TT_costOf_52 {Ln : Nat} {xs : Nat → Int32} {sv : jp_V} {d : Nat} (hd : 1 ≤ d)  (l4 : Int32) (l5 : Int32) (o1 : Option jp_V) (o2 : Option jp_V) (o3 : Option jp_V) (o6 : Option jp_V) (w : Nat) (M : jp_M) {res : Int32} (hf : f_TT_costOf_52  l4 l5 M = some res) : jR (jZ (jK Ln xs sv)) d 86 52 ([some (.inr (some 61)), o1, o2, o3, some (.inl l4), some (.inl l5), o6], [], jSH w, M) (some (.inl res), jSH w, M) := by
  unfold f_TT_costOf_52 at hf
  refine jR_in rfl ⟨rfl, rfl, rfl⟩ rfl ?_
  refine js_iconst (v := (0 : Int32)) rfl ?_
  exact jS_out rfl ⟨rfl, rfl, rfl⟩ rfl (t_TT_costOf_53 hd _ _ _ _ _ _ _ _ _ hf)
def f_TT_costOf (a1 : Int32) (a2 : Int32) (a3 : Int32) (M : jp_M) : Option (Int32) :=
  if jp_c .eq (f_C_within (((6 : Int32) * a1) + a2) ((36 : Int32) - (1 : Int32))) 0 = true then (
  f_TT_costOf_52 (((6 : Int32) * a1) + a2) (a3 ||| ((1 : Int32) <<< (a2 &&& 31))) M) else (
  if jp_c .eq (f_C_within (a3 ||| ((1 : Int32) <<< (a2 &&& 31))) ((64 : Int32) - (1 : Int32))) 0 = true then (
  f_TT_costOf_52 (((6 : Int32) * a1) + a2) (a3 ||| ((1 : Int32) <<< (a2 &&& 31))) M) else (
  f_TT_costOf_53 (((6 : Int32) * a1) + a2) (a3 ||| ((1 : Int32) <<< (a2 &&& 31))) (1 : Int32) M))
theorem t_TT_costOf {Ln : Nat} {xs : Nat → Int32} {sv : jp_V} {a1 : Int32} {a2 : Int32} {a3 : Int32} {w : Nat} {M : jp_M} {res : Int32} (hf : f_TT_costOf a1 a2 a3 M = some res) : jE (jZ (jK Ln xs sv)) 1 86 [(.inr (some 61)), (.inl a1), (.inl a2), (.inl a3)] (jSH w) M (some (.inl res), jSH w, M) := by
  unfold f_TT_costOf at hf
  refine jE_in (L0 := [some (.inr (some 61)), some (.inl a1), some (.inl a2), some (.inl a3), none, none, none]) rfl (Nat.le_of_ble_eq_true rfl) rfl (fun d hd => ?_)
  refine jR_in rfl ⟨rfl, rfl, rfl⟩ rfl ?_
  refine js_bipush (v := (6 : Int32)) rfl ?_
  refine js_iload_n rfl ?_
  refine js_imul ?_
  refine js_iload_n rfl ?_
  refine js_iadd ?_
  refine js_istore rfl rfl ?_
  refine js_iload_n rfl ?_
  refine js_iconst (v := (1 : Int32)) rfl ?_
  refine js_iload_n rfl ?_
  refine js_ishl ?_
  refine js_ior ?_
  refine js_istore rfl rfl ?_
  refine js_iload rfl ?_
  refine js_aload_n rfl ?_
  refine js_getr rfl rfl rfl ?_
  refine js_getr rfl rfl rfl ?_
  refine js_alen (v := (36 : Int32)) rfl rfl rfl ?_
  refine js_iconst (v := (1 : Int32)) rfl ?_
  refine js_isub ?_
  refine js_c2i rfl rfl ⟨rfl, rfl⟩ rfl rfl (t_C_within rfl) (by omega) ?_
  refine js_ifc (tgt := 52) rfl rfl (fun h => ?_) (fun h => ?_)
  · have hf := jif_t hf h
    exact t_TT_costOf_52 hd _ _ _ _ _ _ _ _ hf
  · have hf := jif_f hf h
    refine js_iload rfl ?_
    refine js_aload_n rfl ?_
    refine js_getr rfl rfl rfl ?_
    refine js_alen (v := (64 : Int32)) rfl rfl rfl ?_
    refine js_iconst (v := (1 : Int32)) rfl ?_
    refine js_isub ?_
    refine js_c2i rfl rfl ⟨rfl, rfl⟩ rfl rfl (t_C_within rfl) (by omega) ?_
    refine js_ifc (tgt := 52) rfl rfl (fun h => ?_) (fun h => ?_)
    · have hf := jif_t hf h
      exact t_TT_costOf_52 hd _ _ _ _ _ _ _ _ hf
    · have hf := jif_f hf h
      refine js_iconst (v := (1 : Int32)) rfl ?_
      refine js_goto (tgt := 53) rfl rfl ?_
      exact t_TT_costOf_53 hd _ _ _ _ _ _ _ _ _ hf
