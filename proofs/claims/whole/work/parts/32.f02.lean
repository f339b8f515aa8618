/-! java/lang/String.isLatin1()Z -/
def f_JS_isLatin1_3  : Int32 :=
  if jp_c .eq (1 : Int32) 0 = true then (
  (0 : Int32)) else (
  if jp_c .ne (0 : Int32) 0 = true then (
  (0 : Int32)) else (
  (1 : Int32)))
theorem t_JS_isLatin1_3 {Ln : Nat} {xs : Nat → Int32} {sv : jp_V} {w : Nat} {M : jp_M} {res : Int32} (hf : f_JS_isLatin1_3  = res) : jE (jZ (jK Ln xs sv)) 0 308 [(.inr (some 1003))] (jSH w) M (some (.inl res), jSH w, M) := by
  unfold f_JS_isLatin1_3 at hf
  refine jE_in (L0 := [some (.inr (some 1003))]) rfl (Nat.le_of_ble_eq_true rfl) rfl (fun d hd => ?_)
  refine jR_in rfl ⟨rfl, rfl, rfl⟩ rfl ?_
  refine js_gets rfl ?_
  refine js_ifc (tgt := 17) rfl rfl (fun h => ?_) (fun h => ?_)
  · have hf := jif_t hf h
    refine jR_in rfl ⟨rfl, rfl, rfl⟩ rfl ?_
    refine js_iconst (v := (0 : Int32)) rfl ?_
    subst hf
    exact js_iret rfl rfl
  · have hf := jif_f hf h
    refine js_aload_n rfl ?_
    refine js_getK rfl rfl ?_
    refine js_ifc (tgt := 17) rfl rfl (fun h => ?_) (fun h => ?_)
    · have hf := jif_t hf h
      refine jR_in rfl ⟨rfl, rfl, rfl⟩ rfl ?_
      refine js_iconst (v := (0 : Int32)) rfl ?_
      subst hf
      exact js_iret rfl rfl
    · have hf := jif_f hf h
      refine js_iconst (v := (1 : Int32)) rfl ?_
      refine js_goto (tgt := 18) rfl rfl ?_
      refine jR_in rfl ⟨rfl, rfl, rfl⟩ rfl ?_
      subst hf
      exact js_iret rfl rfl
theorem b_JS_isLatin1_3  {res : Int32} (hf : f_JS_isLatin1_3  = res) : res = 0 ∨ res = 1 := by
  unfold f_JS_isLatin1_3 at hf
  rcases jif_d hf with ⟨h, hf⟩ | ⟨h, hf⟩
  · subst hf
    exact Or.inl rfl
  · rcases jif_d hf with ⟨h, hf⟩ | ⟨h, hf⟩
    · subst hf
      exact Or.inl rfl
    · subst hf
      exact Or.inr rfl
/-! java/lang/StringLatin1.charAt([BI)C -/
def f_JL_charAt_3 (a1 : Int32) : Option (Int32) :=
  (f_JS_checkIndex a1 (13 : Int32)).bind fun q1 => (
  jg (jp_in a1 13) (
  jg (jp_rok 3 ((Int32.toUInt32 ((jcon 2005 (Int32.toNatClampNeg a1)) &&& (255 : Int32)) % 65536).toInt32) = true) (
  some ((Int32.toUInt32 ((jcon 2005 (Int32.toNatClampNeg a1)) &&& (255 : Int32)) % 65536).toInt32))))
theorem t_JL_charAt_3 {Ln : Nat} {xs : Nat → Int32} {sv : jp_V} {a1 : Int32} {w : Nat} {M : jp_M} {res : Int32} (hf : f_JL_charAt_3 a1 = some res) : jE (jZ (jK Ln xs sv)) 2 310 [(.inr (some 2005)), (.inl a1)] (jSH w) M (some (.inl res), jSH w, M) := by
  unfold f_JL_charAt_3 at hf
  refine jE_in (L0 := [some (.inr (some 2005)), some (.inl a1)]) rfl (Nat.le_of_ble_eq_true rfl) rfl (fun d hd => ?_)
  refine jR_in rfl ⟨rfl, rfl, rfl⟩ rfl ?_
  refine js_iload_n rfl ?_
  refine js_aload_n rfl ?_
  refine js_alenK (v := (13 : Int32)) rfl rfl rfl ?_
  obtain ⟨q1, hc_1, hf⟩ := jbind hf
  refine js_c2v (w := 0) rfl rfl ⟨rfl, rfl⟩ rfl rfl (t_JS_checkIndex hc_1) (by omega) ?_
  refine js_aload_n rfl ?_
  refine js_iload_n rfl ?_
  obtain ⟨hb2, hf⟩ := jg_some hf
  refine js_baldK rfl rfl hb2 ?_
  refine js_sipush (v := (255 : Int32)) rfl ?_
  refine js_iand ?_
  refine js_i2c ?_
  obtain ⟨hb3, hf⟩ := jg_some hf
  obtain rfl := Option.some.inj hf
  exact js_iret hb3 rfl
/-! java/lang/String.charAt(I)C -/
def f_JS_charAt_3 (a1 : Int32) : Option (Int32) :=
  if jp_c .eq (f_JS_isLatin1_3) 0 = true then (
  none) else (
  (f_JL_charAt_3 a1).bind fun q2 => (
  jg (jp_rok 3 q2 = true) (
  some q2)))
theorem t_JS_charAt_3 {Ln : Nat} {xs : Nat → Int32} {sv : jp_V} {a1 : Int32} {w : Nat} {M : jp_M} {res : Int32} (hf : f_JS_charAt_3 a1 = some res) : jE (jZ (jK Ln xs sv)) 3 304 [(.inr (some 1003)), (.inl a1)] (jSH w) M (some (.inl res), jSH w, M) := by
  unfold f_JS_charAt_3 at hf
  refine jE_in (L0 := [some (.inr (some 1003)), some (.inl a1)]) rfl (Nat.le_of_ble_eq_true rfl) rfl (fun d hd => ?_)
  refine jR_in rfl ⟨rfl, rfl, rfl⟩ rfl ?_
  refine js_aload_n rfl ?_
  refine js_c1i rfl rfl ⟨rfl, rfl⟩ rfl rfl (t_JS_isLatin1_3 rfl) (by omega) ?_
  refine js_ifc (tgt := 16) rfl rfl (fun h => ?_) (fun h => ?_)
  · have hf := jif_t hf h
    refine jR_in rfl ⟨rfl, rfl, rfl⟩ rfl ?_
    refine js_aload_n rfl ?_
    refine js_getK rfl rfl ?_
    refine js_iload_n rfl ?_
    cases hf
  · have hf := jif_f hf h
    refine js_aload_n rfl ?_
    refine js_getK rfl rfl ?_
    refine js_iload_n rfl ?_
    obtain ⟨q2, hc_2, hf⟩ := jbind hf
    refine js_c2i rfl rfl ⟨rfl, rfl⟩ rfl rfl (t_JL_charAt_3 hc_2) (by omega) ?_
    obtain ⟨hb3, hf⟩ := jg_some hf
    obtain rfl := Option.some.inj hf
    exact js_iret hb3 rfl
/-! SwallowsAir$Reader.wordNumber()I -/
def f_R_wordNumber_3_101 (c9 : Int32 → Int32 → Int32 → Int32 → jp_M → Option (Int32)) (l1 : Int32) (l2 : Int32) (l3 : Int32) (l4 : Int32) (M : jp_M) : Option (Int32) :=
  c9 l1 l2 l3 (l4 + (1 : Int32)) M
theorem t_R_wordNumber_3_101 {Ln : Nat} {xs : Nat → Int32} {sv : jp_V} {d : Nat} (hd : 4 ≤ d) {c9 : Int32 → Int32 → Int32 → Int32 → jp_M → Option (Int32)} (hc9 : ∀ (l1 : Int32) (l2 : Int32) (l3 : Int32) (l4 : Int32) (o5 : Option jp_V) (M : jp_M) (res : Int32), c9 l1 l2 l3 l4 M = some res → jR (jZ (jK Ln xs sv)) d 71 12 ([some (.inr (some 68)), some (.inl l1), some (.inl l2), some (.inl l3), some (.inl l4), o5], [], jSH 1003, M) (some (.inl res), jSH 1003, M)) (l1 : Int32) (l2 : Int32) (l3 : Int32) (l4 : Int32) (o5 : Option jp_V) (M : jp_M) {res : Int32} (hf : f_R_wordNumber_3_101 c9 l1 l2 l3 l4 M = some res) : jR (jZ (jK Ln xs sv)) d 71 101 ([some (.inr (some 68)), some (.inl l1), some (.inl l2), some (.inl l3), some (.inl l4), o5], [], jSH 1003, M) (some (.inl res), jSH 1003, M) := by
  unfold f_R_wordNumber_3_101 at hf
  refine jR_in rfl ⟨rfl, rfl, rfl⟩ rfl ?_
  refine js_iinc (v := (1 : Int32)) rfl rfl rfl rfl ?_
  refine js_goto (tgt := 12) rfl rfl ?_
  exact hc9 _ _ _ _ _ _ _ hf
def f_R_wordNumber_3_70 (c9 : Int32 → Int32 → Int32 → Int32 → jp_M → Option (Int32)) (l1 : Int32) (l2 : Int32) (l4 : Int32) (s0 : Int32) (M : jp_M) : Option (Int32) :=
  f_R_wordNumber_3_101 c9 l1 (l2 + (1 : Int32)) s0 l4 M
theorem t_R_wordNumber_3_70 {Ln : Nat} {xs : Nat → Int32} {sv : jp_V} {d : Nat} (hd : 4 ≤ d) {c9 : Int32 → Int32 → Int32 → Int32 → jp_M → Option (Int32)} (hc9 : ∀ (l1 : Int32) (l2 : Int32) (l3 : Int32) (l4 : Int32) (o5 : Option jp_V) (M : jp_M) (res : Int32), c9 l1 l2 l3 l4 M = some res → jR (jZ (jK Ln xs sv)) d 71 12 ([some (.inr (some 68)), some (.inl l1), some (.inl l2), some (.inl l3), some (.inl l4), o5], [], jSH 1003, M) (some (.inl res), jSH 1003, M)) (l1 : Int32) (l2 : Int32) (l4 : Int32) (s0 : Int32) (o3 : Option jp_V) (o5 : Option jp_V) (M : jp_M) {res : Int32} (hf : f_R_wordNumber_3_70 c9 l1 l2 l4 s0 M = some res) : jR (jZ (jK Ln xs sv)) d 71 70 ([some (.inr (some 68)), some (.inl l1), some (.inl l2), o3, some (.inl l4), o5], [.inl s0], jSH 1003, M) (some (.inl res), jSH 1003, M) := by
  unfold f_R_wordNumber_3_70 at hf
  refine jR_in rfl ⟨rfl, rfl, rfl⟩ rfl ?_
  refine js_istore_n rfl rfl ?_
  refine js_iinc (v := (1 : Int32)) rfl rfl rfl rfl ?_
  refine js_goto (tgt := 101) rfl rfl ?_
  exact t_R_wordNumber_3_101 hd hc9 _ _ _ _ _ _ hf
def f_R_wordNumber_3_69 (c9 : Int32 → Int32 → Int32 → Int32 → jp_M → Option (Int32)) (l1 : Int32) (l2 : Int32) (l4 : Int32) (M : jp_M) : Option (Int32) :=
  f_R_wordNumber_3_70 c9 l1 l2 l4 (0 : Int32) M
theorem t_R_wordNumber_3_69 {Ln : Nat} {xs : Nat → Int32} {sv : jp_V} {d : Nat} (hd : 4 ≤ d) {c9 : Int32 → Int32 → Int32 → Int32 → jp_M → Option (Int32)} (hc9 : ∀ (l1 : Int32) (l2 : Int32) (l3 : Int32) (l4 : Int32) (o5 : Option jp_V) (M : jp_M) (res : Int32), c9 l1 l2 l3 l4 M = some res → jR (jZ (jK Ln xs sv)) d 71 12 ([some (.inr (some 68)), some (.inl l1), some (.inl l2), some (.inl l3), some (.inl l4), o5], [], jSH 1003, M) (some (.inl res), jSH 1003, M)) (l1 : Int32) (l2 : Int32) (l4 : Int32) (o3 : Option jp_V) (o5 : Option jp_V) (M : jp_M) {res : Int32} (hf : f_R_wordNumber_3_69 c9 l1 l2 l4 M = some res) : jR (jZ (jK Ln xs sv)) d 71 69 ([some (.inr (some 68)), some (.inl l1), some (.inl l2), o3, some (.inl l4), o5], [], jSH 1003, M) (some (.inl res), jSH 1003, M) := by
  unfold f_R_wordNumber_3_69 at hf
  refine jR_in rfl ⟨rfl, rfl, rfl⟩ rfl ?_
  refine js_iconst (v := (0 : Int32)) rfl ?_
  exact jS_out rfl ⟨rfl, rfl, rfl⟩ rfl (t_R_wordNumber_3_70 hd hc9 _ _ _ _ _ _ _ hf)
def f_R_wordNumber_3_91 (c9 : Int32 → Int32 → Int32 → Int32 → jp_M → Option (Int32)) (l1 : Int32) (l4 : Int32) (M : jp_M) : Option (Int32) :=
  f_R_wordNumber_3_101 c9 (l1 + (1 : Int32)) (M 68 3) (1 : Int32) l4 M
theorem t_R_wordNumber_3_91 {Ln : Nat} {xs : Nat → Int32} {sv : jp_V} {d : Nat} (hd : 4 ≤ d) {c9 : Int32 → Int32 → Int32 → Int32 → jp_M → Option (Int32)} (hc9 : ∀ (l1 : Int32) (l2 : Int32) (l3 : Int32) (l4 : Int32) (o5 : Option jp_V) (M : jp_M) (res : Int32), c9 l1 l2 l3 l4 M = some res → jR (jZ (jK Ln xs sv)) d 71 12 ([some (.inr (some 68)), some (.inl l1), some (.inl l2), some (.inl l3), some (.inl l4), o5], [], jSH 1003, M) (some (.inl res), jSH 1003, M)) (l1 : Int32) (l4 : Int32) (o2 : Option jp_V) (o3 : Option jp_V) (o5 : Option jp_V) (M : jp_M) {res : Int32} (hf : f_R_wordNumber_3_91 c9 l1 l4 M = some res) : jR (jZ (jK Ln xs sv)) d 71 91 ([some (.inr (some 68)), some (.inl l1), o2, o3, some (.inl l4), o5], [], jSH 1003, M) (some (.inl res), jSH 1003, M) := by
  unfold f_R_wordNumber_3_91 at hf
  refine jR_in rfl ⟨rfl, rfl, rfl⟩ rfl ?_
  refine js_iinc (v := (1 : Int32)) rfl rfl rfl rfl ?_
  refine js_aload_n rfl ?_
  refine js_geti rfl rfl rfl ?_
  refine js_istore_n rfl rfl ?_
  refine js_iconst (v := (1 : Int32)) rfl ?_
  refine js_istore_n rfl rfl ?_
  exact jS_out rfl ⟨rfl, rfl, rfl⟩ rfl (t_R_wordNumber_3_101 hd hc9 _ _ _ _ _ _ hf)
def f_R_wordNumber_3_12  : Nat → Int32 → Int32 → Int32 → Int32 → jp_M → Option (Int32)
  | 0, _, _, _, _, _ => none
  | n + 1, l1, l2, l3, l4, M =>
    if jp_c .ge l4 (f_JS_length_3) = true then (
    some (-1 : Int32)) else (
    (f_JS_charAt_3 l4).bind fun q2 => (
    if jp_c .eq q2 (32 : Int32) = true then (
    if jp_c .eq l3 0 = true then (
    f_R_wordNumber_3_91 (f_R_wordNumber_3_12 n ) l1 l4 M) else (
    if jp_c .ne l2 (M 68 4) = true then (
    f_R_wordNumber_3_91 (f_R_wordNumber_3_12 n ) l1 l4 M) else (
    some l1))) else (
    if jp_c .eq l3 0 = true then (
    f_R_wordNumber_3_69 (f_R_wordNumber_3_12 n ) l1 l2 l4 M) else (
    if jp_c .ge l2 (M 68 4) = true then (
    f_R_wordNumber_3_69 (f_R_wordNumber_3_12 n ) l1 l2 l4 M) else (
    jg (jp_in l2 400) (
    if jp_c .ne (Int32.toInt8 (M 67 (Int32.toNatClampNeg l2))).toInt32 q2 = true then (
    f_R_wordNumber_3_69 (f_R_wordNumber_3_12 n ) l1 l2 l4 M) else (
    f_R_wordNumber_3_70 (f_R_wordNumber_3_12 n ) l1 l2 l4 (1 : Int32) M)))))))
theorem t_R_wordNumber_3_12 {Ln : Nat} {xs : Nat → Int32} {sv : jp_V} {d : Nat} (hd : 4 ≤ d)  : ∀ (n : Nat) (l1 : Int32) (l2 : Int32) (l3 : Int32) (l4 : Int32) (o5 : Option jp_V) (M : jp_M) {res : Int32}, f_R_wordNumber_3_12 n  l1 l2 l3 l4 M = some res → jR (jZ (jK Ln xs sv)) d 71 12 ([some (.inr (some 68)), some (.inl l1), some (.inl l2), some (.inl l3), some (.inl l4), o5], [], jSH 1003, M) (some (.inl res), jSH 1003, M) := by
  intro n
  induction n with
  | zero =>
    intro l1 l2 l3 l4 o5 M res hf
    cases hf
  | succ n ih =>
    intro l1 l2 l3 l4 o5 M res hf
    rw [f_R_wordNumber_3_12] at hf
    refine jR_in rfl ⟨rfl, rfl, rfl⟩ rfl ?_
    refine js_iload rfl ?_
    refine js_aload_n rfl ?_
    refine js_getr rfl rfl rfl ?_
    refine js_c1i rfl rfl ⟨rfl, rfl⟩ rfl rfl (t_JS_length_3 rfl) (by omega) ?_
    refine js_icmp (tgt := 107) rfl rfl (fun h => ?_) (fun h => ?_)
    · have hf := jif_t hf h
      refine jR_in rfl ⟨rfl, rfl, rfl⟩ rfl ?_
      refine js_iconst (v := (-1 : Int32)) rfl ?_
      obtain rfl := Option.some.inj hf
      exact js_iret rfl rfl
    · have hf := jif_f hf h
      refine js_aload_n rfl ?_
      refine js_getr rfl rfl rfl ?_
      refine js_iload rfl ?_
      obtain ⟨q2, hc_2, hf⟩ := jbind hf
      refine js_c2i rfl rfl ⟨rfl, rfl⟩ rfl rfl (t_JS_charAt_3 hc_2) (by omega) ?_
      refine js_istore rfl rfl ?_
      refine js_iload rfl ?_
      refine js_bipush (v := (32 : Int32)) rfl ?_
      refine js_icmp (tgt := 77) rfl rfl (fun h => ?_) (fun h => ?_)
      · have hf := jif_t hf h
        refine jR_in rfl ⟨rfl, rfl, rfl⟩ rfl ?_
        refine js_iload_n rfl ?_
        refine js_ifc (tgt := 91) rfl rfl (fun h => ?_) (fun h => ?_)
        · have hf := jif_t hf h
          exact t_R_wordNumber_3_91 hd (fun l1 l2 l3 l4 o5 M res hf => ih l1 l2 l3 l4 o5 M hf) _ _ _ _ _ _ hf
        · have hf := jif_f hf h
          refine js_iload_n rfl ?_
          refine js_aload_n rfl ?_
          refine js_geti rfl rfl rfl ?_
          refine js_icmp (tgt := 91) rfl rfl (fun h => ?_) (fun h => ?_)
          · have hf := jif_t hf h
            exact t_R_wordNumber_3_91 hd (fun l1 l2 l3 l4 o5 M res hf => ih l1 l2 l3 l4 o5 M hf) _ _ _ _ _ _ hf
          · have hf := jif_f hf h
            refine js_iload_n rfl ?_
            obtain rfl := Option.some.inj hf
            exact js_iret rfl rfl
      · have hf := jif_f hf h
        refine js_iload_n rfl ?_
        refine js_ifc (tgt := 69) rfl rfl (fun h => ?_) (fun h => ?_)
        · have hf := jif_t hf h
          exact t_R_wordNumber_3_69 hd (fun l1 l2 l3 l4 o5 M res hf => ih l1 l2 l3 l4 o5 M hf) _ _ _ _ _ _ hf
        · have hf := jif_f hf h
          refine js_iload_n rfl ?_
          refine js_aload_n rfl ?_
          refine js_geti rfl rfl rfl ?_
          refine js_icmp (tgt := 69) rfl rfl (fun h => ?_) (fun h => ?_)
          · have hf := jif_t hf h
            exact t_R_wordNumber_3_69 hd (fun l1 l2 l3 l4 o5 M res hf => ih l1 l2 l3 l4 o5 M hf) _ _ _ _ _ _ hf
          · have hf := jif_f hf h
            refine js_aload_n rfl ?_
            refine js_getr rfl rfl rfl ?_
            refine js_iload_n rfl ?_
            obtain ⟨hb3, hf⟩ := jg_some hf
            refine js_bald rfl hb3 ?_
            refine js_iload rfl ?_
            refine js_icmp (tgt := 69) rfl rfl (fun h => ?_) (fun h => ?_)
            · have hf := jif_t hf h
              exact t_R_wordNumber_3_69 hd (fun l1 l2 l3 l4 o5 M res hf => ih l1 l2 l3 l4 o5 M hf) _ _ _ _ _ _ hf
            · have hf := jif_f hf h
              refine js_iconst (v := (1 : Int32)) rfl ?_
              refine js_goto (tgt := 70) rfl rfl ?_
              exact t_R_wordNumber_3_70 hd (fun l1 l2 l3 l4 o5 M res hf => ih l1 l2 l3 l4 o5 M hf) _ _ _ _ _ _ _ hf
def f_R_wordNumber_3 (M : jp_M) : Option (Int32) :=
  f_R_wordNumber_3_12 jFu (0 : Int32) (M 68 3) (1 : Int32) (0 : Int32) M
theorem t_R_wordNumber_3 {Ln : Nat} {xs : Nat → Int32} {sv : jp_V} {M : jp_M} {res : Int32} (hf : f_R_wordNumber_3 M = some res) : jE (jZ (jK Ln xs sv)) 4 71 [(.inr (some 68))] (jSH 1003) M (some (.inl res), jSH 1003, M) := by
  unfold f_R_wordNumber_3 at hf
  refine jE_in (L0 := [some (.inr (some 68)), none, none, none, none, none]) rfl (Nat.le_of_ble_eq_true rfl) rfl (fun d hd => ?_)
  refine jR_in rfl ⟨rfl, rfl, rfl⟩ rfl ?_
  refine js_iconst (v := (0 : Int32)) rfl ?_
  refine js_istore_n rfl rfl ?_
  refine js_aload_n rfl ?_
  refine js_geti rfl rfl rfl ?_
  refine js_istore_n rfl rfl ?_
  refine js_iconst (v := (1 : Int32)) rfl ?_
  refine js_istore_n rfl rfl ?_
  refine js_iconst (v := (0 : Int32)) rfl ?_
  refine js_istore rfl rfl ?_
  exact jS_out rfl ⟨rfl, rfl, rfl⟩ rfl (t_R_wordNumber_3_12 hd jFu _ _ _ _ _ _ hf)
/-! Reader.wordNumber: whichever words the reader has -/
def f_R_wn (w : Nat) (M : jp_M) : Option Int32 := if w = 1000 then f_R_wordNumber M else if w = 1001 then f_R_wordNumber_1 M else if w = 1002 then f_R_wordNumber_2 M else if w = 1003 then f_R_wordNumber_3 M else none
theorem t_R_wn {Ln : Nat} {xs : Nat → Int32} {sv : jp_V} {w : Nat} {M : jp_M} {res : Int32} (hf : f_R_wn w M = some res) : jE (jZ (jK Ln xs sv)) 4 71 [.inr (some 68)] (jSH w) M (some (.inl res), jSH w, M) := by
  unfold f_R_wn at hf
  rcases jif_d hf with ⟨h, hf⟩ | ⟨h, hf⟩
  · subst h; exact t_R_wordNumber hf
  · rcases jif_d hf with ⟨h, hf⟩ | ⟨h, hf⟩
    · subst h; exact t_R_wordNumber_1 hf
    · rcases jif_d hf with ⟨h, hf⟩ | ⟨h, hf⟩
      · subst h; exact t_R_wordNumber_2 hf
      · rcases jif_d hf with ⟨h, hf⟩ | ⟨h, hf⟩
        · subst h; exact t_R_wordNumber_3 hf
        · cases hf
/-! SwallowsAir$Reader.isDigit(B)Z -/
def f_R_isDigit (a0 : Int32) : Int32 :=
  if jp_c .lt a0 (48 : Int32) = true then (
  (0 : Int32)) else (
  if jp_c .gt a0 (57 : Int32) = true then (
  (0 : Int32)) else (
  (1 : Int32)))
theorem t_R_isDigit {Ln : Nat} {xs : Nat → Int32} {sv : jp_V} {a0 : Int32} {w : Nat} {M : jp_M} {res : Int32} (hf : f_R_isDigit a0 = res) : jE (jZ (jK Ln xs sv)) 0 70 [(.inl a0)] (jSH w) M (some (.inl res), jSH w, M) := by
  unfold f_R_isDigit at hf
  refine jE_in (L0 := [some (.inl a0)]) rfl (Nat.le_of_ble_eq_true rfl) rfl (fun d hd => ?_)
  refine jR_in rfl ⟨rfl, rfl, rfl⟩ rfl ?_
  refine js_iload_n rfl ?_
  refine js_bipush (v := (48 : Int32)) rfl ?_
  refine js_icmp (tgt := 16) rfl rfl (fun h => ?_) (fun h => ?_)
  · have hf := jif_t hf h
    refine jR_in rfl ⟨rfl, rfl, rfl⟩ rfl ?_
    refine js_iconst (v := (0 : Int32)) rfl ?_
    subst hf
    exact js_iret rfl rfl
  · have hf := jif_f hf h
    refine js_iload_n rfl ?_
    refine js_bipush (v := (57 : Int32)) rfl ?_
    refine js_icmp (tgt := 16) rfl rfl (fun h => ?_) (fun h => ?_)
    · have hf := jif_t hf h
      refine jR_in rfl ⟨rfl, rfl, rfl⟩ rfl ?_
      refine js_iconst (v := (0 : Int32)) rfl ?_
      subst hf
      exact js_iret rfl rfl
    · have hf := jif_f hf h
      refine js_iconst (v := (1 : Int32)) rfl ?_
      refine js_goto (tgt := 17) rfl rfl ?_
      refine jR_in rfl ⟨rfl, rfl, rfl⟩ rfl ?_
      subst hf
      exact js_iret rfl rfl
theorem b_R_isDigit {a0 : Int32} {res : Int32} (hf : f_R_isDigit a0 = res) : res = 0 ∨ res = 1 := by
  unfold f_R_isDigit at hf
  rcases jif_d hf with ⟨h, hf⟩ | ⟨h, hf⟩
  · subst hf
    exact Or.inl rfl
  · rcases jif_d hf with ⟨h, hf⟩ | ⟨h, hf⟩
    · subst hf
      exact Or.inl rfl
    · subst hf
      exact Or.inr rfl
/-! SwallowsAir$Reader.readsDigits()V -/
def f_R_readsDigits_72 (c3 : jp_M → Option (jp_M)) (s1 : Int32) (M : jp_M) : Option (jp_M) :=
  let M1 := jp_set M 68 (upd (M 68) 6 s1)
  let M2 := jp_set M1 68 (upd (M1 68) 4 ((M1 68 4) + (1 : Int32)))
  c3 M2
theorem t_R_readsDigits_72 {Ln : Nat} {xs : Nat → Int32} {sv : jp_V} {d : Nat} (hd : 1 ≤ d) {c3 : jp_M → Option (jp_M)} (hc3 : ∀ (w : Nat) (M : jp_M) (res : jp_M), c3 M = some res → jR (jZ (jK Ln xs sv)) d 68 5 ([some (.inr (some 68))], [], jSH w, M) (none, jSH w, res)) (s1 : Int32) (w : Nat) (M : jp_M) {res : jp_M} (hf : f_R_readsDigits_72 c3 s1 M = some res) : jR (jZ (jK Ln xs sv)) d 68 72 ([some (.inr (some 68))], [.inl s1, (.inr (some 68))], jSH w, M) (none, jSH w, res) := by
  unfold f_R_readsDigits_72 at hf
  refine jR_in rfl ⟨rfl, rfl, rfl⟩ rfl ?_
  refine js_puti rfl rfl (Or.inl rfl) ?_
  refine js_aload_n rfl ?_
  refine js_dup ?_
  refine js_geti rfl rfl rfl ?_
  refine js_iconst (v := (1 : Int32)) rfl ?_
  refine js_iadd ?_
  refine js_puti rfl rfl (Or.inl rfl) ?_
  refine js_goto (tgt := 5) rfl rfl ?_
  exact hc3 _ _ _ hf
def f_R_readsDigits_88  (M : jp_M) : Option (jp_M) :=
  if jp_c .gt ((M 68 4) - (M 68 3)) (4 : Int32) = true then (
  let M1 := jp_set M 68 (upd (M 68) 5 (4 : Int32))
  some M1) else (
  let M2 := jp_set M 68 (upd (M 68) 5 (2 : Int32))
  some M2)
theorem t_R_readsDigits_88 {Ln : Nat} {xs : Nat → Int32} {sv : jp_V} {d : Nat} (hd : 1 ≤ d)  (w : Nat) (M : jp_M) {res : jp_M} (hf : f_R_readsDigits_88  M = some res) : jR (jZ (jK Ln xs sv)) d 68 88 ([some (.inr (some 68))], [], jSH w, M) (none, jSH w, res) := by
  unfold f_R_readsDigits_88 at hf
  refine jR_in rfl ⟨rfl, rfl, rfl⟩ rfl ?_
  refine js_aload_n rfl ?_
  refine js_aload_n rfl ?_
  refine js_geti rfl rfl rfl ?_
  refine js_aload_n rfl ?_
  refine js_geti rfl rfl rfl ?_
  refine js_isub ?_
  refine js_iconst (v := (4 : Int32)) rfl ?_
  refine js_icmp (tgt := 106) rfl rfl (fun h => ?_) (fun h => ?_)
  · have hf := jif_t hf h
    refine jR_in rfl ⟨rfl, rfl, rfl⟩ rfl ?_
    refine js_iconst (v := (4 : Int32)) rfl ?_
    refine js_puti rfl rfl (Or.inl rfl) ?_
    obtain rfl := Option.some.inj hf
    exact js_ret rfl rfl
  · have hf := jif_f hf h
    refine js_iconst (v := (2 : Int32)) rfl ?_
    refine js_goto (tgt := 107) rfl rfl ?_
    refine jR_in rfl ⟨rfl, rfl, rfl⟩ rfl ?_
    refine js_puti rfl rfl (Or.inl rfl) ?_
    obtain rfl := Option.some.inj hf
    exact js_ret rfl rfl
def f_R_readsDigits_5  : Nat → jp_M → Option (jp_M)
  | 0, _ => none
  | n + 1, M =>
    if jp_c .ge (M 68 4) (M 68 1) = true then (
    f_R_readsDigits_88 M) else (
    jg (jp_in (M 68 4) 400) (
    if jp_c .eq (f_R_isDigit ((Int32.toInt8 (M 67 (Int32.toNatClampNeg (M 68 4)))).toInt32)) 0 = true then (
    f_R_readsDigits_88 M) else (
    if jp_c .ge ((M 68 4) - (M 68 3)) (4 : Int32) = true then (
    f_R_readsDigits_72 (f_R_readsDigits_5 n ) (M 68 6) M) else (
    jg (jp_in (M 68 4) 400) (
    f_R_readsDigits_72 (f_R_readsDigits_5 n ) ((((10 : Int32) * (M 68 6)) + (Int32.toInt8 (M 67 (Int32.toNatClampNeg (M 68 4)))).toInt32) - (48 : Int32)) M)))))
theorem t_R_readsDigits_5 {Ln : Nat} {xs : Nat → Int32} {sv : jp_V} {d : Nat} (hd : 1 ≤ d)  : ∀ (n : Nat) (w : Nat) (M : jp_M) {res : jp_M}, f_R_readsDigits_5 n  M = some res → jR (jZ (jK Ln xs sv)) d 68 5 ([some (.inr (some 68))], [], jSH w, M) (none, jSH w, res) := by
  intro n
  induction n with
  | zero =>
    intro w M res hf
    cases hf
  | succ n ih =>
    intro w M res hf
    rw [f_R_readsDigits_5] at hf
    refine jR_in rfl ⟨rfl, rfl, rfl⟩ rfl ?_
    refine js_aload_n rfl ?_
    refine js_geti rfl rfl rfl ?_
    refine js_aload_n rfl ?_
    refine js_geti rfl rfl rfl ?_
    refine js_icmp (tgt := 88) rfl rfl (fun h => ?_) (fun h => ?_)
    · have hf := jif_t hf h
      exact t_R_readsDigits_88 hd _ _ hf
    · have hf := jif_f hf h
      refine js_aload_n rfl ?_
      refine js_getr rfl rfl rfl ?_
      refine js_aload_n rfl ?_
      refine js_geti rfl rfl rfl ?_
      obtain ⟨hb1, hf⟩ := jg_some hf
      refine js_bald rfl hb1 ?_
      refine js_c1i rfl rfl ⟨rfl, rfl⟩ rfl rfl (t_R_isDigit rfl) (by omega) ?_
      refine js_ifc (tgt := 88) rfl rfl (fun h => ?_) (fun h => ?_)
      · have hf := jif_t hf h
        exact t_R_readsDigits_88 hd _ _ hf
      · have hf := jif_f hf h
        refine js_aload_n rfl ?_
        refine js_aload_n rfl ?_
        refine js_geti rfl rfl rfl ?_
        refine js_aload_n rfl ?_
        refine js_geti rfl rfl rfl ?_
        refine js_isub ?_
        refine js_iconst (v := (4 : Int32)) rfl ?_
        refine js_icmp (tgt := 68) rfl rfl (fun h => ?_) (fun h => ?_)
        · have hf := jif_t hf h
          refine jR_in rfl ⟨rfl, rfl, rfl⟩ rfl ?_
          refine js_aload_n rfl ?_
          refine js_geti rfl rfl rfl ?_
          exact jS_out rfl ⟨rfl, rfl, rfl⟩ rfl (t_R_readsDigits_72 hd (fun w M res hf => ih w M hf) _ _ _ hf)
        · have hf := jif_f hf h
          refine js_bipush (v := (10 : Int32)) rfl ?_
          refine js_aload_n rfl ?_
          refine js_geti rfl rfl rfl ?_
          refine js_imul ?_
          refine js_aload_n rfl ?_
          refine js_getr rfl rfl rfl ?_
          refine js_aload_n rfl ?_
          refine js_geti rfl rfl rfl ?_
          obtain ⟨hb3, hf⟩ := jg_some hf
          refine js_bald rfl hb3 ?_
          refine js_iadd ?_
          refine js_bipush (v := (48 : Int32)) rfl ?_
          refine js_isub ?_
          refine js_goto (tgt := 72) rfl rfl ?_
          exact t_R_readsDigits_72 hd (fun w M res hf => ih w M hf) _ _ _ hf
def f_R_readsDigits (M : jp_M) : Option (jp_M) :=
  let M1 := jp_set M 68 (upd (M 68) 6 (0 : Int32))
  f_R_readsDigits_5 jFu M1
theorem t_R_readsDigits {Ln : Nat} {xs : Nat → Int32} {sv : jp_V} {w : Nat} {M : jp_M} {res : jp_M} (hf : f_R_readsDigits M = some res) : jE (jZ (jK Ln xs sv)) 1 68 [(.inr (some 68))] (jSH w) M (none, jSH w, res) := by
  unfold f_R_readsDigits at hf
  refine jE_in (L0 := [some (.inr (some 68))]) rfl (Nat.le_of_ble_eq_true rfl) rfl (fun d hd => ?_)
  refine jR_in rfl ⟨rfl, rfl, rfl⟩ rfl ?_
  refine js_aload_n rfl ?_
  refine js_iconst (v := (0 : Int32)) rfl ?_
  refine js_puti rfl rfl (Or.inl rfl) ?_
  exact jS_out rfl ⟨rfl, rfl, rfl⟩ rfl (t_R_readsDigits_5 hd jFu _ _ hf)
/-! java/lang/String.isLatin1()Z -/
def f_JS_isLatin1_4  : Int32 :=
  if jp_c .eq (1 : Int32) 0 = true then (
  (0 : Int32)) else (
  if jp_c .ne (0 : Int32) 0 = true then (
  (0 : Int32)) else (
  (1 : Int32)))
theorem t_JS_isLatin1_4 {Ln : Nat} {xs : Nat → Int32} {sv : jp_V} {w : Nat} {M : jp_M} {res : Int32} (hf : f_JS_isLatin1_4  = res) : jE (jZ (jK Ln xs sv)) 0 308 [(.inr (some 1004))] (jSH w) M (some (.inl res), jSH w, M) := by
  unfold f_JS_isLatin1_4 at hf
  refine jE_in (L0 := [some (.inr (some 1004))]) rfl (Nat.le_of_ble_eq_true rfl) rfl (fun d hd => ?_)
  refine jR_in rfl ⟨rfl, rfl, rfl⟩ rfl ?_
  refine js_gets rfl ?_
  refine js_ifc (tgt := 17) rfl rfl (fun h => ?_) (fun h => ?_)
  · have hf := jif_t hf h
    refine jR_in rfl ⟨rfl, rfl, rfl⟩ rfl ?_
    refine js_iconst (v := (0 : Int32)) rfl ?_
    subst hf
    exact js_iret rfl rfl
  · have hf := jif_f hf h
    refine js_aload_n rfl ?_
    refine js_getK rfl rfl ?_
    refine js_ifc (tgt := 17) rfl rfl (fun h => ?_) (fun h => ?_)
    · have hf := jif_t hf h
      refine jR_in rfl ⟨rfl, rfl, rfl⟩ rfl ?_
      refine js_iconst (v := (0 : Int32)) rfl ?_
      subst hf
      exact js_iret rfl rfl
    · have hf := jif_f hf h
      refine js_iconst (v := (1 : Int32)) rfl ?_
      refine js_goto (tgt := 18) rfl rfl ?_
      refine jR_in rfl ⟨rfl, rfl, rfl⟩ rfl ?_
      subst hf
      exact js_iret rfl rfl
theorem b_JS_isLatin1_4  {res : Int32} (hf : f_JS_isLatin1_4  = res) : res = 0 ∨ res = 1 := by
  unfold f_JS_isLatin1_4 at hf
  rcases jif_d hf with ⟨h, hf⟩ | ⟨h, hf⟩
  · subst hf
    exact Or.inl rfl
  · rcases jif_d hf with ⟨h, hf⟩ | ⟨h, hf⟩
    · subst hf
      exact Or.inl rfl
    · subst hf
      exact Or.inr rfl
/-! java/lang/String.coder()B -/
def f_JS_coder_4  : Int32 :=
  if jp_c .eq (1 : Int32) 0 = true then (
  (1 : Int32)) else (
  (0 : Int32))
theorem t_JS_coder_4 {Ln : Nat} {xs : Nat → Int32} {sv : jp_V} {w : Nat} {M : jp_M} {res : Int32} (hf : f_JS_coder_4  = res) : jE (jZ (jK Ln xs sv)) 0 307 [(.inr (some 1004))] (jSH w) M (some (.inl res), jSH w, M) := by
  unfold f_JS_coder_4 at hf
  refine jE_in (L0 := [some (.inr (some 1004))]) rfl (Nat.le_of_ble_eq_true rfl) rfl (fun d hd => ?_)
  refine jR_in rfl ⟨rfl, rfl, rfl⟩ rfl ?_
  refine js_gets rfl ?_
  refine js_ifc (tgt := 13) rfl rfl (fun h => ?_) (fun h => ?_)
  · have hf := jif_t hf h
    refine jR_in rfl ⟨rfl, rfl, rfl⟩ rfl ?_
    refine js_iconst (v := (1 : Int32)) rfl ?_
    subst hf
    exact js_iret rfl rfl
  · have hf := jif_f hf h
    refine js_aload_n rfl ?_
    refine js_getK rfl rfl ?_
    refine js_goto (tgt := 14) rfl rfl ?_
    refine jR_in rfl ⟨rfl, rfl, rfl⟩ rfl ?_
    subst hf
    exact js_iret rfl rfl
/-! java/lang/String.length()I -/
def f_JS_length_4  : Int32 :=
  ((10 : Int32) >>> ((f_JS_coder_4) &&& 31))
theorem t_JS_length_4 {Ln : Nat} {xs : Nat → Int32} {sv : jp_V} {w : Nat} {M : jp_M} {res : Int32} (hf : f_JS_length_4  = res) : jE (jZ (jK Ln xs sv)) 1 303 [(.inr (some 1004))] (jSH w) M (some (.inl res), jSH w, M) := by
  unfold f_JS_length_4 at hf
  refine jE_in (L0 := [some (.inr (some 1004))]) rfl (Nat.le_of_ble_eq_true rfl) rfl (fun d hd => ?_)
  refine jR_in rfl ⟨rfl, rfl, rfl⟩ rfl ?_
  refine js_aload_n rfl ?_
  refine js_getK rfl rfl ?_
  refine js_alenK (v := (10 : Int32)) rfl rfl rfl ?_
  refine js_aload_n rfl ?_
  refine js_c1i rfl rfl ⟨rfl, rfl⟩ rfl rfl (t_JS_coder_4 rfl) (by omega) ?_
  refine js_ishr ?_
  subst hf
  exact js_iret rfl rfl
/-! java/lang/StringLatin1.canEncode(I)Z -/
def f_JL_canEncode (a0 : Int32) : Int32 :=
  if jp_c .lt a0 0 = true then (
  (0 : Int32)) else (
  if jp_c .gt a0 (255 : Int32) = true then (
  (0 : Int32)) else (
  (1 : Int32)))
theorem t_JL_canEncode {Ln : Nat} {xs : Nat → Int32} {sv : jp_V} {a0 : Int32} {w : Nat} {M : jp_M} {res : Int32} (hf : f_JL_canEncode a0 = res) : jE (jZ (jK Ln xs sv)) 0 311 [(.inl a0)] (jSH w) M (some (.inl res), jSH w, M) := by
  unfold f_JL_canEncode at hf
  refine jE_in (L0 := [some (.inl a0)]) rfl (Nat.le_of_ble_eq_true rfl) rfl (fun d hd => ?_)
  refine jR_in rfl ⟨rfl, rfl, rfl⟩ rfl ?_
  refine js_iload_n rfl ?_
  refine js_ifc (tgt := 15) rfl rfl (fun h => ?_) (fun h => ?_)
  · have hf := jif_t hf h
    refine jR_in rfl ⟨rfl, rfl, rfl⟩ rfl ?_
    refine js_iconst (v := (0 : Int32)) rfl ?_
    subst hf
    exact js_iret rfl rfl
  · have hf := jif_f hf h
    refine js_iload_n rfl ?_
    refine js_sipush (v := (255 : Int32)) rfl ?_
    refine js_icmp (tgt := 15) rfl rfl (fun h => ?_) (fun h => ?_)
    · have hf := jif_t hf h
      refine jR_in rfl ⟨rfl, rfl, rfl⟩ rfl ?_
      refine js_iconst (v := (0 : Int32)) rfl ?_
      subst hf
      exact js_iret rfl rfl
    · have hf := jif_f hf h
      refine js_iconst (v := (1 : Int32)) rfl ?_
      refine js_goto (tgt := 16) rfl rfl ?_
      refine jR_in rfl ⟨rfl, rfl, rfl⟩ rfl ?_
      subst hf
      exact js_iret rfl rfl
theorem b_JL_canEncode {a0 : Int32} {res : Int32} (hf : f_JL_canEncode a0 = res) : res = 0 ∨ res = 1 := by
  unfold f_JL_canEncode at hf
  rcases jif_d hf with ⟨h, hf⟩ | ⟨h, hf⟩
  · subst hf
    exact Or.inl rfl
  · rcases jif_d hf with ⟨h, hf⟩ | ⟨h, hf⟩
    · subst hf
      exact Or.inl rfl
    · subst hf
      exact Or.inr rfl
/-! java/lang/StringLatin1.indexOfChar([BIII)I -/
def f_JL_indexOfChar_7  : Nat → Int32 → Int32 → Int32 → Option (Int32)
  | 0, _, _, _ => none
  | n + 1, l3, l4, l5 =>
    if jp_c .ge l5 l3 = true then (
    some (-1 : Int32)) else (
    jg (jp_in l5 10) (
    if jp_c .ne (jcon 2006 (Int32.toNatClampNeg l5)) l4 = true then (
    f_JL_indexOfChar_7 n l3 l4 (l5 + (1 : Int32))) else (
    some l5)))
theorem t_JL_indexOfChar_7 {Ln : Nat} {xs : Nat → Int32} {sv : jp_V} {d : Nat} (hd : 0 ≤ d)  : ∀ (n : Nat) (l3 : Int32) (l4 : Int32) (l5 : Int32) (o1 : Option jp_V) (o2 : Option jp_V) (w : Nat) (M : jp_M) {res : Int32}, f_JL_indexOfChar_7 n  l3 l4 l5 = some res → jR (jZ (jK Ln xs sv)) d 313 7 ([some (.inr (some 2006)), o1, o2, some (.inl l3), some (.inl l4), some (.inl l5)], [], jSH w, M) (some (.inl res), jSH w, M) := by
  intro n
  induction n with
  | zero =>
    intro l3 l4 l5 o1 o2 w M res hf
    cases hf
  | succ n ih =>
    intro l3 l4 l5 o1 o2 w M res hf
    rw [f_JL_indexOfChar_7] at hf
    refine jR_in rfl ⟨rfl, rfl, rfl⟩ rfl ?_
    refine js_iload rfl ?_
    refine js_iload_n rfl ?_
    refine js_icmp (tgt := 31) rfl rfl (fun h => ?_) (fun h => ?_)
    · have hf := jif_t hf h
      refine jR_in rfl ⟨rfl, rfl, rfl⟩ rfl ?_
      refine js_iconst (v := (-1 : Int32)) rfl ?_
      obtain rfl := Option.some.inj hf
      exact js_iret rfl rfl
    · have hf := jif_f hf h
      refine js_aload_n rfl ?_
      refine js_iload rfl ?_
      obtain ⟨hb1, hf⟩ := jg_some hf
      refine js_baldK rfl rfl hb1 ?_
      refine js_iload rfl ?_
      refine js_icmp (tgt := 25) rfl rfl (fun h => ?_) (fun h => ?_)
      · have hf := jif_t hf h
        refine jR_in rfl ⟨rfl, rfl, rfl⟩ rfl ?_
        refine js_iinc (v := (1 : Int32)) rfl rfl rfl rfl ?_
        refine js_goto (tgt := 7) rfl rfl ?_
        exact ih _ _ _ _ _ _ _ hf
      · have hf := jif_f hf h
        refine js_iload rfl ?_
        obtain rfl := Option.some.inj hf
        exact js_iret rfl rfl
def f_JL_indexOfChar (a1 : Int32) (a2 : Int32) (a3 : Int32) : Option (Int32) :=
  f_JL_indexOfChar_7 jFu a3 ((Int32.toInt8 a1).toInt32) a2
theorem t_JL_indexOfChar {Ln : Nat} {xs : Nat → Int32} {sv : jp_V} {a1 : Int32} {a2 : Int32} {a3 : Int32} {w : Nat} {M : jp_M} {res : Int32} (hf : f_JL_indexOfChar a1 a2 a3 = some res) : jE (jZ (jK Ln xs sv)) 0 313 [(.inr (some 2006)), (.inl a1), (.inl a2), (.inl a3)] (jSH w) M (some (.inl res), jSH w, M) := by
  unfold f_JL_indexOfChar at hf
  refine jE_in (L0 := [some (.inr (some 2006)), some (.inl a1), some (.inl a2), some (.inl a3), none, none]) rfl (Nat.le_of_ble_eq_true rfl) rfl (fun d hd => ?_)
  refine jR_in rfl ⟨rfl, rfl, rfl⟩ rfl ?_
  refine js_iload_n rfl ?_
  refine js_i2b ?_
  refine js_istore rfl rfl ?_
  refine js_iload_n rfl ?_
  refine js_istore rfl rfl ?_
  exact jS_out rfl ⟨rfl, rfl, rfl⟩ rfl (t_JL_indexOfChar_7 hd jFu _ _ _ _ _ _ _ hf)
/-! java/lang/StringLatin1.indexOf([BIII)I -/
def f_JL_indexOf (a1 : Int32) (a2 : Int32) (a3 : Int32) : Option (Int32) :=
  if jp_c .ne (f_JL_canEncode a1) 0 = true then (
  if jp_c .lt (jp_max a2 (0 : Int32)) (jp_min a3 (10 : Int32)) = true then (
  (f_JL_indexOfChar a1 (jp_max a2 (0 : Int32)) (jp_min a3 (10 : Int32))).bind fun q2 => (
  some q2)) else (
  some (-1 : Int32))) else (
  some (-1 : Int32))
theorem t_JL_indexOf {Ln : Nat} {xs : Nat → Int32} {sv : jp_V} {a1 : Int32} {a2 : Int32} {a3 : Int32} {w : Nat} {M : jp_M} {res : Int32} (hf : f_JL_indexOf a1 a2 a3 = some res) : jE (jZ (jK Ln xs sv)) 1 312 [(.inr (some 2006)), (.inl a1), (.inl a2), (.inl a3)] (jSH w) M (some (.inl res), jSH w, M) := by
  unfold f_JL_indexOf at hf
  refine jE_in (L0 := [some (.inr (some 2006)), some (.inl a1), some (.inl a2), some (.inl a3)]) rfl (Nat.le_of_ble_eq_true rfl) rfl (fun d hd => ?_)
  refine jR_in rfl ⟨rfl, rfl, rfl⟩ rfl ?_
  refine js_iload_n rfl ?_
  refine js_c1i rfl rfl ⟨rfl, rfl⟩ rfl rfl (t_JL_canEncode rfl) (by omega) ?_
  refine js_ifc (tgt := 9) rfl rfl (fun h => ?_) (fun h => ?_)
  · have hf := jif_t hf h
    refine jR_in rfl ⟨rfl, rfl, rfl⟩ rfl ?_
    refine js_iload_n rfl ?_
    refine js_iconst (v := (0 : Int32)) rfl ?_
    refine js_max rfl ?_
    refine js_istore_n rfl rfl ?_
    refine js_iload_n rfl ?_
    refine js_aload_n rfl ?_
    refine js_alenK (v := (10 : Int32)) rfl rfl rfl ?_
    refine js_min rfl ?_
    refine js_istore_n rfl rfl ?_
    refine js_iload_n rfl ?_
    refine js_iload_n rfl ?_
    refine js_icmp (tgt := 29) rfl rfl (fun h => ?_) (fun h => ?_)
    · have hf := jif_t hf h
      refine jR_in rfl ⟨rfl, rfl, rfl⟩ rfl ?_
      refine js_aload_n rfl ?_
      refine js_iload_n rfl ?_
      refine js_iload_n rfl ?_
      refine js_iload_n rfl ?_
      obtain ⟨q2, hc_2, hf⟩ := jbind hf
      refine js_c4i rfl rfl ⟨rfl, rfl⟩ rfl rfl (t_JL_indexOfChar hc_2) (by omega) ?_
      obtain rfl := Option.some.inj hf
      exact js_iret rfl rfl
    · have hf := jif_f hf h
      refine js_iconst (v := (-1 : Int32)) rfl ?_
      obtain rfl := Option.some.inj hf
      exact js_iret rfl rfl
  · have hf := jif_f hf h
    refine js_iconst (v := (-1 : Int32)) rfl ?_
    obtain rfl := Option.some.inj hf
    exact js_iret rfl rfl
/-! java/lang/String.indexOf(II)I -/
def f_JS_indexOf2 (a1 : Int32) (a2 : Int32) : Option (Int32) :=
  if jp_c .eq (f_JS_isLatin1_4) 0 = true then (
  none) else (
  (f_JL_indexOf a1 a2 (f_JS_length_4)).bind fun q4 => (
  some q4))
theorem t_JS_indexOf2 {Ln : Nat} {xs : Nat → Int32} {sv : jp_V} {a1 : Int32} {a2 : Int32} {w : Nat} {M : jp_M} {res : Int32} (hf : f_JS_indexOf2 a1 a2 = some res) : jE (jZ (jK Ln xs sv)) 2 306 [(.inr (some 1004)), (.inl a1), (.inl a2)] (jSH w) M (some (.inl res), jSH w, M) := by
  unfold f_JS_indexOf2 at hf
  refine jE_in (L0 := [some (.inr (some 1004)), some (.inl a1), some (.inl a2)]) rfl (Nat.le_of_ble_eq_true rfl) rfl (fun d hd => ?_)
  refine jR_in rfl ⟨rfl, rfl, rfl⟩ rfl ?_
  refine js_aload_n rfl ?_
  refine js_c1i rfl rfl ⟨rfl, rfl⟩ rfl rfl (t_JS_isLatin1_4 rfl) (by omega) ?_
  refine js_ifc (tgt := 23) rfl rfl (fun h => ?_) (fun h => ?_)
  · have hf := jif_t hf h
    refine jR_in rfl ⟨rfl, rfl, rfl⟩ rfl ?_
    refine js_aload_n rfl ?_
    refine js_getK rfl rfl ?_
    refine js_iload_n rfl ?_
    refine js_iload_n rfl ?_
    refine js_aload_n rfl ?_
    refine js_c1i rfl rfl ⟨rfl, rfl⟩ rfl rfl (t_JS_length_4 rfl) (by omega) ?_
    cases hf
  · have hf := jif_f hf h
    refine js_aload_n rfl ?_
    refine js_getK rfl rfl ?_
    refine js_iload_n rfl ?_
    refine js_iload_n rfl ?_
    refine js_aload_n rfl ?_
    refine js_c1i rfl rfl ⟨rfl, rfl⟩ rfl rfl (t_JS_length_4 rfl) (by omega) ?_
    obtain ⟨q4, hc_4, hf⟩ := jbind hf
    refine js_c4i rfl rfl ⟨rfl, rfl⟩ rfl rfl (t_JL_indexOf hc_4) (by omega) ?_
    refine js_goto (tgt := 36) rfl rfl ?_
    refine jR_in rfl ⟨rfl, rfl, rfl⟩ rfl ?_
    obtain rfl := Option.some.inj hf
    exact js_iret rfl rfl
/-! java/lang/String.indexOf(I)I -/
def f_JS_indexOf1 (a1 : Int32) : Option (Int32) :=
  (f_JS_indexOf2 a1 (0 : Int32)).bind fun q1 => (
  some q1)
theorem t_JS_indexOf1 {Ln : Nat} {xs : Nat → Int32} {sv : jp_V} {a1 : Int32} {w : Nat} {M : jp_M} {res : Int32} (hf : f_JS_indexOf1 a1 = some res) : jE (jZ (jK Ln xs sv)) 3 305 [(.inr (some 1004)), (.inl a1)] (jSH w) M (some (.inl res), jSH w, M) := by
  unfold f_JS_indexOf1 at hf
  refine jE_in (L0 := [some (.inr (some 1004)), some (.inl a1)]) rfl (Nat.le_of_ble_eq_true rfl) rfl (fun d hd => ?_)
  refine jR_in rfl ⟨rfl, rfl, rfl⟩ rfl ?_
  refine js_aload_n rfl ?_
  refine js_iload_n rfl ?_
  refine js_iconst (v := (0 : Int32)) rfl ?_
  obtain ⟨q1, hc_1, hf⟩ := jbind hf
  refine js_c3i rfl rfl ⟨rfl, rfl⟩ rfl rfl (t_JS_indexOf2 hc_1) (by omega) ?_
  obtain rfl := Option.some.inj hf
  exact js_iret rfl rfl
/-! SwallowsAir$Reader.advances()V -/
def f_R_advances_47 (c4 : Nat → jp_M → Option (jp_M)) (w : Nat) (M : jp_M) : Option (jp_M) :=
  let M1 := jp_set M 68 (upd (M 68) 3 ((M 68 3) + (1 : Int32)))
  c4 w M1
theorem t_R_advances_47 {Ln : Nat} {xs : Nat → Int32} {sv : jp_V} {d : Nat} (hd : 5 ≤ d) {c4 : Nat → jp_M → Option (jp_M)} (hc4 : ∀ (w : Nat) (M : jp_M) (res : jp_M), c4 w M = some res → jR (jZ (jK Ln xs sv)) d 67 8 ([some (.inr (some 68))], [], jSH w, M) (none, jSH w, res)) (w : Nat) (M : jp_M) {res : jp_M} (hf : f_R_advances_47 c4 w M = some res) : jR (jZ (jK Ln xs sv)) d 67 47 ([some (.inr (some 68))], [], jSH w, M) (none, jSH w, res) := by
  unfold f_R_advances_47 at hf
  refine jR_in rfl ⟨rfl, rfl, rfl⟩ rfl ?_
  refine js_aload_n rfl ?_
  refine js_dup ?_
  refine js_geti rfl rfl rfl ?_
  refine js_iconst (v := (1 : Int32)) rfl ?_
  refine js_iadd ?_
  refine js_puti rfl rfl (Or.inl rfl) ?_
  refine js_goto (tgt := 8) rfl rfl ?_
  exact hc4 _ _ _ hf
def f_R_advances_163  (s1 : Int32) (w : Nat) (M : jp_M) : Option (jp_M) :=
  let M1 := jp_set M 68 (upd (M 68) 5 s1)
  some M1
theorem t_R_advances_163 {Ln : Nat} {xs : Nat → Int32} {sv : jp_V} {d : Nat} (hd : 5 ≤ d)  (s1 : Int32) (o0 : Option jp_V) (w : Nat) (M : jp_M) {res : jp_M} (hf : f_R_advances_163  s1 w M = some res) : jR (jZ (jK Ln xs sv)) d 67 163 ([o0], [.inl s1, (.inr (some 68))], jSH w, M) (none, jSH w, res) := by
  unfold f_R_advances_163 at hf
  refine jR_in rfl ⟨rfl, rfl, rfl⟩ rfl ?_
  refine js_puti rfl rfl (Or.inl rfl) ?_
  refine js_goto (tgt := 243) rfl rfl ?_
  refine jR_in rfl ⟨rfl, rfl, rfl⟩ rfl ?_
  obtain rfl := Option.some.inj hf
  exact js_ret rfl rfl
def f_R_advances_141  (w : Nat) (M : jp_M) : Option (jp_M) :=
  (f_R_wn w M).bind fun q1 => (
  let M2 := jp_set M 68 (upd (M 68) 6 q1)
  if jp_c .ne (M2 68 6) (-1 : Int32) = true then (
  f_R_advances_163 (1 : Int32) w M2) else (
  f_R_advances_163 (4 : Int32) w M2))
theorem t_R_advances_141 {Ln : Nat} {xs : Nat → Int32} {sv : jp_V} {d : Nat} (hd : 5 ≤ d)  (w : Nat) (M : jp_M) {res : jp_M} (hf : f_R_advances_141  w M = some res) : jR (jZ (jK Ln xs sv)) d 67 141 ([some (.inr (some 68))], [], jSH w, M) (none, jSH w, res) := by
  unfold f_R_advances_141 at hf
  refine jR_in rfl ⟨rfl, rfl, rfl⟩ rfl ?_
  refine js_aload_n rfl ?_
  refine js_aload_n rfl ?_
  obtain ⟨q1, hc_1, hf⟩ := jbind hf
  refine js_c1i rfl rfl ⟨rfl, rfl⟩ rfl rfl (t_R_wn hc_1) (by omega) ?_
  refine js_puti rfl rfl (Or.inl rfl) ?_
  refine js_aload_n rfl ?_
  refine js_aload_n rfl ?_
  refine js_geti rfl rfl rfl ?_
  refine js_iconst (v := (-1 : Int32)) rfl ?_
  refine js_icmp (tgt := 162) rfl rfl (fun h => ?_) (fun h => ?_)
  · have hf := jif_t hf h
    refine jR_in rfl ⟨rfl, rfl, rfl⟩ rfl ?_
    refine js_iconst (v := (1 : Int32)) rfl ?_
    exact jS_out rfl ⟨rfl, rfl, rfl⟩ rfl (t_R_advances_163 hd _ _ _ _ hf)
  · have hf := jif_f hf h
    refine js_iconst (v := (4 : Int32)) rfl ?_
    refine js_goto (tgt := 163) rfl rfl ?_
    exact t_R_advances_163 hd _ _ _ _ hf
def f_R_advances_102  : Nat → Nat → jp_M → Option (jp_M)
  | 0, _, _ => none
  | n + 1, w, M =>
    if jp_c .ge (M 68 4) (M 68 1) = true then (
    f_R_advances_141 w M) else (
    jg (jp_in (M 68 4) 400) (
    if jp_c .eq (f_R_isLetter ((Int32.toInt8 (M 67 (Int32.toNatClampNeg (M 68 4)))).toInt32)) 0 = true then (
    f_R_advances_141 w M) else (
    let M3 := jp_set M 68 (upd (M 68) 4 ((M 68 4) + (1 : Int32)))
    f_R_advances_102 n w M3)))
theorem t_R_advances_102 {Ln : Nat} {xs : Nat → Int32} {sv : jp_V} {d : Nat} (hd : 5 ≤ d)  : ∀ (n : Nat) (w : Nat) (M : jp_M) {res : jp_M}, f_R_advances_102 n  w M = some res → jR (jZ (jK Ln xs sv)) d 67 102 ([some (.inr (some 68))], [], jSH w, M) (none, jSH w, res) := by
  intro n
  induction n with
  | zero =>
    intro w M res hf
    cases hf
  | succ n ih =>
    intro w M res hf
    rw [f_R_advances_102] at hf
    refine jR_in rfl ⟨rfl, rfl, rfl⟩ rfl ?_
    refine js_aload_n rfl ?_
    refine js_geti rfl rfl rfl ?_
    refine js_aload_n rfl ?_
    refine js_geti rfl rfl rfl ?_
    refine js_icmp (tgt := 141) rfl rfl (fun h => ?_) (fun h => ?_)
    · have hf := jif_t hf h
      exact t_R_advances_141 hd _ _ hf
    · have hf := jif_f hf h
      refine js_aload_n rfl ?_
      refine js_getr rfl rfl rfl ?_
      refine js_aload_n rfl ?_
      refine js_geti rfl rfl rfl ?_
      obtain ⟨hb1, hf⟩ := jg_some hf
      refine js_bald rfl hb1 ?_
      refine js_c1i rfl rfl ⟨rfl, rfl⟩ rfl rfl (t_R_isLetter rfl) (by omega) ?_
      refine js_ifc (tgt := 141) rfl rfl (fun h => ?_) (fun h => ?_)
      · have hf := jif_t hf h
        exact t_R_advances_141 hd _ _ hf
      · have hf := jif_f hf h
        refine js_aload_n rfl ?_
        refine js_dup ?_
        refine js_geti rfl rfl rfl ?_
        refine js_iconst (v := (1 : Int32)) rfl ?_
        refine js_iadd ?_
        refine js_puti rfl rfl (Or.inl rfl) ?_
        refine js_goto (tgt := 102) rfl rfl ?_
        exact ih _ _ hf
def f_R_advances_60  (w : Nat) (M : jp_M) : Option (jp_M) :=
  let M1 := jp_set M 68 (upd (M 68) 4 (M 68 3))
  if jp_c .lt (M1 68 3) (M1 68 1) = true then (
  jg (jp_in (M1 68 3) 400) (
  if jp_c .eq (f_R_isLetter ((Int32.toInt8 (M1 67 (Int32.toNatClampNeg (M1 68 3)))).toInt32)) 0 = true then (
  jg (jp_in (M1 68 3) 400) (
  if jp_c .eq (f_R_isDigit ((Int32.toInt8 (M1 67 (Int32.toNatClampNeg (M1 68 3)))).toInt32)) 0 = true then (
  let M6 := jp_set M1 68 (upd (M1 68) 4 ((M1 68 3) + (1 : Int32)))
  jg (jp_in (M6 68 3) 400) (
  let M8 := jp_set M6 68 (upd (M6 68) 6 (Int32.toInt8 (M6 67 (Int32.toNatClampNeg (M6 68 3)))).toInt32)
  if jp_c .le (M8 68 6) 0 = true then (
  let M9 := jp_set M8 68 (upd (M8 68) 5 (4 : Int32))
  some M9) else (
  (f_JS_indexOf1 ((Int32.toUInt32 (M8 68 6) % 65536).toInt32)).bind fun q10 => (
  if jp_c .lt q10 0 = true then (
  let M11 := jp_set M8 68 (upd (M8 68) 5 (4 : Int32))
  some M11) else (
  let M12 := jp_set M8 68 (upd (M8 68) 5 (3 : Int32))
  some M12))))) else (
  (f_R_readsDigits M1).bind fun q13 => (
  some q13)))) else (
  f_R_advances_102 jFu w M1))) else (
  let M14 := jp_set M1 68 (upd (M1 68) 5 (0 : Int32))
  some M14)
theorem t_R_advances_60 {Ln : Nat} {xs : Nat → Int32} {sv : jp_V} {d : Nat} (hd : 5 ≤ d)  (w : Nat) (M : jp_M) {res : jp_M} (hf : f_R_advances_60  w M = some res) : jR (jZ (jK Ln xs sv)) d 67 60 ([some (.inr (some 68))], [], jSH w, M) (none, jSH w, res) := by
  unfold f_R_advances_60 at hf
  refine jR_in rfl ⟨rfl, rfl, rfl⟩ rfl ?_
  refine js_aload_n rfl ?_
  refine js_aload_n rfl ?_
  refine js_geti rfl rfl rfl ?_
  refine js_puti rfl rfl (Or.inl rfl) ?_
  refine js_aload_n rfl ?_
  refine js_geti rfl rfl rfl ?_
  refine js_aload_n rfl ?_
  refine js_geti rfl rfl rfl ?_
  refine js_icmp (tgt := 87) rfl rfl (fun h => ?_) (fun h => ?_)
  · have hf := jif_t hf h
    refine jR_in rfl ⟨rfl, rfl, rfl⟩ rfl ?_
    refine js_aload_n rfl ?_
    refine js_getr rfl rfl rfl ?_
    refine js_aload_n rfl ?_
    refine js_geti rfl rfl rfl ?_
    obtain ⟨hb2, hf⟩ := jg_some hf
    refine js_bald rfl hb2 ?_
    refine js_c1i rfl rfl ⟨rfl, rfl⟩ rfl rfl (t_R_isLetter rfl) (by omega) ?_
    refine js_ifc (tgt := 169) rfl rfl (fun h => ?_) (fun h => ?_)
    · have hf := jif_t hf h
      refine jR_in rfl ⟨rfl, rfl, rfl⟩ rfl ?_
      refine js_aload_n rfl ?_
      refine js_getr rfl rfl rfl ?_
      refine js_aload_n rfl ?_
      refine js_geti rfl rfl rfl ?_
      obtain ⟨hb4, hf⟩ := jg_some hf
      refine js_bald rfl hb4 ?_
      refine js_c1i rfl rfl ⟨rfl, rfl⟩ rfl rfl (t_R_isDigit rfl) (by omega) ?_
      refine js_ifc (tgt := 191) rfl rfl (fun h => ?_) (fun h => ?_)
      · have hf := jif_t hf h
        refine jR_in rfl ⟨rfl, rfl, rfl⟩ rfl ?_
        refine js_aload_n rfl ?_
        refine js_aload_n rfl ?_
        refine js_geti rfl rfl rfl ?_
        refine js_iconst (v := (1 : Int32)) rfl ?_
        refine js_iadd ?_
        refine js_puti rfl rfl (Or.inl rfl) ?_
        refine js_aload_n rfl ?_
        refine js_aload_n rfl ?_
        refine js_getr rfl rfl rfl ?_
        refine js_aload_n rfl ?_
        refine js_geti rfl rfl rfl ?_
        obtain ⟨hb7, hf⟩ := jg_some hf
        refine js_bald rfl hb7 ?_
        refine js_puti rfl rfl (Or.inl rfl) ?_
        refine js_aload_n rfl ?_
        refine js_aload_n rfl ?_
        refine js_geti rfl rfl rfl ?_
        refine js_ifc (tgt := 239) rfl rfl (fun h => ?_) (fun h => ?_)
        · have hf := jif_t hf h
          refine jR_in rfl ⟨rfl, rfl, rfl⟩ rfl ?_
          refine js_iconst (v := (4 : Int32)) rfl ?_
          refine js_puti rfl rfl (Or.inl rfl) ?_
          obtain rfl := Option.some.inj hf
          exact js_ret rfl rfl
        · have hf := jif_f hf h
          refine js_ldcS ?_
          refine js_aload_n rfl ?_
          refine js_geti rfl rfl rfl ?_
          refine js_i2c ?_
          obtain ⟨q10, hc_10, hf⟩ := jbind hf
          refine js_c2i rfl rfl ⟨rfl, rfl⟩ rfl rfl (t_JS_indexOf1 hc_10) (by omega) ?_
          refine js_ifc (tgt := 239) rfl rfl (fun h => ?_) (fun h => ?_)
          · have hf := jif_t hf h
            refine jR_in rfl ⟨rfl, rfl, rfl⟩ rfl ?_
            refine js_iconst (v := (4 : Int32)) rfl ?_
            refine js_puti rfl rfl (Or.inl rfl) ?_
            obtain rfl := Option.some.inj hf
            exact js_ret rfl rfl
          · have hf := jif_f hf h
            refine js_iconst (v := (3 : Int32)) rfl ?_
            refine js_goto (tgt := 240) rfl rfl ?_
            refine jR_in rfl ⟨rfl, rfl, rfl⟩ rfl ?_
            refine js_puti rfl rfl (Or.inl rfl) ?_
            obtain rfl := Option.some.inj hf
            exact js_ret rfl rfl
      · have hf := jif_f hf h
        refine js_aload_n rfl ?_
        obtain ⟨q13, hc_13, hf⟩ := jbind hf
        refine js_c1v (w := 0) rfl rfl ⟨rfl, rfl⟩ rfl rfl (t_R_readsDigits hc_13) (by omega) ?_
        refine js_goto (tgt := 243) rfl rfl ?_
        refine jR_in rfl ⟨rfl, rfl, rfl⟩ rfl ?_
        obtain rfl := Option.some.inj hf
        exact js_ret rfl rfl
    · have hf := jif_f hf h
      exact jS_out rfl ⟨rfl, rfl, rfl⟩ rfl (t_R_advances_102 hd jFu _ _ hf)
  · have hf := jif_f hf h
    refine js_aload_n rfl ?_
    refine js_iconst (v := (0 : Int32)) rfl ?_
    refine js_puti rfl rfl (Or.inl rfl) ?_
    refine js_goto (tgt := 243) rfl rfl ?_
    refine jR_in rfl ⟨rfl, rfl, rfl⟩ rfl ?_
    obtain rfl := Option.some.inj hf
    exact js_ret rfl rfl
def f_R_advances_8  : Nat → Nat → jp_M → Option (jp_M)
  | 0, _, _ => none
  | n + 1, w, M =>
    if jp_c .ge (M 68 3) (M 68 1) = true then (
    f_R_advances_60 w M) else (
    jg (jp_in (M 68 3) 400) (
    if jp_c .eq (Int32.toInt8 (M 67 (Int32.toNatClampNeg (M 68 3)))).toInt32 (32 : Int32) = true then (
    f_R_advances_47 (f_R_advances_8 n ) w M) else (
    jg (jp_in (M 68 3) 400) (
    if jp_c .ne (Int32.toInt8 (M 67 (Int32.toNatClampNeg (M 68 3)))).toInt32 (10 : Int32) = true then (
    f_R_advances_60 w M) else (
    f_R_advances_47 (f_R_advances_8 n ) w M)))))
theorem t_R_advances_8 {Ln : Nat} {xs : Nat → Int32} {sv : jp_V} {d : Nat} (hd : 5 ≤ d)  : ∀ (n : Nat) (w : Nat) (M : jp_M) {res : jp_M}, f_R_advances_8 n  w M = some res → jR (jZ (jK Ln xs sv)) d 67 8 ([some (.inr (some 68))], [], jSH w, M) (none, jSH w, res) := by
  intro n
  induction n with
  | zero =>
    intro w M res hf
    cases hf
  | succ n ih =>
    intro w M res hf
    rw [f_R_advances_8] at hf
    refine jR_in rfl ⟨rfl, rfl, rfl⟩ rfl ?_
    refine js_aload_n rfl ?_
    refine js_geti rfl rfl rfl ?_
    refine js_aload_n rfl ?_
    refine js_geti rfl rfl rfl ?_
    refine js_icmp (tgt := 60) rfl rfl (fun h => ?_) (fun h => ?_)
    · have hf := jif_t hf h
      exact t_R_advances_60 hd _ _ hf
    · have hf := jif_f hf h
      refine js_aload_n rfl ?_
      refine js_getr rfl rfl rfl ?_
      refine js_aload_n rfl ?_
      refine js_geti rfl rfl rfl ?_
      obtain ⟨hb1, hf⟩ := jg_some hf
      refine js_bald rfl hb1 ?_
      refine js_bipush (v := (32 : Int32)) rfl ?_
      refine js_icmp (tgt := 47) rfl rfl (fun h => ?_) (fun h => ?_)
      · have hf := jif_t hf h
        exact t_R_advances_47 hd (fun w M res hf => ih w M hf) _ _ hf
      · have hf := jif_f hf h
        refine js_aload_n rfl ?_
        refine js_getr rfl rfl rfl ?_
        refine js_aload_n rfl ?_
        refine js_geti rfl rfl rfl ?_
        obtain ⟨hb2, hf⟩ := jg_some hf
        refine js_bald rfl hb2 ?_
        refine js_bipush (v := (10 : Int32)) rfl ?_
        refine js_icmp (tgt := 60) rfl rfl (fun h => ?_) (fun h => ?_)
        · have hf := jif_t hf h
          exact t_R_advances_60 hd _ _ hf
        · have hf := jif_f hf h
          exact jS_out rfl ⟨rfl, rfl, rfl⟩ rfl (t_R_advances_47 hd (fun w M res hf => ih w M hf) _ _ hf)
def f_R_advances (w : Nat) (M : jp_M) : Option (jp_M) :=
  let M1 := jp_set M 68 (upd (M 68) 3 (M 68 4))
  f_R_advances_8 jFu w M1
theorem t_R_advances {Ln : Nat} {xs : Nat → Int32} {sv : jp_V} {w : Nat} {M : jp_M} {res : jp_M} (hf : f_R_advances w M = some res) : jE (jZ (jK Ln xs sv)) 5 67 [(.inr (some 68))] (jSH w) M (none, jSH w, res) := by
  unfold f_R_advances at hf
  refine jE_in (L0 := [some (.inr (some 68))]) rfl (Nat.le_of_ble_eq_true rfl) rfl (fun d hd => ?_)
  refine jR_in rfl ⟨rfl, rfl, rfl⟩ rfl ?_
  refine js_aload_n rfl ?_
  refine js_aload_n rfl ?_
  refine js_geti rfl rfl rfl ?_
  refine js_puti rfl rfl (Or.inl rfl) ?_
  exact jS_out rfl ⟨rfl, rfl, rfl⟩ rfl (t_R_advances_8 hd jFu _ _ hf)
/-! SwallowsAir$Reader.opens(II)V -/
def f_R_opens_89  (w : Nat) (M : jp_M) : Option (Nat × jp_M) :=
  (f_R_advances w M).bind fun q1 => (
  some (w, q1))
theorem t_R_opens_89 {Ln : Nat} {xs : Nat → Int32} {sv : jp_V} {d : Nat} (hd : 6 ≤ d)  (o1 : Option jp_V) (o2 : Option jp_V) (w : Nat) (M : jp_M) {res : Nat × jp_M} (hf : f_R_opens_89  w M = some res) : jR (jZ (jK Ln xs sv)) d 61 89 ([some (.inr (some 68)), o1, o2], [], jSH w, M) (none, jSH res.1, res.2) := by
  unfold f_R_opens_89 at hf
  refine jR_in rfl ⟨rfl, rfl, rfl⟩ rfl ?_
  refine js_aload_n rfl ?_
  obtain ⟨q1, hc_1, hf⟩ := jbind hf
  refine js_c1v (w := 0) rfl rfl ⟨rfl, rfl⟩ rfl rfl (t_R_advances hc_1) (by omega) ?_
  obtain rfl := Option.some.inj hf
  exact js_ret rfl rfl
def f_R_opens (a1 : Int32) (a2 : Int32) (w : Nat) (M : jp_M) : Option (Nat × jp_M) :=
  let M1 := jp_set M 68 (upd (M 68) 1 (jp_min a1 (400 : Int32)))
  let M2 := jp_set M1 68 (upd (M1 68) 4 (0 : Int32))
  let M3 := jp_set M2 68 (upd (M2 68) 7 (0 : Int32))
  let M4 := jp_set M3 68 (upd (M3 68) 8 (-1 : Int32))
  if a2 = (1 : Int32) then (
  f_R_opens_89 1001 M4) else if a2 = (2 : Int32) then (
  f_R_opens_89 1002 M4) else if a2 = (3 : Int32) then (
  f_R_opens_89 1003 M4) else (
  f_R_opens_89 1000 M4)
theorem t_R_opens {Ln : Nat} {xs : Nat → Int32} {sv : jp_V} {a1 : Int32} {a2 : Int32} {w : Nat} {M : jp_M} {res : Nat × jp_M} (hf : f_R_opens a1 a2 w M = some res) : jE (jZ (jK Ln xs sv)) 6 61 [(.inr (some 68)), (.inl a1), (.inl a2)] (jSH w) M (none, jSH res.1, res.2) := by
  unfold f_R_opens at hf
  refine jE_in (L0 := [some (.inr (some 68)), some (.inl a1), some (.inl a2)]) rfl (Nat.le_of_ble_eq_true rfl) rfl (fun d hd => ?_)
  refine jR_in rfl ⟨rfl, rfl, rfl⟩ rfl ?_
  refine js_aload_n rfl ?_
  refine js_iload_n rfl ?_
  refine js_aload_n rfl ?_
  refine js_getr rfl rfl rfl ?_
  refine js_alen (v := (400 : Int32)) rfl rfl rfl ?_
  refine js_min rfl ?_
  refine js_puti rfl rfl (Or.inl rfl) ?_
  refine js_aload_n rfl ?_
  refine js_iconst (v := (0 : Int32)) rfl ?_
  refine js_puti rfl rfl (Or.inl rfl) ?_
  refine js_aload_n rfl ?_
  refine js_iconst (v := (0 : Int32)) rfl ?_
  refine js_puti rfl rfl (Or.inl rfl) ?_
  refine js_aload_n rfl ?_
  refine js_iconst (v := (-1 : Int32)) rfl ?_
  refine js_puti rfl rfl (Or.inl rfl) ?_
  refine js_iload_n rfl ?_
  rcases jif_d hf with ⟨hk, hf⟩ | ⟨hk1, hf⟩
  · refine js_tabIn (v := (1 : Int32)) (off := 27) (tgt := 56) hk rfl rfl rfl rfl ?_
    refine jR_in rfl ⟨rfl, rfl, rfl⟩ rfl ?_
    refine js_aload_n rfl ?_
    refine js_ldcS ?_
    refine js_putr (sh' := jSH 1001) rfl rfl rfl rfl ?_
    refine js_goto (tgt := 89) rfl rfl ?_
    exact t_R_opens_89 hd _ _ _ _ hf
  · rcases jif_d hf with ⟨hk, hf⟩ | ⟨hk2, hf⟩
    · refine js_tabIn (v := (2 : Int32)) (off := 36) (tgt := 65) hk rfl rfl rfl rfl ?_
      refine jR_in rfl ⟨rfl, rfl, rfl⟩ rfl ?_
      refine js_aload_n rfl ?_
      refine js_ldcS ?_
      refine js_putr (sh' := jSH 1002) rfl rfl rfl rfl ?_
      refine js_goto (tgt := 89) rfl rfl ?_
      exact t_R_opens_89 hd _ _ _ _ hf
    · rcases jif_d hf with ⟨hk, hf⟩ | ⟨hk3, hf⟩
      · refine js_tabIn (v := (3 : Int32)) (off := 45) (tgt := 74) hk rfl rfl rfl rfl ?_
        refine jR_in rfl ⟨rfl, rfl, rfl⟩ rfl ?_
        refine js_aload_n rfl ?_
        refine js_ldcS ?_
        refine js_putr (sh' := jSH 1003) rfl rfl rfl rfl ?_
        refine js_goto (tgt := 89) rfl rfl ?_
        exact t_R_opens_89 hd _ _ _ _ hf
      · refine js_tabOut (tgt := 83) (jsw_4 hk1 hk2 hk3) rfl rfl ?_
        refine jR_in rfl ⟨rfl, rfl, rfl⟩ rfl ?_
        refine js_aload_n rfl ?_
        refine js_ldcS ?_
        refine js_putr (sh' := jSH 1000) rfl rfl rfl rfl ?_
        exact jS_out rfl ⟨rfl, rfl, rfl⟩ rfl (t_R_opens_89 hd _ _ _ _ hf)
/-! SwallowsAir$Law.clears()V -/
def f_L_clears (M : jp_M) : jp_M :=
  let M1 := jp_set M 70 (upd (M 70) 0 (0 : Int32))
  let M2 := jp_set M1 70 (upd (M1 70) 1 (0 : Int32))
  M2
theorem t_L_clears {Ln : Nat} {xs : Nat → Int32} {sv : jp_V} {w : Nat} {M : jp_M} {res : jp_M} (hf : f_L_clears M = res) : jE (jZ (jK Ln xs sv)) 0 34 [(.inr (some 70))] (jSH w) M (none, jSH w, res) := by
  unfold f_L_clears at hf
  refine jE_in (L0 := [some (.inr (some 70))]) rfl (Nat.le_of_ble_eq_true rfl) rfl (fun d hd => ?_)
  refine jR_in rfl ⟨rfl, rfl, rfl⟩ rfl ?_
  refine js_aload_n rfl ?_
  refine js_iconst (v := (0 : Int32)) rfl ?_
  refine js_puti rfl rfl (Or.inl rfl) ?_
  refine js_aload_n rfl ?_
  refine js_iconst (v := (0 : Int32)) rfl ?_
  refine js_puti rfl rfl (Or.inl rfl) ?_
  subst hf
  exact js_ret rfl rfl
/-! SwallowsAir$Reader.fails(I)Z -/
def f_R_fails (a1 : Int32) (M : jp_M) : Int32 × jp_M :=
  let M1 := jp_set M 68 (upd (M 68) 7 a1)
  let M2 := jp_set M1 68 (upd (M1 68) 8 (M1 68 3))
  ((0 : Int32), M2)
theorem t_R_fails {Ln : Nat} {xs : Nat → Int32} {sv : jp_V} {a1 : Int32} {w : Nat} {M : jp_M} {res : Int32 × jp_M} (hf : f_R_fails a1 M = res) : jE (jZ (jK Ln xs sv)) 0 62 [(.inr (some 68)), (.inl a1)] (jSH w) M (some (.inl res.1), jSH w, res.2) := by
  unfold f_R_fails at hf
  refine jE_in (L0 := [some (.inr (some 68)), some (.inl a1)]) rfl (Nat.le_of_ble_eq_true rfl) rfl (fun d hd => ?_)
  refine jR_in rfl ⟨rfl, rfl, rfl⟩ rfl ?_
  refine js_aload_n rfl ?_
  refine js_iload_n rfl ?_
  refine js_puti rfl rfl (Or.inl rfl) ?_
  refine js_aload_n rfl ?_
  refine js_aload_n rfl ?_
  refine js_geti rfl rfl rfl ?_
  refine js_puti rfl rfl (Or.inl rfl) ?_
  refine js_iconst (v := (0 : Int32)) rfl ?_
  subst hf
  exact js_iret rfl rfl
theorem b_R_fails {a1 : Int32} {M : jp_M} {res : Int32 × jp_M} (hf : f_R_fails a1 M = res) : res.1 = 0 ∨ res.1 = 1 := by
  unfold f_R_fails at hf
  subst hf
  exact Or.inl rfl
/-! SwallowsAir$LawReader.unit(Z)I -/
def f_LR_unit_86  (M : jp_M) : Int32 × jp_M :=
  let q1 := f_R_fails (1 : Int32) M
  ((-1 : Int32), q1.2)
theorem t_LR_unit_86 {Ln : Nat} {xs : Nat → Int32} {sv : jp_V} {d : Nat} (hd : 1 ≤ d)  (o1 : Option jp_V) (w : Nat) (M : jp_M) {res : Int32 × jp_M} (hf : f_LR_unit_86  M = res) : jR (jZ (jK Ln xs sv)) d 49 86 ([some (.inr (some 69)), o1], [], jSH w, M) (some (.inl res.1), jSH w, res.2) := by
  unfold f_LR_unit_86 at hf
  refine jR_in rfl ⟨rfl, rfl, rfl⟩ rfl ?_
  refine js_aload_n rfl ?_
  refine js_getr rfl rfl rfl ?_
  refine js_iconst (v := (1 : Int32)) rfl ?_
  refine js_c2i rfl rfl ⟨rfl, rfl⟩ rfl rfl (t_R_fails rfl) (by omega) ?_
  refine js_pop ?_
  refine js_iconst (v := (-1 : Int32)) rfl ?_
  subst hf
  exact js_iret rfl rfl
def f_LR_unit (a1 : Int32) (M : jp_M) : Int32 × jp_M :=
  if jp_c .ne (M 68 5) (2 : Int32) = true then (
  if jp_c .ne a1 0 = true then (
  f_LR_unit_86 M) else (
  if jp_c .ne (M 68 5) (1 : Int32) = true then (
  f_LR_unit_86 M) else (
  if jp_c .lt (M 68 6) (7 : Int32) = true then (
  f_LR_unit_86 M) else (
  ((((10000 : Int32) + (M 68 6)) - (7 : Int32)), M))))) else (
  if jp_c .eq a1 0 = true then (
  ((M 68 6), M)) else (
  if jp_c .ne (M 68 6) 0 = true then (
  ((M 68 6), M)) else (
  let q1 := f_R_fails (2 : Int32) M
  ((-1 : Int32), q1.2))))
theorem t_LR_unit {Ln : Nat} {xs : Nat → Int32} {sv : jp_V} {a1 : Int32} {w : Nat} {M : jp_M} {res : Int32 × jp_M} (hf : f_LR_unit a1 M = res) : jE (jZ (jK Ln xs sv)) 1 49 [(.inr (some 69)), (.inl a1)] (jSH w) M (some (.inl res.1), jSH w, res.2) := by
  unfold f_LR_unit at hf
  refine jE_in (L0 := [some (.inr (some 69)), some (.inl a1)]) rfl (Nat.le_of_ble_eq_true rfl) rfl (fun d hd => ?_)
  refine jR_in rfl ⟨rfl, rfl, rfl⟩ rfl ?_
  refine js_aload_n rfl ?_
  refine js_getr rfl rfl rfl ?_
  refine js_geti rfl rfl rfl ?_
  refine js_iconst (v := (2 : Int32)) rfl ?_
  refine js_icmp (tgt := 44) rfl rfl (fun h => ?_) (fun h => ?_)
  · have hf := jif_t hf h
    refine jR_in rfl ⟨rfl, rfl, rfl⟩ rfl ?_
    refine js_iload_n rfl ?_
    refine js_ifc (tgt := 86) rfl rfl (fun h => ?_) (fun h => ?_)
    · have hf := jif_t hf h
      exact t_LR_unit_86 hd _ _ _ hf
    · have hf := jif_f hf h
      refine js_aload_n rfl ?_
      refine js_getr rfl rfl rfl ?_
      refine js_geti rfl rfl rfl ?_
      refine js_iconst (v := (1 : Int32)) rfl ?_
      refine js_icmp (tgt := 86) rfl rfl (fun h => ?_) (fun h => ?_)
      · have hf := jif_t hf h
        exact t_LR_unit_86 hd _ _ _ hf
      · have hf := jif_f hf h
        refine js_aload_n rfl ?_
        refine js_getr rfl rfl rfl ?_
        refine js_geti rfl rfl rfl ?_
        refine js_bipush (v := (7 : Int32)) rfl ?_
        refine js_icmp (tgt := 86) rfl rfl (fun h => ?_) (fun h => ?_)
        · have hf := jif_t hf h
          exact t_LR_unit_86 hd _ _ _ hf
        · have hf := jif_f hf h
          refine js_sipush (v := (10000 : Int32)) rfl ?_
          refine js_aload_n rfl ?_
          refine js_getr rfl rfl rfl ?_
          refine js_geti rfl rfl rfl ?_
          refine js_iadd ?_
          refine js_bipush (v := (7 : Int32)) rfl ?_
          refine js_isub ?_
          subst hf
          exact js_iret rfl rfl
  · have hf := jif_f hf h
    refine js_iload_n rfl ?_
    refine js_ifc (tgt := 36) rfl rfl (fun h => ?_) (fun h => ?_)
    · have hf := jif_t hf h
      refine jR_in rfl ⟨rfl, rfl, rfl⟩ rfl ?_
      refine js_aload_n rfl ?_
      refine js_getr rfl rfl rfl ?_
      refine js_geti rfl rfl rfl ?_
      subst hf
      exact js_iret rfl rfl
    · have hf := jif_f hf h
      refine js_aload_n rfl ?_
      refine js_getr rfl rfl rfl ?_
      refine js_geti rfl rfl rfl ?_
      refine js_ifc (tgt := 36) rfl rfl (fun h => ?_) (fun h => ?_)
      · have hf := jif_t hf h
        refine jR_in rfl ⟨rfl, rfl, rfl⟩ rfl ?_
        refine js_aload_n rfl ?_
        refine js_getr rfl rfl rfl ?_
        refine js_geti rfl rfl rfl ?_
        subst hf
        exact js_iret rfl rfl
      · have hf := jif_f hf h
        refine js_aload_n rfl ?_
        refine js_getr rfl rfl rfl ?_
        refine js_iconst (v := (2 : Int32)) rfl ?_
        refine js_c2i rfl rfl ⟨rfl, rfl⟩ rfl rfl (t_R_fails rfl) (by omega) ?_
        refine js_pop ?_
        refine js_iconst (v := (-1 : Int32)) rfl ?_
        subst hf
        exact js_iret rfl rfl
/-! SwallowsAir$Law.adds(I)V -/
def f_L_adds (a1 : Int32) (M : jp_M) : Option (jp_M) :=
  if jp_c .ge (M 70 1) (400 : Int32) = true then (
  some M) else (
  jg (jp_in (M 70 1) 400) (
  let M1 := jp_set M 74 (upd (M 74) (Int32.toNatClampNeg (M 70 1)) (Int32.toInt16 a1).toInt32)
  let M3 := jp_set M1 70 (upd (M1 70) 1 ((M1 70 1) + (1 : Int32)))
  some M3))
theorem t_L_adds {Ln : Nat} {xs : Nat → Int32} {sv : jp_V} {a1 : Int32} {w : Nat} {M : jp_M} {res : jp_M} (hf : f_L_adds a1 M = some res) : jE (jZ (jK Ln xs sv)) 0 35 [(.inr (some 70)), (.inl a1)] (jSH w) M (none, jSH w, res) := by
  unfold f_L_adds at hf
  refine jE_in (L0 := [some (.inr (some 70)), some (.inl a1)]) rfl (Nat.le_of_ble_eq_true rfl) rfl (fun d hd => ?_)
  refine jR_in rfl ⟨rfl, rfl, rfl⟩ rfl ?_
  refine js_aload_n rfl ?_
  refine js_geti rfl rfl rfl ?_
  refine js_sipush (v := (400 : Int32)) rfl ?_
  refine js_icmp (tgt := 31) rfl rfl (fun h => ?_) (fun h => ?_)
  · have hf := jif_t hf h
    refine jR_in rfl ⟨rfl, rfl, rfl⟩ rfl ?_
    obtain rfl := Option.some.inj hf
    exact js_ret rfl rfl
  · have hf := jif_f hf h
    refine js_aload_n rfl ?_
    refine js_getr rfl rfl rfl ?_
    refine js_aload_n rfl ?_
    refine js_geti rfl rfl rfl ?_
    refine js_iload_n rfl ?_
    refine js_i2s ?_
    obtain ⟨hb2, hf⟩ := jg_some hf
    refine js_sast rfl hb2 ?_
    refine js_aload_n rfl ?_
    refine js_dup ?_
    refine js_geti rfl rfl rfl ?_
    refine js_iconst (v := (1 : Int32)) rfl ?_
    refine js_iadd ?_
    refine js_puti rfl rfl (Or.inl rfl) ?_
    obtain rfl := Option.some.inj hf
    exact js_ret rfl rfl
/-! SwallowsAir$Reader.isSign(C)Z -/
def f_R_isSign (a1 : Int32) (M : jp_M) : Int32 :=
  if jp_c .ne (M 68 5) (3 : Int32) = true then (
  (0 : Int32)) else (
  if jp_c .ne (M 68 6) a1 = true then (
  (0 : Int32)) else (
  (1 : Int32)))
theorem t_R_isSign {Ln : Nat} {xs : Nat → Int32} {sv : jp_V} {a1 : Int32} {w : Nat} {M : jp_M} {res : Int32} (hf : f_R_isSign a1 M = res) : jE (jZ (jK Ln xs sv)) 0 64 [(.inr (some 68)), (.inl a1)] (jSH w) M (some (.inl res), jSH w, M) := by
  unfold f_R_isSign at hf
  refine jE_in (L0 := [some (.inr (some 68)), some (.inl a1)]) rfl (Nat.le_of_ble_eq_true rfl) rfl (fun d hd => ?_)
  refine jR_in rfl ⟨rfl, rfl, rfl⟩ rfl ?_
  refine js_aload_n rfl ?_
  refine js_geti rfl rfl rfl ?_
  refine js_iconst (v := (3 : Int32)) rfl ?_
  refine js_icmp (tgt := 20) rfl rfl (fun h => ?_) (fun h => ?_)
  · have hf := jif_t hf h
    refine jR_in rfl ⟨rfl, rfl, rfl⟩ rfl ?_
    refine js_iconst (v := (0 : Int32)) rfl ?_
    subst hf
    exact js_iret rfl rfl
  · have hf := jif_f hf h
    refine js_aload_n rfl ?_
    refine js_geti rfl rfl rfl ?_
    refine js_iload_n rfl ?_
    refine js_icmp (tgt := 20) rfl rfl (fun h => ?_) (fun h => ?_)
    · have hf := jif_t hf h
      refine jR_in rfl ⟨rfl, rfl, rfl⟩ rfl ?_
      refine js_iconst (v := (0 : Int32)) rfl ?_
      subst hf
      exact js_iret rfl rfl
    · have hf := jif_f hf h
      refine js_iconst (v := (1 : Int32)) rfl ?_
      refine js_goto (tgt := 21) rfl rfl ?_
      refine jR_in rfl ⟨rfl, rfl, rfl⟩ rfl ?_
      subst hf
      exact js_iret rfl rfl
theorem b_R_isSign {a1 : Int32} {M : jp_M} {res : Int32} (hf : f_R_isSign a1 M = res) : res = 0 ∨ res = 1 := by
  unfold f_R_isSign at hf
  rcases jif_d hf with ⟨h, hf⟩ | ⟨h, hf⟩
  · subst hf
    exact Or.inl rfl
  · rcases jif_d hf with ⟨h, hf⟩ | ⟨h, hf⟩
    · subst hf
      exact Or.inl rfl
    · subst hf
      exact Or.inr rfl
/-! SwallowsAir$LawReader.sum()Z -/
def f_LR_sum_168 (c6 : Int32 → Int32 → Int32 → Nat → jp_M → Option (Int32 × jp_M)) (l1 : Int32) (l2 : Int32) (l3 : Int32) (w : Nat) (M : jp_M) : Option (Int32 × jp_M) :=
  (f_R_advances w M).bind fun q1 => (
  c6 l1 l2 (l3 + (1 : Int32)) w q1)
theorem t_LR_sum_168 {Ln : Nat} {xs : Nat → Int32} {sv : jp_V} {d : Nat} (hd : 6 ≤ d) {c6 : Int32 → Int32 → Int32 → Nat → jp_M → Option (Int32 × jp_M)} (hc6 : ∀ (l1 : Int32) (l2 : Int32) (l3 : Int32) (o4 : Option jp_V) (w : Nat) (M : jp_M) (res : Int32 × jp_M), c6 l1 l2 l3 w M = some res → jR (jZ (jK Ln xs sv)) d 48 6 ([some (.inr (some 69)), some (.inl l1), some (.inl l2), some (.inl l3), o4], [], jSH w, M) (some (.inl res.1), jSH w, res.2)) (l1 : Int32) (l2 : Int32) (l3 : Int32) (o4 : Option jp_V) (w : Nat) (M : jp_M) {res : Int32 × jp_M} (hf : f_LR_sum_168 c6 l1 l2 l3 w M = some res) : jR (jZ (jK Ln xs sv)) d 48 168 ([some (.inr (some 69)), some (.inl l1), some (.inl l2), some (.inl l3), o4], [], jSH w, M) (some (.inl res.1), jSH w, res.2) := by
  unfold f_LR_sum_168 at hf
  refine jR_in rfl ⟨rfl, rfl, rfl⟩ rfl ?_
  refine js_aload_n rfl ?_
  refine js_getr rfl rfl rfl ?_
  obtain ⟨q1, hc_1, hf⟩ := jbind hf
  refine js_c1v (w := 0) rfl rfl ⟨rfl, rfl⟩ rfl rfl (t_R_advances hc_1) (by omega) ?_
  refine js_iinc (v := (1 : Int32)) rfl rfl rfl rfl ?_
  refine js_goto (tgt := 6) rfl rfl ?_
  exact hc6 _ _ _ _ _ _ _ hf
theorem b_LR_sum_168 {c6 : Int32 → Int32 → Int32 → Nat → jp_M → Option (Int32 × jp_M)} (hc6 : ∀ (l1 : Int32) (l2 : Int32) (l3 : Int32) (w : Nat) (M : jp_M) (res : Int32 × jp_M), c6 l1 l2 l3 w M = some res → (res.1 = 0 ∨ res.1 = 1)) (l1 : Int32) (l2 : Int32) (l3 : Int32) (w : Nat) (M : jp_M) {res : Int32 × jp_M} (hf : f_LR_sum_168 c6 l1 l2 l3 w M = some res) : res.1 = 0 ∨ res.1 = 1 := by
  unfold f_LR_sum_168 at hf
  obtain ⟨q1, hc_1, hf⟩ := jbind hf
  exact hc6 _ _ _ _ _ _ hf
def f_LR_sum_161 (c6 : Int32 → Int32 → Int32 → Nat → jp_M → Option (Int32 × jp_M)) (l1 : Int32) (l3 : Int32) (s0 : Int32) (w : Nat) (M : jp_M) : Option (Int32 × jp_M) :=
  if jp_c .ne s0 0 = true then (
  f_LR_sum_168 c6 l1 s0 l3 w M) else (
  some ((1 : Int32), M))
theorem t_LR_sum_161 {Ln : Nat} {xs : Nat → Int32} {sv : jp_V} {d : Nat} (hd : 6 ≤ d) {c6 : Int32 → Int32 → Int32 → Nat → jp_M → Option (Int32 × jp_M)} (hc6 : ∀ (l1 : Int32) (l2 : Int32) (l3 : Int32) (o4 : Option jp_V) (w : Nat) (M : jp_M) (res : Int32 × jp_M), c6 l1 l2 l3 w M = some res → jR (jZ (jK Ln xs sv)) d 48 6 ([some (.inr (some 69)), some (.inl l1), some (.inl l2), some (.inl l3), o4], [], jSH w, M) (some (.inl res.1), jSH w, res.2)) (l1 : Int32) (l3 : Int32) (s0 : Int32) (o2 : Option jp_V) (o4 : Option jp_V) (w : Nat) (M : jp_M) {res : Int32 × jp_M} (hf : f_LR_sum_161 c6 l1 l3 s0 w M = some res) : jR (jZ (jK Ln xs sv)) d 48 161 ([some (.inr (some 69)), some (.inl l1), o2, some (.inl l3), o4], [.inl s0], jSH w, M) (some (.inl res.1), jSH w, res.2) := by
  unfold f_LR_sum_161 at hf
  refine jR_in rfl ⟨rfl, rfl, rfl⟩ rfl ?_
  refine js_istore_n rfl rfl ?_
  refine js_iload_n rfl ?_
  refine js_ifc (tgt := 168) rfl rfl (fun h => ?_) (fun h => ?_)
  · have hf := jif_t hf h
    exact t_LR_sum_168 hd hc6 _ _ _ _ _ _ hf
  · have hf := jif_f hf h
    refine js_iconst (v := (1 : Int32)) rfl ?_
    obtain rfl := Option.some.inj hf
    exact js_iret rfl rfl
theorem b_LR_sum_161 {c6 : Int32 → Int32 → Int32 → Nat → jp_M → Option (Int32 × jp_M)} (hc6 : ∀ (l1 : Int32) (l2 : Int32) (l3 : Int32) (w : Nat) (M : jp_M) (res : Int32 × jp_M), c6 l1 l2 l3 w M = some res → (res.1 = 0 ∨ res.1 = 1)) (l1 : Int32) (l3 : Int32) (s0 : Int32) (w : Nat) (M : jp_M) {res : Int32 × jp_M} (hf : f_LR_sum_161 c6 l1 l3 s0 w M = some res) : res.1 = 0 ∨ res.1 = 1 := by
  unfold f_LR_sum_161 at hf
  rcases jif_d hf with ⟨h, hf⟩ | ⟨h, hf⟩
  · exact b_LR_sum_168 hc6 _ _ _ _ _ hf
  · obtain rfl := Option.some.inj hf
    exact Or.inr rfl
def f_LR_sum_150 (c6 : Int32 → Int32 → Int32 → Nat → jp_M → Option (Int32 × jp_M)) (l1 : Int32) (l3 : Int32) (w : Nat) (M : jp_M) : Option (Int32 × jp_M) :=
  f_LR_sum_161 c6 l1 l3 (M 68 6) w M
theorem t_LR_sum_150 {Ln : Nat} {xs : Nat → Int32} {sv : jp_V} {d : Nat} (hd : 6 ≤ d) {c6 : Int32 → Int32 → Int32 → Nat → jp_M → Option (Int32 × jp_M)} (hc6 : ∀ (l1 : Int32) (l2 : Int32) (l3 : Int32) (o4 : Option jp_V) (w : Nat) (M : jp_M) (res : Int32 × jp_M), c6 l1 l2 l3 w M = some res → jR (jZ (jK Ln xs sv)) d 48 6 ([some (.inr (some 69)), some (.inl l1), some (.inl l2), some (.inl l3), o4], [], jSH w, M) (some (.inl res.1), jSH w, res.2)) (l1 : Int32) (l3 : Int32) (o2 : Option jp_V) (o4 : Option jp_V) (w : Nat) (M : jp_M) {res : Int32 × jp_M} (hf : f_LR_sum_150 c6 l1 l3 w M = some res) : jR (jZ (jK Ln xs sv)) d 48 150 ([some (.inr (some 69)), some (.inl l1), o2, some (.inl l3), o4], [], jSH w, M) (some (.inl res.1), jSH w, res.2) := by
  unfold f_LR_sum_150 at hf
  refine jR_in rfl ⟨rfl, rfl, rfl⟩ rfl ?_
  refine js_aload_n rfl ?_
  refine js_getr rfl rfl rfl ?_
  refine js_geti rfl rfl rfl ?_
  refine js_goto (tgt := 161) rfl rfl ?_
  exact t_LR_sum_161 hd hc6 _ _ _ _ _ _ _ hf
theorem b_LR_sum_150 {c6 : Int32 → Int32 → Int32 → Nat → jp_M → Option (Int32 × jp_M)} (hc6 : ∀ (l1 : Int32) (l2 : Int32) (l3 : Int32) (w : Nat) (M : jp_M) (res : Int32 × jp_M), c6 l1 l2 l3 w M = some res → (res.1 = 0 ∨ res.1 = 1)) (l1 : Int32) (l3 : Int32) (w : Nat) (M : jp_M) {res : Int32 × jp_M} (hf : f_LR_sum_150 c6 l1 l3 w M = some res) : res.1 = 0 ∨ res.1 = 1 := by
  unfold f_LR_sum_150 at hf
  exact b_LR_sum_161 hc6 _ _ _ _ _ hf
def f_LR_sum_126 (c6 : Int32 → Int32 → Int32 → Nat → jp_M → Option (Int32 × jp_M)) (l1 : Int32) (l3 : Int32) (w : Nat) (M : jp_M) : Option (Int32 × jp_M) :=
  if jp_c .ne (f_R_isSign (43 : Int32) M) 0 = true then (
  f_LR_sum_150 c6 l1 l3 w M) else (
  if jp_c .eq (f_R_isSign (45 : Int32) M) 0 = true then (
  f_LR_sum_161 c6 l1 l3 (0 : Int32) w M) else (
  f_LR_sum_150 c6 l1 l3 w M))
theorem t_LR_sum_126 {Ln : Nat} {xs : Nat → Int32} {sv : jp_V} {d : Nat} (hd : 6 ≤ d) {c6 : Int32 → Int32 → Int32 → Nat → jp_M → Option (Int32 × jp_M)} (hc6 : ∀ (l1 : Int32) (l2 : Int32) (l3 : Int32) (o4 : Option jp_V) (w : Nat) (M : jp_M) (res : Int32 × jp_M), c6 l1 l2 l3 w M = some res → jR (jZ (jK Ln xs sv)) d 48 6 ([some (.inr (some 69)), some (.inl l1), some (.inl l2), some (.inl l3), o4], [], jSH w, M) (some (.inl res.1), jSH w, res.2)) (l1 : Int32) (l3 : Int32) (o2 : Option jp_V) (o4 : Option jp_V) (w : Nat) (M : jp_M) {res : Int32 × jp_M} (hf : f_LR_sum_126 c6 l1 l3 w M = some res) : jR (jZ (jK Ln xs sv)) d 48 126 ([some (.inr (some 69)), some (.inl l1), o2, some (.inl l3), o4], [], jSH w, M) (some (.inl res.1), jSH w, res.2) := by
  unfold f_LR_sum_126 at hf
  refine jR_in rfl ⟨rfl, rfl, rfl⟩ rfl ?_
  refine js_aload_n rfl ?_
  refine js_getr rfl rfl rfl ?_
  refine js_bipush (v := (43 : Int32)) rfl ?_
  refine js_c2i rfl rfl ⟨rfl, rfl⟩ rfl rfl (t_R_isSign rfl) (by omega) ?_
  refine js_ifc (tgt := 150) rfl rfl (fun h => ?_) (fun h => ?_)
  · have hf := jif_t hf h
    exact t_LR_sum_150 hd hc6 _ _ _ _ _ _ hf
  · have hf := jif_f hf h
    refine js_aload_n rfl ?_
    refine js_getr rfl rfl rfl ?_
    refine js_bipush (v := (45 : Int32)) rfl ?_
    refine js_c2i rfl rfl ⟨rfl, rfl⟩ rfl rfl (t_R_isSign rfl) (by omega) ?_
    refine js_ifc (tgt := 160) rfl rfl (fun h => ?_) (fun h => ?_)
    · have hf := jif_t hf h
      refine jR_in rfl ⟨rfl, rfl, rfl⟩ rfl ?_
      refine js_iconst (v := (0 : Int32)) rfl ?_
      exact jS_out rfl ⟨rfl, rfl, rfl⟩ rfl (t_LR_sum_161 hd hc6 _ _ _ _ _ _ _ hf)
    · have hf := jif_f hf h
      exact jS_out rfl ⟨rfl, rfl, rfl⟩ rfl (t_LR_sum_150 hd hc6 _ _ _ _ _ _ hf)
theorem b_LR_sum_126 {c6 : Int32 → Int32 → Int32 → Nat → jp_M → Option (Int32 × jp_M)} (hc6 : ∀ (l1 : Int32) (l2 : Int32) (l3 : Int32) (w : Nat) (M : jp_M) (res : Int32 × jp_M), c6 l1 l2 l3 w M = some res → (res.1 = 0 ∨ res.1 = 1)) (l1 : Int32) (l3 : Int32) (w : Nat) (M : jp_M) {res : Int32 × jp_M} (hf : f_LR_sum_126 c6 l1 l3 w M = some res) : res.1 = 0 ∨ res.1 = 1 := by
  unfold f_LR_sum_126 at hf
  rcases jif_d hf with ⟨h, hf⟩ | ⟨h, hf⟩
  · exact b_LR_sum_150 hc6 _ _ _ _ hf
  · rcases jif_d hf with ⟨h, hf⟩ | ⟨h, hf⟩
    · exact b_LR_sum_161 hc6 _ _ _ _ _ hf
    · exact b_LR_sum_150 hc6 _ _ _ _ hf
def f_LR_sum_105 (c6 : Int32 → Int32 → Int32 → Nat → jp_M → Option (Int32 × jp_M)) (l2 : Int32) (l3 : Int32) (s0 : Int32) (w : Nat) (M : jp_M) : Option (Int32 × jp_M) :=
  if jp_c .ne s0 0 = true then (
  f_LR_sum_168 c6 s0 l2 l3 w M) else (
  if jp_c .eq l2 0 = true then (
  f_LR_sum_126 c6 s0 l3 w M) else (
  (f_L_adds ((20000 : Int32) + l2) M).bind fun q1 => (
  f_LR_sum_126 c6 s0 l3 w q1)))
theorem t_LR_sum_105 {Ln : Nat} {xs : Nat → Int32} {sv : jp_V} {d : Nat} (hd : 6 ≤ d) {c6 : Int32 → Int32 → Int32 → Nat → jp_M → Option (Int32 × jp_M)} (hc6 : ∀ (l1 : Int32) (l2 : Int32) (l3 : Int32) (o4 : Option jp_V) (w : Nat) (M : jp_M) (res : Int32 × jp_M), c6 l1 l2 l3 w M = some res → jR (jZ (jK Ln xs sv)) d 48 6 ([some (.inr (some 69)), some (.inl l1), some (.inl l2), some (.inl l3), o4], [], jSH w, M) (some (.inl res.1), jSH w, res.2)) (l2 : Int32) (l3 : Int32) (s0 : Int32) (o1 : Option jp_V) (o4 : Option jp_V) (w : Nat) (M : jp_M) {res : Int32 × jp_M} (hf : f_LR_sum_105 c6 l2 l3 s0 w M = some res) : jR (jZ (jK Ln xs sv)) d 48 105 ([some (.inr (some 69)), o1, some (.inl l2), some (.inl l3), o4], [.inl s0], jSH w, M) (some (.inl res.1), jSH w, res.2) := by
  unfold f_LR_sum_105 at hf
  refine jR_in rfl ⟨rfl, rfl, rfl⟩ rfl ?_
  refine js_istore_n rfl rfl ?_
  refine js_iload_n rfl ?_
  refine js_ifc (tgt := 168) rfl rfl (fun h => ?_) (fun h => ?_)
  · have hf := jif_t hf h
    exact t_LR_sum_168 hd hc6 _ _ _ _ _ _ hf
  · have hf := jif_f hf h
    refine js_iload_n rfl ?_
    refine js_ifc (tgt := 126) rfl rfl (fun h => ?_) (fun h => ?_)
    · have hf := jif_t hf h
      exact t_LR_sum_126 hd hc6 _ _ _ _ _ _ hf
    · have hf := jif_f hf h
      refine js_aload_n rfl ?_
      refine js_getr rfl rfl rfl ?_
      refine js_sipush (v := (20000 : Int32)) rfl ?_
      refine js_iload_n rfl ?_
      refine js_iadd ?_
      obtain ⟨q1, hc_1, hf⟩ := jbind hf
      refine js_c2v (w := 0) rfl rfl ⟨rfl, rfl⟩ rfl rfl (t_L_adds hc_1) (by omega) ?_
      exact jS_out rfl ⟨rfl, rfl, rfl⟩ rfl (t_LR_sum_126 hd hc6 _ _ _ _ _ _ hf)
theorem b_LR_sum_105 {c6 : Int32 → Int32 → Int32 → Nat → jp_M → Option (Int32 × jp_M)} (hc6 : ∀ (l1 : Int32) (l2 : Int32) (l3 : Int32) (w : Nat) (M : jp_M) (res : Int32 × jp_M), c6 l1 l2 l3 w M = some res → (res.1 = 0 ∨ res.1 = 1)) (l2 : Int32) (l3 : Int32) (s0 : Int32) (w : Nat) (M : jp_M) {res : Int32 × jp_M} (hf : f_LR_sum_105 c6 l2 l3 s0 w M = some res) : res.1 = 0 ∨ res.1 = 1 := by
  unfold f_LR_sum_105 at hf
  rcases jif_d hf with ⟨h, hf⟩ | ⟨h, hf⟩
  · exact b_LR_sum_168 hc6 _ _ _ _ _ hf
  · rcases jif_d hf with ⟨h, hf⟩ | ⟨h, hf⟩
    · exact b_LR_sum_126 hc6 _ _ _ _ hf
    · obtain ⟨q1, hc_1, hf⟩ := jbind hf
      exact b_LR_sum_126 hc6 _ _ _ _ hf
def f_LR_sum_94 (c6 : Int32 → Int32 → Int32 → Nat → jp_M → Option (Int32 × jp_M)) (l2 : Int32) (l3 : Int32) (w : Nat) (M : jp_M) : Option (Int32 × jp_M) :=
  f_LR_sum_105 c6 l2 l3 (M 68 6) w M
theorem t_LR_sum_94 {Ln : Nat} {xs : Nat → Int32} {sv : jp_V} {d : Nat} (hd : 6 ≤ d) {c6 : Int32 → Int32 → Int32 → Nat → jp_M → Option (Int32 × jp_M)} (hc6 : ∀ (l1 : Int32) (l2 : Int32) (l3 : Int32) (o4 : Option jp_V) (w : Nat) (M : jp_M) (res : Int32 × jp_M), c6 l1 l2 l3 w M = some res → jR (jZ (jK Ln xs sv)) d 48 6 ([some (.inr (some 69)), some (.inl l1), some (.inl l2), some (.inl l3), o4], [], jSH w, M) (some (.inl res.1), jSH w, res.2)) (l2 : Int32) (l3 : Int32) (o1 : Option jp_V) (o4 : Option jp_V) (w : Nat) (M : jp_M) {res : Int32 × jp_M} (hf : f_LR_sum_94 c6 l2 l3 w M = some res) : jR (jZ (jK Ln xs sv)) d 48 94 ([some (.inr (some 69)), o1, some (.inl l2), some (.inl l3), o4], [], jSH w, M) (some (.inl res.1), jSH w, res.2) := by
  unfold f_LR_sum_94 at hf
  refine jR_in rfl ⟨rfl, rfl, rfl⟩ rfl ?_
  refine js_aload_n rfl ?_
  refine js_getr rfl rfl rfl ?_
  refine js_geti rfl rfl rfl ?_
  refine js_goto (tgt := 105) rfl rfl ?_
  exact t_LR_sum_105 hd hc6 _ _ _ _ _ _ _ hf
theorem b_LR_sum_94 {c6 : Int32 → Int32 → Int32 → Nat → jp_M → Option (Int32 × jp_M)} (hc6 : ∀ (l1 : Int32) (l2 : Int32) (l3 : Int32) (w : Nat) (M : jp_M) (res : Int32 × jp_M), c6 l1 l2 l3 w M = some res → (res.1 = 0 ∨ res.1 = 1)) (l2 : Int32) (l3 : Int32) (w : Nat) (M : jp_M) {res : Int32 × jp_M} (hf : f_LR_sum_94 c6 l2 l3 w M = some res) : res.1 = 0 ∨ res.1 = 1 := by
  unfold f_LR_sum_94 at hf
  exact b_LR_sum_105 hc6 _ _ _ _ _ hf
def f_LR_sum_70 (c6 : Int32 → Int32 → Int32 → Nat → jp_M → Option (Int32 × jp_M)) (l2 : Int32) (l3 : Int32) (w : Nat) (M : jp_M) : Option (Int32 × jp_M) :=
  if jp_c .ne (f_R_isSign (42 : Int32) M) 0 = true then (
  f_LR_sum_94 c6 l2 l3 w M) else (
  if jp_c .eq (f_R_isSign (47 : Int32) M) 0 = true then (
  f_LR_sum_105 c6 l2 l3 (0 : Int32) w M) else (
  f_LR_sum_94 c6 l2 l3 w M))
theorem t_LR_sum_70 {Ln : Nat} {xs : Nat → Int32} {sv : jp_V} {d : Nat} (hd : 6 ≤ d) {c6 : Int32 → Int32 → Int32 → Nat → jp_M → Option (Int32 × jp_M)} (hc6 : ∀ (l1 : Int32) (l2 : Int32) (l3 : Int32) (o4 : Option jp_V) (w : Nat) (M : jp_M) (res : Int32 × jp_M), c6 l1 l2 l3 w M = some res → jR (jZ (jK Ln xs sv)) d 48 6 ([some (.inr (some 69)), some (.inl l1), some (.inl l2), some (.inl l3), o4], [], jSH w, M) (some (.inl res.1), jSH w, res.2)) (l2 : Int32) (l3 : Int32) (o1 : Option jp_V) (o4 : Option jp_V) (w : Nat) (M : jp_M) {res : Int32 × jp_M} (hf : f_LR_sum_70 c6 l2 l3 w M = some res) : jR (jZ (jK Ln xs sv)) d 48 70 ([some (.inr (some 69)), o1, some (.inl l2), some (.inl l3), o4], [], jSH w, M) (some (.inl res.1), jSH w, res.2) := by
  unfold f_LR_sum_70 at hf
  refine jR_in rfl ⟨rfl, rfl, rfl⟩ rfl ?_
  refine js_aload_n rfl ?_
  refine js_getr rfl rfl rfl ?_
  refine js_bipush (v := (42 : Int32)) rfl ?_
  refine js_c2i rfl rfl ⟨rfl, rfl⟩ rfl rfl (t_R_isSign rfl) (by omega) ?_
  refine js_ifc (tgt := 94) rfl rfl (fun h => ?_) (fun h => ?_)
  · have hf := jif_t hf h
    exact t_LR_sum_94 hd hc6 _ _ _ _ _ _ hf
  · have hf := jif_f hf h
    refine js_aload_n rfl ?_
    refine js_getr rfl rfl rfl ?_
    refine js_bipush (v := (47 : Int32)) rfl ?_
    refine js_c2i rfl rfl ⟨rfl, rfl⟩ rfl rfl (t_R_isSign rfl) (by omega) ?_
    refine js_ifc (tgt := 104) rfl rfl (fun h => ?_) (fun h => ?_)
    · have hf := jif_t hf h
      refine jR_in rfl ⟨rfl, rfl, rfl⟩ rfl ?_
      refine js_iconst (v := (0 : Int32)) rfl ?_
      exact jS_out rfl ⟨rfl, rfl, rfl⟩ rfl (t_LR_sum_105 hd hc6 _ _ _ _ _ _ _ hf)
    · have hf := jif_f hf h
      exact jS_out rfl ⟨rfl, rfl, rfl⟩ rfl (t_LR_sum_94 hd hc6 _ _ _ _ _ _ hf)
theorem b_LR_sum_70 {c6 : Int32 → Int32 → Int32 → Nat → jp_M → Option (Int32 × jp_M)} (hc6 : ∀ (l1 : Int32) (l2 : Int32) (l3 : Int32) (w : Nat) (M : jp_M) (res : Int32 × jp_M), c6 l1 l2 l3 w M = some res → (res.1 = 0 ∨ res.1 = 1)) (l2 : Int32) (l3 : Int32) (w : Nat) (M : jp_M) {res : Int32 × jp_M} (hf : f_LR_sum_70 c6 l2 l3 w M = some res) : res.1 = 0 ∨ res.1 = 1 := by
  unfold f_LR_sum_70 at hf
  rcases jif_d hf with ⟨h, hf⟩ | ⟨h, hf⟩
  · exact b_LR_sum_94 hc6 _ _ _ _ hf
  · rcases jif_d hf with ⟨h, hf⟩ | ⟨h, hf⟩
    · exact b_LR_sum_105 hc6 _ _ _ _ _ hf
    · exact b_LR_sum_94 hc6 _ _ _ _ hf
def f_LR_sum_25 (c6 : Int32 → Int32 → Int32 → Nat → jp_M → Option (Int32 × jp_M)) (l1 : Int32) (l2 : Int32) (l3 : Int32) (s1 : Int32) (w : Nat) (M : jp_M) : Option (Int32 × jp_M) :=
  let q1 := f_LR_unit s1 M
  if jp_c .ne q1.1 (-1 : Int32) = true then (
  (f_L_adds q1.1 q1.2).bind fun q2 => (
  (f_R_advances w q2).bind fun q3 => (
  if jp_c .eq l1 0 = true then (
  f_LR_sum_70 c6 l2 l3 w q3) else (
  (f_L_adds ((20000 : Int32) + l1) q3).bind fun q4 => (
  f_LR_sum_70 c6 l2 l3 w q4))))) else (
  some ((0 : Int32), q1.2))
theorem t_LR_sum_25 {Ln : Nat} {xs : Nat → Int32} {sv : jp_V} {d : Nat} (hd : 6 ≤ d) {c6 : Int32 → Int32 → Int32 → Nat → jp_M → Option (Int32 × jp_M)} (hc6 : ∀ (l1 : Int32) (l2 : Int32) (l3 : Int32) (o4 : Option jp_V) (w : Nat) (M : jp_M) (res : Int32 × jp_M), c6 l1 l2 l3 w M = some res → jR (jZ (jK Ln xs sv)) d 48 6 ([some (.inr (some 69)), some (.inl l1), some (.inl l2), some (.inl l3), o4], [], jSH w, M) (some (.inl res.1), jSH w, res.2)) (l1 : Int32) (l2 : Int32) (l3 : Int32) (s1 : Int32) (o4 : Option jp_V) (w : Nat) (M : jp_M) {res : Int32 × jp_M} (hf : f_LR_sum_25 c6 l1 l2 l3 s1 w M = some res) : jR (jZ (jK Ln xs sv)) d 48 25 ([some (.inr (some 69)), some (.inl l1), some (.inl l2), some (.inl l3), o4], [.inl s1, (.inr (some 69))], jSH w, M) (some (.inl res.1), jSH w, res.2) := by
  unfold f_LR_sum_25 at hf
  refine jR_in rfl ⟨rfl, rfl, rfl⟩ rfl ?_
  refine js_c2i rfl rfl ⟨rfl, rfl⟩ rfl rfl (t_LR_unit rfl) (by omega) ?_
  refine js_istore rfl rfl ?_
  refine js_iload rfl ?_
  refine js_iconst (v := (-1 : Int32)) rfl ?_
  refine js_icmp (tgt := 38) rfl rfl (fun h => ?_) (fun h => ?_)
  · have hf := jif_t hf h
    refine jR_in rfl ⟨rfl, rfl, rfl⟩ rfl ?_
    refine js_aload_n rfl ?_
    refine js_getr rfl rfl rfl ?_
    refine js_iload rfl ?_
    obtain ⟨q2, hc_2, hf⟩ := jbind hf
    refine js_c2v (w := 0) rfl rfl ⟨rfl, rfl⟩ rfl rfl (t_L_adds hc_2) (by omega) ?_
    refine js_aload_n rfl ?_
    refine js_getr rfl rfl rfl ?_
    obtain ⟨q3, hc_3, hf⟩ := jbind hf
    refine js_c1v (w := 0) rfl rfl ⟨rfl, rfl⟩ rfl rfl (t_R_advances hc_3) (by omega) ?_
    refine js_iload_n rfl ?_
    refine js_ifc (tgt := 70) rfl rfl (fun h => ?_) (fun h => ?_)
    · have hf := jif_t hf h
      exact t_LR_sum_70 hd hc6 _ _ _ _ _ _ hf
    · have hf := jif_f hf h
      refine js_aload_n rfl ?_
      refine js_getr rfl rfl rfl ?_
      refine js_sipush (v := (20000 : Int32)) rfl ?_
      refine js_iload_n rfl ?_
      refine js_iadd ?_
      obtain ⟨q4, hc_4, hf⟩ := jbind hf
      refine js_c2v (w := 0) rfl rfl ⟨rfl, rfl⟩ rfl rfl (t_L_adds hc_4) (by omega) ?_
      exact jS_out rfl ⟨rfl, rfl, rfl⟩ rfl (t_LR_sum_70 hd hc6 _ _ _ _ _ _ hf)
  · have hf := jif_f hf h
    refine js_iconst (v := (0 : Int32)) rfl ?_
    obtain rfl := Option.some.inj hf
    exact js_iret rfl rfl
theorem b_LR_sum_25 {c6 : Int32 → Int32 → Int32 → Nat → jp_M → Option (Int32 × jp_M)} (hc6 : ∀ (l1 : Int32) (l2 : Int32) (l3 : Int32) (w : Nat) (M : jp_M) (res : Int32 × jp_M), c6 l1 l2 l3 w M = some res → (res.1 = 0 ∨ res.1 = 1)) (l1 : Int32) (l2 : Int32) (l3 : Int32) (s1 : Int32) (w : Nat) (M : jp_M) {res : Int32 × jp_M} (hf : f_LR_sum_25 c6 l1 l2 l3 s1 w M = some res) : res.1 = 0 ∨ res.1 = 1 := by
  unfold f_LR_sum_25 at hf
  rcases jif_d hf with ⟨h, hf⟩ | ⟨h, hf⟩
  · obtain ⟨q2, hc_2, hf⟩ := jbind hf
    obtain ⟨q3, hc_3, hf⟩ := jbind hf
    rcases jif_d hf with ⟨h, hf⟩ | ⟨h, hf⟩
    · exact b_LR_sum_70 hc6 _ _ _ _ hf
    · obtain ⟨q4, hc_4, hf⟩ := jbind hf
      exact b_LR_sum_70 hc6 _ _ _ _ hf
  · obtain rfl := Option.some.inj hf
    exact Or.inl rfl
def f_LR_sum_6  : Nat → Int32 → Int32 → Int32 → Nat → jp_M → Option (Int32 × jp_M)
  | 0, _, _, _, _, _ => none
  | n + 1, l1, l2, l3, w, M =>
    if jp_c .ge l3 (400 : Int32) = true then (
    let q1 := f_R_fails (1 : Int32) M
    some (q1.1, q1.2)) else (
    if jp_c .ne l1 (47 : Int32) = true then (
    f_LR_sum_25 (f_LR_sum_6 n ) l1 l2 l3 (0 : Int32) w M) else (
    f_LR_sum_25 (f_LR_sum_6 n ) l1 l2 l3 (1 : Int32) w M))
theorem t_LR_sum_6 {Ln : Nat} {xs : Nat → Int32} {sv : jp_V} {d : Nat} (hd : 6 ≤ d)  : ∀ (n : Nat) (l1 : Int32) (l2 : Int32) (l3 : Int32) (o4 : Option jp_V) (w : Nat) (M : jp_M) {res : Int32 × jp_M}, f_LR_sum_6 n  l1 l2 l3 w M = some res → jR (jZ (jK Ln xs sv)) d 48 6 ([some (.inr (some 69)), some (.inl l1), some (.inl l2), some (.inl l3), o4], [], jSH w, M) (some (.inl res.1), jSH w, res.2) := by
  intro n
  induction n with
  | zero =>
    intro l1 l2 l3 o4 w M res hf
    cases hf
  | succ n ih =>
    intro l1 l2 l3 o4 w M res hf
    rw [f_LR_sum_6] at hf
    refine jR_in rfl ⟨rfl, rfl, rfl⟩ rfl ?_
    refine js_iload_n rfl ?_
    refine js_sipush (v := (400 : Int32)) rfl ?_
    refine js_icmp (tgt := 181) rfl rfl (fun h => ?_) (fun h => ?_)
    · have hf := jif_t hf h
      refine jR_in rfl ⟨rfl, rfl, rfl⟩ rfl ?_
      refine js_aload_n rfl ?_
      refine js_getr rfl rfl rfl ?_
      refine js_iconst (v := (1 : Int32)) rfl ?_
      refine js_c2i rfl rfl ⟨rfl, rfl⟩ rfl rfl (t_R_fails rfl) (by omega) ?_
      obtain rfl := Option.some.inj hf
      exact js_iret (jbool (b_R_fails rfl)) rfl
    · have hf := jif_f hf h
      refine js_aload_n rfl ?_
      refine js_iload_n rfl ?_
      refine js_bipush (v := (47 : Int32)) rfl ?_
      refine js_icmp (tgt := 24) rfl rfl (fun h => ?_) (fun h => ?_)
      · have hf := jif_t hf h
        refine jR_in rfl ⟨rfl, rfl, rfl⟩ rfl ?_
        refine js_iconst (v := (0 : Int32)) rfl ?_
        exact jS_out rfl ⟨rfl, rfl, rfl⟩ rfl (t_LR_sum_25 hd (fun l1 l2 l3 o4 w M res hf => ih l1 l2 l3 o4 w M hf) _ _ _ _ _ _ _ hf)
      · have hf := jif_f hf h
        refine js_iconst (v := (1 : Int32)) rfl ?_
        refine js_goto (tgt := 25) rfl rfl ?_
        exact t_LR_sum_25 hd (fun l1 l2 l3 o4 w M res hf => ih l1 l2 l3 o4 w M hf) _ _ _ _ _ _ _ hf
theorem b_LR_sum_6  : ∀ (n : Nat) (l1 : Int32) (l2 : Int32) (l3 : Int32) (w : Nat) (M : jp_M) {res : Int32 × jp_M}, f_LR_sum_6 n  l1 l2 l3 w M = some res → (res.1 = 0 ∨ res.1 = 1) := by
  intro n
  induction n with
  | zero =>
    intro l1 l2 l3 w M res hf
    cases hf
  | succ n ih =>
    intro l1 l2 l3 w M res hf
    rw [f_LR_sum_6] at hf
    rcases jif_d hf with ⟨h, hf⟩ | ⟨h, hf⟩
    · obtain rfl := Option.some.inj hf
      exact (b_R_fails rfl)
    · rcases jif_d hf with ⟨h, hf⟩ | ⟨h, hf⟩
      · exact b_LR_sum_25 (fun l1 l2 l3 w M res hf => ih l1 l2 l3 w M hf) _ _ _ _ _ _ hf
      · exact b_LR_sum_25 (fun l1 l2 l3 w M res hf => ih l1 l2 l3 w M hf) _ _ _ _ _ _ hf
def f_LR_sum (w : Nat) (M : jp_M) : Option (Int32 × jp_M) :=
  f_LR_sum_6 jFu (0 : Int32) (0 : Int32) (0 : Int32) w M
theorem t_LR_sum {Ln : Nat} {xs : Nat → Int32} {sv : jp_V} {w : Nat} {M : jp_M} {res : Int32 × jp_M} (hf : f_LR_sum w M = some res) : jE (jZ (jK Ln xs sv)) 6 48 [(.inr (some 69))] (jSH w) M (some (.inl res.1), jSH w, res.2) := by
  unfold f_LR_sum at hf
  refine jE_in (L0 := [some (.inr (some 69)), none, none, none, none]) rfl (Nat.le_of_ble_eq_true rfl) rfl (fun d hd => ?_)
  refine jR_in rfl ⟨rfl, rfl, rfl⟩ rfl ?_
  refine js_iconst (v := (0 : Int32)) rfl ?_
  refine js_istore_n rfl rfl ?_
  refine js_iconst (v := (0 : Int32)) rfl ?_
  refine js_istore_n rfl rfl ?_
  refine js_iconst (v := (0 : Int32)) rfl ?_
  refine js_istore_n rfl rfl ?_
  exact jS_out rfl ⟨rfl, rfl, rfl⟩ rfl (t_LR_sum_6 hd jFu _ _ _ _ _ _ hf)
theorem b_LR_sum {w : Nat} {M : jp_M} {res : Int32 × jp_M} (hf : f_LR_sum w M = some res) : res.1 = 0 ∨ res.1 = 1 := by
  unfold f_LR_sum at hf
  exact b_LR_sum_6 jFu _ _ _ _ _ hf
/-! SwallowsAir$Reader.isWord(I)Z -/
def f_R_isWord (a1 : Int32) (M : jp_M) : Int32 :=
  if jp_c .ne (M 68 5) (1 : Int32) = true then (
  (0 : Int32)) else (
  if jp_c .ne (M 68 6) a1 = true then (
  (0 : Int32)) else (
  (1 : Int32)))
theorem t_R_isWord {Ln : Nat} {xs : Nat → Int32} {sv : jp_V} {a1 : Int32} {w : Nat} {M : jp_M} {res : Int32} (hf : f_R_isWord a1 M = res) : jE (jZ (jK Ln xs sv)) 0 63 [(.inr (some 68)), (.inl a1)] (jSH w) M (some (.inl res), jSH w, M) := by
  unfold f_R_isWord at hf
  refine jE_in (L0 := [some (.inr (some 68)), some (.inl a1)]) rfl (Nat.le_of_ble_eq_true rfl) rfl (fun d hd => ?_)
  refine jR_in rfl ⟨rfl, rfl, rfl⟩ rfl ?_
  refine js_aload_n rfl ?_
  refine js_geti rfl rfl rfl ?_
  refine js_iconst (v := (1 : Int32)) rfl ?_
  refine js_icmp (tgt := 20) rfl rfl (fun h => ?_) (fun h => ?_)
  · have hf := jif_t hf h
    refine jR_in rfl ⟨rfl, rfl, rfl⟩ rfl ?_
    refine js_iconst (v := (0 : Int32)) rfl ?_
    subst hf
    exact js_iret rfl rfl
  · have hf := jif_f hf h
    refine js_aload_n rfl ?_
    refine js_geti rfl rfl rfl ?_
    refine js_iload_n rfl ?_
    refine js_icmp (tgt := 20) rfl rfl (fun h => ?_) (fun h => ?_)
    · have hf := jif_t hf h
      refine jR_in rfl ⟨rfl, rfl, rfl⟩ rfl ?_
      refine js_iconst (v := (0 : Int32)) rfl ?_
      subst hf
      exact js_iret rfl rfl
    · have hf := jif_f hf h
      refine js_iconst (v := (1 : Int32)) rfl ?_
      refine js_goto (tgt := 21) rfl rfl ?_
      refine jR_in rfl ⟨rfl, rfl, rfl⟩ rfl ?_
      subst hf
      exact js_iret rfl rfl
theorem b_R_isWord {a1 : Int32} {M : jp_M} {res : Int32} (hf : f_R_isWord a1 M = res) : res = 0 ∨ res = 1 := by
  unfold f_R_isWord at hf
  rcases jif_d hf with ⟨h, hf⟩ | ⟨h, hf⟩
  · subst hf
    exact Or.inl rfl
  · rcases jif_d hf with ⟨h, hf⟩ | ⟨h, hf⟩
    · subst hf
      exact Or.inl rfl
    · subst hf
      exact Or.inr rfl
/-! SwallowsAir$Reader.passesSign(C)Z -/
def f_R_passesSign (a1 : Int32) (w : Nat) (M : jp_M) : Option (Int32 × jp_M) :=
  if jp_c .ne (f_R_isSign a1 M) 0 = true then (
  (f_R_advances w M).bind fun q2 => (
  some ((1 : Int32), q2))) else (
  let q3 := f_R_fails (1 : Int32) M
  some (q3.1, q3.2))
theorem t_R_passesSign {Ln : Nat} {xs : Nat → Int32} {sv : jp_V} {a1 : Int32} {w : Nat} {M : jp_M} {res : Int32 × jp_M} (hf : f_R_passesSign a1 w M = some res) : jE (jZ (jK Ln xs sv)) 6 66 [(.inr (some 68)), (.inl a1)] (jSH w) M (some (.inl res.1), jSH w, res.2) := by
  unfold f_R_passesSign at hf
  refine jE_in (L0 := [some (.inr (some 68)), some (.inl a1)]) rfl (Nat.le_of_ble_eq_true rfl) rfl (fun d hd => ?_)
  refine jR_in rfl ⟨rfl, rfl, rfl⟩ rfl ?_
  refine js_aload_n rfl ?_
  refine js_iload_n rfl ?_
  refine js_c2i rfl rfl ⟨rfl, rfl⟩ rfl rfl (t_R_isSign rfl) (by omega) ?_
  refine js_ifc (tgt := 14) rfl rfl (fun h => ?_) (fun h => ?_)
  · have hf := jif_t hf h
    refine jR_in rfl ⟨rfl, rfl, rfl⟩ rfl ?_
    refine js_aload_n rfl ?_
    obtain ⟨q2, hc_2, hf⟩ := jbind hf
    refine js_c1v (w := 0) rfl rfl ⟨rfl, rfl⟩ rfl rfl (t_R_advances hc_2) (by omega) ?_
    refine js_iconst (v := (1 : Int32)) rfl ?_
    obtain rfl := Option.some.inj hf
    exact js_iret rfl rfl
  · have hf := jif_f hf h
    refine js_aload_n rfl ?_
    refine js_iconst (v := (1 : Int32)) rfl ?_
    refine js_c2i rfl rfl ⟨rfl, rfl⟩ rfl rfl (t_R_fails rfl) (by omega) ?_
    obtain rfl := Option.some.inj hf
    exact js_iret (jbool (b_R_fails rfl)) rfl
theorem b_R_passesSign {a1 : Int32} {w : Nat} {M : jp_M} {res : Int32 × jp_M} (hf : f_R_passesSign a1 w M = some res) : res.1 = 0 ∨ res.1 = 1 := by
  unfold f_R_passesSign at hf
  rcases jif_d hf with ⟨h, hf⟩ | ⟨h, hf⟩
  · obtain ⟨q2, hc_2, hf⟩ := jbind hf
    obtain rfl := Option.some.inj hf
    exact Or.inr rfl
  · obtain rfl := Option.some.inj hf
    exact (b_R_fails rfl)
/-! SwallowsAir$Law.becomes(LSwallowsAir$Law;)V -/
def f_L_becomes (M : jp_M) : Option (jp_M) :=
  let M1 := jp_set M 7 (upd (M 7) 0 (M 70 0))
  let M2 := jp_set M1 7 (upd (M1 7) 1 (M1 70 1))
  jg ((0 ≤ (0 : Int32) ∧ 0 ≤ (0 : Int32) ∧ 0 ≤ (M2 7 0)) ∧ ((Int32.toNatClampNeg (0 : Int32)) + (Int32.toNatClampNeg (M2 7 0)) ≤ 16 ∧ (Int32.toNatClampNeg (0 : Int32)) + (Int32.toNatClampNeg (M2 7 0)) ≤ 16)) (
  let M3 := jp_set M2 8 (va_cpy (M2 71) (M2 8) 0 0 (Int32.toNatClampNeg (M2 7 0)))
  jg ((0 ≤ (0 : Int32) ∧ 0 ≤ (0 : Int32) ∧ 0 ≤ (M3 7 0)) ∧ ((Int32.toNatClampNeg (0 : Int32)) + (Int32.toNatClampNeg (M3 7 0)) ≤ 16 ∧ (Int32.toNatClampNeg (0 : Int32)) + (Int32.toNatClampNeg (M3 7 0)) ≤ 16)) (
  let M5 := jp_set M3 9 (va_cpy (M3 72) (M3 9) 0 0 (Int32.toNatClampNeg (M3 7 0)))
  jg ((0 ≤ (0 : Int32) ∧ 0 ≤ (0 : Int32) ∧ 0 ≤ (M5 7 0)) ∧ ((Int32.toNatClampNeg (0 : Int32)) + (Int32.toNatClampNeg (M5 7 0)) ≤ 16 ∧ (Int32.toNatClampNeg (0 : Int32)) + (Int32.toNatClampNeg (M5 7 0)) ≤ 16)) (
  let M7 := jp_set M5 10 (va_cpy (M5 73) (M5 10) 0 0 (Int32.toNatClampNeg (M5 7 0)))
  jg ((0 ≤ (0 : Int32) ∧ 0 ≤ (0 : Int32) ∧ 0 ≤ (M7 7 1)) ∧ ((Int32.toNatClampNeg (0 : Int32)) + (Int32.toNatClampNeg (M7 7 1)) ≤ 400 ∧ (Int32.toNatClampNeg (0 : Int32)) + (Int32.toNatClampNeg (M7 7 1)) ≤ 400)) (
  let M9 := jp_set M7 11 (va_cpy (M7 74) (M7 11) 0 0 (Int32.toNatClampNeg (M7 7 1)))
  some M9))))
theorem t_L_becomes {Ln : Nat} {xs : Nat → Int32} {sv : jp_V} {w : Nat} {M : jp_M} {res : jp_M} (hf : f_L_becomes M = some res) : jE (jZ (jK Ln xs sv)) 0 33 [(.inr (some 7)), (.inr (some 70))] (jSH w) M (none, jSH w, res) := by
  unfold f_L_becomes at hf
  refine jE_in (L0 := [some (.inr (some 7)), some (.inr (some 70))]) rfl (Nat.le_of_ble_eq_true rfl) rfl (fun d hd => ?_)
  refine jR_in rfl ⟨rfl, rfl, rfl⟩ rfl ?_
  refine js_aload_n rfl ?_
  refine js_aload_n rfl ?_
  refine js_geti rfl rfl rfl ?_
  refine js_puti rfl rfl (Or.inl rfl) ?_
  refine js_aload_n rfl ?_
  refine js_aload_n rfl ?_
  refine js_geti rfl rfl rfl ?_
  refine js_puti rfl rfl (Or.inl rfl) ?_
  refine js_aload_n rfl ?_
  refine js_getr rfl rfl rfl ?_
  refine js_iconst (v := (0 : Int32)) rfl ?_
  refine js_aload_n rfl ?_
  refine js_getr rfl rfl rfl ?_
  refine js_iconst (v := (0 : Int32)) rfl ?_
  refine js_aload_n rfl ?_
  refine js_geti rfl rfl rfl ?_
  obtain ⟨hb4, hf⟩ := jg_some hf
  refine js_copy rfl rfl rfl hb4.1 hb4.2 rfl ?_
  refine js_aload_n rfl ?_
  refine js_getr rfl rfl rfl ?_
  refine js_iconst (v := (0 : Int32)) rfl ?_
  refine js_aload_n rfl ?_
  refine js_getr rfl rfl rfl ?_
  refine js_iconst (v := (0 : Int32)) rfl ?_
  refine js_aload_n rfl ?_
  refine js_geti rfl rfl rfl ?_
  obtain ⟨hb6, hf⟩ := jg_some hf
  refine js_copy rfl rfl rfl hb6.1 hb6.2 rfl ?_
  refine js_aload_n rfl ?_
  refine js_getr rfl rfl rfl ?_
  refine js_iconst (v := (0 : Int32)) rfl ?_
  refine js_aload_n rfl ?_
  refine js_getr rfl rfl rfl ?_
  refine js_iconst (v := (0 : Int32)) rfl ?_
  refine js_aload_n rfl ?_
  refine js_geti rfl rfl rfl ?_
  obtain ⟨hb8, hf⟩ := jg_some hf
  refine js_copy rfl rfl rfl hb8.1 hb8.2 rfl ?_
  refine js_aload_n rfl ?_
  refine js_getr rfl rfl rfl ?_
  refine js_iconst (v := (0 : Int32)) rfl ?_
  refine js_aload_n rfl ?_
  refine js_getr rfl rfl rfl ?_
  refine js_iconst (v := (0 : Int32)) rfl ?_
  refine js_aload_n rfl ?_
  refine js_geti rfl rfl rfl ?_
  obtain ⟨hb10, hf⟩ := jg_some hf
  refine js_copy rfl rfl rfl hb10.1 hb10.2 rfl ?_
  obtain rfl := Option.some.inj hf
  exact js_ret rfl rfl
/-! SwallowsAir$Reader.passesWord(I)Z -/
def f_R_passesWord (a1 : Int32) (w : Nat) (M : jp_M) : Option (Int32 × jp_M) :=
  if jp_c .ne (f_R_isWord a1 M) 0 = true then (
  (f_R_advances w M).bind fun q2 => (
  some ((1 : Int32), q2))) else (
  let q3 := f_R_fails (1 : Int32) M
  some (q3.1, q3.2))
theorem t_R_passesWord {Ln : Nat} {xs : Nat → Int32} {sv : jp_V} {a1 : Int32} {w : Nat} {M : jp_M} {res : Int32 × jp_M} (hf : f_R_passesWord a1 w M = some res) : jE (jZ (jK Ln xs sv)) 6 65 [(.inr (some 68)), (.inl a1)] (jSH w) M (some (.inl res.1), jSH w, res.2) := by
  unfold f_R_passesWord at hf
  refine jE_in (L0 := [some (.inr (some 68)), some (.inl a1)]) rfl (Nat.le_of_ble_eq_true rfl) rfl (fun d hd => ?_)
  refine jR_in rfl ⟨rfl, rfl, rfl⟩ rfl ?_
  refine js_aload_n rfl ?_
  refine js_iload_n rfl ?_
  refine js_c2i rfl rfl ⟨rfl, rfl⟩ rfl rfl (t_R_isWord rfl) (by omega) ?_
  refine js_ifc (tgt := 14) rfl rfl (fun h => ?_) (fun h => ?_)
  · have hf := jif_t hf h
    refine jR_in rfl ⟨rfl, rfl, rfl⟩ rfl ?_
    refine js_aload_n rfl ?_
    obtain ⟨q2, hc_2, hf⟩ := jbind hf
    refine js_c1v (w := 0) rfl rfl ⟨rfl, rfl⟩ rfl rfl (t_R_advances hc_2) (by omega) ?_
    refine js_iconst (v := (1 : Int32)) rfl ?_
    obtain rfl := Option.some.inj hf
    exact js_iret rfl rfl
  · have hf := jif_f hf h
    refine js_aload_n rfl ?_
    refine js_iconst (v := (1 : Int32)) rfl ?_
    refine js_c2i rfl rfl ⟨rfl, rfl⟩ rfl rfl (t_R_fails rfl) (by omega) ?_
    obtain rfl := Option.some.inj hf
    exact js_iret (jbool (b_R_fails rfl)) rfl
theorem b_R_passesWord {a1 : Int32} {w : Nat} {M : jp_M} {res : Int32 × jp_M} (hf : f_R_passesWord a1 w M = some res) : res.1 = 0 ∨ res.1 = 1 := by
  unfold f_R_passesWord at hf
  rcases jif_d hf with ⟨h, hf⟩ | ⟨h, hf⟩
  · obtain ⟨q2, hc_2, hf⟩ := jbind hf
    obtain rfl := Option.some.inj hf
    exact Or.inr rfl
  · obtain rfl := Option.some.inj hf
    exact (b_R_fails rfl)
/-! SwallowsAir$LineReader.fills(I)V -/
def f_IR_fills (a1 : Int32) (M : jp_M) : Option (jp_M) :=
  if jp_c .ge (M 77 2) (112 : Int32) = true then (
  some M) else (
  jg (jp_in (M 77 2) 112) (
  let M1 := jp_set M 79 (upd (M 79) (Int32.toNatClampNeg (M 77 2)) a1)
  let M3 := jp_set M1 77 (upd (M1 77) 2 ((M1 77 2) + (1 : Int32)))
  some M3))
theorem t_IR_fills {Ln : Nat} {xs : Nat → Int32} {sv : jp_V} {a1 : Int32} {w : Nat} {M : jp_M} {res : jp_M} (hf : f_IR_fills a1 M = some res) : jE (jZ (jK Ln xs sv)) 0 59 [(.inr (some 77)), (.inl a1)] (jSH w) M (none, jSH w, res) := by
  unfold f_IR_fills at hf
  refine jE_in (L0 := [some (.inr (some 77)), some (.inl a1)]) rfl (Nat.le_of_ble_eq_true rfl) rfl (fun d hd => ?_)
  refine jR_in rfl ⟨rfl, rfl, rfl⟩ rfl ?_
  refine js_aload_n rfl ?_
  refine js_geti rfl rfl rfl ?_
  refine js_aload_n rfl ?_
  refine js_getr rfl rfl rfl ?_
  refine js_getr rfl rfl rfl ?_
  refine js_alen (v := (112 : Int32)) rfl rfl rfl ?_
  refine js_icmp (tgt := 38) rfl rfl (fun h => ?_) (fun h => ?_)
  · have hf := jif_t hf h
    refine jR_in rfl ⟨rfl, rfl, rfl⟩ rfl ?_
    obtain rfl := Option.some.inj hf
    exact js_ret rfl rfl
  · have hf := jif_f hf h
    refine js_aload_n rfl ?_
    refine js_getr rfl rfl rfl ?_
    refine js_getr rfl rfl rfl ?_
    refine js_aload_n rfl ?_
    refine js_geti rfl rfl rfl ?_
    refine js_iload_n rfl ?_
    obtain ⟨hb2, hf⟩ := jg_some hf
    refine js_iast rfl hb2 ?_
    refine js_aload_n rfl ?_
    refine js_dup ?_
    refine js_geti rfl rfl rfl ?_
    refine js_iconst (v := (1 : Int32)) rfl ?_
    refine js_iadd ?_
    refine js_puti rfl rfl (Or.inl rfl) ?_
    obtain rfl := Option.some.inj hf
    exact js_ret rfl rfl
/-! SwallowsAir$LineReader.number(II)Z -/
def f_IR_number_42  (w : Nat) (M : jp_M) : Option (Int32 × jp_M) :=
  let q1 := f_R_fails (2 : Int32) M
  some (q1.1, q1.2)
theorem t_IR_number_42 {Ln : Nat} {xs : Nat → Int32} {sv : jp_V} {d : Nat} (hd : 6 ≤ d)  (o1 : Option jp_V) (o2 : Option jp_V) (w : Nat) (M : jp_M) {res : Int32 × jp_M} (hf : f_IR_number_42  w M = some res) : jR (jZ (jK Ln xs sv)) d 57 42 ([some (.inr (some 77)), o1, o2], [], jSH w, M) (some (.inl res.1), jSH w, res.2) := by
  unfold f_IR_number_42 at hf
  refine jR_in rfl ⟨rfl, rfl, rfl⟩ rfl ?_
  refine js_aload_n rfl ?_
  refine js_getr rfl rfl rfl ?_
  refine js_iconst (v := (2 : Int32)) rfl ?_
  refine js_c2i rfl rfl ⟨rfl, rfl⟩ rfl rfl (t_R_fails rfl) (by omega) ?_
  obtain rfl := Option.some.inj hf
  exact js_iret (jbool (b_R_fails rfl)) rfl
theorem b_IR_number_42  (w : Nat) (M : jp_M) {res : Int32 × jp_M} (hf : f_IR_number_42  w M = some res) : res.1 = 0 ∨ res.1 = 1 := by
  unfold f_IR_number_42 at hf
  obtain rfl := Option.some.inj hf
  exact (b_R_fails rfl)
def f_IR_number (a1 : Int32) (a2 : Int32) (w : Nat) (M : jp_M) : Option (Int32 × jp_M) :=
  if jp_c .eq (M 68 5) (2 : Int32) = true then (
  if jp_c .lt (M 68 6) a1 = true then (
  f_IR_number_42 w M) else (
  if jp_c .le (M 68 6) a2 = true then (
  let M1 := jp_set M 77 (upd (M 77) 3 (M 68 6))
  (f_IR_fills (M1 77 3) M1).bind fun q2 => (
  (f_R_advances w q2).bind fun q3 => (
  some ((1 : Int32), q3)))) else (
  f_IR_number_42 w M))) else (
  let q4 := f_R_fails (1 : Int32) M
  some (q4.1, q4.2))
theorem t_IR_number {Ln : Nat} {xs : Nat → Int32} {sv : jp_V} {a1 : Int32} {a2 : Int32} {w : Nat} {M : jp_M} {res : Int32 × jp_M} (hf : f_IR_number a1 a2 w M = some res) : jE (jZ (jK Ln xs sv)) 6 57 [(.inr (some 77)), (.inl a1), (.inl a2)] (jSH w) M (some (.inl res.1), jSH w, res.2) := by
  unfold f_IR_number at hf
  refine jE_in (L0 := [some (.inr (some 77)), some (.inl a1), some (.inl a2)]) rfl (Nat.le_of_ble_eq_true rfl) rfl (fun d hd => ?_)
  refine jR_in rfl ⟨rfl, rfl, rfl⟩ rfl ?_
  refine js_aload_n rfl ?_
  refine js_getr rfl rfl rfl ?_
  refine js_geti rfl rfl rfl ?_
  refine js_iconst (v := (2 : Int32)) rfl ?_
  refine js_icmp (tgt := 20) rfl rfl (fun h => ?_) (fun h => ?_)
  · have hf := jif_t hf h
    refine jR_in rfl ⟨rfl, rfl, rfl⟩ rfl ?_
    refine js_aload_n rfl ?_
    refine js_getr rfl rfl rfl ?_
    refine js_geti rfl rfl rfl ?_
    refine js_iload_n rfl ?_
    refine js_icmp (tgt := 42) rfl rfl (fun h => ?_) (fun h => ?_)
    · have hf := jif_t hf h
      exact t_IR_number_42 hd _ _ _ _ hf
    · have hf := jif_f hf h
      refine js_aload_n rfl ?_
      refine js_getr rfl rfl rfl ?_
      refine js_geti rfl rfl rfl ?_
      refine js_iload_n rfl ?_
      refine js_icmp (tgt := 51) rfl rfl (fun h => ?_) (fun h => ?_)
      · have hf := jif_t hf h
        refine jR_in rfl ⟨rfl, rfl, rfl⟩ rfl ?_
        refine js_aload_n rfl ?_
        refine js_aload_n rfl ?_
        refine js_getr rfl rfl rfl ?_
        refine js_geti rfl rfl rfl ?_
        refine js_puti rfl rfl (Or.inl rfl) ?_
        refine js_aload_n rfl ?_
        refine js_aload_n rfl ?_
        refine js_geti rfl rfl rfl ?_
        obtain ⟨q2, hc_2, hf⟩ := jbind hf
        refine js_c2v (w := 0) rfl rfl ⟨rfl, rfl⟩ rfl rfl (t_IR_fills hc_2) (by omega) ?_
        refine js_aload_n rfl ?_
        refine js_getr rfl rfl rfl ?_
        obtain ⟨q3, hc_3, hf⟩ := jbind hf
        refine js_c1v (w := 0) rfl rfl ⟨rfl, rfl⟩ rfl rfl (t_R_advances hc_3) (by omega) ?_
        refine js_iconst (v := (1 : Int32)) rfl ?_
        obtain rfl := Option.some.inj hf
        exact js_iret rfl rfl
      · have hf := jif_f hf h
        exact jS_out rfl ⟨rfl, rfl, rfl⟩ rfl (t_IR_number_42 hd _ _ _ _ hf)
  · have hf := jif_f hf h
    refine js_aload_n rfl ?_
    refine js_getr rfl rfl rfl ?_
    refine js_iconst (v := (1 : Int32)) rfl ?_
    refine js_c2i rfl rfl ⟨rfl, rfl⟩ rfl rfl (t_R_fails rfl) (by omega) ?_
    obtain rfl := Option.some.inj hf
    exact js_iret (jbool (b_R_fails rfl)) rfl
theorem b_IR_number {a1 : Int32} {a2 : Int32} {w : Nat} {M : jp_M} {res : Int32 × jp_M} (hf : f_IR_number a1 a2 w M = some res) : res.1 = 0 ∨ res.1 = 1 := by
  unfold f_IR_number at hf
  rcases jif_d hf with ⟨h, hf⟩ | ⟨h, hf⟩
  · rcases jif_d hf with ⟨h, hf⟩ | ⟨h, hf⟩
    · exact b_IR_number_42 _ _ hf
    · rcases jif_d hf with ⟨h, hf⟩ | ⟨h, hf⟩
      · obtain ⟨q2, hc_2, hf⟩ := jbind hf
        obtain ⟨q3, hc_3, hf⟩ := jbind hf
        obtain rfl := Option.some.inj hf
        exact Or.inr rfl
      · exact b_IR_number_42 _ _ hf
  · obtain rfl := Option.some.inj hf
    exact (b_R_fails rfl)
/-! SwallowsAir$LineReader.unlike(I)Z -/
def f_IR_unlike_33  (M : jp_M) : Int32 × jp_M :=
  ((1 : Int32), M)
theorem t_IR_unlike_33 {Ln : Nat} {xs : Nat → Int32} {sv : jp_V} {d : Nat} (hd : 1 ≤ d)  (o0 : Option jp_V) (o1 : Option jp_V) (w : Nat) (M : jp_M) {res : Int32 × jp_M} (hf : f_IR_unlike_33  M = res) : jR (jZ (jK Ln xs sv)) d 56 33 ([o0, o1], [], jSH w, M) (some (.inl res.1), jSH w, res.2) := by
  unfold f_IR_unlike_33 at hf
  refine jR_in rfl ⟨rfl, rfl, rfl⟩ rfl ?_
  refine js_iconst (v := (1 : Int32)) rfl ?_
  refine js_goto (tgt := 38) rfl rfl ?_
  refine jR_in rfl ⟨rfl, rfl, rfl⟩ rfl ?_
  subst hf
  exact js_iret rfl rfl
theorem b_IR_unlike_33  (M : jp_M) {res : Int32 × jp_M} (hf : f_IR_unlike_33  M = res) : res.1 = 0 ∨ res.1 = 1 := by
  unfold f_IR_unlike_33 at hf
  subst hf
  exact Or.inr rfl
def f_IR_unlike (a1 : Int32) (M : jp_M) : Int32 × jp_M :=
  if jp_c .ne (M 68 5) (2 : Int32) = true then (
  f_IR_unlike_33 M) else (
  if jp_c .ne (M 68 6) a1 = true then (
  f_IR_unlike_33 M) else (
  let q1 := f_R_fails (2 : Int32) M
  if jp_c .eq q1.1 0 = true then (
  ((0 : Int32), q1.2)) else (
  f_IR_unlike_33 (q1.2))))
theorem t_IR_unlike {Ln : Nat} {xs : Nat → Int32} {sv : jp_V} {a1 : Int32} {w : Nat} {M : jp_M} {res : Int32 × jp_M} (hf : f_IR_unlike a1 M = res) : jE (jZ (jK Ln xs sv)) 1 56 [(.inr (some 77)), (.inl a1)] (jSH w) M (some (.inl res.1), jSH w, res.2) := by
  unfold f_IR_unlike at hf
  refine jE_in (L0 := [some (.inr (some 77)), some (.inl a1)]) rfl (Nat.le_of_ble_eq_true rfl) rfl (fun d hd => ?_)
  refine jR_in rfl ⟨rfl, rfl, rfl⟩ rfl ?_
  refine js_aload_n rfl ?_
  refine js_getr rfl rfl rfl ?_
  refine js_geti rfl rfl rfl ?_
  refine js_iconst (v := (2 : Int32)) rfl ?_
  refine js_icmp (tgt := 33) rfl rfl (fun h => ?_) (fun h => ?_)
  · have hf := jif_t hf h
    exact t_IR_unlike_33 hd _ _ _ _ hf
  · have hf := jif_f hf h
    refine js_aload_n rfl ?_
    refine js_getr rfl rfl rfl ?_
    refine js_geti rfl rfl rfl ?_
    refine js_iload_n rfl ?_
    refine js_icmp (tgt := 33) rfl rfl (fun h => ?_) (fun h => ?_)
    · have hf := jif_t hf h
      exact t_IR_unlike_33 hd _ _ _ _ hf
    · have hf := jif_f hf h
      refine js_aload_n rfl ?_
      refine js_getr rfl rfl rfl ?_
      refine js_iconst (v := (2 : Int32)) rfl ?_
      refine js_c2i rfl rfl ⟨rfl, rfl⟩ rfl rfl (t_R_fails rfl) (by omega) ?_
      refine js_ifc (tgt := 37) rfl rfl (fun h => ?_) (fun h => ?_)
      · have hf := jif_t hf h
        refine jR_in rfl ⟨rfl, rfl, rfl⟩ rfl ?_
        refine js_iconst (v := (0 : Int32)) rfl ?_
        subst hf
        exact js_iret rfl rfl
      · have hf := jif_f hf h
        exact jS_out rfl ⟨rfl, rfl, rfl⟩ rfl (t_IR_unlike_33 hd _ _ _ _ hf)
theorem b_IR_unlike {a1 : Int32} {M : jp_M} {res : Int32 × jp_M} (hf : f_IR_unlike a1 M = res) : res.1 = 0 ∨ res.1 = 1 := by
  unfold f_IR_unlike at hf
  rcases jif_d hf with ⟨h, hf⟩ | ⟨h, hf⟩
  · exact b_IR_unlike_33 _ hf
  · rcases jif_d hf with ⟨h, hf⟩ | ⟨h, hf⟩
    · exact b_IR_unlike_33 _ hf
    · rcases jif_d hf with ⟨h, hf⟩ | ⟨h, hf⟩
      · subst hf
        exact Or.inl rfl
      · exact b_IR_unlike_33 _ hf
/-! SwallowsAir$LineReader.precedent()Z -/
def f_IR_precedent (w : Nat) (M : jp_M) : Option (Int32 × jp_M) :=
  (f_IR_number (0 : Int32) (15 : Int32) w M).bind fun q1 => (
  if jp_c .eq q1.1 0 = true then (
  some ((0 : Int32), q1.2)) else (
  (f_R_passesWord (1 : Int32) w q1.2).bind fun q2 => (
  if jp_c .eq q2.1 0 = true then (
  some ((0 : Int32), q2.2)) else (
  let q3 := f_IR_unlike (q2.2 77 3) q2.2
  if jp_c .eq q3.1 0 = true then (
  some ((0 : Int32), q3.2)) else (
  (f_IR_number (0 : Int32) (15 : Int32) w q3.2).bind fun q4 => (
  if jp_c .eq q4.1 0 = true then (
  some ((0 : Int32), q4.2)) else (
  some ((1 : Int32), q4.2))))))))
theorem t_IR_precedent {Ln : Nat} {xs : Nat → Int32} {sv : jp_V} {w : Nat} {M : jp_M} {res : Int32 × jp_M} (hf : f_IR_precedent w M = some res) : jE (jZ (jK Ln xs sv)) 7 55 [(.inr (some 77))] (jSH w) M (some (.inl res.1), jSH w, res.2) := by
  unfold f_IR_precedent at hf
  refine jE_in (L0 := [some (.inr (some 77))]) rfl (Nat.le_of_ble_eq_true rfl) rfl (fun d hd => ?_)
  refine jR_in rfl ⟨rfl, rfl, rfl⟩ rfl ?_
  refine js_aload_n rfl ?_
  refine js_iconst (v := (0 : Int32)) rfl ?_
  refine js_bipush (v := (15 : Int32)) rfl ?_
  obtain ⟨q1, hc_1, hf⟩ := jbind hf
  refine js_c3i rfl rfl ⟨rfl, rfl⟩ rfl rfl (t_IR_number hc_1) (by omega) ?_
  refine js_ifc (tgt := 46) rfl rfl (fun h => ?_) (fun h => ?_)
  · have hf := jif_t hf h
    refine jR_in rfl ⟨rfl, rfl, rfl⟩ rfl ?_
    refine js_iconst (v := (0 : Int32)) rfl ?_
    obtain rfl := Option.some.inj hf
    exact js_iret rfl rfl
  · have hf := jif_f hf h
    refine js_aload_n rfl ?_
    refine js_getr rfl rfl rfl ?_
    refine js_iconst (v := (1 : Int32)) rfl ?_
    obtain ⟨q2, hc_2, hf⟩ := jbind hf
    refine js_c2i rfl rfl ⟨rfl, rfl⟩ rfl rfl (t_R_passesWord hc_2) (by omega) ?_
    refine js_ifc (tgt := 46) rfl rfl (fun h => ?_) (fun h => ?_)
    · have hf := jif_t hf h
      refine jR_in rfl ⟨rfl, rfl, rfl⟩ rfl ?_
      refine js_iconst (v := (0 : Int32)) rfl ?_
      obtain rfl := Option.some.inj hf
      exact js_iret rfl rfl
    · have hf := jif_f hf h
      refine js_aload_n rfl ?_
      refine js_aload_n rfl ?_
      refine js_geti rfl rfl rfl ?_
      refine js_c2i rfl rfl ⟨rfl, rfl⟩ rfl rfl (t_IR_unlike rfl) (by omega) ?_
      refine js_ifc (tgt := 46) rfl rfl (fun h => ?_) (fun h => ?_)
      · have hf := jif_t hf h
        refine jR_in rfl ⟨rfl, rfl, rfl⟩ rfl ?_
        refine js_iconst (v := (0 : Int32)) rfl ?_
        obtain rfl := Option.some.inj hf
        exact js_iret rfl rfl
      · have hf := jif_f hf h
        refine js_aload_n rfl ?_
        refine js_iconst (v := (0 : Int32)) rfl ?_
        refine js_bipush (v := (15 : Int32)) rfl ?_
        obtain ⟨q4, hc_4, hf⟩ := jbind hf
        refine js_c3i rfl rfl ⟨rfl, rfl⟩ rfl rfl (t_IR_number hc_4) (by omega) ?_
        refine js_ifc (tgt := 46) rfl rfl (fun h => ?_) (fun h => ?_)
        · have hf := jif_t hf h
          refine jR_in rfl ⟨rfl, rfl, rfl⟩ rfl ?_
          refine js_iconst (v := (0 : Int32)) rfl ?_
          obtain rfl := Option.some.inj hf
          exact js_iret rfl rfl
        · have hf := jif_f hf h
          refine js_iconst (v := (1 : Int32)) rfl ?_
          refine js_goto (tgt := 47) rfl rfl ?_
          refine jR_in rfl ⟨rfl, rfl, rfl⟩ rfl ?_
          obtain rfl := Option.some.inj hf
          exact js_iret rfl rfl
theorem b_IR_precedent {w : Nat} {M : jp_M} {res : Int32 × jp_M} (hf : f_IR_precedent w M = some res) : res.1 = 0 ∨ res.1 = 1 := by
  unfold f_IR_precedent at hf
  obtain ⟨q1, hc_1, hf⟩ := jbind hf
  rcases jif_d hf with ⟨h, hf⟩ | ⟨h, hf⟩
  · obtain rfl := Option.some.inj hf
    exact Or.inl rfl
  · obtain ⟨q2, hc_2, hf⟩ := jbind hf
    rcases jif_d hf with ⟨h, hf⟩ | ⟨h, hf⟩
    · obtain rfl := Option.some.inj hf
      exact Or.inl rfl
    · rcases jif_d hf with ⟨h, hf⟩ | ⟨h, hf⟩
      · obtain rfl := Option.some.inj hf
        exact Or.inl rfl
      · obtain ⟨q4, hc_4, hf⟩ := jbind hf
        rcases jif_d hf with ⟨h, hf⟩ | ⟨h, hf⟩
        · obtain rfl := Option.some.inj hf
          exact Or.inl rfl
        · obtain rfl := Option.some.inj hf
          exact Or.inr rfl
/-! SwallowsAir$LineReader.turn()Z -/
def f_IR_turn (w : Nat) (M : jp_M) : Option (Int32 × jp_M) :=
  (f_IR_number (0 : Int32) (9 : Int32) w M).bind fun q1 => (
  if jp_c .eq q1.1 0 = true then (
  some ((0 : Int32), q1.2)) else (
  (f_R_passesWord (1 : Int32) w q1.2).bind fun q2 => (
  if jp_c .eq q2.1 0 = true then (
  some ((0 : Int32), q2.2)) else (
  (f_IR_number (0 : Int32) ((q2.2 77 5) - (1 : Int32)) w q2.2).bind fun q3 => (
  if jp_c .eq q3.1 0 = true then (
  some ((0 : Int32), q3.2)) else (
  some ((1 : Int32), q3.2)))))))
theorem t_IR_turn {Ln : Nat} {xs : Nat → Int32} {sv : jp_V} {w : Nat} {M : jp_M} {res : Int32 × jp_M} (hf : f_IR_turn w M = some res) : jE (jZ (jK Ln xs sv)) 7 54 [(.inr (some 77))] (jSH w) M (some (.inl res.1), jSH w, res.2) := by
  unfold f_IR_turn at hf
  refine jE_in (L0 := [some (.inr (some 77))]) rfl (Nat.le_of_ble_eq_true rfl) rfl (fun d hd => ?_)
  refine jR_in rfl ⟨rfl, rfl, rfl⟩ rfl ?_
  refine js_aload_n rfl ?_
  refine js_iconst (v := (0 : Int32)) rfl ?_
  refine js_bipush (v := (9 : Int32)) rfl ?_
  obtain ⟨q1, hc_1, hf⟩ := jbind hf
  refine js_c3i rfl rfl ⟨rfl, rfl⟩ rfl rfl (t_IR_number hc_1) (by omega) ?_
  refine js_ifc (tgt := 39) rfl rfl (fun h => ?_) (fun h => ?_)
  · have hf := jif_t hf h
    refine jR_in rfl ⟨rfl, rfl, rfl⟩ rfl ?_
    refine js_iconst (v := (0 : Int32)) rfl ?_
    obtain rfl := Option.some.inj hf
    exact js_iret rfl rfl
  · have hf := jif_f hf h
    refine js_aload_n rfl ?_
    refine js_getr rfl rfl rfl ?_
    refine js_iconst (v := (1 : Int32)) rfl ?_
    obtain ⟨q2, hc_2, hf⟩ := jbind hf
    refine js_c2i rfl rfl ⟨rfl, rfl⟩ rfl rfl (t_R_passesWord hc_2) (by omega) ?_
    refine js_ifc (tgt := 39) rfl rfl (fun h => ?_) (fun h => ?_)
    · have hf := jif_t hf h
      refine jR_in rfl ⟨rfl, rfl, rfl⟩ rfl ?_
      refine js_iconst (v := (0 : Int32)) rfl ?_
      obtain rfl := Option.some.inj hf
      exact js_iret rfl rfl
    · have hf := jif_f hf h
      refine js_aload_n rfl ?_
      refine js_iconst (v := (0 : Int32)) rfl ?_
      refine js_aload_n rfl ?_
      refine js_geti rfl rfl rfl ?_
      refine js_iconst (v := (1 : Int32)) rfl ?_
      refine js_isub ?_
      obtain ⟨q3, hc_3, hf⟩ := jbind hf
      refine js_c3i rfl rfl ⟨rfl, rfl⟩ rfl rfl (t_IR_number hc_3) (by omega) ?_
      refine js_ifc (tgt := 39) rfl rfl (fun h => ?_) (fun h => ?_)
      · have hf := jif_t hf h
        refine jR_in rfl ⟨rfl, rfl, rfl⟩ rfl ?_
        refine js_iconst (v := (0 : Int32)) rfl ?_
        obtain rfl := Option.some.inj hf
        exact js_iret rfl rfl
      · have hf := jif_f hf h
        refine js_iconst (v := (1 : Int32)) rfl ?_
        refine js_goto (tgt := 40) rfl rfl ?_
        refine jR_in rfl ⟨rfl, rfl, rfl⟩ rfl ?_
        obtain rfl := Option.some.inj hf
        exact js_iret rfl rfl
theorem b_IR_turn {w : Nat} {M : jp_M} {res : Int32 × jp_M} (hf : f_IR_turn w M = some res) : res.1 = 0 ∨ res.1 = 1 := by
  unfold f_IR_turn at hf
  obtain ⟨q1, hc_1, hf⟩ := jbind hf
  rcases jif_d hf with ⟨h, hf⟩ | ⟨h, hf⟩
  · obtain rfl := Option.some.inj hf
    exact Or.inl rfl
  · obtain ⟨q2, hc_2, hf⟩ := jbind hf
    rcases jif_d hf with ⟨h, hf⟩ | ⟨h, hf⟩
    · obtain rfl := Option.some.inj hf
      exact Or.inl rfl
    · obtain ⟨q3, hc_3, hf⟩ := jbind hf
      rcases jif_d hf with ⟨h, hf⟩ | ⟨h, hf⟩
      · obtain rfl := Option.some.inj hf
        exact Or.inl rfl
      · obtain rfl := Option.some.inj hf
        exact Or.inr rfl
/-! SwallowsAir$LineReader.kind()Z -/
def f_IR_kind_34  (w : Nat) (M : jp_M) : Option (Int32 × jp_M) :=
  let q1 := f_R_fails (1 : Int32) M
  some (q1.1, q1.2)
theorem t_IR_kind_34 {Ln : Nat} {xs : Nat → Int32} {sv : jp_V} {d : Nat} (hd : 6 ≤ d)  (w : Nat) (M : jp_M) {res : Int32 × jp_M} (hf : f_IR_kind_34  w M = some res) : jR (jZ (jK Ln xs sv)) d 58 34 ([some (.inr (some 77))], [], jSH w, M) (some (.inl res.1), jSH w, res.2) := by
  unfold f_IR_kind_34 at hf
  refine jR_in rfl ⟨rfl, rfl, rfl⟩ rfl ?_
  refine js_aload_n rfl ?_
  refine js_getr rfl rfl rfl ?_
  refine js_iconst (v := (1 : Int32)) rfl ?_
  refine js_c2i rfl rfl ⟨rfl, rfl⟩ rfl rfl (t_R_fails rfl) (by omega) ?_
  obtain rfl := Option.some.inj hf
  exact js_iret (jbool (b_R_fails rfl)) rfl
theorem b_IR_kind_34  (w : Nat) (M : jp_M) {res : Int32 × jp_M} (hf : f_IR_kind_34  w M = some res) : res.1 = 0 ∨ res.1 = 1 := by
  unfold f_IR_kind_34 at hf
  obtain rfl := Option.some.inj hf
  exact (b_R_fails rfl)
def f_IR_kind (w : Nat) (M : jp_M) : Option (Int32 × jp_M) :=
  if jp_c .ne (M 68 5) (1 : Int32) = true then (
  f_IR_kind_34 w M) else (
  if jp_c .lt (M 68 6) (2 : Int32) = true then (
  f_IR_kind_34 w M) else (
  if jp_c .le (M 68 6) (7 : Int32) = true then (
  (f_IR_fills ((M 68 6) - (2 : Int32)) M).bind fun q1 => (
  (f_R_advances w q1).bind fun q2 => (
  some ((1 : Int32), q2)))) else (
  f_IR_kind_34 w M)))
theorem t_IR_kind {Ln : Nat} {xs : Nat → Int32} {sv : jp_V} {w : Nat} {M : jp_M} {res : Int32 × jp_M} (hf : f_IR_kind w M = some res) : jE (jZ (jK Ln xs sv)) 6 58 [(.inr (some 77))] (jSH w) M (some (.inl res.1), jSH w, res.2) := by
  unfold f_IR_kind at hf
  refine jE_in (L0 := [some (.inr (some 77))]) rfl (Nat.le_of_ble_eq_true rfl) rfl (fun d hd => ?_)
  refine jR_in rfl ⟨rfl, rfl, rfl⟩ rfl ?_
  refine js_aload_n rfl ?_
  refine js_getr rfl rfl rfl ?_
  refine js_geti rfl rfl rfl ?_
  refine js_iconst (v := (1 : Int32)) rfl ?_
  refine js_icmp (tgt := 34) rfl rfl (fun h => ?_) (fun h => ?_)
  · have hf := jif_t hf h
    exact t_IR_kind_34 hd _ _ hf
  · have hf := jif_f hf h
    refine js_aload_n rfl ?_
    refine js_getr rfl rfl rfl ?_
    refine js_geti rfl rfl rfl ?_
    refine js_iconst (v := (2 : Int32)) rfl ?_
    refine js_icmp (tgt := 34) rfl rfl (fun h => ?_) (fun h => ?_)
    · have hf := jif_t hf h
      exact t_IR_kind_34 hd _ _ hf
    · have hf := jif_f hf h
      refine js_aload_n rfl ?_
      refine js_getr rfl rfl rfl ?_
      refine js_geti rfl rfl rfl ?_
      refine js_bipush (v := (7 : Int32)) rfl ?_
      refine js_icmp (tgt := 43) rfl rfl (fun h => ?_) (fun h => ?_)
      · have hf := jif_t hf h
        refine jR_in rfl ⟨rfl, rfl, rfl⟩ rfl ?_
        refine js_aload_n rfl ?_
        refine js_aload_n rfl ?_
        refine js_getr rfl rfl rfl ?_
        refine js_geti rfl rfl rfl ?_
        refine js_iconst (v := (2 : Int32)) rfl ?_
        refine js_isub ?_
        obtain ⟨q1, hc_1, hf⟩ := jbind hf
        refine js_c2v (w := 0) rfl rfl ⟨rfl, rfl⟩ rfl rfl (t_IR_fills hc_1) (by omega) ?_
        refine js_aload_n rfl ?_
        refine js_getr rfl rfl rfl ?_
        obtain ⟨q2, hc_2, hf⟩ := jbind hf
        refine js_c1v (w := 0) rfl rfl ⟨rfl, rfl⟩ rfl rfl (t_R_advances hc_2) (by omega) ?_
        refine js_iconst (v := (1 : Int32)) rfl ?_
        obtain rfl := Option.some.inj hf
        exact js_iret rfl rfl
      · have hf := jif_f hf h
        exact jS_out rfl ⟨rfl, rfl, rfl⟩ rfl (t_IR_kind_34 hd _ _ hf)
theorem b_IR_kind {w : Nat} {M : jp_M} {res : Int32 × jp_M} (hf : f_IR_kind w M = some res) : res.1 = 0 ∨ res.1 = 1 := by
  unfold f_IR_kind at hf
  rcases jif_d hf with ⟨h, hf⟩ | ⟨h, hf⟩
  · exact b_IR_kind_34 _ _ hf
  · rcases jif_d hf with ⟨h, hf⟩ | ⟨h, hf⟩
    · exact b_IR_kind_34 _ _ hf
    · rcases jif_d hf with ⟨h, hf⟩ | ⟨h, hf⟩
      · obtain ⟨q1, hc_1, hf⟩ := jbind hf
        obtain ⟨q2, hc_2, hf⟩ := jbind hf
        obtain rfl := Option.some.inj hf
        exact Or.inr rfl
      · exact b_IR_kind_34 _ _ hf
/-! SwallowsAir$LineReader.petition()Z -/
def f_IR_petition (w : Nat) (M : jp_M) : Option (Int32 × jp_M) :=
  (f_IR_number (0 : Int32) (9999 : Int32) w M).bind fun q1 => (
  if jp_c .eq q1.1 0 = true then (
  some ((0 : Int32), q1.2)) else (
  (f_R_passesWord (1 : Int32) w q1.2).bind fun q2 => (
  if jp_c .eq q2.1 0 = true then (
  some ((0 : Int32), q2.2)) else (
  (f_IR_number (0 : Int32) ((q2.2 77 4) - (1 : Int32)) w q2.2).bind fun q3 => (
  if jp_c .eq q3.1 0 = true then (
  some ((0 : Int32), q3.2)) else (
  (f_IR_kind w q3.2).bind fun q4 => (
  if jp_c .eq q4.1 0 = true then (
  some ((0 : Int32), q4.2)) else (
  (f_R_passesWord (8 : Int32) w q4.2).bind fun q5 => (
  if jp_c .eq q5.1 0 = true then (
  some ((0 : Int32), q5.2)) else (
  (f_IR_number (0 : Int32) (9 : Int32) w q5.2).bind fun q6 => (
  if jp_c .eq q6.1 0 = true then (
  some ((0 : Int32), q6.2)) else (
  (f_IR_number (0 : Int32) (7 : Int32) w q6.2).bind fun q7 => (
  if jp_c .eq q7.1 0 = true then (
  some ((0 : Int32), q7.2)) else (
  (f_IR_number (q7.2 77 3) (7 : Int32) w q7.2).bind fun q8 => (
  if jp_c .eq q8.1 0 = true then (
  some ((0 : Int32), q8.2)) else (
  (f_R_passesWord (9 : Int32) w q8.2).bind fun q9 => (
  if jp_c .eq q9.1 0 = true then (
  some ((0 : Int32), q9.2)) else (
  (f_IR_number (1 : Int32) (30 : Int32) w q9.2).bind fun q10 => (
  if jp_c .eq q10.1 0 = true then (
  some ((0 : Int32), q10.2)) else (
  some ((1 : Int32), q10.2)))))))))))))))))))))
theorem t_IR_petition {Ln : Nat} {xs : Nat → Int32} {sv : jp_V} {w : Nat} {M : jp_M} {res : Int32 × jp_M} (hf : f_IR_petition w M = some res) : jE (jZ (jK Ln xs sv)) 7 53 [(.inr (some 77))] (jSH w) M (some (.inl res.1), jSH w, res.2) := by
  unfold f_IR_petition at hf
  refine jE_in (L0 := [some (.inr (some 77))]) rfl (Nat.le_of_ble_eq_true rfl) rfl (fun d hd => ?_)
  refine jR_in rfl ⟨rfl, rfl, rfl⟩ rfl ?_
  refine js_aload_n rfl ?_
  refine js_iconst (v := (0 : Int32)) rfl ?_
  refine js_sipush (v := (9999 : Int32)) rfl ?_
  obtain ⟨q1, hc_1, hf⟩ := jbind hf
  refine js_c3i rfl rfl ⟨rfl, rfl⟩ rfl rfl (t_IR_number hc_1) (by omega) ?_
  refine js_ifc (tgt := 114) rfl rfl (fun h => ?_) (fun h => ?_)
  · have hf := jif_t hf h
    refine jR_in rfl ⟨rfl, rfl, rfl⟩ rfl ?_
    refine js_iconst (v := (0 : Int32)) rfl ?_
    obtain rfl := Option.some.inj hf
    exact js_iret rfl rfl
  · have hf := jif_f hf h
    refine js_aload_n rfl ?_
    refine js_getr rfl rfl rfl ?_
    refine js_iconst (v := (1 : Int32)) rfl ?_
    obtain ⟨q2, hc_2, hf⟩ := jbind hf
    refine js_c2i rfl rfl ⟨rfl, rfl⟩ rfl rfl (t_R_passesWord hc_2) (by omega) ?_
    refine js_ifc (tgt := 114) rfl rfl (fun h => ?_) (fun h => ?_)
    · have hf := jif_t hf h
      refine jR_in rfl ⟨rfl, rfl, rfl⟩ rfl ?_
      refine js_iconst (v := (0 : Int32)) rfl ?_
      obtain rfl := Option.some.inj hf
      exact js_iret rfl rfl
    · have hf := jif_f hf h
      refine js_aload_n rfl ?_
      refine js_iconst (v := (0 : Int32)) rfl ?_
      refine js_aload_n rfl ?_
      refine js_geti rfl rfl rfl ?_
      refine js_iconst (v := (1 : Int32)) rfl ?_
      refine js_isub ?_
      obtain ⟨q3, hc_3, hf⟩ := jbind hf
      refine js_c3i rfl rfl ⟨rfl, rfl⟩ rfl rfl (t_IR_number hc_3) (by omega) ?_
      refine js_ifc (tgt := 114) rfl rfl (fun h => ?_) (fun h => ?_)
      · have hf := jif_t hf h
        refine jR_in rfl ⟨rfl, rfl, rfl⟩ rfl ?_
        refine js_iconst (v := (0 : Int32)) rfl ?_
        obtain rfl := Option.some.inj hf
        exact js_iret rfl rfl
      · have hf := jif_f hf h
        refine js_aload_n rfl ?_
        obtain ⟨q4, hc_4, hf⟩ := jbind hf
        refine js_c1i rfl rfl ⟨rfl, rfl⟩ rfl rfl (t_IR_kind hc_4) (by omega) ?_
        refine js_ifc (tgt := 114) rfl rfl (fun h => ?_) (fun h => ?_)
        · have hf := jif_t hf h
          refine jR_in rfl ⟨rfl, rfl, rfl⟩ rfl ?_
          refine js_iconst (v := (0 : Int32)) rfl ?_
          obtain rfl := Option.some.inj hf
          exact js_iret rfl rfl
        · have hf := jif_f hf h
          refine js_aload_n rfl ?_
          refine js_getr rfl rfl rfl ?_
          refine js_bipush (v := (8 : Int32)) rfl ?_
          obtain ⟨q5, hc_5, hf⟩ := jbind hf
          refine js_c2i rfl rfl ⟨rfl, rfl⟩ rfl rfl (t_R_passesWord hc_5) (by omega) ?_
          refine js_ifc (tgt := 114) rfl rfl (fun h => ?_) (fun h => ?_)
          · have hf := jif_t hf h
            refine jR_in rfl ⟨rfl, rfl, rfl⟩ rfl ?_
            refine js_iconst (v := (0 : Int32)) rfl ?_
            obtain rfl := Option.some.inj hf
            exact js_iret rfl rfl
          · have hf := jif_f hf h
            refine js_aload_n rfl ?_
            refine js_iconst (v := (0 : Int32)) rfl ?_
            refine js_bipush (v := (9 : Int32)) rfl ?_
            obtain ⟨q6, hc_6, hf⟩ := jbind hf
            refine js_c3i rfl rfl ⟨rfl, rfl⟩ rfl rfl (t_IR_number hc_6) (by omega) ?_
            refine js_ifc (tgt := 114) rfl rfl (fun h => ?_) (fun h => ?_)
            · have hf := jif_t hf h
              refine jR_in rfl ⟨rfl, rfl, rfl⟩ rfl ?_
              refine js_iconst (v := (0 : Int32)) rfl ?_
              obtain rfl := Option.some.inj hf
              exact js_iret rfl rfl
            · have hf := jif_f hf h
              refine js_aload_n rfl ?_
              refine js_iconst (v := (0 : Int32)) rfl ?_
              refine js_bipush (v := (7 : Int32)) rfl ?_
              obtain ⟨q7, hc_7, hf⟩ := jbind hf
              refine js_c3i rfl rfl ⟨rfl, rfl⟩ rfl rfl (t_IR_number hc_7) (by omega) ?_
              refine js_ifc (tgt := 114) rfl rfl (fun h => ?_) (fun h => ?_)
              · have hf := jif_t hf h
                refine jR_in rfl ⟨rfl, rfl, rfl⟩ rfl ?_
                refine js_iconst (v := (0 : Int32)) rfl ?_
                obtain rfl := Option.some.inj hf
                exact js_iret rfl rfl
              · have hf := jif_f hf h
                refine js_aload_n rfl ?_
                refine js_aload_n rfl ?_
                refine js_geti rfl rfl rfl ?_
                refine js_bipush (v := (7 : Int32)) rfl ?_
                obtain ⟨q8, hc_8, hf⟩ := jbind hf
                refine js_c3i rfl rfl ⟨rfl, rfl⟩ rfl rfl (t_IR_number hc_8) (by omega) ?_
                refine js_ifc (tgt := 114) rfl rfl (fun h => ?_) (fun h => ?_)
                · have hf := jif_t hf h
                  refine jR_in rfl ⟨rfl, rfl, rfl⟩ rfl ?_
                  refine js_iconst (v := (0 : Int32)) rfl ?_
                  obtain rfl := Option.some.inj hf
                  exact js_iret rfl rfl
                · have hf := jif_f hf h
                  refine js_aload_n rfl ?_
                  refine js_getr rfl rfl rfl ?_
                  refine js_bipush (v := (9 : Int32)) rfl ?_
                  obtain ⟨q9, hc_9, hf⟩ := jbind hf
                  refine js_c2i rfl rfl ⟨rfl, rfl⟩ rfl rfl (t_R_passesWord hc_9) (by omega) ?_
                  refine js_ifc (tgt := 114) rfl rfl (fun h => ?_) (fun h => ?_)
                  · have hf := jif_t hf h
                    refine jR_in rfl ⟨rfl, rfl, rfl⟩ rfl ?_
                    refine js_iconst (v := (0 : Int32)) rfl ?_
                    obtain rfl := Option.some.inj hf
                    exact js_iret rfl rfl
                  · have hf := jif_f hf h
                    refine js_aload_n rfl ?_
                    refine js_iconst (v := (1 : Int32)) rfl ?_
                    refine js_bipush (v := (30 : Int32)) rfl ?_
                    obtain ⟨q10, hc_10, hf⟩ := jbind hf
                    refine js_c3i rfl rfl ⟨rfl, rfl⟩ rfl rfl (t_IR_number hc_10) (by omega) ?_
                    refine js_ifc (tgt := 114) rfl rfl (fun h => ?_) (fun h => ?_)
                    · have hf := jif_t hf h
                      refine jR_in rfl ⟨rfl, rfl, rfl⟩ rfl ?_
                      refine js_iconst (v := (0 : Int32)) rfl ?_
                      obtain rfl := Option.some.inj hf
                      exact js_iret rfl rfl
                    · have hf := jif_f hf h
                      refine js_iconst (v := (1 : Int32)) rfl ?_
                      refine js_goto (tgt := 115) rfl rfl ?_
                      refine jR_in rfl ⟨rfl, rfl, rfl⟩ rfl ?_
                      obtain rfl := Option.some.inj hf
                      exact js_iret rfl rfl
theorem b_IR_petition {w : Nat} {M : jp_M} {res : Int32 × jp_M} (hf : f_IR_petition w M = some res) : res.1 = 0 ∨ res.1 = 1 := by
  unfold f_IR_petition at hf
  obtain ⟨q1, hc_1, hf⟩ := jbind hf
  rcases jif_d hf with ⟨h, hf⟩ | ⟨h, hf⟩
  · obtain rfl := Option.some.inj hf
    exact Or.inl rfl
  · obtain ⟨q2, hc_2, hf⟩ := jbind hf
    rcases jif_d hf with ⟨h, hf⟩ | ⟨h, hf⟩
    · obtain rfl := Option.some.inj hf
      exact Or.inl rfl
    · obtain ⟨q3, hc_3, hf⟩ := jbind hf
      rcases jif_d hf with ⟨h, hf⟩ | ⟨h, hf⟩
      · obtain rfl := Option.some.inj hf
        exact Or.inl rfl
      · obtain ⟨q4, hc_4, hf⟩ := jbind hf
        rcases jif_d hf with ⟨h, hf⟩ | ⟨h, hf⟩
        · obtain rfl := Option.some.inj hf
          exact Or.inl rfl
        · obtain ⟨q5, hc_5, hf⟩ := jbind hf
          rcases jif_d hf with ⟨h, hf⟩ | ⟨h, hf⟩
          · obtain rfl := Option.some.inj hf
            exact Or.inl rfl
          · obtain ⟨q6, hc_6, hf⟩ := jbind hf
            rcases jif_d hf with ⟨h, hf⟩ | ⟨h, hf⟩
            · obtain rfl := Option.some.inj hf
              exact Or.inl rfl
            · obtain ⟨q7, hc_7, hf⟩ := jbind hf
              rcases jif_d hf with ⟨h, hf⟩ | ⟨h, hf⟩
              · obtain rfl := Option.some.inj hf
                exact Or.inl rfl
              · obtain ⟨q8, hc_8, hf⟩ := jbind hf
                rcases jif_d hf with ⟨h, hf⟩ | ⟨h, hf⟩
                · obtain rfl := Option.some.inj hf
                  exact Or.inl rfl
                · obtain ⟨q9, hc_9, hf⟩ := jbind hf
                  rcases jif_d hf with ⟨h, hf⟩ | ⟨h, hf⟩
                  · obtain rfl := Option.some.inj hf
                    exact Or.inl rfl
                  · obtain ⟨q10, hc_10, hf⟩ := jbind hf
                    rcases jif_d hf with ⟨h, hf⟩ | ⟨h, hf⟩
                    · obtain rfl := Option.some.inj hf
                      exact Or.inl rfl
                    · obtain rfl := Option.some.inj hf
                      exact Or.inr rfl
/-! SwallowsAir$LineReader.line(I)Z -/
def f_IR_line_61  (l2 : Int32) (w : Nat) (M : jp_M) : Option (Int32 × jp_M) :=
  if jp_c .eq l2 0 = true then (
  some ((0 : Int32), M)) else (
  (f_R_passesSign (59 : Int32) w M).bind fun q1 => (
  if jp_c .eq q1.1 0 = true then (
  some ((0 : Int32), q1.2)) else (
  some ((1 : Int32), q1.2))))
theorem t_IR_line_61 {Ln : Nat} {xs : Nat → Int32} {sv : jp_V} {d : Nat} (hd : 8 ≤ d)  (l2 : Int32) (o1 : Option jp_V) (w : Nat) (M : jp_M) {res : Int32 × jp_M} (hf : f_IR_line_61  l2 w M = some res) : jR (jZ (jK Ln xs sv)) d 52 61 ([some (.inr (some 77)), o1, some (.inl l2)], [], jSH w, M) (some (.inl res.1), jSH w, res.2) := by
  unfold f_IR_line_61 at hf
  refine jR_in rfl ⟨rfl, rfl, rfl⟩ rfl ?_
  refine js_iload_n rfl ?_
  refine js_ifc (tgt := 81) rfl rfl (fun h => ?_) (fun h => ?_)
  · have hf := jif_t hf h
    refine jR_in rfl ⟨rfl, rfl, rfl⟩ rfl ?_
    refine js_iconst (v := (0 : Int32)) rfl ?_
    obtain rfl := Option.some.inj hf
    exact js_iret rfl rfl
  · have hf := jif_f hf h
    refine js_aload_n rfl ?_
    refine js_getr rfl rfl rfl ?_
    refine js_bipush (v := (59 : Int32)) rfl ?_
    obtain ⟨q1, hc_1, hf⟩ := jbind hf
    refine js_c2i rfl rfl ⟨rfl, rfl⟩ rfl rfl (t_R_passesSign hc_1) (by omega) ?_
    refine js_ifc (tgt := 81) rfl rfl (fun h => ?_) (fun h => ?_)
    · have hf := jif_t hf h
      refine jR_in rfl ⟨rfl, rfl, rfl⟩ rfl ?_
      refine js_iconst (v := (0 : Int32)) rfl ?_
      obtain rfl := Option.some.inj hf
      exact js_iret rfl rfl
    · have hf := jif_f hf h
      refine js_iconst (v := (1 : Int32)) rfl ?_
      refine js_goto (tgt := 82) rfl rfl ?_
      refine jR_in rfl ⟨rfl, rfl, rfl⟩ rfl ?_
      obtain rfl := Option.some.inj hf
      exact js_iret rfl rfl
theorem b_IR_line_61  (l2 : Int32) (w : Nat) (M : jp_M) {res : Int32 × jp_M} (hf : f_IR_line_61  l2 w M = some res) : res.1 = 0 ∨ res.1 = 1 := by
  unfold f_IR_line_61 at hf
  rcases jif_d hf with ⟨h, hf⟩ | ⟨h, hf⟩
  · obtain rfl := Option.some.inj hf
    exact Or.inl rfl
  · obtain ⟨q1, hc_1, hf⟩ := jbind hf
    rcases jif_d hf with ⟨h, hf⟩ | ⟨h, hf⟩
    · obtain rfl := Option.some.inj hf
      exact Or.inl rfl
    · obtain rfl := Option.some.inj hf
      exact Or.inr rfl
def f_IR_line (a1 : Int32) (w : Nat) (M : jp_M) : Option (Int32 × jp_M) :=
  (f_R_passesWord (0 : Int32) w M).bind fun q1 => (
  if jp_c .ne q1.1 0 = true then (
  if a1 = (1 : Int32) then (
  (f_IR_petition w q1.2).bind fun q2 => (
  f_IR_line_61 (q2.1) w (q2.2))) else if a1 = (2 : Int32) then (
  (f_IR_turn w q1.2).bind fun q3 => (
  f_IR_line_61 (q3.1) w (q3.2))) else (
  (f_IR_precedent w q1.2).bind fun q4 => (
  f_IR_line_61 (q4.1) w (q4.2)))) else (
  some ((0 : Int32), q1.2)))
theorem t_IR_line {Ln : Nat} {xs : Nat → Int32} {sv : jp_V} {a1 : Int32} {w : Nat} {M : jp_M} {res : Int32 × jp_M} (hf : f_IR_line a1 w M = some res) : jE (jZ (jK Ln xs sv)) 8 52 [(.inr (some 77)), (.inl a1)] (jSH w) M (some (.inl res.1), jSH w, res.2) := by
  unfold f_IR_line at hf
  refine jE_in (L0 := [some (.inr (some 77)), some (.inl a1), none]) rfl (Nat.le_of_ble_eq_true rfl) rfl (fun d hd => ?_)
  refine jR_in rfl ⟨rfl, rfl, rfl⟩ rfl ?_
  refine js_aload_n rfl ?_
  refine js_getr rfl rfl rfl ?_
  refine js_iconst (v := (0 : Int32)) rfl ?_
  obtain ⟨q1, hc_1, hf⟩ := jbind hf
  refine js_c2i rfl rfl ⟨rfl, rfl⟩ rfl rfl (t_R_passesWord hc_1) (by omega) ?_
  refine js_ifc (tgt := 13) rfl rfl (fun h => ?_) (fun h => ?_)
  · have hf := jif_t hf h
    refine jR_in rfl ⟨rfl, rfl, rfl⟩ rfl ?_
    refine js_iload_n rfl ?_
    rcases jif_d hf with ⟨hk, hf⟩ | ⟨hk1, hf⟩
    · refine js_look (off := 26) (tgt := 40) rfl (by rw [hk]; rfl) rfl rfl ?_
      refine jR_in rfl ⟨rfl, rfl, rfl⟩ rfl ?_
      refine js_aload_n rfl ?_
      obtain ⟨q2, hc_2, hf⟩ := jbind hf
      refine js_c1i rfl rfl ⟨rfl, rfl⟩ rfl rfl (t_IR_petition hc_2) (by omega) ?_
      refine js_istore_n rfl rfl ?_
      refine js_goto (tgt := 61) rfl rfl ?_
      exact t_IR_line_61 hd _ _ _ _ hf
    · rcases jif_d hf with ⟨hk, hf⟩ | ⟨hk2, hf⟩
      · refine js_look (off := 34) (tgt := 48) rfl (by rw [hk]; rfl) rfl rfl ?_
        refine jR_in rfl ⟨rfl, rfl, rfl⟩ rfl ?_
        refine js_aload_n rfl ?_
        obtain ⟨q3, hc_3, hf⟩ := jbind hf
        refine js_c1i rfl rfl ⟨rfl, rfl⟩ rfl rfl (t_IR_turn hc_3) (by omega) ?_
        refine js_istore_n rfl rfl ?_
        refine js_goto (tgt := 61) rfl rfl ?_
        exact t_IR_line_61 hd _ _ _ _ hf
      · refine js_look (off := 42) (tgt := 56) rfl (jsw_5 hk1 hk2) rfl rfl ?_
        refine jR_in rfl ⟨rfl, rfl, rfl⟩ rfl ?_
        refine js_aload_n rfl ?_
        obtain ⟨q4, hc_4, hf⟩ := jbind hf
        refine js_c1i rfl rfl ⟨rfl, rfl⟩ rfl rfl (t_IR_precedent hc_4) (by omega) ?_
        refine js_istore_n rfl rfl ?_
        exact jS_out rfl ⟨rfl, rfl, rfl⟩ rfl (t_IR_line_61 hd _ _ _ _ hf)
  · have hf := jif_f hf h
    refine js_iconst (v := (0 : Int32)) rfl ?_
    obtain rfl := Option.some.inj hf
    exact js_iret rfl rfl
theorem b_IR_line {a1 : Int32} {w : Nat} {M : jp_M} {res : Int32 × jp_M} (hf : f_IR_line a1 w M = some res) : res.1 = 0 ∨ res.1 = 1 := by
  unfold f_IR_line at hf
  obtain ⟨q1, hc_1, hf⟩ := jbind hf
  rcases jif_d hf with ⟨h, hf⟩ | ⟨h, hf⟩
  · rcases jif_d hf with ⟨h, hf⟩ | ⟨h, hf⟩
    · obtain ⟨q2, hc_2, hf⟩ := jbind hf
      exact b_IR_line_61 _ _ _ hf
    · rcases jif_d hf with ⟨h, hf⟩ | ⟨h, hf⟩
      · obtain ⟨q3, hc_3, hf⟩ := jbind hf
        exact b_IR_line_61 _ _ _ hf
      · obtain ⟨q4, hc_4, hf⟩ := jbind hf
        exact b_IR_line_61 _ _ _ hf
  · obtain rfl := Option.some.inj hf
    exact Or.inl rfl
/-! SwallowsAir$LineReader.reads(III)Z -/
def f_IR_reads_72 (c15 : Int32 → Int32 → Nat → jp_M → Option (Int32 × jp_M)) (l1 : Int32) (l4 : Int32) (w : Nat) (M : jp_M) : Option (Int32 × jp_M) :=
  (f_IR_line l1 w M).bind fun q1 => (
  if jp_c .ne q1.1 0 = true then (
  let M2 := jp_set q1.2 78 (upd (q1.2 78) 0 ((q1.2 78 0) + (1 : Int32)))
  c15 l1 (l4 + (1 : Int32)) w M2) else (
  some ((0 : Int32), q1.2)))
theorem t_IR_reads_72 {Ln : Nat} {xs : Nat → Int32} {sv : jp_V} {d : Nat} (hd : 9 ≤ d) {c15 : Int32 → Int32 → Nat → jp_M → Option (Int32 × jp_M)} (hc15 : ∀ (l1 : Int32) (l4 : Int32) (o2 : Option jp_V) (o3 : Option jp_V) (w : Nat) (M : jp_M) (res : Int32 × jp_M), c15 l1 l4 w M = some res → jR (jZ (jK Ln xs sv)) d 51 26 ([some (.inr (some 77)), some (.inl l1), o2, o3, some (.inl l4)], [], jSH w, M) (some (.inl res.1), jSH w, res.2)) (l1 : Int32) (l4 : Int32) (o2 : Option jp_V) (o3 : Option jp_V) (w : Nat) (M : jp_M) {res : Int32 × jp_M} (hf : f_IR_reads_72 c15 l1 l4 w M = some res) : jR (jZ (jK Ln xs sv)) d 51 72 ([some (.inr (some 77)), some (.inl l1), o2, o3, some (.inl l4)], [], jSH w, M) (some (.inl res.1), jSH w, res.2) := by
  unfold f_IR_reads_72 at hf
  refine jR_in rfl ⟨rfl, rfl, rfl⟩ rfl ?_
  refine js_aload_n rfl ?_
  refine js_iload_n rfl ?_
  obtain ⟨q1, hc_1, hf⟩ := jbind hf
  refine js_c2i rfl rfl ⟨rfl, rfl⟩ rfl rfl (t_IR_line hc_1) (by omega) ?_
  refine js_ifc (tgt := 82) rfl rfl (fun h => ?_) (fun h => ?_)
  · have hf := jif_t hf h
    refine jR_in rfl ⟨rfl, rfl, rfl⟩ rfl ?_
    refine js_aload_n rfl ?_
    refine js_getr rfl rfl rfl ?_
    refine js_dup ?_
    refine js_geti rfl rfl rfl ?_
    refine js_iconst (v := (1 : Int32)) rfl ?_
    refine js_iadd ?_
    refine js_puti rfl rfl (Or.inl rfl) ?_
    refine js_iinc (v := (1 : Int32)) rfl rfl rfl rfl ?_
    refine js_goto (tgt := 26) rfl rfl ?_
    exact hc15 _ _ _ _ _ _ _ hf
  · have hf := jif_f hf h
    refine js_iconst (v := (0 : Int32)) rfl ?_
    obtain rfl := Option.some.inj hf
    exact js_iret rfl rfl
theorem b_IR_reads_72 {c15 : Int32 → Int32 → Nat → jp_M → Option (Int32 × jp_M)} (hc15 : ∀ (l1 : Int32) (l4 : Int32) (w : Nat) (M : jp_M) (res : Int32 × jp_M), c15 l1 l4 w M = some res → (res.1 = 0 ∨ res.1 = 1)) (l1 : Int32) (l4 : Int32) (w : Nat) (M : jp_M) {res : Int32 × jp_M} (hf : f_IR_reads_72 c15 l1 l4 w M = some res) : res.1 = 0 ∨ res.1 = 1 := by
  unfold f_IR_reads_72 at hf
  obtain ⟨q1, hc_1, hf⟩ := jbind hf
  rcases jif_d hf with ⟨h, hf⟩ | ⟨h, hf⟩
  · exact hc15 _ _ _ _ _ hf
  · obtain rfl := Option.some.inj hf
    exact Or.inl rfl
def f_IR_reads_26  : Nat → Int32 → Int32 → Nat → jp_M → Option (Int32 × jp_M)
  | 0, _, _, _, _ => none
  | n + 1, l1, l4, w, M =>
    if jp_c .gt l4 (16 : Int32) = true then (
    some ((0 : Int32), M)) else (
    if jp_c .ne (M 68 5) 0 = true then (
    if jp_c .ne l4 (16 : Int32) = true then (
    f_IR_reads_72 (f_IR_reads_26 n ) l1 l4 w M) else (
    if jp_c .eq (f_R_isWord (0 : Int32) M) 0 = true then (
    f_IR_reads_72 (f_IR_reads_26 n ) l1 l4 w M) else (
    let q2 := f_R_fails (3 : Int32) M
    some (q2.1, q2.2)))) else (
    some ((1 : Int32), M)))
theorem t_IR_reads_26 {Ln : Nat} {xs : Nat → Int32} {sv : jp_V} {d : Nat} (hd : 9 ≤ d)  : ∀ (n : Nat) (l1 : Int32) (l4 : Int32) (o2 : Option jp_V) (o3 : Option jp_V) (w : Nat) (M : jp_M) {res : Int32 × jp_M}, f_IR_reads_26 n  l1 l4 w M = some res → jR (jZ (jK Ln xs sv)) d 51 26 ([some (.inr (some 77)), some (.inl l1), o2, o3, some (.inl l4)], [], jSH w, M) (some (.inl res.1), jSH w, res.2) := by
  intro n
  induction n with
  | zero =>
    intro l1 l4 o2 o3 w M res hf
    cases hf
  | succ n ih =>
    intro l1 l4 o2 o3 w M res hf
    rw [f_IR_reads_26] at hf
    refine jR_in rfl ⟨rfl, rfl, rfl⟩ rfl ?_
    refine js_iload rfl ?_
    refine js_bipush (v := (16 : Int32)) rfl ?_
    refine js_icmp (tgt := 101) rfl rfl (fun h => ?_) (fun h => ?_)
    · have hf := jif_t hf h
      refine jR_in rfl ⟨rfl, rfl, rfl⟩ rfl ?_
      refine js_iconst (v := (0 : Int32)) rfl ?_
      obtain rfl := Option.some.inj hf
      exact js_iret rfl rfl
    · have hf := jif_f hf h
      refine js_aload_n rfl ?_
      refine js_getr rfl rfl rfl ?_
      refine js_geti rfl rfl rfl ?_
      refine js_ifc (tgt := 45) rfl rfl (fun h => ?_) (fun h => ?_)
      · have hf := jif_t hf h
        refine jR_in rfl ⟨rfl, rfl, rfl⟩ rfl ?_
        refine js_iload rfl ?_
        refine js_bipush (v := (16 : Int32)) rfl ?_
        refine js_icmp (tgt := 72) rfl rfl (fun h => ?_) (fun h => ?_)
        · have hf := jif_t hf h
          exact t_IR_reads_72 hd (fun l1 l4 o2 o3 w M res hf => ih l1 l4 o2 o3 w M hf) _ _ _ _ _ _ hf
        · have hf := jif_f hf h
          refine js_aload_n rfl ?_
          refine js_getr rfl rfl rfl ?_
          refine js_iconst (v := (0 : Int32)) rfl ?_
          refine js_c2i rfl rfl ⟨rfl, rfl⟩ rfl rfl (t_R_isWord rfl) (by omega) ?_
          refine js_ifc (tgt := 72) rfl rfl (fun h => ?_) (fun h => ?_)
          · have hf := jif_t hf h
            exact t_IR_reads_72 hd (fun l1 l4 o2 o3 w M res hf => ih l1 l4 o2 o3 w M hf) _ _ _ _ _ _ hf
          · have hf := jif_f hf h
            refine js_aload_n rfl ?_
            refine js_getr rfl rfl rfl ?_
            refine js_iconst (v := (3 : Int32)) rfl ?_
            refine js_c2i rfl rfl ⟨rfl, rfl⟩ rfl rfl (t_R_fails rfl) (by omega) ?_
            obtain rfl := Option.some.inj hf
            exact js_iret (jbool (b_R_fails rfl)) rfl
      · have hf := jif_f hf h
        refine js_iconst (v := (1 : Int32)) rfl ?_
        obtain rfl := Option.some.inj hf
        exact js_iret rfl rfl
theorem b_IR_reads_26  : ∀ (n : Nat) (l1 : Int32) (l4 : Int32) (w : Nat) (M : jp_M) {res : Int32 × jp_M}, f_IR_reads_26 n  l1 l4 w M = some res → (res.1 = 0 ∨ res.1 = 1) := by
  intro n
  induction n with
  | zero =>
    intro l1 l4 w M res hf
    cases hf
  | succ n ih =>
    intro l1 l4 w M res hf
    rw [f_IR_reads_26] at hf
    rcases jif_d hf with ⟨h, hf⟩ | ⟨h, hf⟩
    · obtain rfl := Option.some.inj hf
      exact Or.inl rfl
    · rcases jif_d hf with ⟨h, hf⟩ | ⟨h, hf⟩
      · rcases jif_d hf with ⟨h, hf⟩ | ⟨h, hf⟩
        · exact b_IR_reads_72 (fun l1 l4 w M res hf => ih l1 l4 w M hf) _ _ _ _ hf
        · rcases jif_d hf with ⟨h, hf⟩ | ⟨h, hf⟩
          · exact b_IR_reads_72 (fun l1 l4 w M res hf => ih l1 l4 w M hf) _ _ _ _ hf
          · obtain rfl := Option.some.inj hf
            exact (b_R_fails rfl)
      · obtain rfl := Option.some.inj hf
        exact Or.inr rfl
def f_IR_reads (a1 : Int32) (a2 : Int32) (a3 : Int32) (w : Nat) (M : jp_M) : Option (Int32 × jp_M) :=
  let M1 := jp_set M 77 (upd (M 77) 4 a2)
  let M2 := jp_set M1 77 (upd (M1 77) 5 a3)
  let M3 := jp_set M2 78 (upd (M2 78) 0 (0 : Int32))
  let M4 := jp_set M3 77 (upd (M3 77) 2 (0 : Int32))
  f_IR_reads_26 jFu a1 (0 : Int32) w M4
theorem t_IR_reads {Ln : Nat} {xs : Nat → Int32} {sv : jp_V} {a1 : Int32} {a2 : Int32} {a3 : Int32} {w : Nat} {M : jp_M} {res : Int32 × jp_M} (hf : f_IR_reads a1 a2 a3 w M = some res) : jE (jZ (jK Ln xs sv)) 9 51 [(.inr (some 77)), (.inl a1), (.inl a2), (.inl a3)] (jSH w) M (some (.inl res.1), jSH w, res.2) := by
  unfold f_IR_reads at hf
  refine jE_in (L0 := [some (.inr (some 77)), some (.inl a1), some (.inl a2), some (.inl a3), none]) rfl (Nat.le_of_ble_eq_true rfl) rfl (fun d hd => ?_)
  refine jR_in rfl ⟨rfl, rfl, rfl⟩ rfl ?_
  refine js_aload_n rfl ?_
  refine js_iload_n rfl ?_
  refine js_puti rfl rfl (Or.inl rfl) ?_
  refine js_aload_n rfl ?_
  refine js_iload_n rfl ?_
  refine js_puti rfl rfl (Or.inl rfl) ?_
  refine js_aload_n rfl ?_
  refine js_getr rfl rfl rfl ?_
  refine js_iconst (v := (0 : Int32)) rfl ?_
  refine js_puti rfl rfl (Or.inl rfl) ?_
  refine js_aload_n rfl ?_
  refine js_iconst (v := (0 : Int32)) rfl ?_
  refine js_puti rfl rfl (Or.inl rfl) ?_
  refine js_iconst (v := (0 : Int32)) rfl ?_
  refine js_istore rfl rfl ?_
  exact jS_out rfl ⟨rfl, rfl, rfl⟩ rfl (t_IR_reads_26 hd jFu _ _ _ _ _ _ hf)
theorem b_IR_reads {a1 : Int32} {a2 : Int32} {a3 : Int32} {w : Nat} {M : jp_M} {res : Int32 × jp_M} (hf : f_IR_reads a1 a2 a3 w M = some res) : res.1 = 0 ∨ res.1 = 1 := by
  unfold f_IR_reads at hf
  exact b_IR_reads_26 jFu _ _ _ _ hf
/-! SwallowsAir$Sheet.becomes(LSwallowsAir$Sheet;)V -/
def f_S_becomes (M : jp_M) : Option (jp_M) :=
  let M1 := jp_set M 14 (upd (M 14) 0 (M 78 0))
  jg ((0 ≤ (0 : Int32) ∧ 0 ≤ (0 : Int32) ∧ 0 ≤ (jp_min (112 : Int32) (112 : Int32))) ∧ ((Int32.toNatClampNeg (0 : Int32)) + (Int32.toNatClampNeg (jp_min (112 : Int32) (112 : Int32))) ≤ 112 ∧ (Int32.toNatClampNeg (0 : Int32)) + (Int32.toNatClampNeg (jp_min (112 : Int32) (112 : Int32))) ≤ 112)) (
  let M2 := jp_set M1 15 (va_cpy (M1 79) (M1 15) 0 0 (Int32.toNatClampNeg (jp_min (112 : Int32) (112 : Int32))))
  some M2)
theorem t_S_becomes {Ln : Nat} {xs : Nat → Int32} {sv : jp_V} {w : Nat} {M : jp_M} {res : jp_M} (hf : f_S_becomes M = some res) : jE (jZ (jK Ln xs sv)) 0 73 [(.inr (some 14)), (.inr (some 78))] (jSH w) M (none, jSH w, res) := by
  unfold f_S_becomes at hf
  refine jE_in (L0 := [some (.inr (some 14)), some (.inr (some 78))]) rfl (Nat.le_of_ble_eq_true rfl) rfl (fun d hd => ?_)
  refine jR_in rfl ⟨rfl, rfl, rfl⟩ rfl ?_
  refine js_aload_n rfl ?_
  refine js_aload_n rfl ?_
  refine js_geti rfl rfl rfl ?_
  refine js_puti rfl rfl (Or.inl rfl) ?_
  refine js_aload_n rfl ?_
  refine js_getr rfl rfl rfl ?_
  refine js_iconst (v := (0 : Int32)) rfl ?_
  refine js_aload_n rfl ?_
  refine js_getr rfl rfl rfl ?_
  refine js_iconst (v := (0 : Int32)) rfl ?_
  refine js_aload_n rfl ?_
  refine js_getr rfl rfl rfl ?_
  refine js_alen (v := (112 : Int32)) rfl rfl rfl ?_
  refine js_aload_n rfl ?_
  refine js_getr rfl rfl rfl ?_
  refine js_alen (v := (112 : Int32)) rfl rfl rfl ?_
  refine js_min rfl ?_
  obtain ⟨hb3, hf⟩ := jg_some hf
  refine js_copy rfl rfl rfl hb3.1 hb3.2 rfl ?_
  obtain rfl := Option.some.inj hf
  exact js_ret rfl rfl
/-! SwallowsAir$Affairs.leases(LSwallowsAir$Sheet;)V -/
def f_A_leases_73 (c18 : Int32 → jp_M → Option (jp_M)) (l2 : Int32) (M : jp_M) : Option (jp_M) :=
  c18 (l2 + (1 : Int32)) M
theorem t_A_leases_73 {Ln : Nat} {xs : Nat → Int32} {sv : jp_V} {d : Nat} (hd : 1 ≤ d) {c18 : Int32 → jp_M → Option (jp_M)} (hc18 : ∀ (l2 : Int32) (o3 : Option jp_V) (w : Nat) (M : jp_M) (res : jp_M), c18 l2 M = some res → jR (jZ (jK Ln xs sv)) d 3 31 ([some (.inr (some 1)), some (.inr (some 78)), some (.inl l2), o3], [], jSH w, M) (none, jSH w, res)) (l2 : Int32) (o3 : Option jp_V) (w : Nat) (M : jp_M) {res : jp_M} (hf : f_A_leases_73 c18 l2 M = some res) : jR (jZ (jK Ln xs sv)) d 3 73 ([some (.inr (some 1)), some (.inr (some 78)), some (.inl l2), o3], [], jSH w, M) (none, jSH w, res) := by
  unfold f_A_leases_73 at hf
  refine jR_in rfl ⟨rfl, rfl, rfl⟩ rfl ?_
  refine js_iinc (v := (1 : Int32)) rfl rfl rfl rfl ?_
  refine js_goto (tgt := 31) rfl rfl ?_
  exact hc18 _ _ _ _ _ hf
def f_A_leases_31  : Nat → Int32 → jp_M → Option (jp_M)
  | 0, _, _ => none
  | n + 1, l2, M =>
    if jp_c .ge l2 (M 78 0) = true then (
    some M) else (
    jg (jp_in ((2 : Int32) * l2) 112) (
    if jp_c .eq (f_C_within (M 79 (Int32.toNatClampNeg ((2 : Int32) * l2))) (9 : Int32)) 0 = true then (
    f_A_leases_73 (f_A_leases_31 n ) l2 M) else (
    jg (jp_in (((2 : Int32) * l2) + (1 : Int32)) 112) (
    jg (jp_in (M 79 (Int32.toNatClampNeg ((2 : Int32) * l2))) 10) (
    let M4 := jp_set M 16 (upd (M 16) (Int32.toNatClampNeg (M 79 (Int32.toNatClampNeg ((2 : Int32) * l2)))) (M 79 (Int32.toNatClampNeg (((2 : Int32) * l2) + (1 : Int32)))))
    f_A_leases_73 (f_A_leases_31 n ) l2 M4)))))
theorem t_A_leases_31 {Ln : Nat} {xs : Nat → Int32} {sv : jp_V} {d : Nat} (hd : 1 ≤ d)  : ∀ (n : Nat) (l2 : Int32) (o3 : Option jp_V) (w : Nat) (M : jp_M) {res : jp_M}, f_A_leases_31 n  l2 M = some res → jR (jZ (jK Ln xs sv)) d 3 31 ([some (.inr (some 1)), some (.inr (some 78)), some (.inl l2), o3], [], jSH w, M) (none, jSH w, res) := by
  intro n
  induction n with
  | zero =>
    intro l2 o3 w M res hf
    cases hf
  | succ n ih =>
    intro l2 o3 w M res hf
    rw [f_A_leases_31] at hf
    refine jR_in rfl ⟨rfl, rfl, rfl⟩ rfl ?_
    refine js_iload_n rfl ?_
    refine js_aload_n rfl ?_
    refine js_geti rfl rfl rfl ?_
    refine js_icmp (tgt := 79) rfl rfl (fun h => ?_) (fun h => ?_)
    · have hf := jif_t hf h
      refine jR_in rfl ⟨rfl, rfl, rfl⟩ rfl ?_
      obtain rfl := Option.some.inj hf
      exact js_ret rfl rfl
    · have hf := jif_f hf h
      refine js_aload_n rfl ?_
      refine js_getr rfl rfl rfl ?_
      refine js_iconst (v := (2 : Int32)) rfl ?_
      refine js_iload_n rfl ?_
      refine js_imul ?_
      obtain ⟨hb1, hf⟩ := jg_some hf
      refine js_iald rfl hb1 ?_
      refine js_istore_n rfl rfl ?_
      refine js_iload_n rfl ?_
      refine js_bipush (v := (9 : Int32)) rfl ?_
      refine js_c2i rfl rfl ⟨rfl, rfl⟩ rfl rfl (t_C_within rfl) (by omega) ?_
      refine js_ifc (tgt := 73) rfl rfl (fun h => ?_) (fun h => ?_)
      · have hf := jif_t hf h
        exact t_A_leases_73 hd (fun l2 o3 w M res hf => ih l2 o3 w M hf) _ _ _ _ hf
      · have hf := jif_f hf h
        refine js_aload_n rfl ?_
        refine js_getr rfl rfl rfl ?_
        refine js_iload_n rfl ?_
        refine js_aload_n rfl ?_
        refine js_getr rfl rfl rfl ?_
        refine js_iconst (v := (2 : Int32)) rfl ?_
        refine js_iload_n rfl ?_
        refine js_imul ?_
        refine js_iconst (v := (1 : Int32)) rfl ?_
        refine js_iadd ?_
        obtain ⟨hb3, hf⟩ := jg_some hf
        refine js_iald rfl hb3 ?_
        obtain ⟨hb5, hf⟩ := jg_some hf
        refine js_iast rfl hb5 ?_
        exact jS_out rfl ⟨rfl, rfl, rfl⟩ rfl (t_A_leases_73 hd (fun l2 o3 w M res hf => ih l2 o3 w M hf) _ _ _ _ hf)
def f_A_leases_10  : Nat → Int32 → jp_M → Option (jp_M)
  | 0, _, _ => none
  | n + 1, l2, M =>
    if jp_c .ge l2 (10 : Int32) = true then (
    f_A_leases_31 jFu (0 : Int32) M) else (
    jg (jp_in l2 10) (
    let M1 := jp_set M 16 (upd (M 16) (Int32.toNatClampNeg l2) (-1 : Int32))
    f_A_leases_10 n (l2 + (1 : Int32)) M1))
theorem t_A_leases_10 {Ln : Nat} {xs : Nat → Int32} {sv : jp_V} {d : Nat} (hd : 1 ≤ d)  : ∀ (n : Nat) (l2 : Int32) (o3 : Option jp_V) (w : Nat) (M : jp_M) {res : jp_M}, f_A_leases_10 n  l2 M = some res → jR (jZ (jK Ln xs sv)) d 3 10 ([some (.inr (some 1)), some (.inr (some 78)), some (.inl l2), o3], [], jSH w, M) (none, jSH w, res) := by
  intro n
  induction n with
  | zero =>
    intro l2 o3 w M res hf
    cases hf
  | succ n ih =>
    intro l2 o3 w M res hf
    rw [f_A_leases_10] at hf
    refine jR_in rfl ⟨rfl, rfl, rfl⟩ rfl ?_
    refine js_iload_n rfl ?_
    refine js_bipush (v := (10 : Int32)) rfl ?_
    refine js_icmp (tgt := 29) rfl rfl (fun h => ?_) (fun h => ?_)
    · have hf := jif_t hf h
      refine jR_in rfl ⟨rfl, rfl, rfl⟩ rfl ?_
      refine js_iconst (v := (0 : Int32)) rfl ?_
      refine js_istore_n rfl rfl ?_
      exact jS_out rfl ⟨rfl, rfl, rfl⟩ rfl (t_A_leases_31 hd jFu _ _ _ _ hf)
    · have hf := jif_f hf h
      refine js_aload_n rfl ?_
      refine js_getr rfl rfl rfl ?_
      refine js_iload_n rfl ?_
      refine js_iconst (v := (-1 : Int32)) rfl ?_
      obtain ⟨hb2, hf⟩ := jg_some hf
      refine js_iast rfl hb2 ?_
      refine js_iinc (v := (1 : Int32)) rfl rfl rfl rfl ?_
      refine js_goto (tgt := 10) rfl rfl ?_
      exact ih _ _ _ _ hf
def f_A_leases (M : jp_M) : Option (jp_M) :=
  let M1 := jp_set M 1 (upd (M 1) 5 (M 78 0))
  f_A_leases_10 jFu (0 : Int32) M1
theorem t_A_leases {Ln : Nat} {xs : Nat → Int32} {sv : jp_V} {w : Nat} {M : jp_M} {res : jp_M} (hf : f_A_leases M = some res) : jE (jZ (jK Ln xs sv)) 1 3 [(.inr (some 1)), (.inr (some 78))] (jSH w) M (none, jSH w, res) := by
  unfold f_A_leases at hf
  refine jE_in (L0 := [some (.inr (some 1)), some (.inr (some 78)), none, none]) rfl (Nat.le_of_ble_eq_true rfl) rfl (fun d hd => ?_)
  refine jR_in rfl ⟨rfl, rfl, rfl⟩ rfl ?_
  refine js_aload_n rfl ?_
  refine js_aload_n rfl ?_
  refine js_geti rfl rfl rfl ?_
  refine js_puti rfl rfl (Or.inl rfl) ?_
  refine js_iconst (v := (0 : Int32)) rfl ?_
  refine js_istore_n rfl rfl ?_
  exact jS_out rfl ⟨rfl, rfl, rfl⟩ rfl (t_A_leases_10 hd jFu _ _ _ _ hf)
/-! SwallowsAir$Sheet.becomes(LSwallowsAir$Sheet;)V -/
def f_S_becomes_1 (M : jp_M) : Option (jp_M) :=
  let M1 := jp_set M 17 (upd (M 17) 0 (M 78 0))
  jg ((0 ≤ (0 : Int32) ∧ 0 ≤ (0 : Int32) ∧ 0 ≤ (jp_min (32 : Int32) (112 : Int32))) ∧ ((Int32.toNatClampNeg (0 : Int32)) + (Int32.toNatClampNeg (jp_min (32 : Int32) (112 : Int32))) ≤ 112 ∧ (Int32.toNatClampNeg (0 : Int32)) + (Int32.toNatClampNeg (jp_min (32 : Int32) (112 : Int32))) ≤ 32)) (
  let M2 := jp_set M1 18 (va_cpy (M1 79) (M1 18) 0 0 (Int32.toNatClampNeg (jp_min (32 : Int32) (112 : Int32))))
  some M2)
theorem t_S_becomes_1 {Ln : Nat} {xs : Nat → Int32} {sv : jp_V} {w : Nat} {M : jp_M} {res : jp_M} (hf : f_S_becomes_1 M = some res) : jE (jZ (jK Ln xs sv)) 0 73 [(.inr (some 17)), (.inr (some 78))] (jSH w) M (none, jSH w, res) := by
  unfold f_S_becomes_1 at hf
  refine jE_in (L0 := [some (.inr (some 17)), some (.inr (some 78))]) rfl (Nat.le_of_ble_eq_true rfl) rfl (fun d hd => ?_)
  refine jR_in rfl ⟨rfl, rfl, rfl⟩ rfl ?_
  refine js_aload_n rfl ?_
  refine js_aload_n rfl ?_
  refine js_geti rfl rfl rfl ?_
  refine js_puti rfl rfl (Or.inl rfl) ?_
  refine js_aload_n rfl ?_
  refine js_getr rfl rfl rfl ?_
  refine js_iconst (v := (0 : Int32)) rfl ?_
  refine js_aload_n rfl ?_
  refine js_getr rfl rfl rfl ?_
  refine js_iconst (v := (0 : Int32)) rfl ?_
  refine js_aload_n rfl ?_
  refine js_getr rfl rfl rfl ?_
  refine js_alen (v := (32 : Int32)) rfl rfl rfl ?_
  refine js_aload_n rfl ?_
  refine js_getr rfl rfl rfl ?_
  refine js_alen (v := (112 : Int32)) rfl rfl rfl ?_
  refine js_min rfl ?_
  obtain ⟨hb3, hf⟩ := jg_some hf
  refine js_copy rfl rfl rfl hb3.1 hb3.2 rfl ?_
  obtain rfl := Option.some.inj hf
  exact js_ret rfl rfl
