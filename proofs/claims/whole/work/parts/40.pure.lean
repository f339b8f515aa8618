theorem jmq_use {M : jp_M} {ps : List Nat} (h : jmq M ps = true) (p : Nat) (hp : p ∈ ps) : ∀ i, i < jln.getD p 0 → M p i = jM0 p i := fun i hi => of_decide_eq_true (List.all_eq_true.mp (List.all_eq_true.mp h p hp) i (List.mem_range.mpr hi))
theorem l_new {g : Nat × Nat × Nat × Nat} {Z : jp_P} {d k rt pc a b i q N : Nat} {c : jp_C} {rest : List jp_O} {L : List (Option jp_V)} {S : List jp_V} {sh : jp_S} {M : jp_M} {r : jp_R} (hc : (.inr (.inr (a, Z.2.2.1 a)) : jp_C) = c) (hN : (Z.2.2.1 a).length = N) (hq : sh.length = q) (hw : jp_wf L S sh = true) (hr : g.2.2.1 + 1 ≤ g.1 ∧ g.2.2.2 + N ≤ g.2.1) (kk : lS (g.1, g.2.1, g.2.2.1 + 1, g.2.2.2 + N) Z d k rt rest (L, .inr (some q) :: S, sh ++ [c], jp_set M q (fun _ => 0)) r) : lS g Z d k rt ((pc, .new i, a, b) :: rest) (L, S, sh, M) r := by
  subst hc; subst hN; subst hq
  obtain ⟨N, hN⟩ := kk
  exact ⟨N, fun n hn => by simp only [jp_go, jp_newX, if_pos (And.intro hr hw)]; exact hN n hn⟩
theorem l_init {g : Nat × Nat × Nat × Nat} {Z : jp_P} {d k rt pc a b i N1 nc ns : Nat} {rest : List jp_O} {X Y : jp_X} {r : jp_R} (ha : ¬ a = 9000) (h : ∀ n, N1 ≤ n → jp_call Z g.1 g.2.1 (jp_T Z n d) a b X g.2.2.1 g.2.2.2 = some (Y, nc, ns)) (kk : lS (g.1, g.2.1, nc, ns) Z d k rt rest Y r) : lS g Z d k rt ((pc, .invokespecial i, a, b) :: rest) X r := by
  obtain ⟨N, hN⟩ := kk
  exact ⟨N + N1, fun n hn => by simp only [jp_go, if_neg ha, h n (by omega)]; exact hN n (by omega)⟩
theorem jinit {kc : jp_Kc} {a n0 : Nat} {mi : jp_I} {as : List jp_V} {sh sh' : jp_S} {M M' : jp_M} {L : List (Option jp_V)} {S S' : List jp_V} {mc ms nc ns nc' ns' : Nat} (hk : jZ1 a = some mi) {l0 : Nat} (hl0 : mi.1 = l0) (hr : jp_run (jZ jkE) 60 60 a 0 (jp_ent l0 as, [], sh, M) 0 0 = some (none, sh', M')) (has : (S.take n0).reverse = as) (hS : S.drop n0 = S') (hal : as.length ≤ mi.1) (ha : a < 9100)
    (hb : n0 = mi.2.2.2.2.2.2.1 ∧ n0 ≤ S.length ∧ S.length - n0 ≤ 8) (hrc : jp_rcv sh mi.2.2.2.1 mi.2.2.2.2.1 as.head? = true) (hw : jp_wf L S' sh = true) (h1 : nc + mi.2.1 = nc') (h2 : ns + mi.2.2.1 = ns') (hle : nc' ≤ mc ∧ ns' ≤ ms) : ∀ n, 60 ≤ n → jp_call (jZ kc) mc ms (jp_T (jZ kc) n 200) a n0 (L, S, sh, M) nc ns = some ((L, S', sh', M'), nc', ns') := by
  intro n hn
  subst hl0; subst has; subst hS; subst h1; subst h2
  have hk' : (jZ kc).1 a = some mi := hk
  unfold jp_call
  rw [hk']
  dsimp only
  rw [if_pos ⟨hb, hrc, hle, Or.inr hw⟩]
  have e1 := jp_run_mono (kc := kc) 60 n 60 199 a 0 _ 0 0 _ hn (by decide) hr
  simp only [jp_T, if_neg (show ¬ 9100 ≤ a by omega), hk', if_pos hal, e1]
  rfl
theorem jw1 : jp_wf [some (.inr (some 2000)), none, none, none] [] [] = true := by decide +kernel
theorem jw2 : jp_wf [some (.inr (some 2000)), none, none, none] [.inr (some 0)] [.inr (.inr (11, jdf 11))] = true := by decide +kernel
theorem jw3 : jp_wf [some (.inr (some 2000)), some (.inr (some 0)), none, none] [] jS1 = true := by decide +kernel
theorem jw4 : jp_wf [some (.inr (some 2000)), some (.inr (some 0)), none, none] [.inr (some 104)] (jS1 ++ [.inr (.inr (12, jdf 12))]) = true := by decide +kernel
theorem jw5 : jS1.length = 104 := by decide +kernel
theorem jw6 : (jdf 11).length = 15 ∧ (jdf 12).length = 66 := by decide +kernel
theorem jw7 : jm_111.2.1 = 103 ∧ jm_111.2.2.1 = 6350 ∧ jm_162.2.1 = 39 ∧ jm_162.2.2.1 = 8670 := ⟨rfl, rfl, rfl, rfl⟩
theorem jh1 : 0 + 1 + jm_111.2.1 = 104 := by rw [jw7.1]
theorem jh2 : 0 + 15 + jm_111.2.2.1 = 6365 := by rw [jw7.2.1]
theorem jh3 : 104 + 1 + jm_162.2.1 = 144 := by rw [jw7.2.2.1]
theorem jh4 : 6365 + 66 + jm_162.2.2.1 = 15101 := by rw [jw7.2.2.2]
theorem jle1 : 0 + 1 ≤ 600000 ∧ 0 + 15 ≤ 7302250 := by omega
theorem jle2 : 104 ≤ 600000 ∧ 6365 ≤ 7302250 := by omega
theorem jle3 : 104 + 1 ≤ 600000 ∧ 6365 + 66 ≤ 7302250 := by omega
theorem jle4 : 144 ≤ 600000 ∧ 15101 ≤ 7302250 := by omega
theorem jrc1 : jp_rcv [.inr (.inr (11, jdf 11))] jm_111.2.2.2.1 jm_111.2.2.2.2.1 (some (.inr (some 0))) = true := rfl
theorem jrc2 {sh : jp_S} : jp_rcv sh jm_162.2.2.2.1 jm_162.2.2.2.2.1 (some (.inr (some 104))) = true := rfl
theorem jr1 : jR1 = some (none, jS1, jM1) := by
  unfold jM1
  exact jp_isR_ok jR1_sh
theorem jr2 : jR2 = some (none, jSH 1000, jM2) := by
  unfold jM2
  exact jp_isR_ok jR2_sh
theorem jz1 : jZ1 111 = some jm_111 := rfl
theorem jz2 : jZ1 162 = some jm_162 := rfl
theorem ji1 {kc : jp_Kc} : ∀ n, 60 ≤ n → jp_call (jZ kc) 600000 7302250 (jp_T (jZ kc) n 200) 111 1 ([some (.inr (some 2000)), none, none, none], [.inr (some 0), .inr (some 0)], [.inr (.inr (11, jdf 11))], jp_set (fun _ _ => 0) 0 (fun _ => 0)) (0 + 1) (0 + 15) = some (([some (.inr (some 2000)), none, none, none], [.inr (some 0)], jS1, jM1), 104, 6365) := by
  have h := jr1
  unfold jR1 at h
  generalize jM1 = m1 at h ⊢
  generalize jS1 = s1 at h ⊢
  exact jinit (mi := jm_111) jz1 rfl h rfl rfl (by decide) (by decide) (by decide) jrc1 jw2 jh1 jh2 jle2
theorem ji2 {kc : jp_Kc} : ∀ n, 60 ≤ n → jp_call (jZ kc) 600000 7302250 (jp_T (jZ kc) n 200) 162 1 ([some (.inr (some 2000)), some (.inr (some 0)), none, none], [.inr (some 104), .inr (some 104)], jS1 ++ [.inr (.inr (12, jdf 12))], jp_set jM1 104 (fun _ => 0)) (104 + 1) (6365 + 66) = some (([some (.inr (some 2000)), some (.inr (some 0)), none, none], [.inr (some 104)], jSH 1000, jM2), 144, 15101) := by
  have h := jr2
  have hw := jw4
  unfold jR2 at h
  generalize jM2 = m2 at h ⊢
  generalize jM1 = m1 at h ⊢
  generalize jSH 1000 = s2 at h ⊢
  generalize jS1 = s1 at h hw ⊢
  exact jinit (mi := jm_162) jz2 rfl h rfl rfl (by decide) (by decide) (by decide) jrc2 hw jh3 jh4 jle4
set_option maxRecDepth 100000 in
set_option maxHeartbeats 1000000 in
/-- the law's run out of its loop's function -/
theorem jpure_of (h : ∀ (Ln : Nat) (xs : Nat → Int32), Ln ≤ 3072 → ∃ (w : Nat) (M : jp_M), f_LAW_18 Ln xs jFu 0 1000 jM2 = some (1, w, M)) : jPure := by
  intro Ln xs sv hL hsv
  obtain ⟨w, M, hf⟩ := h Ln xs hL
  have i1 := @ji1 (jK Ln xs sv)
  have i2 := @ji2 (jK Ln xs sv)
  have w3 := jw3
  have w5 := jw5
  generalize jM2 = m2 at hf i2
  generalize jM1 = m1 at i1 i2
  generalize jS1 = s1 at i1 i2 w3 w5
  have key : lR (600000, 7302250, 0, 0) (jZ (jK Ln xs sv)) 200 315 0 ([some (.inr (some 2000)), none, none, none], [], [], fun _ _ => 0) (some (.inl 1), jSH w, M) := by
    refine lR_in rfl rfl rfl ?_
    refine l_new (c := .inr (.inr (11, jdf 11))) (q := 0) (N := 15) rfl jw6.1 rfl jw1 jle1 ?_
    refine ls_dup ?_
    refine l_init (nc := 104) (ns := 6365) (by decide) i1 ?_
    refine ls_astore_n rfl rfl ?_
    refine l_new (c := .inr (.inr (12, jdf 12))) (q := 104) (N := 66) rfl jw6.2 w5 w3 jle3 ?_
    refine ls_dup ?_
    refine l_init (nc := 144) (ns := 15101) (by decide) i2 ?_
    refine ls_astore_n rfl rfl ?_
    refine ls_iconst (v := 0) rfl ?_
    refine ls_istore_n rfl rfl ?_
    have hx := t_LAW_18 (nc := 144) (ns := 15101) (sv := sv) jle4 (d := 200) (by decide) jFu 0 1000 m2 hf
    exact lS_out (pc := 18) rfl rfl rfl hx
  obtain ⟨N, hN⟩ := key
  exact ⟨N, jSH w, M, hN N (Nat.le_refl _)⟩
