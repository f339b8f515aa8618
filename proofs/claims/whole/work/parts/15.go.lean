/-! a stretch of code of the pure machine, to its end -/
theorem jp_tgt_eq {pc : Nat} {off : Int} (h : jp_okJ pc off = true) : (pc : Int) + off = (jp_tgt pc off : Int) := by
  have h1 := of_decide_eq_true h
  simp only [jp_tgt]
  omega
/-- an int array's class is one -/
theorem jp_tysame {D : va_G} {cl : List vw_C} {cA : Nat → ClassId} {CW : String} {s : State} {t : Nat} {cB : ClassId} {ty : FieldType} (hK : va_K D cl (jp_tys cA CW) s) (ht : (jp_tys cA CW)[t]? = some (cA t, ty)) (hB : va_K D cl (jp_tys cA CW ++ [(cB, ty)]) s) : cB = cA t := by
  have h1 := (hB.2 t _ (by rw [List.getElem?_append_left (List.getElem?_eq_some_iff.mp ht).1]; exact ht)).2
  have h2 := (hB.2 4 (cB, ty) rfl).2
  dsimp only at h1 h2
  cases ty with
  | object C =>
    obtain ⟨kA, comp, -, -, -, h3⟩ := h1
    obtain ⟨kB, comp2, -, -, -, h4⟩ := h2
    rw [h3] at h4
    exact (Option.some.inj h4).symm
  | _ =>
    unfold va_RA at h1 h2
    dsimp only at h1 h2
    rw [h1] at h2
    exact (Option.some.inj h2).symm
theorem jp_st_len {fk : Nat → Nat → Nat} {kc : jp_Kc} {ins : Instr} {a b : Nat} {X Y : jp_X} (h : jp_st fk kc ins a b X = some Y) : Y.2.2.1.length = X.2.2.1.length := by
  cases ins <;> simp only [jp_st, jp_ildX, jp_aldX, jp_istX, jp_astX, jp_incX, jp_bin, jp_dvd, jp_un, jp_getX, jp_putX, jp_xldX, jp_xstX, jp_aaldX, jp_aastX, jp_lenX, jp_cpyX, jp_mth1, jp_mth2, reduceCtorEq] at h
  all_goals (repeat' split at h)
  all_goals first | (cases h; done) | (cases h; simp)
theorem jp_call_nc {Z : jp_P} {mc ms : Nat} {C : jp_K} {a b nc ns nc' ns' : Nat} {X Y : jp_X} (h : jp_call Z mc ms C a b X nc ns = some (Y, nc', ns')) : nc' ≤ mc ∧ ns' ≤ ms := by
  unfold jp_call at h
  split at h
  · split at h
    · next hc =>
      split at h
      · cases h; exact hc.2.2.1
      · cases h
    · cases h
  · cases h
section JPG
variable {p : Program} {l : Launch} {e : Env} {R : Room} {s : State} {m : MethodId} {args : Array Value} {below : List Frame} {meth : Method} {c : Code} {Q : State → Prop}
variable {cc : ByteArray} {nL n0 mc ms rt : Nat} {A : Nat → Prop} {Ts : List Jvm.Cond} {y : MethodName} {ad0 : Nat → Nat} {Z : jp_P} {G : jp_G} {XX : State → Heap → Prop} {CA : Nat → Prop} {C : jp_K} {J : jp_J} {r : jp_R} {ret : Option FieldType} {free : Addr → Prop} {Qc : Array Value → State → Outcome → State → Prop}
set_option maxHeartbeats 2000000 in
theorem jp_sim_go (hx : p.tables.exec = Jvm.exec) (hb : c.code = cc) (hml : c.maxLocals = nL) (hown : s.vm.findClass y.cls = some m.cls) (hname : meth.name = y.name) (hlocks : meth.locks = false) (hts : ∀ w ∈ Ts, w.before args s = true) (hT : ∀ w ∈ G.2.2.2.2.2.1, w ∈ Ts)
    (hR : 1 ≤ R.frames ∧ 64 ≤ R.locals) (hRc : R.cells = mc ∧ R.slots = ms) (hret : meth.sig.returnType = ret) (hrt : ret = jp_rty rt)
    (hZ : jp_okZ Z G) (hX : jp_okX Z.2.2.2.2 G XX CA) (hK : va_K G.2.1 G.2.2.1 (jp_tys G.2.2.2.1 G.2.2.2.2.1) s) (hdf : ∀ ci q, G.2.2.1[ci]? = some q → (Z.2.2.1 ci).length = q.2.2 ∧ (∀ o ∈ Z.2.2.1 ci, o = none ∨ o = some none) ∧ ∃ ty : Nat → FieldType, (∀ k, k < q.2.2 → parseFieldDescriptor (q.2.1 k).2.2.1 = some (ty k)) ∧ ∀ j o, (Z.2.2.1 ci)[j]? = some o → defaultValue (ty j) = jp_tr (fun _ => 0) (jp_fval 0 o))
    (hC : ∀ a mi, Z.1 a = some mi → jp_okCall l R G XX CA C a mi)
    (hX0 : XX s s.heap) (hCA : ∀ q, CA q → q < s.heap.size ∧ ¬ A q) (hA : ∀ q, s.heap.size ≤ q → A q) (hadK : ∀ q, 1000 ≤ q → ad0 q = G.2.2.2.2.2.2.2.2.1 q)
    (hJ : ∀ t X nc ns, J t X nc ns = some r → nc ≤ mc ∧ ns ≤ ms → ∀ (ad : Nat → Nat) (H : Heap) (locs : List Loc) (ls : Array Slot), jp_Iv G A s.heap nL n0 mc ad0 ad X H locs ls → W p l e R s m args below meth c H locs nc ns (MQ below Qc args s mc ms free) (F0 m t ls (X.2.1.map (jp_tr ad))))
    (hQ : ∀ (ad : Nat → Nat) (H : Heap) (locs : List Loc) (t : State), va_P G.2.1 G.2.2.1 (jp_ws G.2.2.2.1 ad r.2.2 r.2.1) H → va_D A (jp_ws G.2.2.2.1 ad r.2.2 r.2.1) → va_S A s.heap H locs → (∀ q, q < n0 ∨ 1000 ≤ q → ad q = ad0 q) → (mc = 0 → ad = ad0) → n0 ≤ r.2.1.length → t.heap = H → s.WarmedH t.vm → Qc args s (.returned (r.1.map (jp_tr ad))) t)
    (hfree : ∀ q, A q → free q) :
    ∀ (ops : List jp_O) (X : jp_X) (nc ns : Nat), jp_go Z mc ms rt J C ops X nc ns = some r → jp_okL Z G.1 G.2.2.1 G.2.2.2.2.1 G.2.2.2.2.2.1 G.2.2.2.2.2.2.1 G.2.2.2.2.2.2.2.1 G.2.2.2.2.2.2.2.2.2.1 G.2.2.2.2.2.2.2.2.2.2 y cc ops → nc ≤ mc ∧ ns ≤ ms → ∀ (pc : Nat), (∀ o r', ops = o :: r' → o.1 = pc) → ∀ (ad : Nat → Nat) (H : Heap) (locs : List Loc) (ls : Array Slot), jp_Iv G A s.heap nL n0 mc ad0 ad X H locs ls →
      W p l e R s m args below meth c H locs nc ns (MQ below Qc args s mc ms free) (F0 m pc ls (X.2.1.map (jp_tr ad))) := by
  intro ops
  induction ops with
  | nil => intro X nc ns h; cases h
  | cons o rr ih =>
    obtain ⟨pc0, ins, a, b⟩ := o
    intro X nc ns hgo hok hnc pc hpc ad H locs ls hI
    have hpc0 : pc0 = pc := hpc _ _ rfl
    subst hpc0
    obtain ⟨⟨hdec, hE, hKK, hkd⟩, hnext, hok'⟩ := hok
    dsimp only at hdec hE hKK hkd hnext
    have hdg : jp_sl ins = false → decode cc pc0 = .ok (ins, jp_len ins) := by
      intro h
      rw [h] at hdec
      simpa using hdec
    -- on with the rest
    have next : ∀ (X' : jp_X) (nc' ns' : Nat), jp_go Z mc ms rt J C rr X' nc' ns' = some r → jp_sl ins = false → nc' ≤ mc ∧ ns' ≤ ms → ∀ (ad : Nat → Nat) (H : Heap) (locs : List Loc) (ls : Array Slot), jp_Iv G A s.heap nL n0 mc ad0 ad X' H locs ls →
        W p l e R s m args below meth c H locs nc' ns' (MQ below Qc args s mc ms free) (F0 m (pc0 + jp_len ins) ls (X'.2.1.map (jp_tr ad))) := by
      intro X' nc' ns' h1 h2 h3 ad1 H1 locs1 ls1 hI1
      refine ih X' nc' ns' h1 hok' h3 _ (fun o r' e => ?_) ad1 H1 locs1 ls1 hI1
      rcases hnext o r' e with h | h
      · rw [h2] at h; cases h
      · exact h
    -- a plain instruction
    have plain : ∀ Y : jp_X, jp_st Z.2.1 Z.2.2.2.2 ins a b X = some Y → jp_sl ins = false → jp_go Z mc ms rt J C rr Y nc ns = some r → W p l e R s m args below meth c H locs nc ns (MQ below Qc args s mc ms free) (F0 m pc0 ls (X.2.1.map (jp_tr ad))) := by
      intro Y h1 h2 h3
      obtain ⟨hWd, hl, hag, had0, hn0⟩ := hI
      have hnA : ∀ z, A z → ¬ CA z := fun z hz hc => (hCA z hc).2 hz
      have hlen : X.2.2.1.length ≤ Y.2.2.1.length := by rw [jp_st_len h1]; exact Nat.le_refl _
      refine jp_sim_st (SR := G.2.2.2.2.2.2.2.1) (CF := G.2.2.2.2.2.2.2.2.2.1) (SF := G.2.2.2.2.2.2.2.2.2.2) (CW := G.2.2.2.2.1) (TBL := G.2.2.2.2.2.1) h1 hx hb hml hown hts hT hR (by rw [hRc.1, hRc.2]; exact hnc) hK hZ.2.1 hZ.2.2.1 (fun i o k tx hi => ?_) rfl (fun q t n f hq => ?_) (fun q j v hq => ?_) (fun j v hq => ?_) (by rw [hname]; exact hE) (hdg h2) hWd hl (fun H1 locs1 ls1 w1 w2 => next Y nc ns h3 h2 hnc ad H1 locs1 ls1 ⟨w1, w2, hag, had0, Nat.le_trans hn0 hlen⟩)
      · have := hX.2.2.2.1 s s.heap i o k tx hX0 hi
        rw [hag (1000 + i) (Or.inr (by omega)), hadK (1000 + i) (by omega)]
        exact this
      · obtain ⟨h6, h7⟩ := hX.2.2.2.2.2.2.2.1 s s.heap q t n f hX0 hq
        rw [hag q (Or.inr h6), hadK q h6]
        rcases h7 with ⟨h8, h9⟩ | ⟨h8, h9⟩
        · exact Or.inl ⟨h8, h9.narrow hnA⟩
        · exact Or.inr ⟨h8, h9.narrow hnA⟩
      · obtain ⟨h6, h7, o, n, d, h8, h9⟩ := hX.2.2.2.2.2.2.2.2.1 s s.heap q j v hX0 hq
        rw [hag q (Or.inr h6), hadK q h6, jp_tr_ag (n := 0) (ad := G.2.2.2.2.2.2.2.2.1) (ad' := ad) (fun z hz => (hag z (Or.inr (by omega))).trans (hadK z (by omega))) h7]
        exact ⟨o, n, d, h8, h9.narrow hnA⟩
      · obtain ⟨h7, o, n, d, h8, h9⟩ := hX.2.2.2.2.2.2.2.2.2 s s.heap j v hX0 hq
        rw [jp_tr_ag (n := 0) (ad := G.2.2.2.2.2.2.2.2.1) (ad' := ad) (fun z hz => (hag z (Or.inr (by omega))).trans (hadK z (by omega))) h7]
        exact ⟨o, n, d, h8, h9.narrow hnA⟩
    obtain ⟨L, S, sh, M⟩ := X
    have hI0 := hI
    obtain ⟨hWd, hl, hag, had0, hn0⟩ := hI
    dsimp only at hWd hl hn0
    cases ins
    case goto off =>
      simp only [jp_go] at hgo
      split at hgo
      · next hj => exact lv_goto hx hb (hdg rfl) (jp_tgt_eq hj) (hJ _ _ _ _ hgo hnc ad H locs ls hI0)
      · cases hgo
    case if_icmp cnd off =>
      simp only [jp_go] at hgo
      split at hgo
      · split at hgo
        · next hj =>
          cases cnd with
          | eq =>
            refine lv_icmp_eq hx hb (hdg rfl) (jp_tgt_eq hj) (fun h => ?_) (fun h => ?_)
            · rw [if_pos (by simpa [jp_c] using h)] at hgo
              exact hJ _ _ _ _ hgo hnc ad H locs ls ⟨hWd, hl, hag, had0, hn0⟩
            · rw [if_neg (by simpa [jp_c] using h)] at hgo
              exact next _ _ _ hgo rfl hnc ad H locs ls ⟨hWd, hl, hag, had0, hn0⟩
          | ne =>
            refine lv_icmp_ne hx hb (hdg rfl) (jp_tgt_eq hj) (fun h => ?_) (fun h => ?_)
            · rw [if_pos (by simpa [jp_c] using h)] at hgo
              exact hJ _ _ _ _ hgo hnc ad H locs ls ⟨hWd, hl, hag, had0, hn0⟩
            · rw [if_neg (by simpa [jp_c] using h)] at hgo
              exact next _ _ _ hgo rfl hnc ad H locs ls ⟨hWd, hl, hag, had0, hn0⟩
          | lt =>
            refine lv_icmp_lt hx hb (hdg rfl) (jp_tgt_eq hj) (fun h => ?_) (fun h => ?_)
            · rw [if_pos (by simpa [jp_c] using h)] at hgo
              exact hJ _ _ _ _ hgo hnc ad H locs ls ⟨hWd, hl, hag, had0, hn0⟩
            · rw [if_neg (by simpa [jp_c] using h)] at hgo
              exact next _ _ _ hgo rfl hnc ad H locs ls ⟨hWd, hl, hag, had0, hn0⟩
          | ge =>
            refine lv_icmp_ge hx hb (hdg rfl) (jp_tgt_eq hj) (fun h => ?_) (fun h => ?_)
            · rw [if_pos (by simpa [jp_c] using h)] at hgo
              exact hJ _ _ _ _ hgo hnc ad H locs ls ⟨hWd, hl, hag, had0, hn0⟩
            · rw [if_neg (by simpa [jp_c] using h)] at hgo
              exact next _ _ _ hgo rfl hnc ad H locs ls ⟨hWd, hl, hag, had0, hn0⟩
          | gt =>
            refine lv_icmp_gt hx hb (hdg rfl) (jp_tgt_eq hj) (fun h => ?_) (fun h => ?_)
            · rw [if_pos (by simpa [jp_c] using h)] at hgo
              exact hJ _ _ _ _ hgo hnc ad H locs ls ⟨hWd, hl, hag, had0, hn0⟩
            · rw [if_neg (by simpa [jp_c] using h)] at hgo
              exact next _ _ _ hgo rfl hnc ad H locs ls ⟨hWd, hl, hag, had0, hn0⟩
          | le =>
            refine lv_icmp_le hx hb (hdg rfl) (jp_tgt_eq hj) (fun h => ?_) (fun h => ?_)
            · rw [if_pos (by simpa [jp_c] using h)] at hgo
              exact hJ _ _ _ _ hgo hnc ad H locs ls ⟨hWd, hl, hag, had0, hn0⟩
            · rw [if_neg (by simpa [jp_c] using h)] at hgo
              exact next _ _ _ hgo rfl hnc ad H locs ls ⟨hWd, hl, hag, had0, hn0⟩
        · cases hgo
      · cases hgo
    case ifCond cnd off =>
      simp only [jp_go] at hgo
      split at hgo
      · split at hgo
        · next hj =>
          cases cnd with
          | eq =>
            refine lv_if_eq hx hb (hdg rfl) (jp_tgt_eq hj) (fun h => ?_) (fun h => ?_)
            · rw [if_pos (by simpa [jp_c] using h)] at hgo
              exact hJ _ _ _ _ hgo hnc ad H locs ls ⟨hWd, hl, hag, had0, hn0⟩
            · rw [if_neg (by simpa [jp_c] using h)] at hgo
              exact next _ _ _ hgo rfl hnc ad H locs ls ⟨hWd, hl, hag, had0, hn0⟩
          | ne =>
            refine lv_if_ne hx hb (hdg rfl) (jp_tgt_eq hj) (fun h => ?_) (fun h => ?_)
            · rw [if_pos (by simpa [jp_c] using h)] at hgo
              exact hJ _ _ _ _ hgo hnc ad H locs ls ⟨hWd, hl, hag, had0, hn0⟩
            · rw [if_neg (by simpa [jp_c] using h)] at hgo
              exact next _ _ _ hgo rfl hnc ad H locs ls ⟨hWd, hl, hag, had0, hn0⟩
          | lt =>
            refine lv_if_lt hx hb (hdg rfl) (jp_tgt_eq hj) (fun h => ?_) (fun h => ?_)
            · rw [if_pos (by simpa [jp_c] using h)] at hgo
              exact hJ _ _ _ _ hgo hnc ad H locs ls ⟨hWd, hl, hag, had0, hn0⟩
            · rw [if_neg (by simpa [jp_c] using h)] at hgo
              exact next _ _ _ hgo rfl hnc ad H locs ls ⟨hWd, hl, hag, had0, hn0⟩
          | ge =>
            refine lv_if_ge hx hb (hdg rfl) (jp_tgt_eq hj) (fun h => ?_) (fun h => ?_)
            · rw [if_pos (by simpa [jp_c] using h)] at hgo
              exact hJ _ _ _ _ hgo hnc ad H locs ls ⟨hWd, hl, hag, had0, hn0⟩
            · rw [if_neg (by simpa [jp_c] using h)] at hgo
              exact next _ _ _ hgo rfl hnc ad H locs ls ⟨hWd, hl, hag, had0, hn0⟩
          | gt =>
            refine lv_if_gt hx hb (hdg rfl) (jp_tgt_eq hj) (fun h => ?_) (fun h => ?_)
            · rw [if_pos (by simpa [jp_c] using h)] at hgo
              exact hJ _ _ _ _ hgo hnc ad H locs ls ⟨hWd, hl, hag, had0, hn0⟩
            · rw [if_neg (by simpa [jp_c] using h)] at hgo
              exact next _ _ _ hgo rfl hnc ad H locs ls ⟨hWd, hl, hag, had0, hn0⟩
          | le =>
            refine lv_if_le hx hb (hdg rfl) (jp_tgt_eq hj) (fun h => ?_) (fun h => ?_)
            · rw [if_pos (by simpa [jp_c] using h)] at hgo
              exact hJ _ _ _ _ hgo hnc ad H locs ls ⟨hWd, hl, hag, had0, hn0⟩
            · rw [if_neg (by simpa [jp_c] using h)] at hgo
              exact next _ _ _ hgo rfl hnc ad H locs ls ⟨hWd, hl, hag, had0, hn0⟩
        · cases hgo
      · cases hgo
    case ifnull off =>
      simp only [jp_go] at hgo
      split at hgo
      · exact lv_ifnull hx hb (hdg rfl) (next _ _ _ hgo rfl hnc ad H locs ls ⟨hWd, hl, hag, had0, hn0⟩)
      · split at hgo
        · next hj => exact lv_ifnullN hx hb (hdg rfl) (jp_tgt_eq hj) (hJ _ _ _ _ hgo hnc ad H locs ls ⟨hWd, hl, hag, had0, hn0⟩)
        · cases hgo
      · cases hgo
    case ifnonnull off =>
      simp only [jp_go] at hgo
      split at hgo
      · split at hgo
        · next hj => exact lv_ifnonnull hx hb (hdg rfl) (jp_tgt_eq hj) (hJ _ _ _ _ hgo hnc ad H locs ls ⟨hWd, hl, hag, had0, hn0⟩)
        · cases hgo
      · cases hgo
    case tableswitch d lo hi offs =>
      obtain ⟨len, hdec⟩ := hdec
      simp only [jp_go] at hgo
      split at hgo
      · split at hgo
        · next ho =>
          split at hgo
          · next hj => exact lv_tableOut hx hb hdec ho (jp_tgt_eq hj) (hJ _ _ _ _ hgo hnc ad H locs ls ⟨hWd, hl, hag, had0, hn0⟩)
          · cases hgo
        · next ho =>
          split at hgo
          · next off hoff =>
            split at hgo
            · next hj => exact lv_tableIn hx hb hdec (fun h => ho (Or.inl h)) (fun h => ho (Or.inr h)) hoff (jp_tgt_eq hj) (hJ _ _ _ _ hgo hnc ad H locs ls ⟨hWd, hl, hag, had0, hn0⟩)
            · cases hgo
          · cases hgo
      · cases hgo
    case lookupswitch d ps =>
      obtain ⟨len, hdec⟩ := hdec
      simp only [jp_go] at hgo
      split at hgo
      · split at hgo
        · next hj => exact lv_lookup hx hb hdec hj.1 rfl (jp_tgt_eq hj.2) (hJ _ _ _ _ hgo hnc ad H locs ls ⟨hWd, hl, hag, had0, hn0⟩)
        · cases hgo
      · cases hgo
    case ireturn =>
      simp only [jp_go] at hgo
      split at hgo
      · next x =>
        split at hgo
        · next hk =>
          cases hgo
          have hn := jp_rok_ok hk
          obtain ⟨ty, hty, hn⟩ := hn
          refine W.widen hnc.1 hnc.2 ?_
          exact W.zret hx hb (hret.trans (hrt.trans hty)) hn (fun t ht hw => hQ ad H locs t hWd.1 hWd.2.1 hWd.2.2 hag had0 hn0 ht hw) (fun q hq => hfree _ (hWd.2.2.2.2 q hq)) (hdg rfl)
        · cases hgo
      · cases hgo
    case return_ =>
      simp only [jp_go] at hgo
      split at hgo
      · split at hgo
        · next hk =>
          cases hgo
          refine W.widen hnc.1 hnc.2 ?_
          exact W.vret hx hb (hret.trans (hrt.trans (by rw [hk]; rfl))) (fun t ht hw => hQ ad H locs t hWd.1 hWd.2.1 hWd.2.2 hag had0 hn0 ht hw) (fun q hq => hfree _ (hWd.2.2.2.2 q hq)) (hdg rfl)
        · cases hgo
      · cases hgo
    case invokevirtual i =>
      simp only [jp_go] at hgo
      split at hgo
      · next Y nc' ns' hcall =>
        exact jp_sim_call (own := y.cls) hcall hx hb hml hown hts hT hRc hZ hX hK (hC a) (Or.inl ⟨i, rfl⟩) hkd hKK (hdg rfl) hX0 hCA hA hadK hI0 (fun ad1 H1 locs1 hI1 => next Y nc' ns' hgo rfl (jp_call_nc hcall) ad1 H1 locs1 ls hI1)
      · cases hgo
    case invokestatic i =>
      simp only [jp_go] at hgo
      split at hgo
      · split at hgo
        · next ha Y hY => exact plain Y hY rfl hgo
        · cases hgo
      · next ha =>
        split at hgo
        · next Y nc' ns' hcall =>
          exact jp_sim_call (own := y.cls) hcall hx hb hml hown hts hT hRc hZ hX hK (hC a) (Or.inr (Or.inl ⟨i, rfl, ha⟩)) hkd hKK (hdg rfl) hX0 hCA hA hadK hI0 (fun ad1 H1 locs1 hI1 => next Y nc' ns' hgo rfl (jp_call_nc hcall) ad1 H1 locs1 ls hI1)
        · cases hgo
    case invokespecial i =>
      simp only [jp_go] at hgo
      split at hgo
      · split at hgo
        · next ha Y hY => exact plain Y hY rfl hgo
        · cases hgo
      · next ha =>
        split at hgo
        · next Y nc' ns' hcall =>
          exact jp_sim_call (own := y.cls) hcall hx hb hml hown hts hT hRc hZ hX hK (hC a) (Or.inr (Or.inr ⟨i, rfl, ha⟩)) hkd hKK (hdg rfl) hX0 hCA hA hadK hI0 (fun ad1 H1 locs1 hI1 => next Y nc' ns' hgo rfl (jp_call_nc hcall) ad1 H1 locs1 ls hI1)
        · cases hgo
    case new i =>
      obtain ⟨⟨CN, T, N⟩, hq, w1, w2, w3⟩ := hE
      simp only [jp_go] at hgo
      split at hgo
      · next Y hY =>
        obtain ⟨hlen, hoo, ty, hty, hdv⟩ := hdf a _ hq
        dsimp only at hlen hty
        simp only [jp_newX] at hY
        split at hY
        · next hc =>
          obtain ⟨⟨hc1, hc2⟩, hwf⟩ := hc
          simp only [jp_wf, Bool.and_eq_true, decide_eq_true_eq] at hwf
          obtain ⟨⟨⟨hwL, hwS⟩, hwC⟩, hw1000⟩ := hwf
          cases hY
          have hwc : jp_wfC sh.length (.inr (.inr (a, Z.2.2.1 a))) = true := by
            simp only [jp_wfC, List.all_eq_true]
            intro o ho
            rcases hoo o ho with rfl | rfl <;> rfl
          refine va_new (C := CN) (T := T) (N := N) (ci := a) (fs := (Z.2.2.1 a).mapIdx (fun k o => jp_tr ad (jp_fval 0 o))) hx hb hts (fun w hw => hT _ ((hZ.2.1 _ _ hq).1 w hw)) ty hty hown (hts _ (hT _ w1)) (hts _ (hT _ w2)) (hts _ (hT _ w3)) hK hWd.1 hWd.2.1 hWd.2.2 hA hq ?_ (by rw [hRc.1]; exact hc1) (by rw [hRc.2, ← hlen]; exact hc2) (hdg rfl) (fun q H1 hP1 hD1 hS1 => ?_)
          · intro k hk
            have h1 : (Z.2.2.1 a)[k]? = some (Z.2.2.1 a)[k] := List.getElem?_eq_getElem (by omega)
            rw [hdv k _ h1]
            rcases hoo _ (List.mem_of_getElem? h1) with h2 | h2 <;> rw [h2] at h1 ⊢ <;> simp [vp_V, List.getElem?_mapIdx, h1, jp_tr, jp_fval]
          · have e1 := jp_ws_new (cA := G.2.2.2.1) (ad := ad) (M := M) (q := q) hwC hwc hw1000
            simp only [jp_cv] at e1
            rw [← e1] at hP1 hD1
            have hag1 : ∀ i, i < sh.length ∨ 1000 ≤ i → (fun i => if i = sh.length then q else ad i) i = ad i := by
              intro i hi
              show (if i = sh.length then q else ad i) = ad i
              rw [if_neg (by omega)]
            have k1 := next _ _ _ hgo rfl (by rw [hlen] at hc2 ⊢; exact ⟨hc1, hc2⟩) (fun i => if i = sh.length then q else ad i) H1 locs ls ⟨⟨hP1, hD1, hS1⟩, hl.ag hag1 hwL, fun i hi => (hag1 i (by omega)).trans (hag i hi), fun h => by omega, by show n0 ≤ (sh ++ [_]).length; rw [List.length_append]; omega⟩
            rw [hlen] at k1
            dsimp only at k1
            rw [List.map_cons, jp_map_ag hag1 hwS] at k1
            simp only [jp_tr, if_pos] at k1
            exact k1
        · cases hY
      · cases hgo
    case newarray at_ =>
      simp only [jp_go] at hgo
      split at hgo
      · next x S1 t ht =>
        split at hgo
        · next hx4 =>
          split at hgo
          · next Y hY =>
            simp only [jp_newX] at hY
            split at hY
            · next hc =>
              obtain ⟨⟨hc1, hc2⟩, hwf⟩ := hc
              simp only [jp_wf, Bool.and_eq_true, decide_eq_true_eq] at hwf
              obtain ⟨⟨⟨hwL, hwS⟩, hwC⟩, hw1000⟩ := hwf
              cases hY
              have hfin : ∀ (ty : FieldType), newarray.typeOf at_ = ty → (jp_tys G.2.2.2.1 G.2.2.2.2.1)[t]? = some (G.2.2.2.1 t, ty) → defaultValue ty = .int 0 → jp_nar t 0 = 0 → x.toNatClampNeg * componentBytes ty ≤ 536870912 →
                  W p l e R s m args below meth c H locs nc ns (MQ below Qc args s mc ms free) (F0 m pc0 ls (.int x :: S1.map (jp_tr ad))) := by
                intro ty e1 e2 e3 e4 e5
                refine va_newa (a0 := (x.toNatClampNeg, .inl (fun _ => 0))) (N' := x.toNatClampNeg) hx hb (hts _ (hT _ hE)) e1 hK hWd.1 hWd.2.1 hWd.2.2 hA (fun cB => by rw [e3]; rfl) (jp_nneg hx4.1) rfl e5 (by rw [hRc.1]; exact hc1) (by rw [hRc.2]; exact hc2) (hdg rfl) (fun q cB H1 hK1 hP1 hD1 hS1 => ?_)
                have hcB := jp_tysame hK e2 hK1
                subst hcB
                have e6 := jp_ws_new (cA := G.2.2.2.1) (ad := ad) (M := M) (q := q) (c := .inl (t, x.toNatClampNeg)) hwC rfl hw1000
                simp only [jp_cv, e4] at e6
                rw [← e6] at hP1 hD1
                have hag1 : ∀ i, i < sh.length ∨ 1000 ≤ i → (fun i => if i = sh.length then q else ad i) i = ad i := by
                  intro i hi
                  show (if i = sh.length then q else ad i) = ad i
                  rw [if_neg (by omega)]
                have k1 := next _ _ _ hgo rfl ⟨hc1, hc2⟩ (fun i => if i = sh.length then q else ad i) H1 locs ls ⟨⟨hP1, hD1, hS1⟩, hl.ag hag1 hwL, fun i hi => (hag1 i (by omega)).trans (hag i hi), fun h => by omega, by show n0 ≤ (sh ++ [_]).length; rw [List.length_append]; omega⟩
                dsimp only at k1
                rw [List.map_cons, jp_map_ag hag1 hwS] at k1
                simp only [jp_tr, if_pos] at k1
                exact k1
              have hx5 := hx4.2
              cases at_ <;> simp only [jp_ati, reduceCtorEq] at ht <;> cases ht
              · exact hfin .byte rfl rfl rfl (by decide) (by simp only [componentBytes]; omega)
              · exact hfin .short rfl rfl rfl (by decide) (by simp only [componentBytes]; omega)
              · exact hfin .int rfl rfl rfl (by decide) (by simp only [componentBytes]; omega)
            · cases hY
          · cases hgo
        · cases hgo
      · cases hgo
    case anewarray i =>
      simp only [jp_go] at hgo
      split at hgo
      · next x S1 =>
        split at hgo
        · next hx4 =>
          split at hgo
          · next Y hY =>
            simp only [jp_newX] at hY
            split at hY
            · next hc =>
              obtain ⟨⟨hc1, hc2⟩, hwf⟩ := hc
              simp only [jp_wf, Bool.and_eq_true, decide_eq_true_eq] at hwf
              obtain ⟨⟨⟨hwL, hwS⟩, hwC⟩, hw1000⟩ := hwf
              cases hY
              refine va_newq (N' := x.toNatClampNeg) hx hb hown (hts _ (hT _ hE)) (hX.2.2.2.2.2.1 s _ hX0) hK hWd.1 hWd.2.1 hWd.2.2 hA (jp_nneg hx4.1) rfl hx4.2 (by rw [hRc.1]; exact hc1) (by rw [hRc.2]; exact hc2) (hdg rfl) (fun q cB H1 hK1 hP1 hD1 hS1 => ?_)
              have hcB := jp_tysame (t := 3) hK rfl hK1
              subst hcB
              have hwr : jp_wfC sh.length (.inr (.inl (List.replicate x.toNatClampNeg none))) = true := by
                simp only [jp_wfC, List.all_eq_true]
                intro o ho
                rw [List.eq_of_mem_replicate ho]
              have e6 := jp_ws_new (cA := G.2.2.2.1) (ad := ad) (M := M) (q := q) (c := .inr (.inl (List.replicate x.toNatClampNeg none))) hwC hwr hw1000
              have e7 : (fun i => Option.map ad ((List.replicate x.toNatClampNeg (none : Option Nat)).getD i none)) = fun _ => none := by
                funext i
                simp [List.getD_eq_getElem?_getD, List.getElem?_replicate]
                split <;> rfl
              simp only [jp_cv, e7, List.length_replicate] at e6
              rw [← e6] at hP1 hD1
              have hag1 : ∀ i, i < sh.length ∨ 1000 ≤ i → (fun i => if i = sh.length then q else ad i) i = ad i := by
                intro i hi
                show (if i = sh.length then q else ad i) = ad i
                rw [if_neg (by omega)]
              have k1 := next _ _ _ hgo rfl ⟨hc1, hc2⟩ (fun i => if i = sh.length then q else ad i) H1 locs ls ⟨⟨hP1, hD1, hS1⟩, hl.ag hag1 hwL, fun i hi => (hag1 i (by omega)).trans (hag i hi), fun h => by omega, by show n0 ≤ (sh ++ [_]).length; rw [List.length_append]; omega⟩
              dsimp only at k1
              rw [List.map_cons, jp_map_ag hag1 hwS] at k1
              simp only [jp_tr, if_pos] at k1
              exact k1
            · cases hY
          · cases hgo
        · cases hgo
      · cases hgo
    all_goals
      simp only [jp_go] at hgo
      split at hgo
      · next Y hY => exact plain Y hY rfl hgo
      · cases hgo
end JPG
