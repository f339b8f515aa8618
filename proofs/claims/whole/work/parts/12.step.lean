/-! one instruction that neither jumps nor calls nor makes a cell -/
theorem jp_cats (ad : Nat → Nat) (S : List jp_V) : ((S.map (jp_tr ad)).map fun v => v.category).sum = S.length := by
  induction S with
  | nil => rfl
  | cons v t ih =>
    simp only [List.map_cons, List.sum_cons, List.length_cons, ih, jp_cat]
    omega
theorem jp_fs_int {ad : Nat → Nat} {f : Nat → Int32} {fs : List (Option (Option Nat))} {b : Nat} {x : Int32} (h : fs[b]? = some none) : (fs.mapIdx (fun k o => jp_tr ad (jp_fval (f k) o))).set b (jp_tr ad (.inl x)) = fs.mapIdx (fun k o => jp_tr ad (jp_fval (upd f b x k) o)) := by
  have hb : b < fs.length := (List.getElem?_eq_some_iff.mp h).1
  apply List.ext_getElem?
  intro i
  rw [List.getElem?_set]
  by_cases hi : b = i
  · subst hi
    rw [if_pos rfl, if_pos (by simpa using hb), List.getElem?_mapIdx, h]
    simp [upd, jp_tr, jp_fval]
  · rw [if_neg hi]
    simp [List.getElem?_mapIdx, upd, Ne.symm hi]
theorem jp_fs_ref {ad : Nat → Nat} {f : Nat → Int32} {fs : List (Option (Option Nat))} {b r : Nat} (hb : b < fs.length) : (fs.mapIdx (fun k o => jp_tr ad (jp_fval (f k) o))).set b (jp_tr ad (.inr (some r))) = (fs.set b (some (some r))).mapIdx (fun k o => jp_tr ad (jp_fval (f k) o)) := by
  apply List.ext_getElem?
  intro i
  rw [List.getElem?_set]
  by_cases hi : b = i
  · subst hi
    simp [List.getElem?_mapIdx, hb, jp_tr, jp_fval]
  · rw [if_neg hi]
    simp [List.getElem?_mapIdx, List.getElem?_set, hi]
theorem jp_nar0 (f : Nat → Int32) (k : Nat) (x : Int32) : upd (fun i => jp_nar 0 (f i)) k x = fun i => jp_nar 0 (upd f k x i) := by
  funext i
  simp only [upd, jp_nar]
theorem jp_nar1 (f : Nat → Int32) (k : Nat) (x : Int32) : upd (fun i => jp_nar 1 (f i)) k (vp_nar .byte x) = fun i => jp_nar 1 (upd f k x i) := by
  funext i
  simp only [upd, jp_nar, vp_nar_byte]
  split <;> rfl
theorem jp_nar2 (f : Nat → Int32) (k : Nat) (x : Int32) : upd (fun i => jp_nar 2 (f i)) k (vp_nar .short x) = fun i => jp_nar 2 (upd f k x i) := by
  funext i
  simp only [upd, jp_nar, vp_nar_short]
  split <;> rfl
theorem jp_narC (t : Nat) (f g : Nat → Int32) (a b n : Nat) : va_cpy (fun i => jp_nar t (f i)) (fun i => jp_nar t (g i)) a b n = fun i => jp_nar t (va_cpy f g a b n i) := by
  funext i
  simp only [va_cpy]
  split <;> rfl
theorem jp_fit2 (x : Int32) : fits .short (.int (jp_nar 2 x)) = true := by
  have h1 : (-32768 : Int32) ≤ x.toInt16.toInt32 := by
    rw [Int32.le_iff_toInt_le, Int16.toInt_toInt32]
    exact Int16.le_toInt _
  have h2 : x.toInt16.toInt32 ≤ (32767 : Int32) := by
    rw [Int32.le_iff_toInt_le, Int16.toInt_toInt32]
    exact Int16.toInt_le _
  simp [fits, jp_nar, h1, h2]
theorem jp_upq (ad : Nat → Nat) (l : List (Option Nat)) (k r : Nat) (hk : k < l.length) : va_up (fun i => (l.getD i none).map ad) k (some (ad r)) = fun i => ((l.set k (some r)).getD i none).map ad := by
  funext i
  simp only [va_up]
  by_cases hi : i = k
  · subst hi
    simp [hk]
  · simp [hi, List.getElem?_set, Ne.symm hi]
section JPS
variable {p : Program} {l : Launch} {e : Env} {R : Room} {s : State} {m : MethodId} {args : Array Value} {below : List Frame} {meth : Method} {c : Code} {H : Heap} {locs : List Loc} {cells slots : Nat} {Q : State → Prop}
variable {cc : ByteArray} {pc nL : Nat} {ls : Array Slot} {D : va_G} {cl : List vw_C} {A : Nat → Prop} {H0 : Heap} {cA : Nat → ClassId} {CW : String} {Ts TBL : List Jvm.Cond} {SR : List (String × Nat × String)} {own : String} {fk : Nat → Nat → Nat} {kc : jp_Kc} {CF SF : List (String × String × String)} {ad : Nat → Nat}
theorem jp_sim_st {ins : Instr} {a b : Nat} {X Y : jp_X} (hst : jp_st fk kc ins a b X = some Y)
    (hx : p.tables.exec = Jvm.exec) (hb : c.code = cc) (hml : c.maxLocals = nL) (hown : s.vm.findClass own = some m.cls) (hts : ∀ w ∈ Ts, w.before args s = true) (hT : ∀ w ∈ TBL, w ∈ Ts) (hR : 1 ≤ R.frames ∧ 64 ≤ R.locals) (hcs : cells ≤ R.cells ∧ slots ≤ R.slots)
    (hK : va_K D cl (jp_tys cA CW) s) (hcl : ∀ ci q, cl[ci]? = some q → jp_okC TBL fk ci q) (hCW : ∃ T N, cl[10]? = some (CW, T, N)) (hsr : ∀ i own k tx, SR[i]? = some (own, k, tx) → vk_R own k tx (ad (1000 + i)) s)
    (hH0 : H0 = s.heap) (hkA : ∀ q t n f, kc.1 q = some (t, n, f) → (t = 0 ∧ va_T .int (ad q) n (fun j => .int (f j)) A s s.heap) ∨ (t = 1 ∧ va_T .byte (ad q) n (fun j => .int (f j)) A s s.heap))
    (hkF : ∀ q j v, kc.2.1 q j = some v → ∃ o n d, CF[j]? = some (o, n, d) ∧ va_OF o n d (jp_tr ad v) (ad q) A s s.heap) (hkS : ∀ j v, kc.2.2 j = some v → ∃ o n d, SF[j]? = some (o, n, d) ∧ va_Z o n d (jp_tr ad v) A s s.heap)
    (hE : jp_okE TBL cl CW SR CF SF own (meth.name = "<init>") ins a b) (hdg : decode cc pc = .ok (ins, jp_len ins))
    (hW : jp_Wd D cl cA A H0 ad X.2.2.1 X.2.2.2 H locs) (hl : jp_LR ad ls nL X.1)
    (kk : ∀ (H1 : Heap) (locs1 : List Loc) (ls1 : Array Slot), jp_Wd D cl cA A H0 ad Y.2.2.1 Y.2.2.2 H1 locs1 → jp_LR ad ls1 nL Y.1 → W p l e R s m args below meth c H1 locs1 cells slots Q (F0 m (pc + jp_len ins) ls1 (Y.2.1.map (jp_tr ad)))) :
    W p l e R s m args below meth c H locs cells slots Q (F0 m pc ls (X.2.1.map (jp_tr ad))) := by
  subst hH0
  obtain ⟨L, S, sh, M⟩ := X
  obtain ⟨hP, hD, hS⟩ := hW
  have hin : ∀ {i : Nat} {v : jp_V}, jp_ld L i = some v → ls[i]? = some (.val (jp_tr ad v)) := fun h => hl.at h
  cases ins <;> first | (simp only [jp_st, reduceCtorEq] at hst; done) | skip
  case iconst n =>
    cases hst
    exact lv_iconst hx hb hdg rfl (kk _ _ _ ⟨hP, hD, hS⟩ hl)
  case bipush n =>
    cases hst
    exact lv_bipush hx hb hdg hE (kk _ _ _ ⟨hP, hD, hS⟩ hl)
  case sipush n =>
    cases hst
    exact lv_sipush hx hb hdg hE (kk _ _ _ ⟨hP, hD, hS⟩ hl)
  case ldc i =>
    simp only [jp_st] at hst
    by_cases hb0 : b = 0
    · rw [if_pos hb0] at hst
      cases hst
      exact lv_ldc hx hb hown (hts _ (hT _ (hE.1 hb0))) hdg (kk _ _ _ ⟨hP, hD, hS⟩ hl)
    · rw [if_neg hb0] at hst
      cases hst
      obtain ⟨tx, ha, hq⟩ := hE.2 hb0
      have h1 := hsr _ _ _ _ hq
      rw [show 1000 + (a - 1000) = a by omega] at h1
      exact va_ldcS hx hb hown h1 hdg (kk _ _ _ ⟨hP, hD, hS⟩ hl)
  case ldc_w i =>
    cases hst
    exact lv_ldcw hx hb hown (hts _ (hT _ hE)) hdg (kk _ _ _ ⟨hP, hD, hS⟩ hl)
  case iload i =>
    simp only [jp_st, jp_ildX] at hst
    split at hst
    · next x hx0 => cases hst; exact lv_iload hx hb hdg (hin hx0) (kk _ _ _ ⟨hP, hD, hS⟩ hl)
    · cases hst
  case iload_n i =>
    simp only [jp_st, jp_ildX] at hst
    split at hst
    · next x hx0 => cases hst; exact lv_iload_n hx hb hdg rfl (hin hx0) (kk _ _ _ ⟨hP, hD, hS⟩ hl)
    · cases hst
  case aload i =>
    simp only [jp_st, jp_aldX] at hst
    split at hst
    · next x hx0 => cases hst; exact lv_aload hx hb hdg (hin hx0) (kk _ _ _ ⟨hP, hD, hS⟩ hl)
    · cases hst
  case aload_n i =>
    simp only [jp_st, jp_aldX] at hst
    split at hst
    · next x hx0 => cases hst; exact lv_aload_n hx hb hdg rfl (hin hx0) (kk _ _ _ ⟨hP, hD, hS⟩ hl)
    · cases hst
  case istore i =>
    simp only [jp_st, jp_istX] at hst
    split at hst
    · split at hst
      · next hi => cases hst; exact lv_istore hx hb hdg hl.2 (hl.1 ▸ hi) rfl (fun ls' h' => kk _ _ _ ⟨hP, hD, hS⟩ (hl.st hi h'))
      · cases hst
    · cases hst
  case istore_n i =>
    simp only [jp_st, jp_istX] at hst
    split at hst
    · split at hst
      · next hi => cases hst; exact lv_istore_n hx hb hdg rfl hl.2 (hl.1 ▸ hi) rfl (fun ls' h' => kk _ _ _ ⟨hP, hD, hS⟩ (hl.st hi h'))
      · cases hst
    · cases hst
  case astore i =>
    simp only [jp_st, jp_astX] at hst
    split at hst
    · split at hst
      · next hi => cases hst; exact lv_astore hx hb hdg hl.2 (hl.1 ▸ hi) rfl (fun ls' h' => kk _ _ _ ⟨hP, hD, hS⟩ (hl.st hi h'))
      · cases hst
    · cases hst
  case astore_n i =>
    simp only [jp_st, jp_astX] at hst
    split at hst
    · split at hst
      · next hi => cases hst; exact lv_astore_n hx hb hdg rfl hl.2 (hl.1 ▸ hi) rfl (fun ls' h' => kk _ _ _ ⟨hP, hD, hS⟩ (hl.st hi h'))
      · cases hst
    · cases hst
  case iinc i n =>
    simp only [jp_st, jp_incX] at hst
    split at hst
    · next x hx0 =>
      split at hst
      · next hi =>
        cases hst
        obtain ⟨k, hk⟩ := List.getElem?_of_mem (jp_al_mem (ad := ad) hx0)
        exact lv_iinc hx hb hdg hl.2 hk rfl (hl.1 ▸ hi) rfl (fun ls' h' => kk _ _ _ ⟨hP, hD, hS⟩ (hl.st hi h'))
      · cases hst
    · cases hst
  case dup =>
    simp only [jp_st] at hst
    split at hst
    · cases hst; exact lv_dup hx hb hdg (jp_cat _ _) (kk _ _ _ ⟨hP, hD, hS⟩ hl)
    · cases hst
  case dup2 =>
    simp only [jp_st] at hst
    split at hst
    · cases hst; exact lv_dup2_11 hx hb hdg (jp_cat _ _) (jp_cat _ _) (kk _ _ _ ⟨hP, hD, hS⟩ hl)
    · cases hst
  case pop =>
    simp only [jp_st] at hst
    split at hst
    · cases hst; exact lv_pop hx hb hdg (jp_cat _ _) (kk _ _ _ ⟨hP, hD, hS⟩ hl)
    · cases hst
  case iadd => simp only [jp_st, jp_bin] at hst; split at hst <;> cases hst; exact lv_iadd hx hb hdg (kk _ _ _ ⟨hP, hD, hS⟩ hl)
  case isub => simp only [jp_st, jp_bin] at hst; split at hst <;> cases hst; exact lv_isub hx hb hdg (kk _ _ _ ⟨hP, hD, hS⟩ hl)
  case imul => simp only [jp_st, jp_bin] at hst; split at hst <;> cases hst; exact lv_imul hx hb hdg (kk _ _ _ ⟨hP, hD, hS⟩ hl)
  case ishl => simp only [jp_st, jp_bin] at hst; split at hst <;> cases hst; exact lv_ishl hx hb hdg (kk _ _ _ ⟨hP, hD, hS⟩ hl)
  case ishr => simp only [jp_st, jp_bin] at hst; split at hst <;> cases hst; exact lv_ishr hx hb hdg (kk _ _ _ ⟨hP, hD, hS⟩ hl)
  case iushr => simp only [jp_st, jp_bin] at hst; split at hst <;> cases hst; exact lv_iushr hx hb hdg rfl (kk _ _ _ ⟨hP, hD, hS⟩ hl)
  case iand => simp only [jp_st, jp_bin] at hst; split at hst <;> cases hst; exact lv_iand hx hb hdg (kk _ _ _ ⟨hP, hD, hS⟩ hl)
  case ior => simp only [jp_st, jp_bin] at hst; split at hst <;> cases hst; exact lv_ior hx hb hdg (kk _ _ _ ⟨hP, hD, hS⟩ hl)
  case ixor => simp only [jp_st, jp_bin] at hst; split at hst <;> cases hst; exact lv_ixor hx hb hdg (kk _ _ _ ⟨hP, hD, hS⟩ hl)
  case idiv =>
    simp only [jp_st, jp_dvd] at hst
    split at hst
    · split at hst
      · cases hst
      · next hy => cases hst; exact lv_idiv hx hb hdg hy (kk _ _ _ ⟨hP, hD, hS⟩ hl)
    · cases hst
  case irem =>
    simp only [jp_st, jp_dvd] at hst
    split at hst
    · split at hst
      · cases hst
      · next hy =>
        cases hst
        have h1 := kk _ _ _ ⟨hP, hD, hS⟩ hl
        simp only [← irem_eq_mod] at h1
        exact lv_irem hx hb hdg hy h1
    · cases hst
  case ineg => simp only [jp_st, jp_un] at hst; split at hst <;> cases hst; exact lv_ineg hx hb hdg (kk _ _ _ ⟨hP, hD, hS⟩ hl)
  case i2b => simp only [jp_st, jp_un] at hst; split at hst <;> cases hst; exact lv_i2b hx hb hdg rfl (kk _ _ _ ⟨hP, hD, hS⟩ hl)
  case i2s => simp only [jp_st, jp_un] at hst; split at hst <;> cases hst; exact lv_i2s hx hb hdg rfl (kk _ _ _ ⟨hP, hD, hS⟩ hl)
  case i2c => simp only [jp_st, jp_un] at hst; split at hst <;> cases hst; exact lv_i2c hx hb hdg rfl (kk _ _ _ ⟨hP, hD, hS⟩ hl)
  case arraylength =>
    simp only [jp_st, jp_lenX] at hst
    split at hst
    · split at hst
      · next t n hc =>
        split at hst
        · next ht =>
          cases hst
          have h1 := jp_ws_at (cA := cA) (ad := ad) (M := M) hc
          have h2 : ∃ ty, (jp_tys cA CW)[t]? = some (cA t, ty) := by
            match t, ht with
            | 0, _ => exact ⟨_, rfl⟩
            | 1, _ => exact ⟨_, rfl⟩
            | 2, _ => exact ⟨_, rfl⟩
          obtain ⟨ty, h2⟩ := h2
          exact va_alen hx hb hK hP _ t h1 h2 rfl hdg (kk _ _ _ ⟨hP, hD, hS⟩ hl)
        · cases hst
      · next l hc =>
        cases hst
        have h1 := jp_ws_at (cA := cA) (ad := ad) (M := M) hc
        exact va_alen hx hb hK hP _ 3 h1 rfl rfl hdg (kk _ _ _ ⟨hP, hD, hS⟩ hl)
      · split at hst
        · next hq =>
          cases hst
          rcases hkA _ _ _ _ hq with ⟨-, h7⟩ | ⟨-, h7⟩
          · exact va_tlen hx hb h7 hS rfl hdg (kk _ _ _ ⟨hP, hD, hS⟩ hl)
          · exact va_tlen hx hb h7 hS rfl hdg (kk _ _ _ ⟨hP, hD, hS⟩ hl)
        · cases hst
      · cases hst
    · cases hst
  case getfield i =>
    simp only [jp_st, jp_getX] at hst
    split at hst
    · next q S1 =>
      split at hst
      · next h100 =>
        split at hst
        · next v hv =>
          cases hst
          obtain ⟨o, n, d, h6, h7⟩ := hkF _ _ _ hv
          simp only [jp_okE, if_pos h100] at hE
          exact vk_getf hx hb h7 hS hown (hts _ (hT _ (hE _ _ _ h6))) (fun _ h9 => h9) hdg (kk _ _ _ ⟨hP, hD, hS⟩ hl)
        · cases hst
      · next h100 =>
       simp only [jp_okE, if_neg h100] at hE
       split at hst
       · next ci fs hc =>
        split at hst
        · next hci =>
          subst hci
          split at hst
          · next o ho =>
            cases hst
            obtain ⟨w, hq, hbN, hlk⟩ := hE
            obtain ⟨C, T, N⟩ := w
            have h1 := jp_ws_at (cA := cA) (ad := ad) (M := M) hc
            have h2 : (fs.mapIdx (fun k o => jp_tr ad (jp_fval (M q k) o)))[b]? = some (jp_tr ad (jp_fval (M q b) o)) := by simp [List.getElem?_mapIdx, ho]
            exact va_get hx hb hts (fun w hw => hT _ ((hcl _ _ hq).1 w hw)) hown hK hP q h1 hq b hbN (hts _ (hT _ hlk)) (fun _ h9 => h9) h2 hdg (kk _ _ _ ⟨hP, hD, hS⟩ hl)
          · cases hst
        · cases hst
       · cases hst
    · cases hst
  case getstatic i =>
    simp only [jp_st] at hst
    split at hst
    · next v hv =>
      cases hst
      obtain ⟨o, n, d, h6, h7⟩ := hkS _ _ hv
      exact va_gets hx hb h7 hS hown (hts _ (hT _ (hE _ _ _ h6))) (fun _ h9 => h9) hdg (kk _ _ _ ⟨hP, hD, hS⟩ hl)
    · cases hst
  case putfield i =>
    obtain ⟨⟨C, T, N⟩, hq, hbN, hlk, hfin⟩ := hE
    obtain ⟨hws, ty0, hty, hnm, hfk⟩ := hcl _ _ hq
    obtain ⟨k0, k1, k2⟩ := hfk b hbN
    have hlk := hts _ (hT _ hlk)
    have hws : ∀ w ∈ u_ws C T N, w ∈ Ts := fun w hw => hT _ (hws w hw)
    have put : ∀ {q : Nat} {fs : List (Option (Option Nat))} {v : Value} {S1 : List Value} {Y1 : jp_X}, sh[q]? = some (.inr (.inr (a, fs))) → b < fs.length → narrow (ty0 b) v = v → fits (ty0 b) v = true → Y1 = Y → (jp_ws cA ad M sh).set q (ad q, .inr (a, (fs.mapIdx (fun k o => jp_tr ad (jp_fval (M q k) o))).set b v)) = jp_ws cA ad Y1.2.2.2 Y1.2.2.1 → Y1.1 = L → Y1.2.1.map (jp_tr ad) = S1 →
        W p l e R s m args below meth c H locs cells slots Q (F0 m pc ls (v :: .ref (ad q) :: S1)) := by
      intro q fs v S1 Y1 hc hbl hn hf hY hset hL hS1
      subst hY; subst hS1
      have h1 := jp_ws_at (cA := cA) (ad := ad) (M := M) hc
      have hl' : jp_LR ad ls nL Y1.1 := by rw [hL]; exact hl
      rcases hfin with hfin | ⟨hfin, hini, hdecl⟩
      · refine va_put (v := v) hx hb hts hws ty0 hty hnm hown hK hP hD hS q h1 hq b hbN hlk (fun _ h9 => h9) hfin (hty b hbN) hn hf (by simpa using hbl) hdg (fun H1 locs1 hP1 hD1 hS1 => ?_)
        rw [hset] at hP1 hD1
        exact kk _ _ _ ⟨hP1, hD1, hS1⟩ hl'
      · refine va_putF (v := v) hx hb hts hws ty0 hty hnm hown hK hP hD hS q h1 hq b hbN hlk (fun _ h9 => h9) hfin hini hdecl (hty b hbN) hn hf (by simpa using hbl) hdg (fun H1 locs1 hP1 hD1 hS1 => ?_)
        rw [hset] at hP1 hD1
        exact kk _ _ _ ⟨hP1, hD1, hS1⟩ hl'
    simp only [jp_st, jp_putX] at hst
    split at hst
    · next x q S1 =>
      split at hst
      · next ci fs hc =>
        split at hst
        · next hci =>
          subst hci
          split at hst
          · next ho =>
            split at hst
            · next hk =>
              have hy := Option.some.inj hst
              have hbl : b < fs.length := (List.getElem?_eq_some_iff.mp ho).1
              have hn : narrow (ty0 b) (.int x) = .int x ∧ fits (ty0 b) (.int x) = true := by
                rcases hk with hk | ⟨hk, hx01⟩
                · rw [k0 hk]; exact ⟨rfl, rfl⟩
                · rw [k1 hk]
                  rcases hx01 with rfl | rfl <;> exact ⟨rfl, rfl⟩
              refine put (Y1 := _) hc hbl hn.1 hn.2 hy ?_ rfl rfl
              have e1 := jp_ws_set (cA := cA) (ad := ad) (M := M) (f := upd (M q) b x) (c' := .inr (.inr (ci, fs))) hc
              rw [jp_set_self hc] at e1
              rw [← e1]
              congr 2
              simp only [jp_cv]
              rw [jp_fs_int ho]
              simp [jp_set]
            · cases hst
          · cases hst
        · cases hst
      · cases hst
    · next r q S1 =>
      split at hst
      · next ci fs hc =>
        split at hst
        · next hci =>
          subst hci
          split at hst
          · next o ho =>
            split at hst
            · next hk =>
              have hy := Option.some.inj hst
              have hbl : b < fs.length := (List.getElem?_eq_some_iff.mp ho).1
              have hn : narrow (ty0 b) (.ref (ad r)) = .ref (ad r) ∧ fits (ty0 b) (.ref (ad r)) = true := by
                rcases k2 hk with ⟨C2, h2⟩ | ⟨C2, h2⟩ <;> rw [h2] <;> exact ⟨rfl, rfl⟩
              refine put (Y1 := _) hc hbl hn.1 hn.2 hy ?_ rfl rfl
              have e1 := jp_ws_setS (cA := cA) (ad := ad) (M := M) (c' := .inr (.inr (ci, fs.set b (some (some r))))) hc
              rw [← e1]
              congr 2
              simp only [jp_cv]
              rw [jp_fs_ref hbl]
            · cases hst
          · cases hst
        · cases hst
      · cases hst
    · cases hst
  case aaload =>
    simp only [jp_st, jp_aaldX] at hst
    split at hst
    · split at hst
      · next i q S1 _ l hc =>
        split at hst
        · next hi =>
          cases hst
          have h1 := jp_ws_at (cA := cA) (ad := ad) (M := M) hc
          refine va_aldq hx hb hK hP _ 3 h1 rfl (jp_vin hi) hdg ?_
          have h3 := kk _ _ _ ⟨hP, hD, hS⟩ hl
          have h4 : va_rf ((l.getD i.toNatClampNeg none).map ad) = jp_tr ad (.inr (l.getD i.toNatClampNeg none)) := by
            cases l.getD i.toNatClampNeg none <;> rfl
          rw [h4]
          exact h3
        · cases hst
      · cases hst
    · cases hst
  case aastore =>
    simp only [jp_st, jp_aastX] at hst
    split at hst
    · split at hst
      · next r i q S1 _ _ l ci fs hc hr =>
        split at hst
        · next hi =>
          obtain ⟨hci, hi⟩ := hi
          cases hst
          subst hci
          obtain ⟨T, N, hcw⟩ := hCW
          have h1 := jp_ws_at (cA := cA) (ad := ad) (M := M) hc
          have h2 := jp_ws_at (cA := cA) (ad := ad) (M := M) hr
          refine va_astq hx hb hK hP hD hS _ 3 _ 10 h1 rfl h2 hcw (jp_vin hi) hdg (fun H1 locs1 hP1 hD1 hS1 => ?_)
          have e1 := jp_ws_setS (cA := cA) (ad := ad) (M := M) (c' := .inr (.inl (l.set i.toNatClampNeg (some r)))) hc
          rw [jp_upq ad l _ r hi.2] at hP1 hD1
          simp only [jp_cv, List.length_set] at e1
          rw [e1] at hP1 hD1
          exact kk _ _ _ ⟨hP1, hD1, hS1⟩ hl
        · cases hst
      · cases hst
    · cases hst
  case iaload =>
    simp only [jp_st, jp_xldX] at hst
    split at hst
    · split at hst
      · next t n hc =>
        split at hst
        · next hi =>
          obtain ⟨ht, hi⟩ := hi
          cases hst
          subst ht
          exact va_iald hx hb hK hP _ 0 (jp_ws_at (cA := cA) (ad := ad) (M := M) hc) rfl (jp_vin hi) hdg (kk _ _ _ ⟨hP, hD, hS⟩ hl)
        · cases hst
      · split at hst
        · next hq =>
          split at hst
          · next hi =>
            cases hst
            rcases hkA _ _ _ _ hq with ⟨h6, h7⟩ | ⟨h6, h7⟩
            · exact va_ti hx hb h7 hS (jp_vin hi.2) rfl hdg (kk _ _ _ ⟨hP, hD, hS⟩ hl)
            · exact absurd (h6.symm.trans hi.1) (by decide)
          · cases hst
        · cases hst
      · cases hst
    · cases hst
  case baload =>
    simp only [jp_st, jp_xldX] at hst
    split at hst
    · split at hst
      · next t n hc =>
        split at hst
        · next hi =>
          obtain ⟨ht, hi⟩ := hi
          cases hst
          subst ht
          exact va_bald hx hb hK hP _ 1 (jp_ws_at (cA := cA) (ad := ad) (M := M) hc) rfl (jp_vin hi) hdg (kk _ _ _ ⟨hP, hD, hS⟩ hl)
        · cases hst
      · split at hst
        · next hq =>
          split at hst
          · next hi =>
            cases hst
            rcases hkA _ _ _ _ hq with ⟨h6, h7⟩ | ⟨h6, h7⟩
            · exact absurd (h6.symm.trans hi.1) (by decide)
            · exact va_tb hx hb h7 hS (jp_vin hi.2) rfl hdg (kk _ _ _ ⟨hP, hD, hS⟩ hl)
          · cases hst
        · cases hst
      · cases hst
    · cases hst
  case saload =>
    simp only [jp_st, jp_xldX] at hst
    split at hst
    · split at hst
      · next t n hc =>
        split at hst
        · next hi =>
          obtain ⟨ht, hi⟩ := hi
          cases hst
          subst ht
          exact va_sald hx hb hK hP _ 2 (jp_ws_at (cA := cA) (ad := ad) (M := M) hc) rfl (jp_vin hi) hdg (kk _ _ _ ⟨hP, hD, hS⟩ hl)
        · cases hst
      · split at hst
        · next hq =>
          split at hst
          · next hi =>
            rcases hkA _ _ _ _ hq with ⟨h6, h7⟩ | ⟨h6, h7⟩
            · exact absurd (h6.symm.trans hi.1) (by decide)
            · exact absurd (h6.symm.trans hi.1) (by decide)
          · cases hst
        · cases hst
      · cases hst
    · cases hst
  case iastore =>
    simp only [jp_st, jp_xstX] at hst
    split at hst
    · split at hst
      · next x i q S1 _ t n hc =>
        split at hst
        · next hi =>
          obtain ⟨ht, hi⟩ := hi
          cases hst
          subst ht
          refine va_iast hx hb hK hP hD hS _ 0 (jp_ws_at (cA := cA) (ad := ad) (M := M) hc) rfl (jp_vin hi) hdg (fun H1 locs1 hP1 hD1 hS1 => ?_)
          have e1 := jp_ws_set (cA := cA) (ad := ad) (M := M) (f := upd (M q) i.toNatClampNeg x) (c' := .inl (0, n)) hc
          rw [jp_set_self hc] at e1
          rw [jp_nar0] at hP1 hD1
          simp only [jp_cv, jp_set, if_pos] at e1
          rw [e1] at hP1 hD1
          exact kk _ _ _ ⟨hP1, hD1, hS1⟩ hl
        · cases hst
      · cases hst
    · cases hst
  case bastore =>
    simp only [jp_st, jp_xstX] at hst
    split at hst
    · split at hst
      · next x i q S1 _ t n hc =>
        split at hst
        · next hi =>
          obtain ⟨ht, hi⟩ := hi
          cases hst
          subst ht
          refine va_bast hx hb hK hP hD hS _ 1 (jp_ws_at (cA := cA) (ad := ad) (M := M) hc) rfl (jp_vin hi) hdg (fun H1 locs1 hP1 hD1 hS1 => ?_)
          have e1 := jp_ws_set (cA := cA) (ad := ad) (M := M) (f := upd (M q) i.toNatClampNeg x) (c' := .inl (1, n)) hc
          rw [jp_set_self hc] at e1
          rw [jp_nar1] at hP1 hD1
          simp only [jp_cv, jp_set, if_pos] at e1
          rw [e1] at hP1 hD1
          exact kk _ _ _ ⟨hP1, hD1, hS1⟩ hl
        · cases hst
      · cases hst
    · cases hst
  case sastore =>
    simp only [jp_st, jp_xstX] at hst
    split at hst
    · split at hst
      · next x i q S1 _ t n hc =>
        split at hst
        · next hi =>
          obtain ⟨ht, hi⟩ := hi
          cases hst
          subst ht
          refine va_sast hx hb hK hP hD hS _ 2 (jp_ws_at (cA := cA) (ad := ad) (M := M) hc) rfl (jp_vin hi) hdg (fun H1 locs1 hP1 hD1 hS1 => ?_)
          have e1 := jp_ws_set (cA := cA) (ad := ad) (M := M) (f := upd (M q) i.toNatClampNeg x) (c' := .inl (2, n)) hc
          rw [jp_set_self hc] at e1
          rw [jp_nar2] at hP1 hD1
          simp only [jp_cv, jp_set, if_pos] at e1
          rw [e1] at hP1 hD1
          exact kk _ _ _ ⟨hP1, hD1, hS1⟩ hl
        · cases hst
      · cases hst
    · cases hst
  case invokestatic i =>
    simp only [jp_st] at hst
    split at hst
    · next ha =>
      obtain ⟨w1, w2, w3, w4⟩ := hE.1 ha
      simp only [jp_cpyX] at hst
      split at hst
      · split at hst
        · next n dp d sp c1 S1 _ _ t0 n0 t1 n1 hc hd =>
          split at hst
          · next hi =>
            obtain ⟨⟨ht, ht2⟩, ⟨g1, g2, g3⟩, ⟨g4, g5⟩, g6⟩ := hi
            subst ht
            cases hst
            have h1 := jp_ws_at (cA := cA) (ad := ad) (M := M) hc
            have h2 := jp_ws_at (cA := cA) (ad := ad) (M := M) hd
            have e1 := jp_ws_set (cA := cA) (ad := ad) (M := M) (f := va_cpy (M c1) (M d) sp.toNatClampNeg dp.toNatClampNeg n.toNatClampNeg) (c' := .inl (t0, n1)) hd
            rw [jp_set_self hd] at e1
            simp only [jp_cv, jp_set, if_pos] at e1
            have hsz : ls.size = c.maxLocals := by rw [hml]; exact hl.2.1
            have hloc : ((S1.map (jp_tr ad)).map fun v => v.category).sum + (nativeFrameWords "java/lang/System" "arraycopy" 5 + 11) ≤ R.locals := by
              have e2 := jp_cats ad S1
              have e3 : nativeFrameWords "java/lang/System" "arraycopy" 5 ≤ 45 := by decide
              have e4 := hR.2
              omega
            rcases ht2 with rfl | rfl
            · refine va_copyi (ty := .int) hx hb hsz.symm hown (hts _ (hT _ w1)) (hts _ (hT _ w2)) (hts _ (hT _ w3)) (hts _ (hT _ w4)) hK hP hD hS _ _ 0 0 h1 h2 rfl rfl rfl (jp_nneg g1) (jp_nneg g2) (jp_nneg g3) g4 g5 (fun _ _ => rfl) hR.1 hloc hdg (fun H1 locs1 hP1 hD1 hS1 => ?_)
              rw [jp_narC] at hP1 hD1
              rw [e1] at hP1 hD1
              exact kk _ _ _ ⟨hP1, hD1, hS1⟩ hl
            · refine va_copyi (ty := .short) hx hb hsz.symm hown (hts _ (hT _ w1)) (hts _ (hT _ w2)) (hts _ (hT _ w3)) (hts _ (hT _ w4)) hK hP hD hS _ _ 2 2 h1 h2 rfl rfl rfl (jp_nneg g1) (jp_nneg g2) (jp_nneg g3) g4 g5 (fun _ _ => jp_fit2 _) hR.1 hloc hdg (fun H1 locs1 hP1 hD1 hS1 => ?_)
              rw [jp_narC] at hP1 hD1
              rw [e1] at hP1 hD1
              exact kk _ _ _ ⟨hP1, hD1, hS1⟩ hl
          · cases hst
        · cases hst
      · cases hst
    · split at hst
      · next ha =>
        obtain ⟨w1, w2, w3, w4⟩ := hE.2.1 ha
        simp only [jp_mth2] at hst
        split at hst
        · next y x S1 =>
          split at hst
          · next h8 =>
            cases hst
            have hsz : ls.size = c.maxLocals := by rw [hml]; exact hl.2.1
            have e2 := jp_cats ad S1
            have e4 := hR.2
            exact va_mmax hx hb hsz.symm hown (hts _ (hT _ w1)) (hts _ (hT _ w2)) (hts _ (hT _ w3)) (hts _ (hT _ w4)) hR.1 (by omega) hcs.1 hcs.2 hdg (kk _ _ _ ⟨hP, hD, hS⟩ hl)
          · cases hst
        · cases hst
      · split at hst
        · next ha =>
          obtain ⟨w1, w2, w3, w4⟩ := hE.2.2.1 ha
          simp only [jp_mth2] at hst
          split at hst
          · next y x S1 =>
            split at hst
            · next h8 =>
              cases hst
              have hsz : ls.size = c.maxLocals := by rw [hml]; exact hl.2.1
              have e2 := jp_cats ad S1
              have e4 := hR.2
              exact va_mmin hx hb hsz.symm hown (hts _ (hT _ w1)) (hts _ (hT _ w2)) (hts _ (hT _ w3)) (hts _ (hT _ w4)) hR.1 (by omega) hcs.1 hcs.2 hdg (kk _ _ _ ⟨hP, hD, hS⟩ hl)
            · cases hst
          · cases hst
        · split at hst
          · next ha =>
            obtain ⟨w1, w2, w3, w4⟩ := hE.2.2.2 ha
            simp only [jp_mth1] at hst
            split at hst
            · next x S1 =>
              split at hst
              · next h8 =>
                cases hst
                have hsz : ls.size = c.maxLocals := by rw [hml]; exact hl.2.1
                have e2 := jp_cats ad S1
                have e4 := hR.2
                exact va_mabs hx hb hsz.symm hown (hts _ (hT _ w1)) (hts _ (hT _ w2)) (hts _ (hT _ w3)) (hts _ (hT _ w4)) hR.1 (by omega) hcs.1 hcs.2 hdg (kk _ _ _ ⟨hP, hD, hS⟩ hl)
              · cases hst
            · cases hst
          · cases hst
  case invokespecial i =>
    simp only [jp_st] at hst
    split at hst
    · next ha =>
      obtain ⟨w1, w2, w3⟩ := hE ha
      split at hst
      · split at hst
        · next q S1 hS8 =>
          cases hst
          refine W.objInit hx hb hown (hts _ (hT _ w1)) (hts _ (hT _ w2)) (hts _ (hT _ w3)) rfl (by rw [hml]; exact hl.2.1) rfl hdg hR.1 ?_ (kk _ _ _ ⟨hP, hD, hS⟩ hl)
          have e2 := jp_cats ad S1
          have e4 := hR.2
          have e5 := lv_room (m := m) (pc := pc) (ls := ls) (rest := (.inr (some q) :: S1).map (jp_tr ad)) (st := S1.map (jp_tr ad)) (by omega)
          exact Nat.le_trans (Nat.add_le_add_right e5 12) (by omega)
        · cases hst
      · cases hst
    · cases hst
end JPS
