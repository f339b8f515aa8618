/-! a call of the pure machine -/
def jp_Iv (G : jp_G) (A : Nat → Prop) (H0 : Heap) (nL n0 mc : Nat) (ad0 ad : Nat → Nat) (X : jp_X) (H : Heap) (locs : List Loc) (ls : Array Slot) : Prop :=
  jp_Wd G.2.1 G.2.2.1 G.2.2.2.1 A H0 ad X.2.2.1 X.2.2.2 H locs ∧ jp_LR ad ls nL X.1 ∧ (∀ q, q < n0 ∨ 1000 ≤ q → ad q = ad0 q) ∧ (mc = 0 → ad = ad0) ∧ n0 ≤ X.2.2.1.length
/-- the surroundings: String constants, statics, words of nest mates; they stay -/
def jp_okX (kc : jp_Kc) (G : jp_G) (XX : State → Heap → Prop) (CA : Nat → Prop) : Prop :=
  (∀ s U H, s.WarmedH U.vm → XX s H → XX U H) ∧ (∀ U g mk a H, XX U H → XX (State.calling U g mk a) H) ∧ (∀ s H H1, (∀ q, CA q → H1[q]? = H[q]?) → XX s H → XX s H1) ∧
  (∀ s H i own k tx, XX s H → G.2.2.2.2.2.2.2.1[i]? = some (own, k, tx) → vk_R own k tx (G.2.2.2.2.2.2.2.2.1 (1000 + i)) s) ∧ (∀ s H w, XX s H → w ∈ G.2.2.2.2.2.2.1 → va_Nw w s) ∧ (∀ s H, XX s H → va_AO G.2.2.2.2.1 s) ∧
  (∀ s H q, XX s H → 1000 ≤ q → q < 1005 → ∃ cellB : Cell, H[G.2.2.2.2.2.2.2.2.1 q]? = some cellB ∧ cellB.vm.isStatics = false ∧ s.vm.findClass "java/lang/String" = some cellB.cls) ∧
  (∀ s H q t n f, XX s H → kc.1 q = some (t, n, f) → 1000 ≤ q ∧ ((t = 0 ∧ va_T .int (G.2.2.2.2.2.2.2.2.1 q) n (fun j => .int (f j)) (fun z => ¬ CA z) s H) ∨ (t = 1 ∧ va_T .byte (G.2.2.2.2.2.2.2.2.1 q) n (fun j => .int (f j)) (fun z => ¬ CA z) s H))) ∧
  (∀ s H q j v, XX s H → kc.2.1 q j = some v → 1000 ≤ q ∧ jp_wfV 0 v = true ∧ ∃ o n d, G.2.2.2.2.2.2.2.2.2.1[j]? = some (o, n, d) ∧ va_OF o n d (jp_tr G.2.2.2.2.2.2.2.2.1 v) (G.2.2.2.2.2.2.2.2.1 q) (fun z => ¬ CA z) s H) ∧
  (∀ s H j v, XX s H → kc.2.2 j = some v → jp_wfV 0 v = true ∧ ∃ o n d, G.2.2.2.2.2.2.2.2.2.2[j]? = some (o, n, d) ∧ va_Z o n d (jp_tr G.2.2.2.2.2.2.2.2.1 v) (fun z => ¬ CA z) s H)
def jp_okZ (Z : jp_P) (G : jp_G) : Prop :=
  (∀ w ∈ G.2.2.2.2.2.1, (w.onTables && w.keeps) = true ∨ ∃ ty, w = .arrayClass ty) ∧ (∀ ci q, G.2.2.1[ci]? = some q → jp_okC G.2.2.2.2.2.1 Z.2.1 ci q) ∧ (∃ T N, G.2.2.1[10]? = some (G.2.2.2.2.1, T, N)) ∧ ∀ k mi, Z.1 k = some mi → jp_okM Z G k mi
def jp_okCall (l : Launch) (R : Room) (G : jp_G) (XX : State → Heap → Prop) (CA : Nat → Prop) (C : jp_K) (k : Nat) (mi : jp_I) : Prop :=
  ∀ as sh M r, C k as sh M = some r → ∀ (ad : Nat → Nat) (sz : Nat), (∀ q, 1000 ≤ q → ad q = G.2.2.2.2.2.2.2.2.1 q) → ∃ rm : Room, rm.cells = mi.2.1 ∧ rm.slots = mi.2.2.1 ∧ (rm.frames + 1 ≤ R.frames ∧ 8 + (mi.1 + 11) + rm.locals ≤ R.locals) ∧
    Met l (G.1 k).1 (jp_wsM G k mi.1) rm (jp_Pc G XX CA as sh M ad sz) (jp_Qc G as sh M ad sz mi.2.1 r) mi.2.1 mi.2.2.1 (va_A (jp_ws G.2.2.2.1 ad M sh) sz)
section JPC
variable {p : Program} {l : Launch} {e : Env} {R : Room} {s : State} {m : MethodId} {args : Array Value} {below : List Frame} {meth : Method} {c : Code} {H : Heap} {locs : List Loc} {Q : State → Prop}
variable {cc : ByteArray} {pc nL n0 mc ms : Nat} {ls : Array Slot} {A : Nat → Prop} {Ts : List Jvm.Cond} {own : String} {ad0 ad : Nat → Nat} {Z : jp_P} {G : jp_G} {XX : State → Heap → Prop} {CA : Nat → Prop} {C : jp_K}
set_option maxHeartbeats 1000000 in
theorem jp_sim_call {ins : Instr} {a b nc ns nc' ns' : Nat} {X Y : jp_X} (hst : jp_call Z mc ms C a b X nc ns = some (Y, nc', ns'))
    (hx : p.tables.exec = Jvm.exec) (hb : c.code = cc) (hml : c.maxLocals = nL) (hown : s.vm.findClass own = some m.cls) (hts : ∀ w ∈ Ts, w.before args s = true) (hT : ∀ w ∈ G.2.2.2.2.2.1, w ∈ Ts)
    (hRc : R.cells = mc ∧ R.slots = ms)
    (hZ : jp_okZ Z G) (hX : jp_okX Z.2.2.2.2 G XX CA) (hK : va_K G.2.1 G.2.2.1 (jp_tys G.2.2.2.1 G.2.2.2.2.1) s)
    (hC : ∀ mi, Z.1 a = some mi → jp_okCall l R G XX CA C a mi)
    (hins : (∃ i, ins = .invokevirtual i) ∨ (∃ i, ins = .invokestatic i ∧ ¬ (9001 ≤ a ∧ a ≤ 9012)) ∨ ∃ i, ins = .invokespecial i ∧ ¬ a = 9000)
    (hkd : ∀ mi, Z.1 a = some mi → jp_kdb ins mi.2.2.2.1 = true)
    (hok : Z.1 a = none ∨ jp_okK G.2.2.2.2.2.1 G.2.2.2.2.2.2.1 G.1 own ins a) (hdg : decode cc pc = .ok (ins, 3))
    (hX0 : XX s s.heap) (hCA : ∀ q, CA q → q < s.heap.size ∧ ¬ A q) (hA : ∀ q, s.heap.size ≤ q → A q) (hadK : ∀ q, 1000 ≤ q → ad0 q = G.2.2.2.2.2.2.2.2.1 q)
    (hI : jp_Iv G A s.heap nL n0 mc ad0 ad X H locs ls)
    (kk : ∀ (ad1 : Nat → Nat) (H1 : Heap) (locs1 : List Loc), jp_Iv G A s.heap nL n0 mc ad0 ad1 Y H1 locs1 ls → W p l e R s m args below meth c H1 locs1 nc' ns' Q (F0 m (pc + 3) ls (Y.2.1.map (jp_tr ad1)))) :
    W p l e R s m args below meth c H locs nc ns Q (F0 m pc ls (X.2.1.map (jp_tr ad))) := by
  obtain ⟨L, S, sh, M⟩ := X
  obtain ⟨⟨hP, hD, hS⟩, hl, hag, had0, hn0⟩ := hI
  unfold jp_call at hst
  split at hst
  case h_2 => cases hst
  case h_1 mi hmi =>
  split at hst
  case isFalse => cases hst
  case isTrue hcond =>
  obtain ⟨⟨hb1, hb2, hb3⟩, hrcv, ⟨hroom1, hroom2⟩, hwf⟩ := hcond
  split at hst
  case h_2 => cases hst
  case h_1 v sh' M' hcall =>
  cases hst
  have hok := hok.resolve_left (fun h => by rw [hmi] at h; cases h)
  obtain ⟨⟨o1, o2, o3, o4, o5, o6⟩, okk, -, -⟩ := hZ.2.2.2 a mi hmi
  have h9 : ¬ mi.2.2.2.1 = 9 := by
    intro h
    have h8 := hkd mi hmi
    rw [h] at h8
    rcases hins with ⟨i, rfl⟩ | ⟨i, rfl, -⟩ | ⟨i, rfl, -⟩ <;> cases h8
  have o2 := o2.resolve_left h9
  have hadk : ∀ q, 1000 ≤ q → ad q = G.2.2.2.2.2.2.2.2.1 q := fun q hq => (hag q (Or.inr hq)).trans (hadK q hq)
  obtain ⟨rm, hrc, hrs, hrm, hM⟩ := hC mi hmi _ _ _ _ hcall ad H.size hadk
  dsimp only at hb2 hb3 hrcv hwf hcall hn0 hl hM hP hD
  obtain ⟨x1, x2, x3, x4, x5, x6, x7, -⟩ := hX
  have hXH : XX s H := x3 _ _ _ (fun q hq => hS.2.1 q (hCA q hq).1 (hCA q hq).2) hX0
  have hG : GoodIn Ts (jp_wsM G a mi.1) := by
    intro w hw
    rcases List.mem_cons.mp hw with rfl | hw
    · exact ⟨hT _ o2, hZ.1 _ o2⟩
    · exact ⟨hT _ hw, hZ.1 _ hw⟩
  have hblind : FrameBlind (jp_Pc G XX CA (S.take b).reverse sh M ad H.size) := by
    intro a' U g mk q
    obtain ⟨q0, q1, qP, qK, qD, qX, qC⟩ := q
    exact ⟨q0, q1, qP, va_K.moved (u := U) (U := U.calling g mk a') (Vm.Alike.refl U.vm) qK, qD, x2 _ _ _ _ _ qX, qC⟩
  have hpre : ∀ U : State, U.heap = H → s.WarmedH U.vm → jp_Pc G XX CA (S.take b).reverse sh M ad H.size ((S.take b).reverse.map (jp_tr ad)).toArray U := by
    intro U hU hW
    refine ⟨rfl, by rw [hU], by rw [hU]; exact hP, va_K.moved hW.alike hK, hD.weaken (fun _ _ _ _ => trivial), by rw [hU]; exact x1 _ _ _ hW hXH, fun q hq => ⟨Nat.lt_of_lt_of_le (hCA q hq).1 hS.1, fun i hi e => ?_⟩⟩
    have h1 : sh[i]? = some sh[i] := List.getElem?_eq_getElem hi
    have h2 := hD.2 i _ (jp_ws_at h1)
    rw [e] at h2
    exact (hCA q hq).2 h2
  have hfree : ∀ q, va_A (jp_ws G.2.2.2.1 ad M sh) H.size q → A q := by
    intro q hq
    rcases hq with ⟨k, ee, h⟩ | h
    · exact hD.2 k _ h
    · exact hA q (Nat.le_trans hS.1 h)
  have hstk : S.map (jp_tr ad) = ((S.take b).reverse.map (jp_tr ad)).reverse ++ (S.drop b).map (jp_tr ad) := by
    rw [List.map_reverse, List.reverse_reverse, ← List.map_append, List.take_append_drop]
  have hlenb : ((S.take b).reverse).length = b := by
    rw [List.length_reverse, List.length_take]
    omega
  have hlr : 2 * (F0 m pc ls (S.map (jp_tr ad))).monitorRoom + (((S.drop b).map (jp_tr ad)).map fun v => v.category).sum ≤ 8 := lv_room (by rw [jp_cats, List.length_drop]; exact hb3)
  have hsz : ls.size = nL := hl.2.1
  have hf : nc + mi.2.1 ≤ R.cells ∧ ns + mi.2.2.1 ≤ R.slots := by rw [hRc.1, hRc.2]; exact ⟨hroom1, hroom2⟩
  have goes : ∀ {AA : Array Value}, va_Run p l e R s m args below meth c H locs nc ns mi.2.1 mi.2.2.1 (F0 m pc ls (S.map (jp_tr ad))) ((S.drop b).map (jp_tr ad)) (jp_Qc G (S.take b).reverse sh M ad H.size mi.2.1 (v, sh', M') AA) (va_A (jp_ws G.2.2.2.1 ad M sh) H.size) → W p l e R s m args below meth c H locs nc ns Q (F0 m pc ls (S.map (jp_tr ad))) := by
    intro AA hrun
    refine jp_callX hrun (A1 := va_A (jp_ws G.2.2.2.1 ad M sh) H.size) (fun st oc t hq => hq) hS (fun q _ h => hfree q h) hfree ?_
    intro v1 t H1 locs1 ht hal hB hz1 hk1 hS1
    obtain ⟨ad', ⟨g1, g2, g3⟩, g4, g5, g6, g7⟩ := hB
    cases g4
    have hw2 : mi.2.1 = 0 ∨ jp_wf L (S.drop b) sh = true := hwf
    have e1 : (S.drop b).map (jp_tr ad') = (S.drop b).map (jp_tr ad) ∧ jp_LR ad' ls nL L := by
      rcases hw2 with h | h
      · rw [g2 h]; exact ⟨rfl, hl⟩
      · simp only [jp_wf, Bool.and_eq_true, decide_eq_true_eq] at h
        exact ⟨jp_map_ag g1 h.1.1.2, hl.ag g1 h.1.1.1⟩
    have k1 := kk ad' H1 locs1 ⟨⟨by rw [← ht]; exact g5, g7.weaken (fun k q _ h => hfree q.1 h), hS1⟩, e1.2, fun q hq => (g1 q (by omega)).trans (hag q hq), fun h => by rw [g2 (by omega)]; exact had0 h, Nat.le_trans hn0 g3⟩
    dsimp only at k1
    rw [List.map_append, e1.1] at k1
    have e3 : (v.map (jp_tr ad')).toList = v.toList.map (jp_tr ad') := by cases v <;> rfl
    rw [← e3] at k1
    exact k1
  have hfix : CallFix p m c cc nL s args Ts own := ⟨hx, hb, hml, hown, hts⟩
  have hini := hts _ (hT _ o3)
  have kd1 : (∃ i, ins = .invokevirtual i) → mi.2.2.2.1 = 1 ∨ mi.2.2.2.1 = 3 := by
    rintro ⟨i, rfl⟩
    simpa [jp_kdb] using hkd mi hmi
  have kd2 : (∃ i, ins = .invokestatic i) → mi.2.2.2.1 = 0 := by
    rintro ⟨i, rfl⟩
    simpa [jp_kdb] using hkd mi hmi
  have kd3 : (∃ i, ins = .invokespecial i) → mi.2.2.2.1 = 2 := by
    rintro ⟨i, rfl⟩
    simpa [jp_kdb] using hkd mi hmi
  have cB : ∀ n i, (parseMethodDescriptor (G.1 a).1.desc).map (fun d => d.parameters.length) = some n → Jvm.Cond.methodLink own i (G.1 a).1 ∈ G.2.2.2.2.2.1 → CallB R s args own i (G.1 a).1 (G.1 a).2.1 mi.1 (G.1 a).2.2 (jp_wsM G a mi.1) rm mi.2.1 mi.2.2.1 n := fun n i hn hlk => callB_of n hts hG rfl hrc hrs hini (hts _ (hT _ hlk)) ⟨o4, o5, hn⟩ hrm
  have cN : ∀ n i host, (parseMethodDescriptor (G.1 a).1.desc).map (fun d => d.parameters.length) = some n → Jvm.Cond.methodLinkNest own i (G.1 a).1 host ∈ G.2.2.2.2.2.2.1 → va_CN R s args own i (G.1 a).1 host (G.1 a).2.1 mi.1 (G.1 a).2.2 (jp_wsM G a mi.1) rm mi.2.1 mi.2.2.1 n := fun n i host hn hlk => va_cnB n hts hG rfl hrc hrs (x5 _ _ _ hXH hlk) hini ⟨o4, o5, hn⟩ hrm
  -- with a receiver
  have recv : ∀ {n : Nat}, mi.2.2.2.2.2.2.1 = n + 1 → ∀ {q : Nat}, (S.take b).reverse.head? = some (.inr (some q)) → ∃ As : List jp_V, (S.take b).reverse = .inr (some q) :: As ∧ (As.map (jp_tr ad)).length = n ∧ S.map (jp_tr ad) = (As.map (jp_tr ad)).reverse ++ .ref (ad q) :: (S.drop b).map (jp_tr ad) := by
    intro n hn q hq
    cases hr : (S.take b).reverse with
    | nil => rw [hr] at hq; cases hq
    | cons z As =>
      rw [hr] at hq
      cases hq
      refine ⟨As, rfl, ?_, ?_⟩
      · rw [hr, List.length_cons] at hlenb
        rw [List.length_map]
        omega
      · rw [hstk, hr]
        simp [jp_tr]
  rcases hins with ⟨i, rfl⟩ | ⟨i, rfl, ha⟩ | ⟨i, rfl, ha⟩
  · -- virtual
    have hcell : ∃ q n, (S.take b).reverse.head? = some (.inr (some q)) ∧ mi.2.2.2.2.2.2.1 = n + 1 ∧ (parseMethodDescriptor (G.1 a).1.desc).map (fun d => d.parameters.length) = some n ∧ Jvm.Cond.instanceMethod (G.1 a).1 ∈ G.2.2.2.2.2.1 ∧ Jvm.Cond.selects (G.1 a).1.cls (G.1 a).1 (G.1 a).1 ∈ G.2.2.2.2.2.1 ∧ ∃ cellB : Cell, H[ad q]? = some cellB ∧ cellB.vm.isStatics = false ∧ s.vm.findClass (G.1 a).1.cls = some cellB.cls := by
      rcases kd1 ⟨i, rfl⟩ with h1 | h3
      · rcases okk with ⟨k, -⟩ | ⟨-, k2, k3, ⟨T, N, k4⟩, n, k5, k6⟩ | ⟨k, -⟩ | k | ⟨k, -⟩
        · omega
        · rw [h1] at hrcv
          simp only [jp_rcv] at hrcv
          split at hrcv
          · next q hq =>
            split at hrcv
            · next ci fs hc =>
              have hci := of_decide_eq_true hrcv
              rw [← hci] at k4
              exact ⟨q, n, hq, k5, k6, k2, k3, va_recv hK hP (q := ((G.1 a).1.cls, T, N)) k4 (jp_ws_at hc)⟩
            · cases hrcv
          · cases hrcv
        · omega
        · omega
        · omega
      · rcases okk with ⟨k, -⟩ | ⟨k, -⟩ | ⟨k, -⟩ | k | ⟨-, k2, k3, k4, n, k5, k6⟩
        · omega
        · omega
        · omega
        · omega
        · rw [h3] at hrcv
          simp only [jp_rcv] at hrcv
          split at hrcv
          · next q hq =>
            have hci := of_decide_eq_true hrcv
            have h7 := x7 s H q hXH hci.1 hci.2
            rw [← hadk q hci.1] at h7
            rw [k4]
            exact ⟨q, n, hq, k5, k6, k2, by rw [← k4]; exact k3, h7⟩
          · cases hrcv
    obtain ⟨q, n, hq, hn, hd, hi1, hi2, hcell⟩ := hcell
    obtain ⟨As, e1, e2, e3⟩ := recv hn hq
    have hpv : PreV s H (G.1 a).1.cls (ad q) (jp_Pc G XX CA (S.take b).reverse sh M ad H.size) (As.map (jp_tr ad)) := by
      refine ⟨hblind, hcell, fun U hU hW => ?_⟩
      have := hpre U hU hW
      rw [e1] at this ⊢
      exact this
    rcases hok with hlk | ⟨host, hlk⟩
    · exact goes (va_runV (C := (G.1 a).1.cls) hfix hM ⟨cB n i hd hlk, hts _ (hT _ hi1), hts _ (hT _ hi2)⟩ hpv rfl e2 hsz e3 hlr hdg hf)
    · exact goes (va_runVN (C := (G.1 a).1.cls) hfix hM ⟨cN n i host hd hlk, hts _ (hT _ hi1), hts _ (hT _ hi2)⟩ hpv rfl e2 hsz e3 hlr hdg hf)
  · -- static
    have h0 := kd2 ⟨i, rfl⟩
    rcases okk with ⟨-, k2, k3⟩ | ⟨k, -⟩ | ⟨k, -⟩ | k | ⟨k, -⟩
    · have hlen2 : ((S.take b).reverse.map (jp_tr ad)).length = mi.2.2.2.2.2.2.1 := by rw [List.length_map, hlenb, hb1]
      rcases hok with h | hlk | ⟨host, hlk⟩
      · exact absurd h ha
      · exact goes (va_runS hfix hM ⟨cB _ i k3 hlk, hts _ (hT _ k2)⟩ ⟨hblind, hpre⟩ rfl hlen2 hsz hstk hlr hdg hf)
      · exact goes (va_runSN hfix hM ⟨cN _ i host k3 hlk, hts _ (hT _ k2), trivial⟩ ⟨hblind, hpre⟩ rfl hlen2 hsz hstk hlr hdg hf)
    · omega
    · omega
    · omega
    · omega
  · -- special
    have h0 := kd3 ⟨i, rfl⟩
    rcases okk with ⟨k, -⟩ | ⟨k, -⟩ | ⟨-, k2, k3, k4, n, k5, k6⟩ | k | ⟨k, -⟩
    · omega
    · omega
    · rw [h0] at hrcv
      simp only [jp_rcv] at hrcv
      split at hrcv
      · next q hq =>
        obtain ⟨As, e1, e2, e3⟩ := recv k5 hq
        have hps : PreS s H (jp_Pc G XX CA (S.take b).reverse sh M ad H.size) (.ref (ad q) :: As.map (jp_tr ad)) := by
          refine ⟨hblind, fun U hU hW => ?_⟩
          have := hpre U hU hW
          rw [e1] at this ⊢
          exact this
        rcases hok with h | hlk | ⟨host, hlk⟩
        · exact absurd h ha
        · have hcb := cB n i k6 hlk
          rw [k4] at hcb
          exact goes (va_runI hfix hM ⟨hcb, k3, hts _ (hT _ k2)⟩ hps rfl e2 hsz e3 hlr hdg hf)
        · have hcb := cN n i host k6 hlk
          rw [k4] at hcb
          exact goes (va_runIN hfix hM ⟨hcb, k3, hts _ (hT _ k2)⟩ hps rfl e2 hsz e3 hlr hdg hf)
      · cases hrcv
    · omega
    · omega
end JPC
