/-! EVERY RUN OF THE PURE MACHINE IS A CONTRACT -/
def jp_rm (d : Nat) (mi : jp_I) : Room := { frames := d + 1, cells := mi.2.1, slots := mi.2.2.1, locals := (d + 1) * 64 }
def jp_okF (Z : jp_P) (G : jp_G) : Prop := ∀ ci q, G.2.2.1[ci]? = some q → (Z.2.2.1 ci).length = q.2.2 ∧ (∀ o ∈ Z.2.2.1 ci, o = none ∨ o = some none) ∧ ∃ ty : Nat → FieldType, (∀ k, k < q.2.2 → parseFieldDescriptor (q.2.1 k).2.2.1 = some (ty k)) ∧ ∀ j o, (Z.2.2.1 ci)[j]? = some o → defaultValue (ty j) = jp_tr (fun _ => 0) (jp_fval 0 o)
/-- the primitives meet theirs -/
def jp_okP (l : Launch) (Z : jp_P) (G : jp_G) (XX : State → Heap → Prop) (CA : Nat → Prop) : Prop :=
  ∀ k mi as v, 9100 ≤ k → Z.1 k = some mi → Z.2.2.2.1 k as = some v → ∀ sh M (ad : Nat → Nat) (sz : Nat), (∀ q, 1000 ≤ q → ad q = G.2.2.2.2.2.2.2.2.1 q) → Met l (G.1 k).1 (jp_wsM G k mi.1) (jp_rm 5 mi) (jp_Pc G XX CA as sh M ad sz) (jp_Qc G as sh M ad sz mi.2.1 (v, sh, M)) mi.2.1 mi.2.2.1 (va_A (jp_ws G.2.2.2.1 ad M sh) sz)
def jp_An (l : Launch) (Z : jp_P) (G : jp_G) (XX : State → Heap → Prop) (CA : Nat → Prop) (n : Nat) : Prop :=
  ∀ (p : Program) (e : Env) (s : State) (m : MethodId) (args : Array Value) (below : List Frame) (meth : Method) (c : Code) (d k : Nat) (mi : jp_I) (as0 : List jp_V) (sh0 : jp_S) (M0 : jp_M) (ad0 : Nat → Nat) (r : jp_R) (R : Room), (R.cells = mi.2.1 ∧ R.slots = mi.2.2.1) → d + 1 ≤ R.frames ∧ (d + 1) * 64 ≤ R.locals → Z.1 k = some mi →
    p.tables.exec = Jvm.exec → c.code = (G.1 k).2.1 → c.maxLocals = mi.1 → s.vm.findClass (G.1 k).1.cls = some m.cls → meth.name = (G.1 k).1.name → meth.locks = false → (∀ w ∈ G.2.2.2.2.2.1, w.before args s = true) → meth.sig.returnType = (G.1 k).2.2 →
    va_K G.2.1 G.2.2.1 (jp_tys G.2.2.2.1 G.2.2.2.2.1) s → XX s s.heap → (∀ q, CA q → q < s.heap.size ∧ ∀ i, i < sh0.length → ad0 i ≠ q) → (∀ q, 1000 ≤ q → ad0 q = G.2.2.2.2.2.2.2.2.1 q) →
    ∀ t X nc ns, jp_run Z n d k t X nc ns = some r → nc ≤ mi.2.1 ∧ ns ≤ mi.2.2.1 → ∀ (ad : Nat → Nat) (H : Heap) (locs : List Loc) (ls : Array Slot), jp_Iv G (va_A (jp_ws G.2.2.2.1 ad0 M0 sh0) s.heap.size) s.heap mi.1 sh0.length mi.2.1 ad0 ad X H locs ls →
      W p l e R s m args below meth c H locs nc ns (MQ below (jp_Qc G as0 sh0 M0 ad0 s.heap.size mi.2.1 r) args s mi.2.1 mi.2.2.1 (va_A (jp_ws G.2.2.2.1 ad0 M0 sh0) s.heap.size)) (F0 m t ls (X.2.1.map (jp_tr ad)))
theorem jp_okL_drop {Z : jp_P} {Y : Nat → jp_Y} {cl : List vw_C} {CW : String} {TBL NW : List Jvm.Cond} {SR : List (String × Nat × String)} {CF SF : List (String × String × String)} {y : MethodName} {bytes : ByteArray} {f : jp_O → Bool} : ∀ {ops : List jp_O}, jp_okL Z Y cl CW TBL NW SR CF SF y bytes ops → jp_okL Z Y cl CW TBL NW SR CF SF y bytes (ops.dropWhile f)
  | [], _ => trivial
  | o :: r, h => by
    rw [List.dropWhile_cons]
    split
    · exact jp_okL_drop h.2.2
    · exact h
theorem jp_sfx_hd {pc : Nat} : ∀ {ops : List jp_O} {o : jp_O} {r : List jp_O}, jp_sfx ops pc = o :: r → o.1 = pc
  | [], o, r, h => by cases h
  | x :: ops, o, r, h => by
    simp only [jp_sfx, List.dropWhile_cons] at h
    split at h
    · exact jp_sfx_hd (ops := ops) h
    · next hx =>
      cases h
      simpa using hx
theorem jp_lvargs (ad : Nat → Nat) : ∀ (as : List jp_V) (i : Nat) (j : Nat) (v : jp_V), as[j]? = some v → (i + j, jp_tr ad v) ∈ lv_args i (as.map (jp_tr ad))
  | [], i, j, v, h => by cases h
  | a :: as, i, 0, v, h => by
    cases h
    exact List.mem_cons_self
  | a :: as, i, j + 1, v, h => by
    simp only [List.map_cons, lv_args]
    refine List.mem_cons_of_mem _ ?_
    rw [if_neg (by rw [jp_cat]; decide)]
    have := jp_lvargs ad as (i + 1) j v (by simpa using h)
    rw [show i + (j + 1) = i + 1 + j by omega]
    exact this
theorem jp_lgsl (ad : Nat → Nat) (as : List jp_V) : (lg_sl (as.map (jp_tr ad))).length = as.length := by
  induction as with
  | nil => rfl
  | cons a t ih =>
    simp only [lg_sl, List.map_cons, List.flatMap_cons] at ih ⊢
    rw [if_neg (by rw [jp_cat]; decide)]
    simp only [List.length_append, ih, List.length_cons, List.length_nil]
    omega
theorem jp_ent_LR {ad : Nat → Nat} {n : Nat} {as : List jp_V} {ls : Array Slot} (hn : as.length ≤ n) (h : lv_has ls n (lv_args 0 (as.map (jp_tr ad)))) : jp_LR ad ls n (jp_ent n as) := by
  refine ⟨by simp [jp_ent]; omega, h.1, h.2.1, fun q hq => ?_⟩
  obtain ⟨j, hj, hq⟩ := List.mem_filterMap.mp hq
  cases hv : jp_ld (jp_ent n as) j with
  | none => rw [hv] at hq; cases hq
  | some v =>
    rw [hv] at hq
    cases hq
    have h1 := jp_ld_some hv
    simp only [jp_ent] at h1
    by_cases hj2 : j < as.length
    · rw [List.getElem?_append_left (by simpa using hj2), List.getElem?_map] at h1
      cases h2 : as[j]? with
      | none => rw [h2] at h1; cases h1
      | some w =>
        rw [h2] at h1
        cases h1
        have := jp_lvargs ad as 0 j v h2
        rw [Nat.zero_add] at this
        exact h.2.2 _ this
    · rw [List.getElem?_append_right (by simpa using hj2), List.getElem?_replicate] at h1
      split at h1 <;> cases h1
section JPM
variable {l : Launch} {Z : jp_P} {G : jp_G} {XX : State → Heap → Prop} {CA : Nat → Prop}
theorem jp_met_of (hZ : jp_okZ Z G) (hX : jp_okX Z.2.2.2.2 G XX CA) {n : Nat} (hAn : jp_An l Z G XX CA n) {d k : Nat} {mi : jp_I} (hk : Z.1 k = some mi) {as : List jp_V} {sh : jp_S} {M : jp_M} {r : jp_R} (hrun : jp_run Z n d k 0 (jp_ent mi.1 as, [], sh, M) 0 0 = some r) (has : as.length ≤ mi.1) {ad : Nat → Nat} {sz : Nat} (had : ∀ q, 1000 ≤ q → ad q = G.2.2.2.2.2.2.2.2.1 q) :
    Met l (G.1 k).1 (jp_wsM G k mi.1) (jp_rm d mi) (jp_Pc G XX CA as sh M ad sz) (jp_Qc G as sh M ad sz mi.2.1 r) mi.2.1 mi.2.2.1 (va_A (jp_ws G.2.2.2.1 ad M sh) sz) := by
  obtain ⟨⟨o1, -⟩, -⟩ := hZ.2.2.2 k mi hk
  refine Met.ofW (cc := (G.1 k).2.1) (maxL := mi.1) (ret := (G.1 k).2.2) o1 rfl ?_
  intro p e s m args below meth c s₁ B hml hv
  obtain ⟨rfl, hsz, hP, hK, hD, hX0, hCA⟩ := hv
  subst hsz
  rw [lg_entry_eq]
  have hl := lv_entry (as.map (jp_tr ad)) (n := mi.1) (by rw [jp_lgsl]; exact has)
  refine hAn p e s m _ below meth c d k mi as sh M ad r (jp_rm d mi) ⟨rfl, rfl⟩ ⟨Nat.le_refl _, Nat.le_refl _⟩ hk B.exec B.bytes hml (findClass_of_methodNamed B.named) (name_of_methodNamed B.named B.method).1 B.notSynchronized (fun w hw => atoms_spec (ws := jp_wsM G k mi.1) B.pre w (List.mem_cons_of_mem _ hw)) B.returns hK hX0 hCA had 0 _ 0 0 hrun ⟨Nat.zero_le _, Nat.zero_le _⟩ ad s.heap [] _ ⟨⟨hP, hD.self, va_S.rf⟩, jp_ent_LR has hl, fun _ _ => rfl, fun _ => rfl, Nat.le_refl _⟩
theorem jp_all (hZ : jp_okZ Z G) (hX : jp_okX Z.2.2.2.2 G XX CA) (hF : jp_okF Z G) (hPr : jp_okP l Z G XX CA) : ∀ n, jp_An l Z G XX CA n := by
  intro n
  induction n with
  | zero =>
    intro p e s m args below meth c d k mi as0 sh0 M0 ad0 r R _ _ _ _ _ _ _ _ _ _ _ _ _ _ _ t X nc ns h
    cases h
  | succ n ih =>
    intro p e s m args below meth c d k mi as0 sh0 M0 ad0 r R hR1 hR2 hk hx hb hml hown hname hlocks hts hret hK hX0 hCA had t X nc ns hrun hnc ad H locs ls hI
    obtain ⟨⟨o1, -⟩, -, hrt, hok⟩ := hZ.2.2.2 k mi hk
    simp only [jp_run, hk] at hrun
    refine jp_sim_go (Ts := G.2.2.2.2.2.1) (y := (G.1 k).1) (CA := CA) hx hb hml hown hname hlocks hts (fun w hw => hw) ⟨by omega, by omega⟩ hR1 hret hrt hZ hX hK hF ?_ hX0 ?_ (fun q hq => Or.inr hq) had ?_ ?_ (fun q hq => hq) _ X nc ns hrun (jp_okL_drop hok) hnc t (fun o r' e => jp_sfx_hd e) ad H locs ls hI
    · intro a mi' hmi' as sh M r' hC ad' sz had'
      obtain ⟨⟨-, -, -, -, -, o6⟩, -⟩ := hZ.2.2.2 a mi' hmi'
      dsimp only at hC
      split at hC
      · next ha =>
        split at hC
        · next hd =>
          split at hC
          · next v hv =>
            cases hC
            exact ⟨jp_rm 5 mi', rfl, rfl, ⟨by simp only [jp_rm]; omega, by simp only [jp_rm]; omega⟩, hPr a mi' as v ha hmi' hv sh M ad' sz had'⟩
          · cases hC
        · cases hC
      · rw [hmi'] at hC
        split at hC
        · next d' mi2 heq =>
          cases heq
          split at hC
          · next hal => exact ⟨jp_rm d' mi', rfl, rfl, ⟨by simp only [jp_rm]; omega, by simp only [jp_rm]; omega⟩, jp_met_of hZ hX ih hmi' hC hal had'⟩
          · cases hC
        · cases hC
    · intro q hq
      refine ⟨(hCA q hq).1, fun h => ?_⟩
      rcases h with ⟨i, ee, h⟩ | h
      · simp only [jp_ws, List.getElem?_mapIdx] at h
        cases hs : sh0[i]? with
        | none => rw [hs] at h; cases h
        | some z =>
          rw [hs] at h
          have := (hCA q hq).2 i (List.getElem?_eq_some_iff.mp hs).1
          cases h
          exact this rfl
      · exact absurd (hCA q hq).1 (by omega)
    · intro t1 X1 nc1 ns1 h1 hnc1 ad1 H1 locs1 ls1 hI1
      exact ih p e s m args below meth c d k mi as0 sh0 M0 ad0 r R hR1 hR2 hk hx hb hml hown hname hlocks hts hret hK hX0 hCA had t1 X1 nc1 ns1 h1 hnc1 ad1 H1 locs1 ls1 hI1
    · intro ad1 H1 locs1 t1 hP1 hD1 hS1 hag1 had1 hn1 ht1 hW1
      exact ⟨⟨ad1, ⟨hag1, had1, hn1⟩, rfl, by rw [ht1]; exact hP1, va_K.moved hW1.alike hK, hD1⟩, hS1.F ht1⟩
end JPM
