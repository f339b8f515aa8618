/-! the law makes cells: the same rows with its room and what it has used of it -/
def lS (g : Nat × Nat × Nat × Nat) (Z : jp_P) (d k rt : Nat) (ops : List jp_O) (X : jp_X) (r : jp_R) : Prop := ∃ N, ∀ n, N ≤ n → jp_go Z g.1 g.2.1 rt (jp_run Z n d k) (jp_T Z n d) ops X g.2.2.1 g.2.2.2 = some r
def lR (g : Nat × Nat × Nat × Nat) (Z : jp_P) (d k pc : Nat) (X : jp_X) (r : jp_R) : Prop := ∃ N, ∀ n, N ≤ n → jp_run Z n d k pc X g.2.2.1 g.2.2.2 = some r
section LWs
variable {g : Nat × Nat × Nat × Nat}
variable {Z : jp_P} {d k rt pc a b : Nat} {rest : List jp_O} {L : List (Option jp_V)} {S : List jp_V} {sh : jp_S} {M : jp_M} {r : jp_R}
theorem lR_in {l : List jp_O} {X : jp_X} {mi : jp_I} (hk : Z.1 k = some mi) (h0 : (mi.2.1, mi.2.2.1, mi.2.2.2.2.2.1) = (g.1, g.2.1, rt)) (hs : jp_sfx mi.2.2.2.2.2.2.2 pc = l) (h : lS g Z d k rt l X r) : lR g Z d k pc X r := by
  obtain ⟨N, hN⟩ := h
  have h1 : mi.2.1 = g.1 := congrArg Prod.fst h0
  have h2 : mi.2.2.1 = g.2.1 := congrArg (fun q => q.2.1) h0
  have h3 : mi.2.2.2.2.2.1 = rt := congrArg (fun q => q.2.2) h0
  refine ⟨N + 1, fun n hn => ?_⟩
  obtain ⟨n, rfl⟩ : ∃ m, n = m + 1 := ⟨n - 1, by omega⟩
  simp only [jp_run_succ, hk, h1, h2, h3, hs]
  exact hN n (by omega)
theorem lS_out {l : List jp_O} {X : jp_X} {mi : jp_I} (hk : Z.1 k = some mi) (h0 : (mi.2.1, mi.2.2.1, mi.2.2.2.2.2.1) = (g.1, g.2.1, rt)) (hs : jp_sfx mi.2.2.2.2.2.2.2 pc = l) (h : lR g Z d k pc X r) : lS g Z d k rt l X r := by
  obtain ⟨N, hN⟩ := h
  have h1 : mi.2.1 = g.1 := congrArg Prod.fst h0
  have h2 : mi.2.2.1 = g.2.1 := congrArg (fun q => q.2.1) h0
  have h3 : mi.2.2.2.2.2.1 = rt := congrArg (fun q => q.2.2) h0
  refine ⟨N, fun n hn => ?_⟩
  have := hN (n + 1) (by omega)
  simp only [jp_run_succ, hk, h1, h2, h3, hs] at this
  exact this
theorem lS_st {ins : Instr} {X Y : jp_X} (hs : jp_smp ins a = true) (h : jp_st Z.2.1 Z.2.2.2.2 ins a b X = some Y) (kk : lS g Z d k rt rest Y r) : lS g Z d k rt ((pc, ins, a, b) :: rest) X r := by
  obtain ⟨N, hN⟩ := kk
  refine ⟨N, fun n hn => ?_⟩
  have := hN n hn
  cases ins <;> first | (cases hs; done) | (simp only [jp_go, h]; exact this) | skip
  · have ha : a = 9000 := of_decide_eq_true hs
    simp only [jp_go, if_pos ha, h]; exact this
  · have ha : 9001 ≤ a ∧ a ≤ 9012 := of_decide_eq_true hs
    simp only [jp_go, if_pos ha, h]; exact this
theorem ls_iconst {n : Int} {v : Int32} (hv : jp_i n = v) (kk : lS g Z d k rt rest (L, .inl v :: S, sh, M) r) : lS g Z d k rt ((pc, .iconst n, a, b) :: rest) (L, S, sh, M) r := lS_st rfl (by simp only [jp_st, hv]) kk
theorem ls_bipush {n : Int} {v : Int32} (hv : jp_i n = v) (kk : lS g Z d k rt rest (L, .inl v :: S, sh, M) r) : lS g Z d k rt ((pc, .bipush n, a, b) :: rest) (L, S, sh, M) r := lS_st rfl (by simp only [jp_st, hv]) kk
theorem ls_sipush {n : Int} {v : Int32} (hv : jp_i n = v) (kk : lS g Z d k rt rest (L, .inl v :: S, sh, M) r) : lS g Z d k rt ((pc, .sipush n, a, b) :: rest) (L, S, sh, M) r := lS_st rfl (by simp only [jp_st, hv]) kk
theorem ls_ldc {x : Nat} {v : Int32} (hv : Int32.ofNat a = v) (kk : lS g Z d k rt rest (L, .inl v :: S, sh, M) r) : lS g Z d k rt ((pc, .ldc x, a, 0) :: rest) (L, S, sh, M) r := lS_st rfl (by simp only [jp_st, hv, if_pos]) kk
theorem ls_ldcS {x : Nat} (kk : lS g Z d k rt rest (L, .inr (some a) :: S, sh, M) r) : lS g Z d k rt ((pc, .ldc x, a, 1) :: rest) (L, S, sh, M) r := lS_st rfl rfl kk
theorem ls_ldcw {x : Nat} {v : Int32} (hv : Int32.ofNat a = v) (kk : lS g Z d k rt rest (L, .inl v :: S, sh, M) r) : lS g Z d k rt ((pc, .ldc_w x, a, b) :: rest) (L, S, sh, M) r := lS_st rfl (by simp only [jp_st, hv]) kk
theorem ls_iload {i : Nat} {x : Int32} (h : jp_ld L i = some (.inl x)) (kk : lS g Z d k rt rest (L, .inl x :: S, sh, M) r) : lS g Z d k rt ((pc, .iload i, a, b) :: rest) (L, S, sh, M) r := lS_st rfl (by simp only [jp_st, jp_ildX, h]) kk
theorem ls_iload_n {i : Fin 4} {x : Int32} (h : jp_ld L i = some (.inl x)) (kk : lS g Z d k rt rest (L, .inl x :: S, sh, M) r) : lS g Z d k rt ((pc, .iload_n i, a, b) :: rest) (L, S, sh, M) r := lS_st rfl (by simp only [jp_st, jp_ildX, h]) kk
theorem ls_aload {i q : Nat} (h : jp_ld L i = some (.inr (some q))) (kk : lS g Z d k rt rest (L, .inr (some q) :: S, sh, M) r) : lS g Z d k rt ((pc, .aload i, a, b) :: rest) (L, S, sh, M) r := lS_st rfl (by simp only [jp_st, jp_aldX, h]) kk
theorem ls_aload_n {i : Fin 4} {q : Nat} (h : jp_ld L i = some (.inr (some q))) (kk : lS g Z d k rt rest (L, .inr (some q) :: S, sh, M) r) : lS g Z d k rt ((pc, .aload_n i, a, b) :: rest) (L, S, sh, M) r := lS_st rfl (by simp only [jp_st, jp_aldX, h]) kk
theorem ls_istore {i : Nat} {x : Int32} {L' : List (Option jp_V)} (hi : decide (i < L.length) = true) (hL : L.set i (some (.inl x)) = L') (kk : lS g Z d k rt rest (L', S, sh, M) r) : lS g Z d k rt ((pc, .istore i, a, b) :: rest) (L, .inl x :: S, sh, M) r := lS_st rfl (by simp only [jp_st, jp_istX, hL, if_pos (of_decide_eq_true hi)]) kk
theorem ls_istore_n {i : Fin 4} {x : Int32} {L' : List (Option jp_V)} (hi : decide (i.val < L.length) = true) (hL : L.set i (some (.inl x)) = L') (kk : lS g Z d k rt rest (L', S, sh, M) r) : lS g Z d k rt ((pc, .istore_n i, a, b) :: rest) (L, .inl x :: S, sh, M) r := lS_st rfl (by simp only [jp_st, jp_istX, hL, if_pos (of_decide_eq_true hi)]) kk
theorem ls_astore {i q : Nat} {L' : List (Option jp_V)} (hi : decide (i < L.length) = true) (hL : L.set i (some (.inr (some q))) = L') (kk : lS g Z d k rt rest (L', S, sh, M) r) : lS g Z d k rt ((pc, .astore i, a, b) :: rest) (L, .inr (some q) :: S, sh, M) r := lS_st rfl (by simp only [jp_st, jp_astX, hL, if_pos (of_decide_eq_true hi)]) kk
theorem ls_astore_n {i : Fin 4} {q : Nat} {L' : List (Option jp_V)} (hi : decide (i.val < L.length) = true) (hL : L.set i (some (.inr (some q))) = L') (kk : lS g Z d k rt rest (L', S, sh, M) r) : lS g Z d k rt ((pc, .astore_n i, a, b) :: rest) (L, .inr (some q) :: S, sh, M) r := lS_st rfl (by simp only [jp_st, jp_astX, hL, if_pos (of_decide_eq_true hi)]) kk
theorem ls_iinc {i : Nat} {n : Int} {x v : Int32} {L' : List (Option jp_V)} (h : jp_ld L i = some (.inl x)) (hv : jp_i n = v) (hi : decide (i < L.length) = true) (hL : L.set i (some (.inl (x + v))) = L') (kk : lS g Z d k rt rest (L', S, sh, M) r) : lS g Z d k rt ((pc, .iinc i n, a, b) :: rest) (L, S, sh, M) r := lS_st rfl (by simp only [jp_st, jp_incX, h, hv, hL, if_pos (of_decide_eq_true hi)]) kk
theorem ls_dup {v : jp_V} (kk : lS g Z d k rt rest (L, v :: v :: S, sh, M) r) : lS g Z d k rt ((pc, .dup, a, b) :: rest) (L, v :: S, sh, M) r := lS_st rfl rfl kk
theorem ls_dup2 {v w : jp_V} (kk : lS g Z d k rt rest (L, v :: w :: v :: w :: S, sh, M) r) : lS g Z d k rt ((pc, .dup2, a, b) :: rest) (L, v :: w :: S, sh, M) r := lS_st rfl rfl kk
theorem ls_pop {v : jp_V} (kk : lS g Z d k rt rest (L, S, sh, M) r) : lS g Z d k rt ((pc, .pop, a, b) :: rest) (L, v :: S, sh, M) r := lS_st rfl rfl kk
variable {x y : Int32}
theorem ls_iadd (kk : lS g Z d k rt rest (L, .inl (x + y) :: S, sh, M) r) : lS g Z d k rt ((pc, .iadd, a, b) :: rest) (L, .inl y :: .inl x :: S, sh, M) r := lS_st rfl rfl kk
theorem ls_isub (kk : lS g Z d k rt rest (L, .inl (x - y) :: S, sh, M) r) : lS g Z d k rt ((pc, .isub, a, b) :: rest) (L, .inl y :: .inl x :: S, sh, M) r := lS_st rfl rfl kk
theorem ls_imul (kk : lS g Z d k rt rest (L, .inl (x * y) :: S, sh, M) r) : lS g Z d k rt ((pc, .imul, a, b) :: rest) (L, .inl y :: .inl x :: S, sh, M) r := lS_st rfl rfl kk
theorem ls_idiv (hy : ¬ y = 0) (kk : lS g Z d k rt rest (L, .inl (x / y) :: S, sh, M) r) : lS g Z d k rt ((pc, .idiv, a, b) :: rest) (L, .inl y :: .inl x :: S, sh, M) r := lS_st rfl (by simp only [jp_st, jp_dvd, if_neg hy]) kk
theorem ls_irem (hy : ¬ y = 0) (kk : lS g Z d k rt rest (L, .inl (x % y) :: S, sh, M) r) : lS g Z d k rt ((pc, .irem, a, b) :: rest) (L, .inl y :: .inl x :: S, sh, M) r := lS_st rfl (by simp only [jp_st, jp_dvd, if_neg hy]) kk
theorem ls_ishl (kk : lS g Z d k rt rest (L, .inl (x <<< (y &&& 31)) :: S, sh, M) r) : lS g Z d k rt ((pc, .ishl, a, b) :: rest) (L, .inl y :: .inl x :: S, sh, M) r := lS_st rfl rfl kk
theorem ls_ishr (kk : lS g Z d k rt rest (L, .inl (x >>> (y &&& 31)) :: S, sh, M) r) : lS g Z d k rt ((pc, .ishr, a, b) :: rest) (L, .inl y :: .inl x :: S, sh, M) r := lS_st rfl rfl kk
theorem ls_iushr (kk : lS g Z d k rt rest (L, .inl (jp_ushr x y) :: S, sh, M) r) : lS g Z d k rt ((pc, .iushr, a, b) :: rest) (L, .inl y :: .inl x :: S, sh, M) r := lS_st rfl rfl kk
theorem ls_iand (kk : lS g Z d k rt rest (L, .inl (x &&& y) :: S, sh, M) r) : lS g Z d k rt ((pc, .iand, a, b) :: rest) (L, .inl y :: .inl x :: S, sh, M) r := lS_st rfl rfl kk
theorem ls_ior (kk : lS g Z d k rt rest (L, .inl (x ||| y) :: S, sh, M) r) : lS g Z d k rt ((pc, .ior, a, b) :: rest) (L, .inl y :: .inl x :: S, sh, M) r := lS_st rfl rfl kk
theorem ls_ixor (kk : lS g Z d k rt rest (L, .inl (x ^^^ y) :: S, sh, M) r) : lS g Z d k rt ((pc, .ixor, a, b) :: rest) (L, .inl y :: .inl x :: S, sh, M) r := lS_st rfl rfl kk
theorem ls_ineg (kk : lS g Z d k rt rest (L, .inl (-x) :: S, sh, M) r) : lS g Z d k rt ((pc, .ineg, a, b) :: rest) (L, .inl x :: S, sh, M) r := lS_st rfl rfl kk
theorem ls_i2b (kk : lS g Z d k rt rest (L, .inl (x.toInt8.toInt32) :: S, sh, M) r) : lS g Z d k rt ((pc, .i2b, a, b) :: rest) (L, .inl x :: S, sh, M) r := lS_st rfl rfl kk
theorem ls_i2s (kk : lS g Z d k rt rest (L, .inl (x.toInt16.toInt32) :: S, sh, M) r) : lS g Z d k rt ((pc, .i2s, a, b) :: rest) (L, .inl x :: S, sh, M) r := lS_st rfl rfl kk
theorem ls_i2c (kk : lS g Z d k rt rest (L, .inl ((x.toUInt32 % 65536).toInt32) :: S, sh, M) r) : lS g Z d k rt ((pc, .i2c, a, b) :: rest) (L, .inl x :: S, sh, M) r := lS_st rfl rfl kk
variable {q n i t z : Nat} {ii : Int32} {fs : List (Option (Option Nat))} {l : List (Option Nat)}
theorem ls_geti (ha : decide (a < 100) = true) (hc : sh[q]? = some (.inr (.inr (a, fs)))) (hf : fs[b]? = some none) (kk : lS g Z d k rt rest (L, .inl (M q b) :: S, sh, M) r) : lS g Z d k rt ((pc, .getfield z, a, b) :: rest) (L, .inr (some q) :: S, sh, M) r := by
  have ha := of_decide_eq_true ha
  exact lS_st rfl (by simp only [jp_st, jp_getX, if_neg (show ¬ 100 ≤ a by omega), hc, if_pos, hf, jp_fval]) kk
theorem ls_getr {o : Option Nat} (ha : decide (a < 100) = true) (hc : sh[q]? = some (.inr (.inr (a, fs)))) (hf : fs[b]? = some (some o)) (kk : lS g Z d k rt rest (L, .inr o :: S, sh, M) r) : lS g Z d k rt ((pc, .getfield z, a, b) :: rest) (L, .inr (some q) :: S, sh, M) r := by
  have ha := of_decide_eq_true ha
  exact lS_st rfl (by simp only [jp_st, jp_getX, if_neg (show ¬ 100 ≤ a by omega), hc, if_pos, hf, jp_fval]) kk
theorem ls_getK {v : jp_V} (ha : decide (100 ≤ a) = true) (hc : Z.2.2.2.2.2.1 q (a - 100) = some v) (kk : lS g Z d k rt rest (L, v :: S, sh, M) r) : lS g Z d k rt ((pc, .getfield z, a, b) :: rest) (L, .inr (some q) :: S, sh, M) r :=
  lS_st rfl (by simp only [jp_st, jp_getX, if_pos (of_decide_eq_true ha), hc]) kk
theorem ls_gets {v : jp_V} (hc : Z.2.2.2.2.2.2 a = some v) (kk : lS g Z d k rt rest (L, v :: S, sh, M) r) : lS g Z d k rt ((pc, .getstatic z, a, b) :: rest) (L, S, sh, M) r := lS_st rfl (by simp only [jp_st, hc]) kk
theorem ls_puti (hc : sh[q]? = some (.inr (.inr (a, fs)))) (hf : fs[b]? = some none) (hz : Z.2.1 a b = 0 ∨ (Z.2.1 a b = 1 ∧ (x = 0 ∨ x = 1))) (kk : lS g Z d k rt rest (L, S, sh, jp_set M q (upd (M q) b x)) r) : lS g Z d k rt ((pc, .putfield z, a, b) :: rest) (L, .inl x :: .inr (some q) :: S, sh, M) r :=
  lS_st rfl (by simp only [jp_st, jp_putX, hc, if_pos, hf, if_pos hz]) kk
theorem ls_putr {o : Option Nat} {p : Nat} {sh' : jp_S} (hc : sh[q]? = some (.inr (.inr (a, fs)))) (hf : fs[b]? = some (some o)) (hz : Z.2.1 a b = 2) (hs : sh.set q (.inr (.inr (a, fs.set b (some (some p))))) = sh') (kk : lS g Z d k rt rest (L, S, sh', M) r) : lS g Z d k rt ((pc, .putfield z, a, b) :: rest) (L, .inr (some p) :: .inr (some q) :: S, sh, M) r :=
  lS_st rfl (by simp only [jp_st, jp_putX, hc, if_pos, hf, hz, hs]) kk
theorem ls_iald (hc : sh[q]? = some (.inl (0, n))) (hi : jp_in ii n) (kk : lS g Z d k rt rest (L, .inl (M q ii.toNatClampNeg) :: S, sh, M) r) : lS g Z d k rt ((pc, .iaload, a, b) :: rest) (L, .inl ii :: .inr (some q) :: S, sh, M) r :=
  lS_st rfl (by simp only [jp_st, jp_xldX, hc]; exact if_pos ⟨trivial, hi⟩) kk
theorem ls_bald (hc : sh[q]? = some (.inl (1, n))) (hi : jp_in ii n) (kk : lS g Z d k rt rest (L, .inl ((M q ii.toNatClampNeg).toInt8.toInt32) :: S, sh, M) r) : lS g Z d k rt ((pc, .baload, a, b) :: rest) (L, .inl ii :: .inr (some q) :: S, sh, M) r :=
  lS_st rfl (by simp only [jp_st, jp_xldX, hc]; exact if_pos ⟨trivial, hi⟩) kk
theorem ls_sald (hc : sh[q]? = some (.inl (2, n))) (hi : jp_in ii n) (kk : lS g Z d k rt rest (L, .inl ((M q ii.toNatClampNeg).toInt16.toInt32) :: S, sh, M) r) : lS g Z d k rt ((pc, .saload, a, b) :: rest) (L, .inl ii :: .inr (some q) :: S, sh, M) r :=
  lS_st rfl (by simp only [jp_st, jp_xldX, hc]; exact if_pos ⟨trivial, hi⟩) kk
theorem ls_ialdK {f : Nat → Int32} (hc : sh[q]? = none) (hk : Z.2.2.2.2.1 q = some (0, n, f)) (hi : jp_in ii n) (kk : lS g Z d k rt rest (L, .inl (f ii.toNatClampNeg) :: S, sh, M) r) : lS g Z d k rt ((pc, .iaload, a, b) :: rest) (L, .inl ii :: .inr (some q) :: S, sh, M) r :=
  lS_st rfl (by simp only [jp_st, jp_xldX, hc, hk]; exact if_pos ⟨trivial, hi⟩) kk
theorem ls_baldK {f : Nat → Int32} (hc : sh[q]? = none) (hk : Z.2.2.2.2.1 q = some (1, n, f)) (hi : jp_in ii n) (kk : lS g Z d k rt rest (L, .inl (f ii.toNatClampNeg) :: S, sh, M) r) : lS g Z d k rt ((pc, .baload, a, b) :: rest) (L, .inl ii :: .inr (some q) :: S, sh, M) r :=
  lS_st rfl (by simp only [jp_st, jp_xldX, hc, hk]; exact if_pos ⟨trivial, hi⟩) kk
theorem ls_iast (hc : sh[q]? = some (.inl (0, n))) (hi : jp_in ii n) (kk : lS g Z d k rt rest (L, S, sh, jp_set M q (upd (M q) ii.toNatClampNeg x)) r) : lS g Z d k rt ((pc, .iastore, a, b) :: rest) (L, .inl x :: .inl ii :: .inr (some q) :: S, sh, M) r :=
  lS_st rfl (by simp only [jp_st, jp_xstX, hc]; exact if_pos ⟨trivial, hi⟩) kk
theorem ls_bast (hc : sh[q]? = some (.inl (1, n))) (hi : jp_in ii n) (kk : lS g Z d k rt rest (L, S, sh, jp_set M q (upd (M q) ii.toNatClampNeg x)) r) : lS g Z d k rt ((pc, .bastore, a, b) :: rest) (L, .inl x :: .inl ii :: .inr (some q) :: S, sh, M) r :=
  lS_st rfl (by simp only [jp_st, jp_xstX, hc]; exact if_pos ⟨trivial, hi⟩) kk
theorem ls_sast (hc : sh[q]? = some (.inl (2, n))) (hi : jp_in ii n) (kk : lS g Z d k rt rest (L, S, sh, jp_set M q (upd (M q) ii.toNatClampNeg x)) r) : lS g Z d k rt ((pc, .sastore, a, b) :: rest) (L, .inl x :: .inl ii :: .inr (some q) :: S, sh, M) r :=
  lS_st rfl (by simp only [jp_st, jp_xstX, hc]; exact if_pos ⟨trivial, hi⟩) kk
theorem ls_aald {o : Option Nat} (hc : sh[q]? = some (.inr (.inl l))) (hi : jp_in ii l.length) (ho : l.getD ii.toNatClampNeg none = o) (kk : lS g Z d k rt rest (L, .inr o :: S, sh, M) r) : lS g Z d k rt ((pc, .aaload, a, b) :: rest) (L, .inl ii :: .inr (some q) :: S, sh, M) r :=
  lS_st rfl (by simp only [jp_st, jp_aaldX, hc, if_pos hi, ho]) kk
theorem ls_alen {v : Int32} (hc : sh[q]? = some (.inl (t, n))) (ht : decide (t < 3) = true) (hv : Int32.ofNat n = v) (kk : lS g Z d k rt rest (L, .inl v :: S, sh, M) r) : lS g Z d k rt ((pc, .arraylength, a, b) :: rest) (L, .inr (some q) :: S, sh, M) r :=
  lS_st rfl (by simp only [jp_st, jp_lenX, hc, if_pos (of_decide_eq_true ht), hv]) kk
theorem ls_alenK {v : Int32} {f : Nat → Int32} (hc : sh[q]? = none) (hk : Z.2.2.2.2.1 q = some (t, n, f)) (hv : Int32.ofNat n = v) (kk : lS g Z d k rt rest (L, .inl v :: S, sh, M) r) : lS g Z d k rt ((pc, .arraylength, a, b) :: rest) (L, .inr (some q) :: S, sh, M) r :=
  lS_st rfl (by simp only [jp_st, jp_lenX, hc, hk, hv]) kk
theorem ls_copy {p n0 n1 : Nat} {sp dp m : Int32} (hc : sh[q]? = some (.inl (t, n0))) (hd : sh[p]? = some (.inl (t, n1))) (ht : decide (t = 0 ∨ t = 2) = true) (h1 : 0 ≤ sp ∧ 0 ≤ dp ∧ 0 ≤ m) (h2 : sp.toNatClampNeg + m.toNatClampNeg ≤ n0 ∧ dp.toNatClampNeg + m.toNatClampNeg ≤ n1) (h8 : decide (S.length ≤ 8) = true)
    (kk : lS g Z d k rt rest (L, S, sh, jp_set M p (va_cpy (M q) (M p) sp.toNatClampNeg dp.toNatClampNeg m.toNatClampNeg)) r) : lS g Z d k rt ((pc, .invokestatic z, 9001, b) :: rest) (L, .inl m :: .inl dp :: .inr (some p) :: .inl sp :: .inr (some q) :: S, sh, M) r :=
  lS_st rfl (by simp only [jp_st, if_pos, jp_cpyX, hc, hd]; exact if_pos ⟨⟨trivial, of_decide_eq_true ht⟩, h1, h2, of_decide_eq_true h8⟩) kk
theorem ls_max (h8 : decide (S.length ≤ 8) = true) (kk : lS g Z d k rt rest (L, .inl (jp_max x y) :: S, sh, M) r) : lS g Z d k rt ((pc, .invokestatic z, 9010, b) :: rest) (L, .inl y :: .inl x :: S, sh, M) r := lS_st rfl (by simp only [jp_st, jp_mth2, if_pos (of_decide_eq_true h8)]; rfl) kk
theorem ls_min (h8 : decide (S.length ≤ 8) = true) (kk : lS g Z d k rt rest (L, .inl (jp_min x y) :: S, sh, M) r) : lS g Z d k rt ((pc, .invokestatic z, 9011, b) :: rest) (L, .inl y :: .inl x :: S, sh, M) r := lS_st rfl (by simp only [jp_st, jp_mth2, if_pos (of_decide_eq_true h8)]; rfl) kk
theorem ls_abs (h8 : decide (S.length ≤ 8) = true) (kk : lS g Z d k rt rest (L, .inl (jp_abs x) :: S, sh, M) r) : lS g Z d k rt ((pc, .invokestatic z, 9012, b) :: rest) (L, .inl x :: S, sh, M) r := lS_st rfl (by simp only [jp_st, jp_mth1, if_pos (of_decide_eq_true h8)]; rfl) kk
theorem ls_go {X Y : jp_X} {o : jp_O} (h : ∀ (J : jp_J) (C : jp_K), jp_go Z g.1 g.2.1 rt J C (o :: rest) X g.2.2.1 g.2.2.2 = J n Y g.2.2.1 g.2.2.2) (kk : lR g Z d k n Y r) : lS g Z d k rt (o :: rest) X r := by
  obtain ⟨N, hN⟩ := kk
  exact ⟨N, fun m hm => by rw [h]; exact hN m hm⟩
theorem ls_on {X Y : jp_X} {o : jp_O} (h : ∀ (J : jp_J) (C : jp_K), jp_go Z g.1 g.2.1 rt J C (o :: rest) X g.2.2.1 g.2.2.2 = jp_go Z g.1 g.2.1 rt J C rest Y g.2.2.1 g.2.2.2) (kk : lS g Z d k rt rest Y r) : lS g Z d k rt (o :: rest) X r := by
  obtain ⟨N, hN⟩ := kk
  exact ⟨N, fun m hm => by rw [h]; exact hN m hm⟩
variable {off : Int} {tgt : Nat}
theorem ls_goto {X : jp_X} (hj : jp_okJ pc off = true) (ht : jp_tgt pc off = tgt) (kk : lR g Z d k tgt X r) : lS g Z d k rt ((pc, .goto off, a, b) :: rest) X r := ls_go (fun J C => by simp only [jp_go, hj, ht, if_true]) kk
theorem ls_icmp {c : ClassFile.Cond} (hj : jp_okJ pc off = true) (ht : jp_tgt pc off = tgt) (kt : jp_c c x y = true → lR g Z d k tgt (L, S, sh, M) r) (kf : ¬ jp_c c x y = true → lS g Z d k rt rest (L, S, sh, M) r) : lS g Z d k rt ((pc, .if_icmp c off, a, b) :: rest) (L, .inl y :: .inl x :: S, sh, M) r := by
  by_cases h : jp_c c x y = true
  · exact ls_go (fun J C => by simp only [jp_go, hj, ht, if_true, h]) (kt h)
  · exact ls_on (fun J C => by simp only [jp_go, hj, if_true, if_neg h]) (kf h)
theorem ls_ifc {c : ClassFile.Cond} (hj : jp_okJ pc off = true) (ht : jp_tgt pc off = tgt) (kt : jp_c c x 0 = true → lR g Z d k tgt (L, S, sh, M) r) (kf : ¬ jp_c c x 0 = true → lS g Z d k rt rest (L, S, sh, M) r) : lS g Z d k rt ((pc, .ifCond c off, a, b) :: rest) (L, .inl x :: S, sh, M) r := by
  by_cases h : jp_c c x 0 = true
  · exact ls_go (fun J C => by simp only [jp_go, hj, ht, if_true, h]) (kt h)
  · exact ls_on (fun J C => by simp only [jp_go, hj, if_true, if_neg h]) (kf h)
theorem ls_ifnull (kk : lS g Z d k rt rest (L, S, sh, M) r) : lS g Z d k rt ((pc, .ifnull off, a, b) :: rest) (L, .inr (some q) :: S, sh, M) r := ls_on (fun J C => rfl) kk
theorem ls_ifnonnull (hj : jp_okJ pc off = true) (ht : jp_tgt pc off = tgt) (kk : lR g Z d k tgt (L, S, sh, M) r) : lS g Z d k rt ((pc, .ifnonnull off, a, b) :: rest) (L, .inr (some q) :: S, sh, M) r := ls_go (fun J C => by simp only [jp_go, hj, ht, if_true]) kk
theorem ls_tabOut {dd lo hi : Int} {offs : Array Int} (h : x.toInt < lo ∨ hi < x.toInt) (hj : jp_okJ pc dd = true) (ht : jp_tgt pc dd = tgt) (kk : lR g Z d k tgt (L, S, sh, M) r) : lS g Z d k rt ((pc, .tableswitch dd lo hi offs, a, b) :: rest) (L, .inl x :: S, sh, M) r := ls_go (fun J C => by simp only [jp_go, if_pos h, hj, ht, if_true]) kk
theorem ls_tabIn {dd lo hi : Int} {offs : Array Int} {v : Int32} (hx : x = v) (h : decide (v.toInt < lo ∨ hi < v.toInt) = false) (ho : offs[(v.toInt - lo).toNat]? = some off) (hj : jp_okJ pc off = true) (ht : jp_tgt pc off = tgt) (kk : lR g Z d k tgt (L, S, sh, M) r) : lS g Z d k rt ((pc, .tableswitch dd lo hi offs, a, b) :: rest) (L, .inl x :: S, sh, M) r := by
  subst hx
  exact ls_go (fun J C => by simp only [jp_go, if_neg (of_decide_eq_false h), ho, hj, ht, if_true]) kk
theorem ls_look {dd : Int} {ps : Array (Int × Int)} (h : ((ps.toList.zip (ps.toList.drop 1)).all (fun (a, next) => a.1 < next.1)) = true) (ho : Op.lookupswitch.offset ps.toList dd x.toInt = off) (hj : jp_okJ pc off = true) (ht : jp_tgt pc off = tgt) (kk : lR g Z d k tgt (L, S, sh, M) r) : lS g Z d k rt ((pc, .lookupswitch dd ps, a, b) :: rest) (L, .inl x :: S, sh, M) r := ls_go (fun J C => by
  subst ho
  simp only [jp_go]
  rw [if_pos ⟨h, hj⟩, ht]) kk
theorem ls_iret (hz : jp_rok rt x = true) (hr : (some (.inl x), sh, M) = r) : lS g Z d k rt ((pc, .ireturn, a, b) :: rest) (L, [.inl x], sh, M) r := ⟨0, fun n _ => by simp only [jp_go, hz, if_true]; rw [← hr]⟩
theorem ls_ret (hz : rt = 2) (hr : (none, sh, M) = r) : lS g Z d k rt ((pc, .return_, a, b) :: rest) (L, [], sh, M) r := ⟨0, fun n _ => by simp only [jp_go, hz, if_true]; rw [← hr]⟩
theorem ls_call (hg : g.2.2.1 ≤ g.1 ∧ g.2.2.2 ≤ g.2.1) {ins : Instr} {h : Nat} {mi : jp_I} {v : Option jp_V} {sh' : jp_S} {M' : jp_M} {as : List jp_V} {S' : List jp_V} (hi : jp_isK ins a = true) (hk : Z.1 a = some mi) (hz : mi.2.1 = 0 ∧ mi.2.2.1 = 0) (hq : decide ((b = mi.2.2.2.2.2.2.1 ∧ b ≤ S.length ∧ S.length - b ≤ 8) ∧ a < 9100) = true) (hrc : jp_rcv sh mi.2.2.2.1 mi.2.2.2.2.1 as.head? = true) (has : (S.take b).reverse = as) (hS : S.drop b = S') (hE : jE Z h a as sh M (v, sh', M')) (hd : h + 1 ≤ d)
    (kk : lS g Z d k rt rest (L, v.toList ++ S', sh', M') r) : lS g Z d k rt ((pc, ins, a, b) :: rest) (L, S, sh, M) r := by
  subst has; subst hS
  obtain ⟨N, hN⟩ := kk
  obtain ⟨mi', hk', hal, hd'⟩ := hE
  cases hk.symm.trans hk'
  obtain ⟨d, rfl⟩ : ∃ e, d = e + 1 := ⟨d - 1, by omega⟩
  obtain ⟨N', hN'⟩ := hd' d (by omega)
  refine ⟨N + N', fun n hn => ?_⟩
  have hq := of_decide_eq_true hq
  have e1 : jp_call Z g.1 g.2.1 (jp_T Z n (d + 1)) a b (L, S, sh, M) g.2.2.1 g.2.2.2 = some ((L, v.toList ++ S.drop b, sh', M'), g.2.2.1, g.2.2.2) := by
    simp only [jp_call, hk, hz.1, hz.2]
    rw [if_pos ⟨hq.1, hrc, hg, Or.inl trivial⟩]
    simp only [jp_T, if_neg (show ¬ 9100 ≤ a by omega), hk, if_pos hal, hN' n (by omega), Nat.add_zero]
  have e2 := hN n (by omega)
  cases ins <;> first | (cases hi; done) | (simp only [jp_go, e1]; exact e2) | skip
  · have ha : ¬ a = 9000 := of_decide_eq_true hi
    simp only [jp_go, if_neg ha, e1]; exact e2
  · have ha : ¬ (9001 ≤ a ∧ a ≤ 9012) := of_decide_eq_true hi
    simp only [jp_go, if_neg ha, e1]; exact e2
theorem ls_c0i (hg : g.2.2.1 ≤ g.1 ∧ g.2.2.2 ≤ g.2.1) {ins : Instr} {h : Nat} {mi : jp_I} {w : Int32} {sh' : jp_S} {M' : jp_M}  (hi : jp_isK ins a = true) (hk : Z.1 a = some mi) (hz : mi.2.1 = 0 ∧ mi.2.2.1 = 0) (hq : decide (0 = mi.2.2.2.2.2.2.1 ∧ a < 9100 ∧ S.length ≤ 8) = true) (hrc : jp_rcv sh mi.2.2.2.1 mi.2.2.2.2.1 ([] : List jp_V).head? = true) (hE : jE Z h a [] sh M (some (.inl w), sh', M')) (hd : h + 1 ≤ d) (kk : lS g Z d k rt rest (L, .inl w :: S, sh', M') r) : lS g Z d k rt ((pc, ins, a, 0) :: rest) (L, S, sh, M) r := by
  have hq := of_decide_eq_true hq
  exact ls_call hg hi hk hz (decide_eq_true ⟨⟨hq.1, by simp, by simp; exact hq.2.2⟩, hq.2.1⟩) hrc rfl rfl hE hd kk
theorem ls_c0v (hg : g.2.2.1 ≤ g.1 ∧ g.2.2.2 ≤ g.2.1) {ins : Instr} {h : Nat} {mi : jp_I} {w : Int32} {sh' : jp_S} {M' : jp_M}  (hi : jp_isK ins a = true) (hk : Z.1 a = some mi) (hz : mi.2.1 = 0 ∧ mi.2.2.1 = 0) (hq : decide (0 = mi.2.2.2.2.2.2.1 ∧ a < 9100 ∧ S.length ≤ 8) = true) (hrc : jp_rcv sh mi.2.2.2.1 mi.2.2.2.2.1 ([] : List jp_V).head? = true) (hE : jE Z h a [] sh M (none, sh', M')) (hd : h + 1 ≤ d) (kk : lS g Z d k rt rest (L, S, sh', M') r) : lS g Z d k rt ((pc, ins, a, 0) :: rest) (L, S, sh, M) r := by
  have hq := of_decide_eq_true hq
  exact ls_call hg hi hk hz (decide_eq_true ⟨⟨hq.1, by simp, by simp; exact hq.2.2⟩, hq.2.1⟩) hrc rfl rfl hE hd kk
theorem ls_c1i (hg : g.2.2.1 ≤ g.1 ∧ g.2.2.2 ≤ g.2.1) {ins : Instr} {h : Nat} {mi : jp_I} {w : Int32} {sh' : jp_S} {M' : jp_M} {v0 : jp_V} (hi : jp_isK ins a = true) (hk : Z.1 a = some mi) (hz : mi.2.1 = 0 ∧ mi.2.2.1 = 0) (hq : decide (1 = mi.2.2.2.2.2.2.1 ∧ a < 9100 ∧ S.length ≤ 8) = true) (hrc : jp_rcv sh mi.2.2.2.1 mi.2.2.2.2.1 ([v0] : List jp_V).head? = true) (hE : jE Z h a [v0] sh M (some (.inl w), sh', M')) (hd : h + 1 ≤ d) (kk : lS g Z d k rt rest (L, .inl w :: S, sh', M') r) : lS g Z d k rt ((pc, ins, a, 1) :: rest) (L, v0 :: S, sh, M) r := by
  have hq := of_decide_eq_true hq
  exact ls_call hg hi hk hz (decide_eq_true ⟨⟨hq.1, by simp, by simp; exact hq.2.2⟩, hq.2.1⟩) hrc rfl rfl hE hd kk
theorem ls_c1v (hg : g.2.2.1 ≤ g.1 ∧ g.2.2.2 ≤ g.2.1) {ins : Instr} {h : Nat} {mi : jp_I} {w : Int32} {sh' : jp_S} {M' : jp_M} {v0 : jp_V} (hi : jp_isK ins a = true) (hk : Z.1 a = some mi) (hz : mi.2.1 = 0 ∧ mi.2.2.1 = 0) (hq : decide (1 = mi.2.2.2.2.2.2.1 ∧ a < 9100 ∧ S.length ≤ 8) = true) (hrc : jp_rcv sh mi.2.2.2.1 mi.2.2.2.2.1 ([v0] : List jp_V).head? = true) (hE : jE Z h a [v0] sh M (none, sh', M')) (hd : h + 1 ≤ d) (kk : lS g Z d k rt rest (L, S, sh', M') r) : lS g Z d k rt ((pc, ins, a, 1) :: rest) (L, v0 :: S, sh, M) r := by
  have hq := of_decide_eq_true hq
  exact ls_call hg hi hk hz (decide_eq_true ⟨⟨hq.1, by simp, by simp; exact hq.2.2⟩, hq.2.1⟩) hrc rfl rfl hE hd kk
theorem ls_c2i (hg : g.2.2.1 ≤ g.1 ∧ g.2.2.2 ≤ g.2.1) {ins : Instr} {h : Nat} {mi : jp_I} {w : Int32} {sh' : jp_S} {M' : jp_M} {v0 v1 : jp_V} (hi : jp_isK ins a = true) (hk : Z.1 a = some mi) (hz : mi.2.1 = 0 ∧ mi.2.2.1 = 0) (hq : decide (2 = mi.2.2.2.2.2.2.1 ∧ a < 9100 ∧ S.length ≤ 8) = true) (hrc : jp_rcv sh mi.2.2.2.1 mi.2.2.2.2.1 ([v0, v1] : List jp_V).head? = true) (hE : jE Z h a [v0, v1] sh M (some (.inl w), sh', M')) (hd : h + 1 ≤ d) (kk : lS g Z d k rt rest (L, .inl w :: S, sh', M') r) : lS g Z d k rt ((pc, ins, a, 2) :: rest) (L, v1 :: v0 :: S, sh, M) r := by
  have hq := of_decide_eq_true hq
  exact ls_call hg hi hk hz (decide_eq_true ⟨⟨hq.1, by simp, by simp; exact hq.2.2⟩, hq.2.1⟩) hrc rfl rfl hE hd kk
theorem ls_c2v (hg : g.2.2.1 ≤ g.1 ∧ g.2.2.2 ≤ g.2.1) {ins : Instr} {h : Nat} {mi : jp_I} {w : Int32} {sh' : jp_S} {M' : jp_M} {v0 v1 : jp_V} (hi : jp_isK ins a = true) (hk : Z.1 a = some mi) (hz : mi.2.1 = 0 ∧ mi.2.2.1 = 0) (hq : decide (2 = mi.2.2.2.2.2.2.1 ∧ a < 9100 ∧ S.length ≤ 8) = true) (hrc : jp_rcv sh mi.2.2.2.1 mi.2.2.2.2.1 ([v0, v1] : List jp_V).head? = true) (hE : jE Z h a [v0, v1] sh M (none, sh', M')) (hd : h + 1 ≤ d) (kk : lS g Z d k rt rest (L, S, sh', M') r) : lS g Z d k rt ((pc, ins, a, 2) :: rest) (L, v1 :: v0 :: S, sh, M) r := by
  have hq := of_decide_eq_true hq
  exact ls_call hg hi hk hz (decide_eq_true ⟨⟨hq.1, by simp, by simp; exact hq.2.2⟩, hq.2.1⟩) hrc rfl rfl hE hd kk
theorem ls_c3i (hg : g.2.2.1 ≤ g.1 ∧ g.2.2.2 ≤ g.2.1) {ins : Instr} {h : Nat} {mi : jp_I} {w : Int32} {sh' : jp_S} {M' : jp_M} {v0 v1 v2 : jp_V} (hi : jp_isK ins a = true) (hk : Z.1 a = some mi) (hz : mi.2.1 = 0 ∧ mi.2.2.1 = 0) (hq : decide (3 = mi.2.2.2.2.2.2.1 ∧ a < 9100 ∧ S.length ≤ 8) = true) (hrc : jp_rcv sh mi.2.2.2.1 mi.2.2.2.2.1 ([v0, v1, v2] : List jp_V).head? = true) (hE : jE Z h a [v0, v1, v2] sh M (some (.inl w), sh', M')) (hd : h + 1 ≤ d) (kk : lS g Z d k rt rest (L, .inl w :: S, sh', M') r) : lS g Z d k rt ((pc, ins, a, 3) :: rest) (L, v2 :: v1 :: v0 :: S, sh, M) r := by
  have hq := of_decide_eq_true hq
  exact ls_call hg hi hk hz (decide_eq_true ⟨⟨hq.1, by simp, by simp; exact hq.2.2⟩, hq.2.1⟩) hrc rfl rfl hE hd kk
theorem ls_c3v (hg : g.2.2.1 ≤ g.1 ∧ g.2.2.2 ≤ g.2.1) {ins : Instr} {h : Nat} {mi : jp_I} {w : Int32} {sh' : jp_S} {M' : jp_M} {v0 v1 v2 : jp_V} (hi : jp_isK ins a = true) (hk : Z.1 a = some mi) (hz : mi.2.1 = 0 ∧ mi.2.2.1 = 0) (hq : decide (3 = mi.2.2.2.2.2.2.1 ∧ a < 9100 ∧ S.length ≤ 8) = true) (hrc : jp_rcv sh mi.2.2.2.1 mi.2.2.2.2.1 ([v0, v1, v2] : List jp_V).head? = true) (hE : jE Z h a [v0, v1, v2] sh M (none, sh', M')) (hd : h + 1 ≤ d) (kk : lS g Z d k rt rest (L, S, sh', M') r) : lS g Z d k rt ((pc, ins, a, 3) :: rest) (L, v2 :: v1 :: v0 :: S, sh, M) r := by
  have hq := of_decide_eq_true hq
  exact ls_call hg hi hk hz (decide_eq_true ⟨⟨hq.1, by simp, by simp; exact hq.2.2⟩, hq.2.1⟩) hrc rfl rfl hE hd kk
theorem ls_c4i (hg : g.2.2.1 ≤ g.1 ∧ g.2.2.2 ≤ g.2.1) {ins : Instr} {h : Nat} {mi : jp_I} {w : Int32} {sh' : jp_S} {M' : jp_M} {v0 v1 v2 v3 : jp_V} (hi : jp_isK ins a = true) (hk : Z.1 a = some mi) (hz : mi.2.1 = 0 ∧ mi.2.2.1 = 0) (hq : decide (4 = mi.2.2.2.2.2.2.1 ∧ a < 9100 ∧ S.length ≤ 8) = true) (hrc : jp_rcv sh mi.2.2.2.1 mi.2.2.2.2.1 ([v0, v1, v2, v3] : List jp_V).head? = true) (hE : jE Z h a [v0, v1, v2, v3] sh M (some (.inl w), sh', M')) (hd : h + 1 ≤ d) (kk : lS g Z d k rt rest (L, .inl w :: S, sh', M') r) : lS g Z d k rt ((pc, ins, a, 4) :: rest) (L, v3 :: v2 :: v1 :: v0 :: S, sh, M) r := by
  have hq := of_decide_eq_true hq
  exact ls_call hg hi hk hz (decide_eq_true ⟨⟨hq.1, by simp, by simp; exact hq.2.2⟩, hq.2.1⟩) hrc rfl rfl hE hd kk
theorem ls_c4v (hg : g.2.2.1 ≤ g.1 ∧ g.2.2.2 ≤ g.2.1) {ins : Instr} {h : Nat} {mi : jp_I} {w : Int32} {sh' : jp_S} {M' : jp_M} {v0 v1 v2 v3 : jp_V} (hi : jp_isK ins a = true) (hk : Z.1 a = some mi) (hz : mi.2.1 = 0 ∧ mi.2.2.1 = 0) (hq : decide (4 = mi.2.2.2.2.2.2.1 ∧ a < 9100 ∧ S.length ≤ 8) = true) (hrc : jp_rcv sh mi.2.2.2.1 mi.2.2.2.2.1 ([v0, v1, v2, v3] : List jp_V).head? = true) (hE : jE Z h a [v0, v1, v2, v3] sh M (none, sh', M')) (hd : h + 1 ≤ d) (kk : lS g Z d k rt rest (L, S, sh', M') r) : lS g Z d k rt ((pc, ins, a, 4) :: rest) (L, v3 :: v2 :: v1 :: v0 :: S, sh, M) r := by
  have hq := of_decide_eq_true hq
  exact ls_call hg hi hk hz (decide_eq_true ⟨⟨hq.1, by simp, by simp; exact hq.2.2⟩, hq.2.1⟩) hrc rfl rfl hE hd kk
theorem ls_c5i (hg : g.2.2.1 ≤ g.1 ∧ g.2.2.2 ≤ g.2.1) {ins : Instr} {h : Nat} {mi : jp_I} {w : Int32} {sh' : jp_S} {M' : jp_M} {v0 v1 v2 v3 v4 : jp_V} (hi : jp_isK ins a = true) (hk : Z.1 a = some mi) (hz : mi.2.1 = 0 ∧ mi.2.2.1 = 0) (hq : decide (5 = mi.2.2.2.2.2.2.1 ∧ a < 9100 ∧ S.length ≤ 8) = true) (hrc : jp_rcv sh mi.2.2.2.1 mi.2.2.2.2.1 ([v0, v1, v2, v3, v4] : List jp_V).head? = true) (hE : jE Z h a [v0, v1, v2, v3, v4] sh M (some (.inl w), sh', M')) (hd : h + 1 ≤ d) (kk : lS g Z d k rt rest (L, .inl w :: S, sh', M') r) : lS g Z d k rt ((pc, ins, a, 5) :: rest) (L, v4 :: v3 :: v2 :: v1 :: v0 :: S, sh, M) r := by
  have hq := of_decide_eq_true hq
  exact ls_call hg hi hk hz (decide_eq_true ⟨⟨hq.1, by simp, by simp; exact hq.2.2⟩, hq.2.1⟩) hrc rfl rfl hE hd kk
theorem ls_c5v (hg : g.2.2.1 ≤ g.1 ∧ g.2.2.2 ≤ g.2.1) {ins : Instr} {h : Nat} {mi : jp_I} {w : Int32} {sh' : jp_S} {M' : jp_M} {v0 v1 v2 v3 v4 : jp_V} (hi : jp_isK ins a = true) (hk : Z.1 a = some mi) (hz : mi.2.1 = 0 ∧ mi.2.2.1 = 0) (hq : decide (5 = mi.2.2.2.2.2.2.1 ∧ a < 9100 ∧ S.length ≤ 8) = true) (hrc : jp_rcv sh mi.2.2.2.1 mi.2.2.2.2.1 ([v0, v1, v2, v3, v4] : List jp_V).head? = true) (hE : jE Z h a [v0, v1, v2, v3, v4] sh M (none, sh', M')) (hd : h + 1 ≤ d) (kk : lS g Z d k rt rest (L, S, sh', M') r) : lS g Z d k rt ((pc, ins, a, 5) :: rest) (L, v4 :: v3 :: v2 :: v1 :: v0 :: S, sh, M) r := by
  have hq := of_decide_eq_true hq
  exact ls_call hg hi hk hz (decide_eq_true ⟨⟨hq.1, by simp, by simp; exact hq.2.2⟩, hq.2.1⟩) hrc rfl rfl hE hd kk
theorem ls_c6i (hg : g.2.2.1 ≤ g.1 ∧ g.2.2.2 ≤ g.2.1) {ins : Instr} {h : Nat} {mi : jp_I} {w : Int32} {sh' : jp_S} {M' : jp_M} {v0 v1 v2 v3 v4 v5 : jp_V} (hi : jp_isK ins a = true) (hk : Z.1 a = some mi) (hz : mi.2.1 = 0 ∧ mi.2.2.1 = 0) (hq : decide (6 = mi.2.2.2.2.2.2.1 ∧ a < 9100 ∧ S.length ≤ 8) = true) (hrc : jp_rcv sh mi.2.2.2.1 mi.2.2.2.2.1 ([v0, v1, v2, v3, v4, v5] : List jp_V).head? = true) (hE : jE Z h a [v0, v1, v2, v3, v4, v5] sh M (some (.inl w), sh', M')) (hd : h + 1 ≤ d) (kk : lS g Z d k rt rest (L, .inl w :: S, sh', M') r) : lS g Z d k rt ((pc, ins, a, 6) :: rest) (L, v5 :: v4 :: v3 :: v2 :: v1 :: v0 :: S, sh, M) r := by
  have hq := of_decide_eq_true hq
  exact ls_call hg hi hk hz (decide_eq_true ⟨⟨hq.1, by simp, by simp; exact hq.2.2⟩, hq.2.1⟩) hrc rfl rfl hE hd kk
theorem ls_c6v (hg : g.2.2.1 ≤ g.1 ∧ g.2.2.2 ≤ g.2.1) {ins : Instr} {h : Nat} {mi : jp_I} {w : Int32} {sh' : jp_S} {M' : jp_M} {v0 v1 v2 v3 v4 v5 : jp_V} (hi : jp_isK ins a = true) (hk : Z.1 a = some mi) (hz : mi.2.1 = 0 ∧ mi.2.2.1 = 0) (hq : decide (6 = mi.2.2.2.2.2.2.1 ∧ a < 9100 ∧ S.length ≤ 8) = true) (hrc : jp_rcv sh mi.2.2.2.1 mi.2.2.2.2.1 ([v0, v1, v2, v3, v4, v5] : List jp_V).head? = true) (hE : jE Z h a [v0, v1, v2, v3, v4, v5] sh M (none, sh', M')) (hd : h + 1 ≤ d) (kk : lS g Z d k rt rest (L, S, sh', M') r) : lS g Z d k rt ((pc, ins, a, 6) :: rest) (L, v5 :: v4 :: v3 :: v2 :: v1 :: v0 :: S, sh, M) r := by
  have hq := of_decide_eq_true hq
  exact ls_call hg hi hk hz (decide_eq_true ⟨⟨hq.1, by simp, by simp; exact hq.2.2⟩, hq.2.1⟩) hrc rfl rfl hE hd kk
theorem ls_c7i (hg : g.2.2.1 ≤ g.1 ∧ g.2.2.2 ≤ g.2.1) {ins : Instr} {h : Nat} {mi : jp_I} {w : Int32} {sh' : jp_S} {M' : jp_M} {v0 v1 v2 v3 v4 v5 v6 : jp_V} (hi : jp_isK ins a = true) (hk : Z.1 a = some mi) (hz : mi.2.1 = 0 ∧ mi.2.2.1 = 0) (hq : decide (7 = mi.2.2.2.2.2.2.1 ∧ a < 9100 ∧ S.length ≤ 8) = true) (hrc : jp_rcv sh mi.2.2.2.1 mi.2.2.2.2.1 ([v0, v1, v2, v3, v4, v5, v6] : List jp_V).head? = true) (hE : jE Z h a [v0, v1, v2, v3, v4, v5, v6] sh M (some (.inl w), sh', M')) (hd : h + 1 ≤ d) (kk : lS g Z d k rt rest (L, .inl w :: S, sh', M') r) : lS g Z d k rt ((pc, ins, a, 7) :: rest) (L, v6 :: v5 :: v4 :: v3 :: v2 :: v1 :: v0 :: S, sh, M) r := by
  have hq := of_decide_eq_true hq
  exact ls_call hg hi hk hz (decide_eq_true ⟨⟨hq.1, by simp, by simp; exact hq.2.2⟩, hq.2.1⟩) hrc rfl rfl hE hd kk
theorem ls_c7v (hg : g.2.2.1 ≤ g.1 ∧ g.2.2.2 ≤ g.2.1) {ins : Instr} {h : Nat} {mi : jp_I} {w : Int32} {sh' : jp_S} {M' : jp_M} {v0 v1 v2 v3 v4 v5 v6 : jp_V} (hi : jp_isK ins a = true) (hk : Z.1 a = some mi) (hz : mi.2.1 = 0 ∧ mi.2.2.1 = 0) (hq : decide (7 = mi.2.2.2.2.2.2.1 ∧ a < 9100 ∧ S.length ≤ 8) = true) (hrc : jp_rcv sh mi.2.2.2.1 mi.2.2.2.2.1 ([v0, v1, v2, v3, v4, v5, v6] : List jp_V).head? = true) (hE : jE Z h a [v0, v1, v2, v3, v4, v5, v6] sh M (none, sh', M')) (hd : h + 1 ≤ d) (kk : lS g Z d k rt rest (L, S, sh', M') r) : lS g Z d k rt ((pc, ins, a, 7) :: rest) (L, v6 :: v5 :: v4 :: v3 :: v2 :: v1 :: v0 :: S, sh, M) r := by
  have hq := of_decide_eq_true hq
  exact ls_call hg hi hk hz (decide_eq_true ⟨⟨hq.1, by simp, by simp; exact hq.2.2⟩, hq.2.1⟩) hrc rfl rfl hE hd kk
theorem ls_c8i (hg : g.2.2.1 ≤ g.1 ∧ g.2.2.2 ≤ g.2.1) {ins : Instr} {h : Nat} {mi : jp_I} {w : Int32} {sh' : jp_S} {M' : jp_M} {v0 v1 v2 v3 v4 v5 v6 v7 : jp_V} (hi : jp_isK ins a = true) (hk : Z.1 a = some mi) (hz : mi.2.1 = 0 ∧ mi.2.2.1 = 0) (hq : decide (8 = mi.2.2.2.2.2.2.1 ∧ a < 9100 ∧ S.length ≤ 8) = true) (hrc : jp_rcv sh mi.2.2.2.1 mi.2.2.2.2.1 ([v0, v1, v2, v3, v4, v5, v6, v7] : List jp_V).head? = true) (hE : jE Z h a [v0, v1, v2, v3, v4, v5, v6, v7] sh M (some (.inl w), sh', M')) (hd : h + 1 ≤ d) (kk : lS g Z d k rt rest (L, .inl w :: S, sh', M') r) : lS g Z d k rt ((pc, ins, a, 8) :: rest) (L, v7 :: v6 :: v5 :: v4 :: v3 :: v2 :: v1 :: v0 :: S, sh, M) r := by
  have hq := of_decide_eq_true hq
  exact ls_call hg hi hk hz (decide_eq_true ⟨⟨hq.1, by simp, by simp; exact hq.2.2⟩, hq.2.1⟩) hrc rfl rfl hE hd kk
theorem ls_c8v (hg : g.2.2.1 ≤ g.1 ∧ g.2.2.2 ≤ g.2.1) {ins : Instr} {h : Nat} {mi : jp_I} {w : Int32} {sh' : jp_S} {M' : jp_M} {v0 v1 v2 v3 v4 v5 v6 v7 : jp_V} (hi : jp_isK ins a = true) (hk : Z.1 a = some mi) (hz : mi.2.1 = 0 ∧ mi.2.2.1 = 0) (hq : decide (8 = mi.2.2.2.2.2.2.1 ∧ a < 9100 ∧ S.length ≤ 8) = true) (hrc : jp_rcv sh mi.2.2.2.1 mi.2.2.2.2.1 ([v0, v1, v2, v3, v4, v5, v6, v7] : List jp_V).head? = true) (hE : jE Z h a [v0, v1, v2, v3, v4, v5, v6, v7] sh M (none, sh', M')) (hd : h + 1 ≤ d) (kk : lS g Z d k rt rest (L, S, sh', M') r) : lS g Z d k rt ((pc, ins, a, 8) :: rest) (L, v7 :: v6 :: v5 :: v4 :: v3 :: v2 :: v1 :: v0 :: S, sh, M) r := by
  have hq := of_decide_eq_true hq
  exact ls_call hg hi hk hz (decide_eq_true ⟨⟨hq.1, by simp, by simp; exact hq.2.2⟩, hq.2.1⟩) hrc rfl rfl hE hd kk
end LWs
