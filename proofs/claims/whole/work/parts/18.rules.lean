/-! WALKING THE PURE MACHINE: what a stretch of code comes to, from some fuel on -/
def jp_T (Z : jp_P) (n d : Nat) : jp_K := fun k' as sh M => if 9100 ≤ k' then (if 6 ≤ d then (match Z.2.2.2.1 k' as with
        | some v => some (v, sh, M)
        | none => none) else none) else (match d, Z.1 k' with
        | d' + 1, some mi' => if as.length ≤ mi'.1 then jp_run Z n d' k' 0 (jp_ent mi'.1 as, [], sh, M) 0 0 else none
        | _, _ => none)
theorem jp_run_succ (Z : jp_P) (n d k pc : Nat) (X : jp_X) (nc ns : Nat) : jp_run Z (n + 1) d k pc X nc ns = match Z.1 k with
    | none => none
    | some mi => jp_go Z mi.2.1 mi.2.2.1 mi.2.2.2.2.2.1 (jp_run Z n d k) (jp_T Z n d) (jp_sfx mi.2.2.2.2.2.2.2 pc) X nc ns := rfl
/-- from some fuel on the code comes to r -/
def jS (Z : jp_P) (d k rt : Nat) (ops : List jp_O) (X : jp_X) (r : jp_R) : Prop := ∃ N, ∀ n, N ≤ n → jp_go Z 0 0 rt (jp_run Z n d k) (jp_T Z n d) ops X 0 0 = some r
def jR (Z : jp_P) (d k pc : Nat) (X : jp_X) (r : jp_R) : Prop := ∃ N, ∀ n, N ≤ n → jp_run Z n d k pc X 0 0 = some r
/-- a method at its arguments and its heap comes to r, at every depth from h on -/
def jE (Z : jp_P) (h k : Nat) (as : List jp_V) (sh : jp_S) (M : jp_M) (r : jp_R) : Prop := ∃ mi, Z.1 k = some mi ∧ as.length ≤ mi.1 ∧ ∀ d, h ≤ d → jR Z d k 0 (jp_ent mi.1 as, [], sh, M) r
def jp_smp (ins : Instr) (a : Nat) : Bool := match ins with
  | .goto _ | .if_icmp _ _ | .ifCond _ _ | .ifnull _ | .ifnonnull _ | .tableswitch _ _ _ _ | .lookupswitch _ _ | .ireturn | .return_ | .new _ | .newarray _ | .anewarray _ | .invokevirtual _ => false
  | .invokestatic _ => decide (9001 ≤ a ∧ a ≤ 9012)
  | .invokespecial _ => decide (a = 9000)
  | _ => true
section JW
variable {Z : jp_P} {d k rt pc a b : Nat} {rest : List jp_O} {L : List (Option jp_V)} {S : List jp_V} {sh : jp_S} {M : jp_M} {r : jp_R}
theorem jR_in {l : List jp_O} {X : jp_X} {mi : jp_I} (hk : Z.1 k = some mi) (h0 : mi.2.1 = 0 ∧ mi.2.2.1 = 0 ∧ mi.2.2.2.2.2.1 = rt) (hs : jp_sfx mi.2.2.2.2.2.2.2 pc = l) (h : jS Z d k rt l X r) : jR Z d k pc X r := by
  obtain ⟨N, hN⟩ := h
  obtain ⟨h1, h2, h3⟩ := h0
  refine ⟨N + 1, fun n hn => ?_⟩
  obtain ⟨n, rfl⟩ : ∃ m, n = m + 1 := ⟨n - 1, by omega⟩
  simp only [jp_run_succ, hk, h1, h2, h3, hs]
  exact hN n (by omega)
theorem jS_out {l : List jp_O} {X : jp_X} {mi : jp_I} (hk : Z.1 k = some mi) (h0 : mi.2.1 = 0 ∧ mi.2.2.1 = 0 ∧ mi.2.2.2.2.2.1 = rt) (hs : jp_sfx mi.2.2.2.2.2.2.2 pc = l) (h : jR Z d k pc X r) : jS Z d k rt l X r := by
  obtain ⟨N, hN⟩ := h
  obtain ⟨h1, h2, h3⟩ := h0
  refine ⟨N, fun n hn => ?_⟩
  have := hN (n + 1) (by omega)
  simp only [jp_run_succ, hk, h1, h2, h3, hs] at this
  exact this
theorem jE_in {h : Nat} {as : List jp_V} {mi : jp_I} {L0 : List (Option jp_V)} (hk : Z.1 k = some mi) (has : as.length ≤ mi.1) (hL : jp_ent mi.1 as = L0) (hd : ∀ d, h ≤ d → jR Z d k 0 (L0, [], sh, M) r) : jE Z h k as sh M r := ⟨mi, hk, has, fun d hh => by rw [hL]; exact hd d hh⟩
theorem jE_mono {h h' : Nat} {as : List jp_V} (hh : h ≤ h') (hE : jE Z h k as sh M r) : jE Z h' k as sh M r := by
  obtain ⟨mi, h1, h2, h3⟩ := hE
  exact ⟨mi, h1, h2, fun d hd => h3 d (by omega)⟩
theorem jS_st {ins : Instr} {X Y : jp_X} (hs : jp_smp ins a = true) (h : jp_st Z.2.1 Z.2.2.2.2 ins a b X = some Y) (kk : jS Z d k rt rest Y r) : jS Z d k rt ((pc, ins, a, b) :: rest) X r := by
  obtain ⟨N, hN⟩ := kk
  refine ⟨N, fun n hn => ?_⟩
  have := hN n hn
  cases ins <;> first | (cases hs; done) | (simp only [jp_go, h]; exact this) | skip
  · have ha : a = 9000 := of_decide_eq_true hs
    simp only [jp_go, if_pos ha, h]; exact this
  · have ha : 9001 ≤ a ∧ a ≤ 9012 := of_decide_eq_true hs
    simp only [jp_go, if_pos ha, h]; exact this
theorem js_iconst {n : Int} {v : Int32} (hv : jp_i n = v) (kk : jS Z d k rt rest (L, .inl v :: S, sh, M) r) : jS Z d k rt ((pc, .iconst n, a, b) :: rest) (L, S, sh, M) r := jS_st rfl (by simp only [jp_st, hv]) kk
theorem js_bipush {n : Int} {v : Int32} (hv : jp_i n = v) (kk : jS Z d k rt rest (L, .inl v :: S, sh, M) r) : jS Z d k rt ((pc, .bipush n, a, b) :: rest) (L, S, sh, M) r := jS_st rfl (by simp only [jp_st, hv]) kk
theorem js_sipush {n : Int} {v : Int32} (hv : jp_i n = v) (kk : jS Z d k rt rest (L, .inl v :: S, sh, M) r) : jS Z d k rt ((pc, .sipush n, a, b) :: rest) (L, S, sh, M) r := jS_st rfl (by simp only [jp_st, hv]) kk
theorem js_ldc {x : Nat} {v : Int32} (hv : Int32.ofNat a = v) (kk : jS Z d k rt rest (L, .inl v :: S, sh, M) r) : jS Z d k rt ((pc, .ldc x, a, 0) :: rest) (L, S, sh, M) r := jS_st rfl (by simp only [jp_st, hv, if_pos]) kk
theorem js_ldcS {x : Nat} (kk : jS Z d k rt rest (L, .inr (some a) :: S, sh, M) r) : jS Z d k rt ((pc, .ldc x, a, 1) :: rest) (L, S, sh, M) r := jS_st rfl rfl kk
theorem js_ldcw {x : Nat} {v : Int32} (hv : Int32.ofNat a = v) (kk : jS Z d k rt rest (L, .inl v :: S, sh, M) r) : jS Z d k rt ((pc, .ldc_w x, a, b) :: rest) (L, S, sh, M) r := jS_st rfl (by simp only [jp_st, hv]) kk
theorem js_iload {i : Nat} {x : Int32} (h : jp_ld L i = some (.inl x)) (kk : jS Z d k rt rest (L, .inl x :: S, sh, M) r) : jS Z d k rt ((pc, .iload i, a, b) :: rest) (L, S, sh, M) r := jS_st rfl (by simp only [jp_st, jp_ildX, h]) kk
theorem js_iload_n {i : Fin 4} {x : Int32} (h : jp_ld L i = some (.inl x)) (kk : jS Z d k rt rest (L, .inl x :: S, sh, M) r) : jS Z d k rt ((pc, .iload_n i, a, b) :: rest) (L, S, sh, M) r := jS_st rfl (by simp only [jp_st, jp_ildX, h]) kk
theorem js_aload {i q : Nat} (h : jp_ld L i = some (.inr (some q))) (kk : jS Z d k rt rest (L, .inr (some q) :: S, sh, M) r) : jS Z d k rt ((pc, .aload i, a, b) :: rest) (L, S, sh, M) r := jS_st rfl (by simp only [jp_st, jp_aldX, h]) kk
theorem js_aload_n {i : Fin 4} {q : Nat} (h : jp_ld L i = some (.inr (some q))) (kk : jS Z d k rt rest (L, .inr (some q) :: S, sh, M) r) : jS Z d k rt ((pc, .aload_n i, a, b) :: rest) (L, S, sh, M) r := jS_st rfl (by simp only [jp_st, jp_aldX, h]) kk
theorem js_istore {i : Nat} {x : Int32} {L' : List (Option jp_V)} (hi : decide (i < L.length) = true) (hL : L.set i (some (.inl x)) = L') (kk : jS Z d k rt rest (L', S, sh, M) r) : jS Z d k rt ((pc, .istore i, a, b) :: rest) (L, .inl x :: S, sh, M) r := jS_st rfl (by simp only [jp_st, jp_istX, hL, if_pos (of_decide_eq_true hi)]) kk
theorem js_istore_n {i : Fin 4} {x : Int32} {L' : List (Option jp_V)} (hi : decide (i.val < L.length) = true) (hL : L.set i (some (.inl x)) = L') (kk : jS Z d k rt rest (L', S, sh, M) r) : jS Z d k rt ((pc, .istore_n i, a, b) :: rest) (L, .inl x :: S, sh, M) r := jS_st rfl (by simp only [jp_st, jp_istX, hL, if_pos (of_decide_eq_true hi)]) kk
theorem js_astore {i q : Nat} {L' : List (Option jp_V)} (hi : decide (i < L.length) = true) (hL : L.set i (some (.inr (some q))) = L') (kk : jS Z d k rt rest (L', S, sh, M) r) : jS Z d k rt ((pc, .astore i, a, b) :: rest) (L, .inr (some q) :: S, sh, M) r := jS_st rfl (by simp only [jp_st, jp_astX, hL, if_pos (of_decide_eq_true hi)]) kk
theorem js_astore_n {i : Fin 4} {q : Nat} {L' : List (Option jp_V)} (hi : decide (i.val < L.length) = true) (hL : L.set i (some (.inr (some q))) = L') (kk : jS Z d k rt rest (L', S, sh, M) r) : jS Z d k rt ((pc, .astore_n i, a, b) :: rest) (L, .inr (some q) :: S, sh, M) r := jS_st rfl (by simp only [jp_st, jp_astX, hL, if_pos (of_decide_eq_true hi)]) kk
theorem js_iinc {i : Nat} {n : Int} {x v : Int32} {L' : List (Option jp_V)} (h : jp_ld L i = some (.inl x)) (hv : jp_i n = v) (hi : decide (i < L.length) = true) (hL : L.set i (some (.inl (x + v))) = L') (kk : jS Z d k rt rest (L', S, sh, M) r) : jS Z d k rt ((pc, .iinc i n, a, b) :: rest) (L, S, sh, M) r := jS_st rfl (by simp only [jp_st, jp_incX, h, hv, hL, if_pos (of_decide_eq_true hi)]) kk
theorem js_dup {v : jp_V} (kk : jS Z d k rt rest (L, v :: v :: S, sh, M) r) : jS Z d k rt ((pc, .dup, a, b) :: rest) (L, v :: S, sh, M) r := jS_st rfl rfl kk
theorem js_dup2 {v w : jp_V} (kk : jS Z d k rt rest (L, v :: w :: v :: w :: S, sh, M) r) : jS Z d k rt ((pc, .dup2, a, b) :: rest) (L, v :: w :: S, sh, M) r := jS_st rfl rfl kk
theorem js_pop {v : jp_V} (kk : jS Z d k rt rest (L, S, sh, M) r) : jS Z d k rt ((pc, .pop, a, b) :: rest) (L, v :: S, sh, M) r := jS_st rfl rfl kk
variable {x y : Int32}
theorem js_iadd (kk : jS Z d k rt rest (L, .inl (x + y) :: S, sh, M) r) : jS Z d k rt ((pc, .iadd, a, b) :: rest) (L, .inl y :: .inl x :: S, sh, M) r := jS_st rfl rfl kk
theorem js_isub (kk : jS Z d k rt rest (L, .inl (x - y) :: S, sh, M) r) : jS Z d k rt ((pc, .isub, a, b) :: rest) (L, .inl y :: .inl x :: S, sh, M) r := jS_st rfl rfl kk
theorem js_imul (kk : jS Z d k rt rest (L, .inl (x * y) :: S, sh, M) r) : jS Z d k rt ((pc, .imul, a, b) :: rest) (L, .inl y :: .inl x :: S, sh, M) r := jS_st rfl rfl kk
theorem js_idiv (hy : ¬ y = 0) (kk : jS Z d k rt rest (L, .inl (x / y) :: S, sh, M) r) : jS Z d k rt ((pc, .idiv, a, b) :: rest) (L, .inl y :: .inl x :: S, sh, M) r := jS_st rfl (by simp only [jp_st, jp_dvd, if_neg hy]) kk
theorem js_irem (hy : ¬ y = 0) (kk : jS Z d k rt rest (L, .inl (x % y) :: S, sh, M) r) : jS Z d k rt ((pc, .irem, a, b) :: rest) (L, .inl y :: .inl x :: S, sh, M) r := jS_st rfl (by simp only [jp_st, jp_dvd, if_neg hy]) kk
theorem js_ishl (kk : jS Z d k rt rest (L, .inl (x <<< (y &&& 31)) :: S, sh, M) r) : jS Z d k rt ((pc, .ishl, a, b) :: rest) (L, .inl y :: .inl x :: S, sh, M) r := jS_st rfl rfl kk
theorem js_ishr (kk : jS Z d k rt rest (L, .inl (x >>> (y &&& 31)) :: S, sh, M) r) : jS Z d k rt ((pc, .ishr, a, b) :: rest) (L, .inl y :: .inl x :: S, sh, M) r := jS_st rfl rfl kk
def jp_ushr (x y : Int32) : Int32 := (x.toUInt32 >>> (y.toUInt32 &&& Int32.toUInt32 31)).toInt32
theorem js_iushr (kk : jS Z d k rt rest (L, .inl (jp_ushr x y) :: S, sh, M) r) : jS Z d k rt ((pc, .iushr, a, b) :: rest) (L, .inl y :: .inl x :: S, sh, M) r := jS_st rfl rfl kk
theorem js_iand (kk : jS Z d k rt rest (L, .inl (x &&& y) :: S, sh, M) r) : jS Z d k rt ((pc, .iand, a, b) :: rest) (L, .inl y :: .inl x :: S, sh, M) r := jS_st rfl rfl kk
theorem js_ior (kk : jS Z d k rt rest (L, .inl (x ||| y) :: S, sh, M) r) : jS Z d k rt ((pc, .ior, a, b) :: rest) (L, .inl y :: .inl x :: S, sh, M) r := jS_st rfl rfl kk
theorem js_ixor (kk : jS Z d k rt rest (L, .inl (x ^^^ y) :: S, sh, M) r) : jS Z d k rt ((pc, .ixor, a, b) :: rest) (L, .inl y :: .inl x :: S, sh, M) r := jS_st rfl rfl kk
theorem js_ineg (kk : jS Z d k rt rest (L, .inl (-x) :: S, sh, M) r) : jS Z d k rt ((pc, .ineg, a, b) :: rest) (L, .inl x :: S, sh, M) r := jS_st rfl rfl kk
theorem js_i2b (kk : jS Z d k rt rest (L, .inl (x.toInt8.toInt32) :: S, sh, M) r) : jS Z d k rt ((pc, .i2b, a, b) :: rest) (L, .inl x :: S, sh, M) r := jS_st rfl rfl kk
theorem js_i2s (kk : jS Z d k rt rest (L, .inl (x.toInt16.toInt32) :: S, sh, M) r) : jS Z d k rt ((pc, .i2s, a, b) :: rest) (L, .inl x :: S, sh, M) r := jS_st rfl rfl kk
theorem js_i2c (kk : jS Z d k rt rest (L, .inl ((x.toUInt32 % 65536).toInt32) :: S, sh, M) r) : jS Z d k rt ((pc, .i2c, a, b) :: rest) (L, .inl x :: S, sh, M) r := jS_st rfl rfl kk
variable {q n i t z : Nat} {ii : Int32} {fs : List (Option (Option Nat))} {l : List (Option Nat)}
theorem js_geti (ha : decide (a < 100) = true) (hc : sh[q]? = some (.inr (.inr (a, fs)))) (hf : fs[b]? = some none) (kk : jS Z d k rt rest (L, .inl (M q b) :: S, sh, M) r) : jS Z d k rt ((pc, .getfield z, a, b) :: rest) (L, .inr (some q) :: S, sh, M) r := by
  have ha := of_decide_eq_true ha
  exact jS_st rfl (by simp only [jp_st, jp_getX, if_neg (show ¬ 100 ≤ a by omega), hc, if_pos, hf, jp_fval]) kk
theorem js_getr {o : Option Nat} (ha : decide (a < 100) = true) (hc : sh[q]? = some (.inr (.inr (a, fs)))) (hf : fs[b]? = some (some o)) (kk : jS Z d k rt rest (L, .inr o :: S, sh, M) r) : jS Z d k rt ((pc, .getfield z, a, b) :: rest) (L, .inr (some q) :: S, sh, M) r := by
  have ha := of_decide_eq_true ha
  exact jS_st rfl (by simp only [jp_st, jp_getX, if_neg (show ¬ 100 ≤ a by omega), hc, if_pos, hf, jp_fval]) kk
theorem js_getK {v : jp_V} (ha : decide (100 ≤ a) = true) (hc : Z.2.2.2.2.2.1 q (a - 100) = some v) (kk : jS Z d k rt rest (L, v :: S, sh, M) r) : jS Z d k rt ((pc, .getfield z, a, b) :: rest) (L, .inr (some q) :: S, sh, M) r :=
  jS_st rfl (by simp only [jp_st, jp_getX, if_pos (of_decide_eq_true ha), hc]) kk
theorem js_gets {v : jp_V} (hc : Z.2.2.2.2.2.2 a = some v) (kk : jS Z d k rt rest (L, v :: S, sh, M) r) : jS Z d k rt ((pc, .getstatic z, a, b) :: rest) (L, S, sh, M) r := jS_st rfl (by simp only [jp_st, hc]) kk
theorem js_puti (hc : sh[q]? = some (.inr (.inr (a, fs)))) (hf : fs[b]? = some none) (hz : Z.2.1 a b = 0 ∨ (Z.2.1 a b = 1 ∧ (x = 0 ∨ x = 1))) (kk : jS Z d k rt rest (L, S, sh, jp_set M q (upd (M q) b x)) r) : jS Z d k rt ((pc, .putfield z, a, b) :: rest) (L, .inl x :: .inr (some q) :: S, sh, M) r :=
  jS_st rfl (by simp only [jp_st, jp_putX, hc, if_pos, hf, if_pos hz]) kk
theorem js_putr {o : Option Nat} {p : Nat} {sh' : jp_S} (hc : sh[q]? = some (.inr (.inr (a, fs)))) (hf : fs[b]? = some (some o)) (hz : Z.2.1 a b = 2) (hs : sh.set q (.inr (.inr (a, fs.set b (some (some p))))) = sh') (kk : jS Z d k rt rest (L, S, sh', M) r) : jS Z d k rt ((pc, .putfield z, a, b) :: rest) (L, .inr (some p) :: .inr (some q) :: S, sh, M) r :=
  jS_st rfl (by simp only [jp_st, jp_putX, hc, if_pos, hf, hz, hs]) kk
theorem js_iald (hc : sh[q]? = some (.inl (0, n))) (hi : jp_in ii n) (kk : jS Z d k rt rest (L, .inl (M q ii.toNatClampNeg) :: S, sh, M) r) : jS Z d k rt ((pc, .iaload, a, b) :: rest) (L, .inl ii :: .inr (some q) :: S, sh, M) r :=
  jS_st rfl (by simp only [jp_st, jp_xldX, hc]; exact if_pos ⟨trivial, hi⟩) kk
theorem js_bald (hc : sh[q]? = some (.inl (1, n))) (hi : jp_in ii n) (kk : jS Z d k rt rest (L, .inl ((M q ii.toNatClampNeg).toInt8.toInt32) :: S, sh, M) r) : jS Z d k rt ((pc, .baload, a, b) :: rest) (L, .inl ii :: .inr (some q) :: S, sh, M) r :=
  jS_st rfl (by simp only [jp_st, jp_xldX, hc]; exact if_pos ⟨trivial, hi⟩) kk
theorem js_sald (hc : sh[q]? = some (.inl (2, n))) (hi : jp_in ii n) (kk : jS Z d k rt rest (L, .inl ((M q ii.toNatClampNeg).toInt16.toInt32) :: S, sh, M) r) : jS Z d k rt ((pc, .saload, a, b) :: rest) (L, .inl ii :: .inr (some q) :: S, sh, M) r :=
  jS_st rfl (by simp only [jp_st, jp_xldX, hc]; exact if_pos ⟨trivial, hi⟩) kk
theorem js_ialdK {f : Nat → Int32} (hc : sh[q]? = none) (hk : Z.2.2.2.2.1 q = some (0, n, f)) (hi : jp_in ii n) (kk : jS Z d k rt rest (L, .inl (f ii.toNatClampNeg) :: S, sh, M) r) : jS Z d k rt ((pc, .iaload, a, b) :: rest) (L, .inl ii :: .inr (some q) :: S, sh, M) r :=
  jS_st rfl (by simp only [jp_st, jp_xldX, hc, hk]; exact if_pos ⟨trivial, hi⟩) kk
theorem js_baldK {f : Nat → Int32} (hc : sh[q]? = none) (hk : Z.2.2.2.2.1 q = some (1, n, f)) (hi : jp_in ii n) (kk : jS Z d k rt rest (L, .inl (f ii.toNatClampNeg) :: S, sh, M) r) : jS Z d k rt ((pc, .baload, a, b) :: rest) (L, .inl ii :: .inr (some q) :: S, sh, M) r :=
  jS_st rfl (by simp only [jp_st, jp_xldX, hc, hk]; exact if_pos ⟨trivial, hi⟩) kk
theorem js_iast (hc : sh[q]? = some (.inl (0, n))) (hi : jp_in ii n) (kk : jS Z d k rt rest (L, S, sh, jp_set M q (upd (M q) ii.toNatClampNeg x)) r) : jS Z d k rt ((pc, .iastore, a, b) :: rest) (L, .inl x :: .inl ii :: .inr (some q) :: S, sh, M) r :=
  jS_st rfl (by simp only [jp_st, jp_xstX, hc]; exact if_pos ⟨trivial, hi⟩) kk
theorem js_bast (hc : sh[q]? = some (.inl (1, n))) (hi : jp_in ii n) (kk : jS Z d k rt rest (L, S, sh, jp_set M q (upd (M q) ii.toNatClampNeg x)) r) : jS Z d k rt ((pc, .bastore, a, b) :: rest) (L, .inl x :: .inl ii :: .inr (some q) :: S, sh, M) r :=
  jS_st rfl (by simp only [jp_st, jp_xstX, hc]; exact if_pos ⟨trivial, hi⟩) kk
theorem js_sast (hc : sh[q]? = some (.inl (2, n))) (hi : jp_in ii n) (kk : jS Z d k rt rest (L, S, sh, jp_set M q (upd (M q) ii.toNatClampNeg x)) r) : jS Z d k rt ((pc, .sastore, a, b) :: rest) (L, .inl x :: .inl ii :: .inr (some q) :: S, sh, M) r :=
  jS_st rfl (by simp only [jp_st, jp_xstX, hc]; exact if_pos ⟨trivial, hi⟩) kk
theorem js_aald {o : Option Nat} (hc : sh[q]? = some (.inr (.inl l))) (hi : jp_in ii l.length) (ho : l.getD ii.toNatClampNeg none = o) (kk : jS Z d k rt rest (L, .inr o :: S, sh, M) r) : jS Z d k rt ((pc, .aaload, a, b) :: rest) (L, .inl ii :: .inr (some q) :: S, sh, M) r :=
  jS_st rfl (by simp only [jp_st, jp_aaldX, hc, if_pos hi, ho]) kk
theorem js_alen {v : Int32} (hc : sh[q]? = some (.inl (t, n))) (ht : decide (t < 3) = true) (hv : Int32.ofNat n = v) (kk : jS Z d k rt rest (L, .inl v :: S, sh, M) r) : jS Z d k rt ((pc, .arraylength, a, b) :: rest) (L, .inr (some q) :: S, sh, M) r :=
  jS_st rfl (by simp only [jp_st, jp_lenX, hc, if_pos (of_decide_eq_true ht), hv]) kk
theorem js_alenK {v : Int32} {f : Nat → Int32} (hc : sh[q]? = none) (hk : Z.2.2.2.2.1 q = some (t, n, f)) (hv : Int32.ofNat n = v) (kk : jS Z d k rt rest (L, .inl v :: S, sh, M) r) : jS Z d k rt ((pc, .arraylength, a, b) :: rest) (L, .inr (some q) :: S, sh, M) r :=
  jS_st rfl (by simp only [jp_st, jp_lenX, hc, hk, hv]) kk
theorem js_copy {p n0 n1 : Nat} {sp dp m : Int32} (hc : sh[q]? = some (.inl (t, n0))) (hd : sh[p]? = some (.inl (t, n1))) (ht : decide (t = 0 ∨ t = 2) = true) (h1 : 0 ≤ sp ∧ 0 ≤ dp ∧ 0 ≤ m) (h2 : sp.toNatClampNeg + m.toNatClampNeg ≤ n0 ∧ dp.toNatClampNeg + m.toNatClampNeg ≤ n1) (h8 : decide (S.length ≤ 8) = true)
    (kk : jS Z d k rt rest (L, S, sh, jp_set M p (va_cpy (M q) (M p) sp.toNatClampNeg dp.toNatClampNeg m.toNatClampNeg)) r) : jS Z d k rt ((pc, .invokestatic z, 9001, b) :: rest) (L, .inl m :: .inl dp :: .inr (some p) :: .inl sp :: .inr (some q) :: S, sh, M) r :=
  jS_st rfl (by simp only [jp_st, if_pos, jp_cpyX, hc, hd]; exact if_pos ⟨⟨trivial, of_decide_eq_true ht⟩, h1, h2, of_decide_eq_true h8⟩) kk
theorem js_max (h8 : decide (S.length ≤ 8) = true) (kk : jS Z d k rt rest (L, .inl (jp_max x y) :: S, sh, M) r) : jS Z d k rt ((pc, .invokestatic z, 9010, b) :: rest) (L, .inl y :: .inl x :: S, sh, M) r := jS_st rfl (by simp only [jp_st, jp_mth2, if_pos (of_decide_eq_true h8)]; rfl) kk
theorem js_min (h8 : decide (S.length ≤ 8) = true) (kk : jS Z d k rt rest (L, .inl (jp_min x y) :: S, sh, M) r) : jS Z d k rt ((pc, .invokestatic z, 9011, b) :: rest) (L, .inl y :: .inl x :: S, sh, M) r := jS_st rfl (by simp only [jp_st, jp_mth2, if_pos (of_decide_eq_true h8)]; rfl) kk
theorem js_abs (h8 : decide (S.length ≤ 8) = true) (kk : jS Z d k rt rest (L, .inl (jp_abs x) :: S, sh, M) r) : jS Z d k rt ((pc, .invokestatic z, 9012, b) :: rest) (L, .inl x :: S, sh, M) r := jS_st rfl (by simp only [jp_st, jp_mth1, if_pos (of_decide_eq_true h8)]; rfl) kk
theorem js_go {X Y : jp_X} {o : jp_O} (h : ∀ (J : jp_J) (C : jp_K), jp_go Z 0 0 rt J C (o :: rest) X 0 0 = J n Y 0 0) (kk : jR Z d k n Y r) : jS Z d k rt (o :: rest) X r := by
  obtain ⟨N, hN⟩ := kk
  exact ⟨N, fun m hm => by rw [h]; exact hN m hm⟩
theorem js_on {X Y : jp_X} {o : jp_O} (h : ∀ (J : jp_J) (C : jp_K), jp_go Z 0 0 rt J C (o :: rest) X 0 0 = jp_go Z 0 0 rt J C rest Y 0 0) (kk : jS Z d k rt rest Y r) : jS Z d k rt (o :: rest) X r := by
  obtain ⟨N, hN⟩ := kk
  exact ⟨N, fun m hm => by rw [h]; exact hN m hm⟩
variable {off : Int} {tgt : Nat}
theorem js_goto {X : jp_X} (hj : jp_okJ pc off = true) (ht : jp_tgt pc off = tgt) (kk : jR Z d k tgt X r) : jS Z d k rt ((pc, .goto off, a, b) :: rest) X r := js_go (fun J C => by simp only [jp_go, hj, ht, if_true]) kk
theorem js_icmp {c : ClassFile.Cond} (hj : jp_okJ pc off = true) (ht : jp_tgt pc off = tgt) (kt : jp_c c x y = true → jR Z d k tgt (L, S, sh, M) r) (kf : ¬ jp_c c x y = true → jS Z d k rt rest (L, S, sh, M) r) : jS Z d k rt ((pc, .if_icmp c off, a, b) :: rest) (L, .inl y :: .inl x :: S, sh, M) r := by
  by_cases h : jp_c c x y = true
  · exact js_go (fun J C => by simp only [jp_go, hj, ht, if_true, h]) (kt h)
  · exact js_on (fun J C => by simp only [jp_go, hj, if_true, if_neg h]) (kf h)
theorem js_ifc {c : ClassFile.Cond} (hj : jp_okJ pc off = true) (ht : jp_tgt pc off = tgt) (kt : jp_c c x 0 = true → jR Z d k tgt (L, S, sh, M) r) (kf : ¬ jp_c c x 0 = true → jS Z d k rt rest (L, S, sh, M) r) : jS Z d k rt ((pc, .ifCond c off, a, b) :: rest) (L, .inl x :: S, sh, M) r := by
  by_cases h : jp_c c x 0 = true
  · exact js_go (fun J C => by simp only [jp_go, hj, ht, if_true, h]) (kt h)
  · exact js_on (fun J C => by simp only [jp_go, hj, if_true, if_neg h]) (kf h)
theorem js_ifnull (kk : jS Z d k rt rest (L, S, sh, M) r) : jS Z d k rt ((pc, .ifnull off, a, b) :: rest) (L, .inr (some q) :: S, sh, M) r := js_on (fun J C => rfl) kk
theorem js_ifnonnull (hj : jp_okJ pc off = true) (ht : jp_tgt pc off = tgt) (kk : jR Z d k tgt (L, S, sh, M) r) : jS Z d k rt ((pc, .ifnonnull off, a, b) :: rest) (L, .inr (some q) :: S, sh, M) r := js_go (fun J C => by simp only [jp_go, hj, ht, if_true]) kk
theorem js_tabOut {dd lo hi : Int} {offs : Array Int} (h : x.toInt < lo ∨ hi < x.toInt) (hj : jp_okJ pc dd = true) (ht : jp_tgt pc dd = tgt) (kk : jR Z d k tgt (L, S, sh, M) r) : jS Z d k rt ((pc, .tableswitch dd lo hi offs, a, b) :: rest) (L, .inl x :: S, sh, M) r := js_go (fun J C => by simp only [jp_go, if_pos h, hj, ht, if_true]) kk
theorem js_tabIn {dd lo hi : Int} {offs : Array Int} {v : Int32} (hx : x = v) (h : decide (v.toInt < lo ∨ hi < v.toInt) = false) (ho : offs[(v.toInt - lo).toNat]? = some off) (hj : jp_okJ pc off = true) (ht : jp_tgt pc off = tgt) (kk : jR Z d k tgt (L, S, sh, M) r) : jS Z d k rt ((pc, .tableswitch dd lo hi offs, a, b) :: rest) (L, .inl x :: S, sh, M) r := by
  subst hx
  exact js_go (fun J C => by simp only [jp_go, if_neg (of_decide_eq_false h), ho, hj, ht, if_true]) kk
theorem js_look {dd : Int} {ps : Array (Int × Int)} (h : ((ps.toList.zip (ps.toList.drop 1)).all (fun (a, next) => a.1 < next.1)) = true) (ho : Op.lookupswitch.offset ps.toList dd x.toInt = off) (hj : jp_okJ pc off = true) (ht : jp_tgt pc off = tgt) (kk : jR Z d k tgt (L, S, sh, M) r) : jS Z d k rt ((pc, .lookupswitch dd ps, a, b) :: rest) (L, .inl x :: S, sh, M) r := js_go (fun J C => by
  subst ho
  simp only [jp_go]
  rw [if_pos ⟨h, hj⟩, ht]) kk
theorem js_iret (hz : jp_rok rt x = true) (hr : (some (.inl x), sh, M) = r) : jS Z d k rt ((pc, .ireturn, a, b) :: rest) (L, [.inl x], sh, M) r := ⟨0, fun n _ => by simp only [jp_go, hz, if_true]; rw [← hr]⟩
theorem js_ret (hz : rt = 2) (hr : (none, sh, M) = r) : jS Z d k rt ((pc, .return_, a, b) :: rest) (L, [], sh, M) r := ⟨0, fun n _ => by simp only [jp_go, hz, if_true]; rw [← hr]⟩
def jp_isK (ins : Instr) (a : Nat) : Bool := match ins with
  | .invokevirtual _ => true
  | .invokestatic _ => decide (¬ (9001 ≤ a ∧ a ≤ 9012))
  | .invokespecial _ => decide (¬ a = 9000)
  | _ => false
theorem js_call {ins : Instr} {h : Nat} {mi : jp_I} {v : Option jp_V} {sh' : jp_S} {M' : jp_M} {as : List jp_V} {S' : List jp_V} (hi : jp_isK ins a = true) (hk : Z.1 a = some mi) (hz : mi.2.1 = 0 ∧ mi.2.2.1 = 0) (hq : decide ((b = mi.2.2.2.2.2.2.1 ∧ b ≤ S.length ∧ S.length - b ≤ 8) ∧ a < 9100) = true) (hrc : jp_rcv sh mi.2.2.2.1 mi.2.2.2.2.1 as.head? = true) (has : (S.take b).reverse = as) (hS : S.drop b = S') (hE : jE Z h a as sh M (v, sh', M')) (hd : h + 1 ≤ d)
    (kk : jS Z d k rt rest (L, v.toList ++ S', sh', M') r) : jS Z d k rt ((pc, ins, a, b) :: rest) (L, S, sh, M) r := by
  subst has; subst hS
  obtain ⟨N, hN⟩ := kk
  obtain ⟨mi', hk', hal, hd'⟩ := hE
  cases hk.symm.trans hk'
  obtain ⟨d, rfl⟩ : ∃ e, d = e + 1 := ⟨d - 1, by omega⟩
  obtain ⟨N', hN'⟩ := hd' d (by omega)
  refine ⟨N + N', fun n hn => ?_⟩
  have hq := of_decide_eq_true hq
  have e1 : jp_call Z 0 0 (jp_T Z n (d + 1)) a b (L, S, sh, M) 0 0 = some ((L, v.toList ++ S.drop b, sh', M'), 0, 0) := by
    simp only [jp_call, hk, hz.1, hz.2]
    rw [if_pos ⟨hq.1, hrc, ⟨Nat.le_refl _, Nat.le_refl _⟩, Or.inl trivial⟩]
    simp only [jp_T, if_neg (show ¬ 9100 ≤ a by omega), hk, if_pos hal, hN' n (by omega)]
  have e2 := hN n (by omega)
  cases ins <;> first | (cases hi; done) | (simp only [jp_go, e1]; exact e2) | skip
  · have ha : ¬ a = 9000 := of_decide_eq_true hi
    simp only [jp_go, if_neg ha, e1]; exact e2
  · have ha : ¬ (9001 ≤ a ∧ a ≤ 9012) := of_decide_eq_true hi
    simp only [jp_go, if_neg ha, e1]; exact e2
theorem js_c0i {ins : Instr} {h : Nat} {mi : jp_I} {w : Int32} {sh' : jp_S} {M' : jp_M}  (hi : jp_isK ins a = true) (hk : Z.1 a = some mi) (hz : mi.2.1 = 0 ∧ mi.2.2.1 = 0) (hq : decide (0 = mi.2.2.2.2.2.2.1 ∧ a < 9100 ∧ S.length ≤ 8) = true) (hrc : jp_rcv sh mi.2.2.2.1 mi.2.2.2.2.1 ([] : List jp_V).head? = true) (hE : jE Z h a [] sh M (some (.inl w), sh', M')) (hd : h + 1 ≤ d) (kk : jS Z d k rt rest (L, .inl w :: S, sh', M') r) : jS Z d k rt ((pc, ins, a, 0) :: rest) (L, S, sh, M) r := by
  have hq := of_decide_eq_true hq
  exact js_call hi hk hz (decide_eq_true ⟨⟨hq.1, by simp, by simp; exact hq.2.2⟩, hq.2.1⟩) hrc rfl rfl hE hd kk
theorem js_c0v {ins : Instr} {h : Nat} {mi : jp_I} {w : Int32} {sh' : jp_S} {M' : jp_M}  (hi : jp_isK ins a = true) (hk : Z.1 a = some mi) (hz : mi.2.1 = 0 ∧ mi.2.2.1 = 0) (hq : decide (0 = mi.2.2.2.2.2.2.1 ∧ a < 9100 ∧ S.length ≤ 8) = true) (hrc : jp_rcv sh mi.2.2.2.1 mi.2.2.2.2.1 ([] : List jp_V).head? = true) (hE : jE Z h a [] sh M (none, sh', M')) (hd : h + 1 ≤ d) (kk : jS Z d k rt rest (L, S, sh', M') r) : jS Z d k rt ((pc, ins, a, 0) :: rest) (L, S, sh, M) r := by
  have hq := of_decide_eq_true hq
  exact js_call hi hk hz (decide_eq_true ⟨⟨hq.1, by simp, by simp; exact hq.2.2⟩, hq.2.1⟩) hrc rfl rfl hE hd kk
theorem js_c1i {ins : Instr} {h : Nat} {mi : jp_I} {w : Int32} {sh' : jp_S} {M' : jp_M} {v0 : jp_V} (hi : jp_isK ins a = true) (hk : Z.1 a = some mi) (hz : mi.2.1 = 0 ∧ mi.2.2.1 = 0) (hq : decide (1 = mi.2.2.2.2.2.2.1 ∧ a < 9100 ∧ S.length ≤ 8) = true) (hrc : jp_rcv sh mi.2.2.2.1 mi.2.2.2.2.1 ([v0] : List jp_V).head? = true) (hE : jE Z h a [v0] sh M (some (.inl w), sh', M')) (hd : h + 1 ≤ d) (kk : jS Z d k rt rest (L, .inl w :: S, sh', M') r) : jS Z d k rt ((pc, ins, a, 1) :: rest) (L, v0 :: S, sh, M) r := by
  have hq := of_decide_eq_true hq
  exact js_call hi hk hz (decide_eq_true ⟨⟨hq.1, by simp, by simp; exact hq.2.2⟩, hq.2.1⟩) hrc rfl rfl hE hd kk
theorem js_c1v {ins : Instr} {h : Nat} {mi : jp_I} {w : Int32} {sh' : jp_S} {M' : jp_M} {v0 : jp_V} (hi : jp_isK ins a = true) (hk : Z.1 a = some mi) (hz : mi.2.1 = 0 ∧ mi.2.2.1 = 0) (hq : decide (1 = mi.2.2.2.2.2.2.1 ∧ a < 9100 ∧ S.length ≤ 8) = true) (hrc : jp_rcv sh mi.2.2.2.1 mi.2.2.2.2.1 ([v0] : List jp_V).head? = true) (hE : jE Z h a [v0] sh M (none, sh', M')) (hd : h + 1 ≤ d) (kk : jS Z d k rt rest (L, S, sh', M') r) : jS Z d k rt ((pc, ins, a, 1) :: rest) (L, v0 :: S, sh, M) r := by
  have hq := of_decide_eq_true hq
  exact js_call hi hk hz (decide_eq_true ⟨⟨hq.1, by simp, by simp; exact hq.2.2⟩, hq.2.1⟩) hrc rfl rfl hE hd kk
theorem js_c2i {ins : Instr} {h : Nat} {mi : jp_I} {w : Int32} {sh' : jp_S} {M' : jp_M} {v0 v1 : jp_V} (hi : jp_isK ins a = true) (hk : Z.1 a = some mi) (hz : mi.2.1 = 0 ∧ mi.2.2.1 = 0) (hq : decide (2 = mi.2.2.2.2.2.2.1 ∧ a < 9100 ∧ S.length ≤ 8) = true) (hrc : jp_rcv sh mi.2.2.2.1 mi.2.2.2.2.1 ([v0, v1] : List jp_V).head? = true) (hE : jE Z h a [v0, v1] sh M (some (.inl w), sh', M')) (hd : h + 1 ≤ d) (kk : jS Z d k rt rest (L, .inl w :: S, sh', M') r) : jS Z d k rt ((pc, ins, a, 2) :: rest) (L, v1 :: v0 :: S, sh, M) r := by
  have hq := of_decide_eq_true hq
  exact js_call hi hk hz (decide_eq_true ⟨⟨hq.1, by simp, by simp; exact hq.2.2⟩, hq.2.1⟩) hrc rfl rfl hE hd kk
theorem js_c2v {ins : Instr} {h : Nat} {mi : jp_I} {w : Int32} {sh' : jp_S} {M' : jp_M} {v0 v1 : jp_V} (hi : jp_isK ins a = true) (hk : Z.1 a = some mi) (hz : mi.2.1 = 0 ∧ mi.2.2.1 = 0) (hq : decide (2 = mi.2.2.2.2.2.2.1 ∧ a < 9100 ∧ S.length ≤ 8) = true) (hrc : jp_rcv sh mi.2.2.2.1 mi.2.2.2.2.1 ([v0, v1] : List jp_V).head? = true) (hE : jE Z h a [v0, v1] sh M (none, sh', M')) (hd : h + 1 ≤ d) (kk : jS Z d k rt rest (L, S, sh', M') r) : jS Z d k rt ((pc, ins, a, 2) :: rest) (L, v1 :: v0 :: S, sh, M) r := by
  have hq := of_decide_eq_true hq
  exact js_call hi hk hz (decide_eq_true ⟨⟨hq.1, by simp, by simp; exact hq.2.2⟩, hq.2.1⟩) hrc rfl rfl hE hd kk
theorem js_c3i {ins : Instr} {h : Nat} {mi : jp_I} {w : Int32} {sh' : jp_S} {M' : jp_M} {v0 v1 v2 : jp_V} (hi : jp_isK ins a = true) (hk : Z.1 a = some mi) (hz : mi.2.1 = 0 ∧ mi.2.2.1 = 0) (hq : decide (3 = mi.2.2.2.2.2.2.1 ∧ a < 9100 ∧ S.length ≤ 8) = true) (hrc : jp_rcv sh mi.2.2.2.1 mi.2.2.2.2.1 ([v0, v1, v2] : List jp_V).head? = true) (hE : jE Z h a [v0, v1, v2] sh M (some (.inl w), sh', M')) (hd : h + 1 ≤ d) (kk : jS Z d k rt rest (L, .inl w :: S, sh', M') r) : jS Z d k rt ((pc, ins, a, 3) :: rest) (L, v2 :: v1 :: v0 :: S, sh, M) r := by
  have hq := of_decide_eq_true hq
  exact js_call hi hk hz (decide_eq_true ⟨⟨hq.1, by simp, by simp; exact hq.2.2⟩, hq.2.1⟩) hrc rfl rfl hE hd kk
theorem js_c3v {ins : Instr} {h : Nat} {mi : jp_I} {w : Int32} {sh' : jp_S} {M' : jp_M} {v0 v1 v2 : jp_V} (hi : jp_isK ins a = true) (hk : Z.1 a = some mi) (hz : mi.2.1 = 0 ∧ mi.2.2.1 = 0) (hq : decide (3 = mi.2.2.2.2.2.2.1 ∧ a < 9100 ∧ S.length ≤ 8) = true) (hrc : jp_rcv sh mi.2.2.2.1 mi.2.2.2.2.1 ([v0, v1, v2] : List jp_V).head? = true) (hE : jE Z h a [v0, v1, v2] sh M (none, sh', M')) (hd : h + 1 ≤ d) (kk : jS Z d k rt rest (L, S, sh', M') r) : jS Z d k rt ((pc, ins, a, 3) :: rest) (L, v2 :: v1 :: v0 :: S, sh, M) r := by
  have hq := of_decide_eq_true hq
  exact js_call hi hk hz (decide_eq_true ⟨⟨hq.1, by simp, by simp; exact hq.2.2⟩, hq.2.1⟩) hrc rfl rfl hE hd kk
theorem js_c4i {ins : Instr} {h : Nat} {mi : jp_I} {w : Int32} {sh' : jp_S} {M' : jp_M} {v0 v1 v2 v3 : jp_V} (hi : jp_isK ins a = true) (hk : Z.1 a = some mi) (hz : mi.2.1 = 0 ∧ mi.2.2.1 = 0) (hq : decide (4 = mi.2.2.2.2.2.2.1 ∧ a < 9100 ∧ S.length ≤ 8) = true) (hrc : jp_rcv sh mi.2.2.2.1 mi.2.2.2.2.1 ([v0, v1, v2, v3] : List jp_V).head? = true) (hE : jE Z h a [v0, v1, v2, v3] sh M (some (.inl w), sh', M')) (hd : h + 1 ≤ d) (kk : jS Z d k rt rest (L, .inl w :: S, sh', M') r) : jS Z d k rt ((pc, ins, a, 4) :: rest) (L, v3 :: v2 :: v1 :: v0 :: S, sh, M) r := by
  have hq := of_decide_eq_true hq
  exact js_call hi hk hz (decide_eq_true ⟨⟨hq.1, by simp, by simp; exact hq.2.2⟩, hq.2.1⟩) hrc rfl rfl hE hd kk
theorem js_c4v {ins : Instr} {h : Nat} {mi : jp_I} {w : Int32} {sh' : jp_S} {M' : jp_M} {v0 v1 v2 v3 : jp_V} (hi : jp_isK ins a = true) (hk : Z.1 a = some mi) (hz : mi.2.1 = 0 ∧ mi.2.2.1 = 0) (hq : decide (4 = mi.2.2.2.2.2.2.1 ∧ a < 9100 ∧ S.length ≤ 8) = true) (hrc : jp_rcv sh mi.2.2.2.1 mi.2.2.2.2.1 ([v0, v1, v2, v3] : List jp_V).head? = true) (hE : jE Z h a [v0, v1, v2, v3] sh M (none, sh', M')) (hd : h + 1 ≤ d) (kk : jS Z d k rt rest (L, S, sh', M') r) : jS Z d k rt ((pc, ins, a, 4) :: rest) (L, v3 :: v2 :: v1 :: v0 :: S, sh, M) r := by
  have hq := of_decide_eq_true hq
  exact js_call hi hk hz (decide_eq_true ⟨⟨hq.1, by simp, by simp; exact hq.2.2⟩, hq.2.1⟩) hrc rfl rfl hE hd kk
theorem js_c5i {ins : Instr} {h : Nat} {mi : jp_I} {w : Int32} {sh' : jp_S} {M' : jp_M} {v0 v1 v2 v3 v4 : jp_V} (hi : jp_isK ins a = true) (hk : Z.1 a = some mi) (hz : mi.2.1 = 0 ∧ mi.2.2.1 = 0) (hq : decide (5 = mi.2.2.2.2.2.2.1 ∧ a < 9100 ∧ S.length ≤ 8) = true) (hrc : jp_rcv sh mi.2.2.2.1 mi.2.2.2.2.1 ([v0, v1, v2, v3, v4] : List jp_V).head? = true) (hE : jE Z h a [v0, v1, v2, v3, v4] sh M (some (.inl w), sh', M')) (hd : h + 1 ≤ d) (kk : jS Z d k rt rest (L, .inl w :: S, sh', M') r) : jS Z d k rt ((pc, ins, a, 5) :: rest) (L, v4 :: v3 :: v2 :: v1 :: v0 :: S, sh, M) r := by
  have hq := of_decide_eq_true hq
  exact js_call hi hk hz (decide_eq_true ⟨⟨hq.1, by simp, by simp; exact hq.2.2⟩, hq.2.1⟩) hrc rfl rfl hE hd kk
theorem js_c5v {ins : Instr} {h : Nat} {mi : jp_I} {w : Int32} {sh' : jp_S} {M' : jp_M} {v0 v1 v2 v3 v4 : jp_V} (hi : jp_isK ins a = true) (hk : Z.1 a = some mi) (hz : mi.2.1 = 0 ∧ mi.2.2.1 = 0) (hq : decide (5 = mi.2.2.2.2.2.2.1 ∧ a < 9100 ∧ S.length ≤ 8) = true) (hrc : jp_rcv sh mi.2.2.2.1 mi.2.2.2.2.1 ([v0, v1, v2, v3, v4] : List jp_V).head? = true) (hE : jE Z h a [v0, v1, v2, v3, v4] sh M (none, sh', M')) (hd : h + 1 ≤ d) (kk : jS Z d k rt rest (L, S, sh', M') r) : jS Z d k rt ((pc, ins, a, 5) :: rest) (L, v4 :: v3 :: v2 :: v1 :: v0 :: S, sh, M) r := by
  have hq := of_decide_eq_true hq
  exact js_call hi hk hz (decide_eq_true ⟨⟨hq.1, by simp, by simp; exact hq.2.2⟩, hq.2.1⟩) hrc rfl rfl hE hd kk
theorem js_c6i {ins : Instr} {h : Nat} {mi : jp_I} {w : Int32} {sh' : jp_S} {M' : jp_M} {v0 v1 v2 v3 v4 v5 : jp_V} (hi : jp_isK ins a = true) (hk : Z.1 a = some mi) (hz : mi.2.1 = 0 ∧ mi.2.2.1 = 0) (hq : decide (6 = mi.2.2.2.2.2.2.1 ∧ a < 9100 ∧ S.length ≤ 8) = true) (hrc : jp_rcv sh mi.2.2.2.1 mi.2.2.2.2.1 ([v0, v1, v2, v3, v4, v5] : List jp_V).head? = true) (hE : jE Z h a [v0, v1, v2, v3, v4, v5] sh M (some (.inl w), sh', M')) (hd : h + 1 ≤ d) (kk : jS Z d k rt rest (L, .inl w :: S, sh', M') r) : jS Z d k rt ((pc, ins, a, 6) :: rest) (L, v5 :: v4 :: v3 :: v2 :: v1 :: v0 :: S, sh, M) r := by
  have hq := of_decide_eq_true hq
  exact js_call hi hk hz (decide_eq_true ⟨⟨hq.1, by simp, by simp; exact hq.2.2⟩, hq.2.1⟩) hrc rfl rfl hE hd kk
theorem js_c6v {ins : Instr} {h : Nat} {mi : jp_I} {w : Int32} {sh' : jp_S} {M' : jp_M} {v0 v1 v2 v3 v4 v5 : jp_V} (hi : jp_isK ins a = true) (hk : Z.1 a = some mi) (hz : mi.2.1 = 0 ∧ mi.2.2.1 = 0) (hq : decide (6 = mi.2.2.2.2.2.2.1 ∧ a < 9100 ∧ S.length ≤ 8) = true) (hrc : jp_rcv sh mi.2.2.2.1 mi.2.2.2.2.1 ([v0, v1, v2, v3, v4, v5] : List jp_V).head? = true) (hE : jE Z h a [v0, v1, v2, v3, v4, v5] sh M (none, sh', M')) (hd : h + 1 ≤ d) (kk : jS Z d k rt rest (L, S, sh', M') r) : jS Z d k rt ((pc, ins, a, 6) :: rest) (L, v5 :: v4 :: v3 :: v2 :: v1 :: v0 :: S, sh, M) r := by
  have hq := of_decide_eq_true hq
  exact js_call hi hk hz (decide_eq_true ⟨⟨hq.1, by simp, by simp; exact hq.2.2⟩, hq.2.1⟩) hrc rfl rfl hE hd kk
theorem js_c7i {ins : Instr} {h : Nat} {mi : jp_I} {w : Int32} {sh' : jp_S} {M' : jp_M} {v0 v1 v2 v3 v4 v5 v6 : jp_V} (hi : jp_isK ins a = true) (hk : Z.1 a = some mi) (hz : mi.2.1 = 0 ∧ mi.2.2.1 = 0) (hq : decide (7 = mi.2.2.2.2.2.2.1 ∧ a < 9100 ∧ S.length ≤ 8) = true) (hrc : jp_rcv sh mi.2.2.2.1 mi.2.2.2.2.1 ([v0, v1, v2, v3, v4, v5, v6] : List jp_V).head? = true) (hE : jE Z h a [v0, v1, v2, v3, v4, v5, v6] sh M (some (.inl w), sh', M')) (hd : h + 1 ≤ d) (kk : jS Z d k rt rest (L, .inl w :: S, sh', M') r) : jS Z d k rt ((pc, ins, a, 7) :: rest) (L, v6 :: v5 :: v4 :: v3 :: v2 :: v1 :: v0 :: S, sh, M) r := by
  have hq := of_decide_eq_true hq
  exact js_call hi hk hz (decide_eq_true ⟨⟨hq.1, by simp, by simp; exact hq.2.2⟩, hq.2.1⟩) hrc rfl rfl hE hd kk
theorem js_c7v {ins : Instr} {h : Nat} {mi : jp_I} {w : Int32} {sh' : jp_S} {M' : jp_M} {v0 v1 v2 v3 v4 v5 v6 : jp_V} (hi : jp_isK ins a = true) (hk : Z.1 a = some mi) (hz : mi.2.1 = 0 ∧ mi.2.2.1 = 0) (hq : decide (7 = mi.2.2.2.2.2.2.1 ∧ a < 9100 ∧ S.length ≤ 8) = true) (hrc : jp_rcv sh mi.2.2.2.1 mi.2.2.2.2.1 ([v0, v1, v2, v3, v4, v5, v6] : List jp_V).head? = true) (hE : jE Z h a [v0, v1, v2, v3, v4, v5, v6] sh M (none, sh', M')) (hd : h + 1 ≤ d) (kk : jS Z d k rt rest (L, S, sh', M') r) : jS Z d k rt ((pc, ins, a, 7) :: rest) (L, v6 :: v5 :: v4 :: v3 :: v2 :: v1 :: v0 :: S, sh, M) r := by
  have hq := of_decide_eq_true hq
  exact js_call hi hk hz (decide_eq_true ⟨⟨hq.1, by simp, by simp; exact hq.2.2⟩, hq.2.1⟩) hrc rfl rfl hE hd kk
theorem js_c8i {ins : Instr} {h : Nat} {mi : jp_I} {w : Int32} {sh' : jp_S} {M' : jp_M} {v0 v1 v2 v3 v4 v5 v6 v7 : jp_V} (hi : jp_isK ins a = true) (hk : Z.1 a = some mi) (hz : mi.2.1 = 0 ∧ mi.2.2.1 = 0) (hq : decide (8 = mi.2.2.2.2.2.2.1 ∧ a < 9100 ∧ S.length ≤ 8) = true) (hrc : jp_rcv sh mi.2.2.2.1 mi.2.2.2.2.1 ([v0, v1, v2, v3, v4, v5, v6, v7] : List jp_V).head? = true) (hE : jE Z h a [v0, v1, v2, v3, v4, v5, v6, v7] sh M (some (.inl w), sh', M')) (hd : h + 1 ≤ d) (kk : jS Z d k rt rest (L, .inl w :: S, sh', M') r) : jS Z d k rt ((pc, ins, a, 8) :: rest) (L, v7 :: v6 :: v5 :: v4 :: v3 :: v2 :: v1 :: v0 :: S, sh, M) r := by
  have hq := of_decide_eq_true hq
  exact js_call hi hk hz (decide_eq_true ⟨⟨hq.1, by simp, by simp; exact hq.2.2⟩, hq.2.1⟩) hrc rfl rfl hE hd kk
theorem js_c8v {ins : Instr} {h : Nat} {mi : jp_I} {w : Int32} {sh' : jp_S} {M' : jp_M} {v0 v1 v2 v3 v4 v5 v6 v7 : jp_V} (hi : jp_isK ins a = true) (hk : Z.1 a = some mi) (hz : mi.2.1 = 0 ∧ mi.2.2.1 = 0) (hq : decide (8 = mi.2.2.2.2.2.2.1 ∧ a < 9100 ∧ S.length ≤ 8) = true) (hrc : jp_rcv sh mi.2.2.2.1 mi.2.2.2.2.1 ([v0, v1, v2, v3, v4, v5, v6, v7] : List jp_V).head? = true) (hE : jE Z h a [v0, v1, v2, v3, v4, v5, v6, v7] sh M (none, sh', M')) (hd : h + 1 ≤ d) (kk : jS Z d k rt rest (L, S, sh', M') r) : jS Z d k rt ((pc, ins, a, 8) :: rest) (L, v7 :: v6 :: v5 :: v4 :: v3 :: v2 :: v1 :: v0 :: S, sh, M) r := by
  have hq := of_decide_eq_true hq
  exact js_call hi hk hz (decide_eq_true ⟨⟨hq.1, by simp, by simp; exact hq.2.2⟩, hq.2.1⟩) hrc rfl rfl hE hd kk
end JW
def jg {α : Type} (p : Prop) [Decidable p] (x : Option α) : Option α := if p then x else none
theorem jg_some {α : Type} {p : Prop} [Decidable p] {x : Option α} {r : α} (h : jg p x = some r) : p ∧ x = some r := by
  unfold jg at h
  split at h
  · next hp => exact ⟨hp, h⟩
  · cases h
theorem jif_t {α : Type} {c : Prop} [Decidable c] {A B r : α} (hf : (if c then A else B) = r) (h : c) : A = r := by rw [if_pos h] at hf; exact hf
theorem jif_f {α : Type} {c : Prop} [Decidable c] {A B r : α} (hf : (if c then A else B) = r) (h : ¬ c) : B = r := by rw [if_neg h] at hf; exact hf
theorem jif_d {α : Type} {c : Prop} [Decidable c] {A B r : α} (hf : (if c then A else B) = r) : (c ∧ A = r) ∨ (¬ c ∧ B = r) := by
  by_cases h : c
  · exact Or.inl ⟨h, jif_t hf h⟩
  · exact Or.inr ⟨h, jif_f hf h⟩
theorem jbind {α β : Type} {o : Option α} {g : α → Option β} {r : β} (h : o.bind g = some r) : ∃ q, o = some q ∧ g q = some r := by
  cases o with
  | none => cases h
  | some q => exact ⟨q, rfl, h⟩
theorem jbool {x : Int32} (h : x = 0 ∨ x = 1) : jp_rok 1 x = true := decide_eq_true h
/-- how often a loop may go round in the functions: more than any does -/
def jFu : Nat := 100000
