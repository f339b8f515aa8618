/-! THE PURE MACHINE: values are ints, null and places; a heap is a shape (what each place is, where its references point) and a memory of ints; a method's code is its list of instructions with what they link to. -/
abbrev jp_V : Type := Int32 ⊕ Option Nat
abbrev jp_C : Type := (Nat × Nat) ⊕ (List (Option Nat)) ⊕ (Nat × List (Option (Option Nat)))
abbrev jp_S : Type := List jp_C
abbrev jp_M : Type := Nat → Nat → Int32
abbrev jp_R : Type := Option jp_V × jp_S × jp_M
abbrev jp_X : Type := List (Option jp_V) × List jp_V × jp_S × jp_M
/-- pc, instruction, what it links to (two numbers) -/
abbrev jp_O : Type := Nat × Instr × Nat × Nat
/-- maxLocals, new cells, new slots, kind (0 static, 1 virtual, 2 init, 3 of a String), class, answer (0 int, 1 boolean, 2 none), arguments, code -/
abbrev jp_I : Type := Nat × Nat × Nat × Nat × Nat × Nat × Nat × List jp_O
/-- what was there before and stays: arrays (kind, length, contents), fields of objects, static fields -/
abbrev jp_Kc : Type := (Nat → Option (Nat × Nat × (Nat → Int32))) × (Nat → Nat → Option jp_V) × (Nat → Option jp_V)
/-- what a system is: methods, kinds of fields (0 int, 1 boolean, 2 reference) by class and slot, fields' kinds of a class, primitives, constants -/
abbrev jp_P : Type := (Nat → Option jp_I) × (Nat → Nat → Nat) × (Nat → List (Option (Option Nat))) × (Nat → List jp_V → Option (Option jp_V)) × jp_Kc
def jp_nar (t : Nat) (x : Int32) : Int32 := match t with
  | 1 => x.toInt8.toInt32
  | 2 => x.toInt16.toInt32
  | _ => x
def jp_set (M : jp_M) (p : Nat) (f : Nat → Int32) : jp_M := fun q => if q = p then f else M q
def jp_i (n : Int) : Int32 := Int32.ofInt n
def jp_ati (at_ : ArrayType) : Option Nat := match at_ with
  | .int => some 0
  | .byte => some 1
  | .short => some 2
  | _ => none
def jp_c (c : ClassFile.Cond) (x y : Int32) : Bool := match c with
  | .eq => decide (x = y)
  | .ne => decide (¬ x = y)
  | .lt => decide (x < y)
  | .ge => decide (y ≤ x)
  | .gt => decide (y < x)
  | .le => decide (x ≤ y)
def jp_ld (L : List (Option jp_V)) (i : Nat) : Option jp_V := match L[i]? with
  | some (some v) => some v
  | _ => none
def jp_ildX (i : Nat) (X : jp_X) : Option jp_X := match jp_ld X.1 i with
  | some (.inl x) => some (X.1, .inl x :: X.2.1, X.2.2)
  | _ => none
def jp_aldX (i : Nat) (X : jp_X) : Option jp_X := match jp_ld X.1 i with
  | some (.inr (some q)) => some (X.1, .inr (some q) :: X.2.1, X.2.2)
  | _ => none
def jp_istX (i : Nat) (X : jp_X) : Option jp_X := match X.2.1 with
  | .inl x :: S => if i < X.1.length then some (X.1.set i (some (.inl x)), S, X.2.2) else none
  | _ => none
def jp_astX (i : Nat) (X : jp_X) : Option jp_X := match X.2.1 with
  | .inr (some q) :: S => if i < X.1.length then some (X.1.set i (some (.inr (some q))), S, X.2.2) else none
  | _ => none
def jp_incX (i : Nat) (n : Int) (X : jp_X) : Option jp_X := match jp_ld X.1 i with
  | some (.inl x) => if i < X.1.length then some (X.1.set i (some (.inl (x + jp_i n))), X.2) else none
  | _ => none
def jp_bin (f : Int32 → Int32 → Int32) (X : jp_X) : Option jp_X := match X.2.1 with
  | .inl y :: .inl x :: S => some (X.1, .inl (f x y) :: S, X.2.2)
  | _ => none
def jp_dvd (f : Int32 → Int32 → Int32) (X : jp_X) : Option jp_X := match X.2.1 with
  | .inl y :: .inl x :: S => if y = 0 then none else some (X.1, .inl (f x y) :: S, X.2.2)
  | _ => none
def jp_un (f : Int32 → Int32) (X : jp_X) : Option jp_X := match X.2.1 with
  | .inl x :: S => some (X.1, .inl (f x) :: S, X.2.2)
  | _ => none
/-- what a slot of an object holds -/
def jp_fval (x : Int32) (o : Option (Option Nat)) : jp_V := match o with
  | none => .inl x
  | some r => .inr r
def jp_getX (kc : jp_Kc) (a b : Nat) (X : jp_X) : Option jp_X := match X.2.1 with
  | .inr (some q) :: S => if 100 ≤ a then (match kc.2.1 q (a - 100) with
    | some v => some (X.1, v :: S, X.2.2)
    | none => none) else (match X.2.2.1[q]? with
    | some (.inr (.inr (ci, fs))) => if ci = a then (match fs[b]? with
      | some o => some (X.1, jp_fval (X.2.2.2 q b) o :: S, X.2.2)
      | none => none) else none
    | _ => none)
  | _ => none
def jp_putX (fk : Nat → Nat → Nat) (a b : Nat) (X : jp_X) : Option jp_X := match X.2.1 with
  | .inl x :: .inr (some q) :: S => (match X.2.2.1[q]? with
    | some (.inr (.inr (ci, fs))) => if ci = a then (match fs[b]? with
      | some none => if fk a b = 0 ∨ (fk a b = 1 ∧ (x = 0 ∨ x = 1)) then some (X.1, S, X.2.2.1, jp_set X.2.2.2 q (upd (X.2.2.2 q) b x)) else none
      | _ => none) else none
    | _ => none)
  | .inr (some r) :: .inr (some q) :: S => (match X.2.2.1[q]? with
    | some (.inr (.inr (ci, fs))) => if ci = a then (match fs[b]? with
      | some (some _) => if fk a b = 2 then some (X.1, S, X.2.2.1.set q (.inr (.inr (ci, fs.set b (some (some r))))), X.2.2.2) else none
      | _ => none) else none
    | _ => none)
  | _ => none
/-- an index that is in -/
abbrev jp_in (i : Int32) (n : Nat) : Prop := 0 ≤ i ∧ i.toNatClampNeg < n
def jp_xldX (kc : jp_Kc) (t : Nat) (X : jp_X) : Option jp_X := match X.2.1 with
  | .inl i :: .inr (some q) :: S => (match X.2.2.1[q]? with
    | some (.inl (t', n)) => if t' = t ∧ jp_in i n then some (X.1, .inl (jp_nar t (X.2.2.2 q i.toNatClampNeg)) :: S, X.2.2) else none
    | none => (match kc.1 q with
      | some (t', n, f) => if t' = t ∧ jp_in i n then some (X.1, .inl (f i.toNatClampNeg) :: S, X.2.2) else none
      | none => none)
    | _ => none)
  | _ => none
def jp_xstX (t : Nat) (X : jp_X) : Option jp_X := match X.2.1 with
  | .inl x :: .inl i :: .inr (some q) :: S => (match X.2.2.1[q]? with
    | some (.inl (t', n)) => if t' = t ∧ jp_in i n then some (X.1, S, X.2.2.1, jp_set X.2.2.2 q (upd (X.2.2.2 q) i.toNatClampNeg x)) else none
    | _ => none)
  | _ => none
def jp_aaldX (X : jp_X) : Option jp_X := match X.2.1 with
  | .inl i :: .inr (some q) :: S => (match X.2.2.1[q]? with
    | some (.inr (.inl l)) => if jp_in i l.length then some (X.1, .inr (l.getD i.toNatClampNeg none) :: S, X.2.2) else none
    | _ => none)
  | _ => none
def jp_aastX (X : jp_X) : Option jp_X := match X.2.1 with
  | .inr (some r) :: .inl i :: .inr (some q) :: S => (match X.2.2.1[q]?, X.2.2.1[r]? with
    | some (.inr (.inl l)), some (.inr (.inr (ci, _))) => if ci = 10 ∧ jp_in i l.length then some (X.1, S, X.2.2.1.set q (.inr (.inl (l.set i.toNatClampNeg (some r)))), X.2.2.2) else none
    | _, _ => none)
  | _ => none
def jp_lenX (kc : jp_Kc) (X : jp_X) : Option jp_X := match X.2.1 with
  | .inr (some q) :: S => (match X.2.2.1[q]? with
    | some (.inl (t, n)) => if t < 3 then some (X.1, .inl (Int32.ofNat n) :: S, X.2.2) else none
    | some (.inr (.inl l)) => some (X.1, .inl (Int32.ofNat l.length) :: S, X.2.2)
    | none => (match kc.1 q with
      | some (_, n, _) => some (X.1, .inl (Int32.ofNat n) :: S, X.2.2)
      | none => none)
    | _ => none)
  | _ => none
def jp_cpyX (X : jp_X) : Option jp_X := match X.2.1 with
  | .inl n :: .inl dp :: .inr (some d) :: .inl sp :: .inr (some c) :: S => (match X.2.2.1[c]?, X.2.2.1[d]? with
    | some (.inl (t0, n0)), some (.inl (t1, n1)) => if (t0 = t1 ∧ (t0 = 0 ∨ t0 = 2)) ∧ (0 ≤ sp ∧ 0 ≤ dp ∧ 0 ≤ n) ∧ (sp.toNatClampNeg + n.toNatClampNeg ≤ n0 ∧ dp.toNatClampNeg + n.toNatClampNeg ≤ n1) ∧ S.length ≤ 8 then some (X.1, S, X.2.2.1, jp_set X.2.2.2 d (va_cpy (X.2.2.2 c) (X.2.2.2 d) sp.toNatClampNeg dp.toNatClampNeg n.toNatClampNeg)) else none
    | _, _ => none)
  | _ => none
def jp_max (x y : Int32) : Int32 := if x < y then y else x
def jp_min (x y : Int32) : Int32 := if y < x then y else x
def jp_abs (x : Int32) : Int32 := if 0 ≤ x then x else 0 - x
/-- Math's own -/
def jp_mth2 (f : Int32 → Int32 → Int32) (X : jp_X) : Option jp_X := match X.2.1 with
  | .inl y :: .inl x :: S => if S.length ≤ 8 then some (X.1, .inl (f x y) :: S, X.2.2) else none
  | _ => none
def jp_mth1 (f : Int32 → Int32) (X : jp_X) : Option jp_X := match X.2.1 with
  | .inl x :: S => if S.length ≤ 8 then some (X.1, .inl (f x) :: S, X.2.2) else none
  | _ => none
/-- an instruction that neither jumps nor calls nor makes a cell -/
def jp_st (fk : Nat → Nat → Nat) (kc : jp_Kc) (ins : Instr) (a b : Nat) (X : jp_X) : Option jp_X := match ins with
  | .iconst n => some (X.1, .inl (jp_i n) :: X.2.1, X.2.2)
  | .bipush n => some (X.1, .inl (jp_i n) :: X.2.1, X.2.2)
  | .sipush n => some (X.1, .inl (jp_i n) :: X.2.1, X.2.2)
  | .ldc _ => if b = 0 then some (X.1, .inl (Int32.ofNat a) :: X.2.1, X.2.2) else some (X.1, .inr (some a) :: X.2.1, X.2.2)
  | .ldc_w _ => some (X.1, .inl (Int32.ofNat a) :: X.2.1, X.2.2)
  | .iload i => jp_ildX i X
  | .iload_n i => jp_ildX i X
  | .aload i => jp_aldX i X
  | .aload_n i => jp_aldX i X
  | .istore i => jp_istX i X
  | .istore_n i => jp_istX i X
  | .astore i => jp_astX i X
  | .astore_n i => jp_astX i X
  | .iinc i n => jp_incX i n X
  | .dup => (match X.2.1 with
    | v :: S => some (X.1, v :: v :: S, X.2.2)
    | _ => none)
  | .dup2 => (match X.2.1 with
    | v :: w :: S => some (X.1, v :: w :: v :: w :: S, X.2.2)
    | _ => none)
  | .pop => (match X.2.1 with
    | _ :: S => some (X.1, S, X.2.2)
    | _ => none)
  | .iadd => jp_bin (fun x y => x + y) X
  | .isub => jp_bin (fun x y => x - y) X
  | .imul => jp_bin (fun x y => x * y) X
  | .idiv => jp_dvd (fun x y => x / y) X
  | .irem => jp_dvd (fun x y => x % y) X
  | .ishl => jp_bin (fun x y => x <<< (y &&& 31)) X
  | .ishr => jp_bin (fun x y => x >>> (y &&& 31)) X
  | .iushr => jp_bin (fun x y => (x.toUInt32 >>> (y.toUInt32 &&& Int32.toUInt32 31)).toInt32) X
  | .iand => jp_bin (fun x y => x &&& y) X
  | .ior => jp_bin (fun x y => x ||| y) X
  | .ixor => jp_bin (fun x y => x ^^^ y) X
  | .ineg => jp_un (fun x => -x) X
  | .i2b => jp_un (fun x => x.toInt8.toInt32) X
  | .i2s => jp_un (fun x => x.toInt16.toInt32) X
  | .i2c => jp_un (fun x => (x.toUInt32 % 65536).toInt32) X
  | .getfield _ => jp_getX kc a b X
  | .getstatic _ => (match kc.2.2 a with
    | some v => some (X.1, v :: X.2.1, X.2.2)
    | none => none)
  | .putfield _ => jp_putX fk a b X
  | .iaload => jp_xldX kc 0 X
  | .baload => jp_xldX kc 1 X
  | .saload => jp_xldX kc 2 X
  | .iastore => jp_xstX 0 X
  | .bastore => jp_xstX 1 X
  | .sastore => jp_xstX 2 X
  | .aaload => jp_aaldX X
  | .aastore => jp_aastX X
  | .arraylength => jp_lenX kc X
  | .invokestatic _ => if a = 9001 then jp_cpyX X else if a = 9010 then jp_mth2 jp_max X else if a = 9011 then jp_mth2 jp_min X else if a = 9012 then jp_mth1 jp_abs X else none
  | .invokespecial _ => if a = 9000 then (match X.2.1 with
    | .inr (some _) :: S => if S.length ≤ 8 then some (X.1, S, X.2.2) else none
    | _ => none) else none
  | _ => none
def jp_wfq (n : Nat) (q : Nat) : Bool := decide (q < n) || decide (1000 ≤ q)
def jp_wfV (n : Nat) (v : jp_V) : Bool := match v with
  | .inr (some q) => jp_wfq n q
  | _ => true
def jp_wfL (n : Nat) (L : List (Option jp_V)) : Bool := L.all (fun o => match o with
  | some v => jp_wfV n v
  | none => true)
def jp_wfC (n : Nat) (c : jp_C) : Bool := match c with
  | .inl _ => true
  | .inr (.inl l) => l.all (fun o => match o with
    | some q => jp_wfq n q
    | none => true)
  | .inr (.inr (_, fs)) => fs.all (fun o => match o with
    | some (some q) => jp_wfq n q
    | _ => true)
def jp_wf (L : List (Option jp_V)) (S : List jp_V) (sh : jp_S) : Bool := jp_wfL sh.length L && S.all (jp_wfV sh.length) && sh.all (jp_wfC sh.length) && decide (sh.length < 1000)
abbrev jp_J : Type := Nat → jp_X → Nat → Nat → Option jp_R
abbrev jp_K : Type := Nat → List jp_V → jp_S → jp_M → Option jp_R
def jp_tgt (pc : Nat) (off : Int) : Nat := ((pc : Int) + off).toNat
def jp_okJ (pc : Nat) (off : Int) : Bool := decide (0 ≤ (pc : Int) + off)
/-- a new cell: room, everything in range -/
def jp_newX (mc ms N : Nat) (c : jp_C) (L : List (Option jp_V)) (S : List jp_V) (sh : jp_S) (M : jp_M) (nc ns : Nat) : Option jp_X :=
  if (nc + 1 ≤ mc ∧ ns + N ≤ ms) ∧ jp_wf L S sh = true then some (L, .inr (some sh.length) :: S, sh ++ [c], jp_set M sh.length (fun _ => 0)) else none
def jp_sw (pc : Nat) (dflt : Int) (ps : List (Int × Int)) (x : Int) : Int := match ps with
  | [] => dflt
  | (k, off) :: t => if x = k then off else jp_sw pc dflt t x
def jp_rcv (sh : jp_S) (kind rci : Nat) (v : Option jp_V) : Bool := match kind with
  | 0 => true
  | 3 => (match v with
    | some (.inr (some q)) => decide (1000 ≤ q ∧ q < 1005)
    | _ => false)
  | 1 => (match v with
    | some (.inr (some q)) => (match sh[q]? with
      | some (.inr (.inr (ci, _))) => decide (ci = rci)
      | _ => false)
    | _ => false)
  | _ => (match v with
    | some (.inr (some _)) => true
    | _ => false)
/-- an answer is of its type (0 int, 1 boolean, 2 none, 3 char, 4 byte) -/
def jp_rok (rt : Nat) (x : Int32) : Bool := match rt with
  | 0 => true
  | 1 => decide (x = 0 ∨ x = 1)
  | 3 => decide (x.toUInt32.toUInt16.toUInt32.toInt32 = x)
  | 4 => decide (x.toInt8.toInt32 = x)
  | _ => false
def jp_rty (rt : Nat) : Option FieldType := match rt with
  | 0 => some .int
  | 1 => some .boolean
  | 3 => some .char
  | 4 => some .byte
  | _ => none
theorem jp_rok_ok {rt : Nat} {x : Int32} (h : jp_rok rt x = true) : ∃ ty, jp_rty rt = some ty ∧ narrow ty (.int x) = .int x := by
  unfold jp_rok at h
  unfold jp_rty
  split at h
  · exact ⟨.int, rfl, rfl⟩
  · refine ⟨.boolean, rfl, ?_⟩
    rcases of_decide_eq_true h with rfl | rfl <;> rfl
  · exact ⟨.char, rfl, congrArg Value.int (of_decide_eq_true h)⟩
  · exact ⟨.byte, rfl, congrArg Value.int (of_decide_eq_true h)⟩
  · cases h
/-- a call: its arguments are there, its receiver is of its class, its room is left -/
def jp_call (Z : jp_P) (mc ms : Nat) (C : jp_K) (a b : Nat) (X : jp_X) (nc ns : Nat) : Option (jp_X × Nat × Nat) := match Z.1 a with
  | some mi => if (b = mi.2.2.2.2.2.2.1 ∧ b ≤ X.2.1.length ∧ X.2.1.length - b ≤ 8) ∧ jp_rcv X.2.2.1 mi.2.2.2.1 mi.2.2.2.2.1 (X.2.1.take b).reverse.head? = true ∧ (nc + mi.2.1 ≤ mc ∧ ns + mi.2.2.1 ≤ ms) ∧ (mi.2.1 = 0 ∨ jp_wf X.1 (X.2.1.drop b) X.2.2.1 = true) then (match C a (X.2.1.take b).reverse X.2.2.1 X.2.2.2 with
    | some (v, sh, M) => some ((X.1, v.toList ++ X.2.1.drop b, sh, M), nc + mi.2.1, ns + mi.2.2.1)
    | none => none) else none
  | none => none
def jp_go (Z : jp_P) (mc ms rt : Nat) (J : jp_J) (C : jp_K) : List jp_O → jp_X → Nat → Nat → Option jp_R
  | [], _, _, _ => none
  | (pc, ins, a, b) :: r, X, nc, ns => match ins with
    | .goto off => if jp_okJ pc off then J (jp_tgt pc off) X nc ns else none
    | .if_icmp c off => (match X.2.1 with
      | .inl y :: .inl x :: S => if jp_okJ pc off then (if jp_c c x y then J (jp_tgt pc off) (X.1, S, X.2.2) nc ns else jp_go Z mc ms rt J C r (X.1, S, X.2.2) nc ns) else none
      | _ => none)
    | .ifCond c off => (match X.2.1 with
      | .inl x :: S => if jp_okJ pc off then (if jp_c c x 0 then J (jp_tgt pc off) (X.1, S, X.2.2) nc ns else jp_go Z mc ms rt J C r (X.1, S, X.2.2) nc ns) else none
      | _ => none)
    | .ifnull off => (match X.2.1 with
      | .inr (some _) :: S => jp_go Z mc ms rt J C r (X.1, S, X.2.2) nc ns
      | .inr none :: S => if jp_okJ pc off then J (jp_tgt pc off) (X.1, S, X.2.2) nc ns else none
      | _ => none)
    | .ifnonnull off => (match X.2.1 with
      | .inr (some _) :: S => if jp_okJ pc off then J (jp_tgt pc off) (X.1, S, X.2.2) nc ns else none
      | _ => none)
    | .tableswitch d lo hi offs => (match X.2.1 with
      | .inl x :: S => if x.toInt < lo ∨ hi < x.toInt then (if jp_okJ pc d then J (jp_tgt pc d) (X.1, S, X.2.2) nc ns else none)
          else (match offs[(x.toInt - lo).toNat]? with
            | some off => if jp_okJ pc off then J (jp_tgt pc off) (X.1, S, X.2.2) nc ns else none
            | none => none)
      | _ => none)
    | .lookupswitch d ps => (match X.2.1 with
      | .inl x :: S => if (ps.toList.zip (ps.toList.drop 1)).all (fun (a, next) => a.1 < next.1) ∧ jp_okJ pc (Op.lookupswitch.offset ps.toList d x.toInt) = true then J (jp_tgt pc (Op.lookupswitch.offset ps.toList d x.toInt)) (X.1, S, X.2.2) nc ns else none
      | _ => none)
    | .ireturn => (match X.2.1 with
      | [.inl x] => if jp_rok rt x then some (some (.inl x), X.2.2) else none
      | _ => none)
    | .return_ => (match X.2.1 with
      | [] => if rt = 2 then some (none, X.2.2) else none
      | _ => none)
    | .new _ => (match jp_newX mc ms (Z.2.2.1 a).length (.inr (.inr (a, Z.2.2.1 a))) X.1 X.2.1 X.2.2.1 X.2.2.2 nc ns with
      | some Y => jp_go Z mc ms rt J C r Y (nc + 1) (ns + (Z.2.2.1 a).length)
      | none => none)
    | .newarray at_ => (match X.2.1, jp_ati at_ with
      | .inl x :: S, some t => if 0 ≤ x ∧ x.toNatClampNeg * 4 ≤ 536870912 then (match jp_newX mc ms x.toNatClampNeg (.inl (t, x.toNatClampNeg)) X.1 S X.2.2.1 X.2.2.2 nc ns with
        | some Y => jp_go Z mc ms rt J C r Y (nc + 1) (ns + x.toNatClampNeg)
        | none => none) else none
      | _, _ => none)
    | .anewarray _ => (match X.2.1 with
      | .inl x :: S => if 0 ≤ x ∧ x.toNatClampNeg * 4 ≤ 536870912 then (match jp_newX mc ms x.toNatClampNeg (.inr (.inl (List.replicate x.toNatClampNeg none))) X.1 S X.2.2.1 X.2.2.2 nc ns with
        | some Y => jp_go Z mc ms rt J C r Y (nc + 1) (ns + x.toNatClampNeg)
        | none => none) else none
      | _ => none)
    | .invokevirtual _ => (match jp_call Z mc ms C a b X nc ns with
      | some (Y, nc', ns') => jp_go Z mc ms rt J C r Y nc' ns'
      | none => none)
    | .invokestatic i => if 9001 ≤ a ∧ a ≤ 9012 then (match jp_st Z.2.1 Z.2.2.2.2 (.invokestatic i) a b X with
      | some Y => jp_go Z mc ms rt J C r Y nc ns
      | none => none) else (match jp_call Z mc ms C a b X nc ns with
      | some (Y, nc', ns') => jp_go Z mc ms rt J C r Y nc' ns'
      | none => none)
    | .invokespecial i => if a = 9000 then (match jp_st Z.2.1 Z.2.2.2.2 (.invokespecial i) a b X with
      | some Y => jp_go Z mc ms rt J C r Y nc ns
      | none => none) else (match jp_call Z mc ms C a b X nc ns with
      | some (Y, nc', ns') => jp_go Z mc ms rt J C r Y nc' ns'
      | none => none)
    | _ => (match jp_st Z.2.1 Z.2.2.2.2 ins a b X with
      | some Y => jp_go Z mc ms rt J C r Y nc ns
      | none => none)
def jp_sfx (ops : List jp_O) (pc : Nat) : List jp_O := ops.dropWhile (fun o => !(o.1 == pc))
def jp_ent (n : Nat) (as : List jp_V) : List (Option jp_V) := as.map some ++ List.replicate (n - as.length) none
/-- fuel, depth, method, place -/
def jp_run (Z : jp_P) : Nat → Nat → Nat → jp_J
  | 0, _, _ => fun _ _ _ _ => none
  | n + 1, d, k => fun pc X nc ns => match Z.1 k with
    | none => none
    | some mi => jp_go Z mi.2.1 mi.2.2.1 mi.2.2.2.2.2.1 (jp_run Z n d k) (fun k' as sh M => if 9100 ≤ k' then (if 6 ≤ d then (match Z.2.2.2.1 k' as with
        | some v => some (v, sh, M)
        | none => none) else none) else (match d, Z.1 k' with
        | d' + 1, some mi' => if as.length ≤ mi'.1 then jp_run Z n d' k' 0 (jp_ent mi'.1 as, [], sh, M) 0 0 else none
        | _, _ => none)) (jp_sfx mi.2.2.2.2.2.2.2 pc) X nc ns
/-! the machine's side of it -/
def jp_tr (ad : Nat → Nat) (v : jp_V) : Value := match v with
  | .inl x => .int x
  | .inr none => .null
  | .inr (some q) => .ref (ad q)
def jp_cv (cA : Nat → ClassId) (ad : Nat → Nat) (M : jp_M) (p : Nat) (c : jp_C) : va_E := match c with
  | .inl (t, n) => .inl (cA t, n, .inl (fun i => jp_nar t (M p i)))
  | .inr (.inl l) => .inl (cA 3, l.length, .inr (.inr (.inr (.inr (fun i => (l.getD i none).map ad)))))
  | .inr (.inr (ci, fs)) => .inr (ci, fs.mapIdx (fun k o => jp_tr ad (jp_fval (M p k) o)))
def jp_ws (cA : Nat → ClassId) (ad : Nat → Nat) (M : jp_M) (sh : jp_S) : va_W := sh.mapIdx (fun p c => (ad p, jp_cv cA ad M p c))
theorem jp_ws_at {cA : Nat → ClassId} {ad : Nat → Nat} {M : jp_M} {sh : jp_S} {q : Nat} {c : jp_C} (h : sh[q]? = some c) : (jp_ws cA ad M sh)[q]? = some (ad q, jp_cv cA ad M q c) := by
  simp [jp_ws, List.getElem?_mapIdx, h]
theorem jp_ws_len {cA : Nat → ClassId} {ad : Nat → Nat} {M : jp_M} {sh : jp_S} : (jp_ws cA ad M sh).length = sh.length := by simp [jp_ws]
theorem jp_cat (ad : Nat → Nat) (v : jp_V) : (jp_tr ad v).category = 1 := by
  rcases v with x | _ | q <;> rfl
/-- memory written at one place -/
theorem jp_ws_set {cA : Nat → ClassId} {ad : Nat → Nat} {M : jp_M} {sh : jp_S} {q : Nat} {c c' : jp_C} {f : Nat → Int32} (h : sh[q]? = some c) : (jp_ws cA ad M sh).set q (ad q, jp_cv cA ad (jp_set M q f) q c') = jp_ws cA ad (jp_set M q f) (sh.set q c') := by
  apply List.ext_getElem?
  intro i
  have hq : q < sh.length := (List.getElem?_eq_some_iff.mp h).1
  by_cases hi : i = q
  · subst hi
    simp [jp_ws, List.getElem?_mapIdx, hq]
  · simp only [jp_ws, List.getElem?_mapIdx, List.getElem?_set, if_neg (Ne.symm hi)]
    cases hs : sh[i]? with
    | none => simp
    | some x =>
      simp only [Option.map_some]
      rcases x with ⟨t, n⟩ | l | ⟨ci, fs⟩ <;> simp [jp_cv, jp_set, hi]
theorem jp_ws_setS {cA : Nat → ClassId} {ad : Nat → Nat} {M : jp_M} {sh : jp_S} {q : Nat} {c c' : jp_C} (h : sh[q]? = some c) : (jp_ws cA ad M sh).set q (ad q, jp_cv cA ad M q c') = jp_ws cA ad M (sh.set q c') := by
  have e : jp_set M q (M q) = M := by
    funext p
    by_cases hp : p = q
    · subst hp; simp [jp_set]
    · simp [jp_set, hp]
  have := jp_ws_set (cA := cA) (ad := ad) (M := M) (c' := c') (f := M q) h
  rw [e] at this
  exact this
theorem jp_set_self {sh : jp_S} {q : Nat} {c : jp_C} (h : sh[q]? = some c) : sh.set q c = sh := by
  apply List.ext_getElem?
  intro i
  by_cases hi : i = q
  · subst hi
    have hq : i < sh.length := (List.getElem?_eq_some_iff.mp h).1
    rw [List.getElem?_set, if_pos rfl, if_pos hq, h]
  · rw [List.getElem?_set, if_neg (Ne.symm hi)]
