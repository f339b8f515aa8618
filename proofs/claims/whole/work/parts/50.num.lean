/-! numbers: every small number is 'nI n', every condition a condition on natural numbers -/
theorem n_lit (k : Nat) : (no_index (OfNat.ofNat k) : Int32) = nI (OfNat.ofNat k) := rfl
theorem n_neg1 : -(nI 1) = nI 4294967295 := by decide
theorem n_ti {a : Nat} (h : a < 2147483648) : (nI a).toInt = a := Int32.toInt_ofNat_of_lt (by omega)
theorem n_add (a b : Nat) : nI a + nI b = nI (a + b) := (Int32.ofNat_add a b).symm
theorem n_mul (a b : Nat) : nI a * nI b = nI (a * b) := (Int32.ofNat_mul a b).symm
theorem n_sub {a b : Nat} (h : b ≤ a) : nI a - nI b = nI (a - b) := (Int32.ofNat_sub a b h).symm
theorem n_div {a b : Nat} (ha : a < 2147483648) (hb : b < 2147483648) : nI a / nI b = nI (a / b) := (Int32.ofNat_div (by omega) (by omega)).symm
theorem n_mod {a b : Nat} (ha : a < 2147483648) (hb : b < 2147483648) : nI a % nI b = nI (a % b) := (Int32.ofNat_mod (by omega) (by omega)).symm
theorem n_le {a b : Nat} (ha : a < 2147483648) (hb : b < 2147483648) : nI a ≤ nI b ↔ a ≤ b := (Int32.ofNat_le_iff_le (by omega) (by omega))
theorem n_lt {a b : Nat} (ha : a < 2147483648) (hb : b < 2147483648) : nI a < nI b ↔ a < b := (Int32.ofNat_lt_iff_lt (by omega) (by omega))
theorem n_bv (a : Nat) : (nI a).toBitVec = BitVec.ofNat 32 a := rfl
theorem n_eq {a b : Nat} (ha : a < 4294967296) (hb : b < 4294967296) : nI a = nI b ↔ a = b := by
  constructor
  · intro h
    have h1 : BitVec.ofNat 32 a = BitVec.ofNat 32 b := congrArg Int32.toBitVec h
    have h2 := congrArg BitVec.toNat h1
    simp only [BitVec.toNat_ofNat] at h2
    omega
  · rintro rfl; rfl
theorem n_cl {a : Nat} (h : a < 2147483648) : (nI a).toNatClampNeg = a := Int32.toNatClampNeg_ofNat_of_lt (by omega)
theorem n_in {a k : Nat} (h : a < 2147483648) : jp_in (nI a) k ↔ a < k := by
  unfold jp_in
  rw [n_cl h, show (0 : Int32) = nI 0 from rfl, n_le (by omega) h]
  omega
theorem n_and (a b : Nat) : nI a &&& nI b = nI (a &&& b) := Int32.toBitVec_inj.1 (by
  show BitVec.ofNat 32 a &&& BitVec.ofNat 32 b = BitVec.ofNat 32 (a &&& b)
  apply BitVec.eq_of_toNat_eq
  simp only [BitVec.toNat_and, BitVec.toNat_ofNat]
  exact (Nat.and_mod_two_pow (n := 32)).symm)
theorem n_or (a b : Nat) : nI a ||| nI b = nI (a ||| b) := Int32.toBitVec_inj.1 (by
  show BitVec.ofNat 32 a ||| BitVec.ofNat 32 b = BitVec.ofNat 32 (a ||| b)
  apply BitVec.eq_of_toNat_eq
  simp only [BitVec.toNat_or, BitVec.toNat_ofNat]
  exact (Nat.or_mod_two_pow (n := 32)).symm)
theorem n_xor (a b : Nat) : nI a ^^^ nI b = nI (a ^^^ b) := Int32.toBitVec_inj.1 (by
  show BitVec.ofNat 32 a ^^^ BitVec.ofNat 32 b = BitVec.ofNat 32 (a ^^^ b)
  apply BitVec.eq_of_toNat_eq
  simp only [BitVec.toNat_xor, BitVec.toNat_ofNat]
  exact (Nat.xor_mod_two_pow (n := 32)).symm)
theorem n_m31 : ∀ k, k < 32 → nI k &&& 31 = nI k := by decide +kernel
theorem n_s31 : ∀ k, k < 32 → ((nI k).toBitVec.smod 32#32).toNat = k := by decide +kernel
theorem n_sm {k : Nat} (h : k < 32) : (BitVec.ofNat 32 k).smod 32 = BitVec.ofNat 32 k := by
  have := n_s31 k h
  apply BitVec.eq_of_toNat_eq
  rw [show ((BitVec.ofNat 32 k).smod 32).toNat = k from this, BitVec.toNat_ofNat]
  omega
theorem n_shl {a k : Nat} (h : k < 32) : nI a <<< (nI k &&& 31) = nI (a * 2 ^ k) := by
  rw [n_m31 k h]
  apply Int32.toBitVec_inj.1
  rw [Int32.toBitVec_shiftLeft, n_bv, n_bv, n_bv, n_sm h]
  apply BitVec.eq_of_toNat_eq
  rw [BitVec.shiftLeft_eq', BitVec.toNat_shiftLeft, BitVec.toNat_ofNat, BitVec.toNat_ofNat, BitVec.toNat_ofNat, Nat.shiftLeft_eq, Nat.mod_eq_of_lt (a := k) (by omega)]
  exact Nat.mod_mul_mod _ _ _
theorem n_shr {a k : Nat} (ha : a < 2147483648) (h : k < 32) : nI a >>> (nI k &&& 31) = nI (a / 2 ^ k) := by
  rw [n_m31 k h]
  apply Int32.toBitVec_inj.1
  rw [Int32.toBitVec_shiftRight, n_bv, n_bv, n_bv, n_sm h]
  have h1 : (BitVec.ofNat 32 a).msb = false := by
    rw [BitVec.msb_eq_decide]
    simp only [BitVec.toNat_ofNat, decide_eq_false_iff_not]
    omega
  rw [BitVec.sshiftRight_eq', BitVec.sshiftRight_eq_of_msb_false h1]
  apply BitVec.eq_of_toNat_eq
  have h2 : a / 2 ^ k ≤ a := Nat.div_le_self _ _
  rw [BitVec.toNat_ushiftRight, BitVec.toNat_ofNat, BitVec.toNat_ofNat, BitVec.toNat_ofNat, Nat.shiftRight_eq_div_pow, Nat.mod_eq_of_lt (a := k) (by omega), Nat.mod_eq_of_lt (a := a) (by omega), Nat.mod_eq_of_lt (a := a / 2 ^ k) (by omega)]
/-- the bit k of a set -/
theorem n_bit (a k : Nat) : (a / 2 ^ k) &&& 1 = if a.testBit k then 1 else 0 := by
  rw [Nat.testBit_eq_decide_div_mod_eq, Nat.and_one_is_mod]
  have := Nat.mod_two_eq_zero_or_one (a / 2 ^ k)
  rcases this with h | h <;> simp [h]
theorem n_of {x : Int32} (h : 0 ≤ x) : ∃ n, n < 2147483648 ∧ x = nI n := ⟨x.toNatClampNeg, by have := x.toNatClampNeg_lt; omega, (Int32.ofNat_toNatClampNeg x h).symm⟩
theorem n_rng {x : Int32} {a b : Nat} (hb : b < 2147483648) (h : nI a ≤ x) (ha : a < 2147483648) (h2 : x ≤ nI b) : ∃ n, a ≤ n ∧ n ≤ b ∧ x = nI n := by
  have h0 : (0 : Int32) ≤ x := Int32.le_trans (by rw [show (0 : Int32) = nI 0 from rfl, n_le (by omega) ha]; omega) h
  obtain ⟨n, hn, rfl⟩ := n_of h0
  rw [n_le ha hn] at h
  rw [n_le hn hb] at h2
  exact ⟨n, h, h2, rfl⟩
/-- the two tests of a range -/
theorem n_within {x y : Int32} : f_C_within x y = if nI 0 ≤ x ∧ x ≤ y then nI 1 else nI 0 := by
  unfold f_C_within
  simp only [jp_c, decide_eq_true_eq]
  by_cases h1 : x < 0
  · rw [if_pos h1, if_neg]; rfl
    rintro ⟨h, -⟩
    exact Int32.lt_irrefl (Int32.lt_of_lt_of_le h1 h)
  · rw [if_neg h1]
    by_cases h2 : y < x
    · rw [if_pos h2, if_neg]; rfl
      rintro ⟨-, h⟩
      exact Int32.lt_irrefl (Int32.lt_of_lt_of_le h2 h)
    · rw [if_neg h2, if_pos]; rfl
      exact ⟨Int32.not_lt.mp h1, Int32.not_lt.mp h2⟩
theorem n_isIn {x y z : Int32} : f_M_isIn x z y = if z ≤ x ∧ x ≤ y then nI 1 else nI 0 := by
  unfold f_M_isIn
  simp only [jp_c, decide_eq_true_eq]
  by_cases h1 : x < z
  · rw [if_pos h1, if_neg]; rfl
    rintro ⟨h, -⟩
    exact Int32.lt_irrefl (Int32.lt_of_lt_of_le h1 h)
  · rw [if_neg h1]
    by_cases h2 : y < x
    · rw [if_pos h2, if_neg]; rfl
      rintro ⟨-, h⟩
      exact Int32.lt_irrefl (Int32.lt_of_lt_of_le h2 h)
    · rw [if_neg h2, if_pos]; rfl
      exact ⟨Int32.not_lt.mp h1, Int32.not_lt.mp h2⟩
theorem st_same (M : jp_M) (p : Nat) (a : Nat → Int32) : jp_set M p a p = a := by simp [jp_set]
theorem ud_ne {f : Nat → Int32} {k j : Nat} {x : Int32} (h : ¬ j = k) : upd f k x j = f j := by simp [upd, h]
theorem st_ne {M : jp_M} {p q : Nat} {a : Nat → Int32} (h : ¬ q = p) : jp_set M p a q = M q := by simp [jp_set, h]
