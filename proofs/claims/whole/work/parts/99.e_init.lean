theorem jm_c : jmq jM2 [67, 108, 109, 110, 112, 129, 130, 131, 132, 133, 138, 139, 140, 141] = true := by decide +kernel
def jZl : List Nat := [0, 1, 2, 3, 4, 5, 7, 14, 17, 19, 20, 21, 22, 23, 54, 105, 114, 123, 124, 135, 137, 67, 108, 109, 110, 112, 129, 130, 131, 132, 133, 138, 139, 140, 141]
theorem jZl_0 : ∀ p, p ∈ jZl → (jmt.find? (fun q => q.1 == p)).isNone = true := by decide +kernel
theorem jZl_1 : ∀ p, p ∈ jZl → p ∈ [0, 1, 2, 3, 4, 5, 6, 7, 8, 9, 10, 11, 12, 13, 14, 15, 16, 17, 18, 19, 20, 21, 22, 23, 24] ∨ p ∈ [54, 56, 61, 68, 69, 70, 77, 78, 104, 105, 113, 114, 123, 124, 135, 137] ∨ p ∈ [67, 108, 109, 110, 112, 129, 130, 131, 132, 133, 138, 139, 140, 141] := by decide +kernel
theorem jm_use {p : Nat} (h : p ∈ [0, 1, 2, 3, 4, 5, 6, 7, 8, 9, 10, 11, 12, 13, 14, 15, 16, 17, 18, 19, 20, 21, 22, 23, 24] ∨ p ∈ [54, 56, 61, 68, 69, 70, 77, 78, 104, 105, 113, 114, 123, 124, 135, 137] ∨ p ∈ [67, 108, 109, 110, 112, 129, 130, 131, 132, 133, 138, 139, 140, 141]) : ∀ i, i < jln.getD p 0 → jM2 p i = jM0 p i := by
  have ha := jm_a
  have hb := jm_b
  have hc := jm_c
  generalize jM2 = m at ha hb hc ⊢
  rcases h with h | h | h
  · exact jmq_use ha p h
  · exact jmq_use hb p h
  · exact jmq_use hc p h
theorem jz (p : Nat) (h : p ∈ jZl) (i : Nat) (hi : i < jln.getD p 0) : jM2 p i = nI 0 := by
  rw [jm_use (jZl_1 p h) i hi]
  have := jZl_0 p h
  unfold jM0
  cases hf : jmt.find? (fun q => q.1 == p) with
  | none => rfl
  | some q => rw [hf] at this; exact absurd this (by simp)
theorem jM_of {p i : Nat} {v : Int32} (h : p ∈ [0, 1, 2, 3, 4, 5, 6, 7, 8, 9, 10, 11, 12, 13, 14, 15, 16, 17, 18, 19, 20, 21, 22, 23, 24] ∨ p ∈ [54, 56, 61, 68, 69, 70, 77, 78, 104, 105, 113, 114, 123, 124, 135, 137] ∨ p ∈ [67, 108, 109, 110, 112, 129, 130, 131, 132, 133, 138, 139, 140, 141]) (hi : i < jln.getD p 0) (hv : jM0 p i = v) : jM2 p i = v := by rw [jm_use h i hi, hv]
theorem jMz_16 : ∀ r, r < 10 → jM0 16 r = nI 0 - nI 1 := by decide +kernel
theorem jMz_24 : ∀ r, r < 10 → jM0 24 r = nI (0 ||| 2 ^ r) := by decide +kernel
theorem rel0 : Rel jM2 jM2 := by
  have z := jz
  have m16 : ∀ r, r < 10 → jM2 16 r = nI 0 - nI 1 := fun r hr => jM_of (by decide) hr (jMz_16 r hr)
  have m24 : ∀ r, r < 10 → jM2 24 r = nI (0 ||| 2 ^ r) := fun r hr => jM_of (by decide) hr (jMz_24 r hr)
  have m104 : ∀ i, i < 66 → jM2 104 i = jM0 104 i := fun i hi => jM_of (by decide) hi rfl
  have m687 : jM2 68 7 = nI 0 := jM_of (by decide) (by decide) (by decide)
  have m688 : jM2 68 8 = nI 4294967295 := jM_of (by decide) (by decide) (by decide)
  have m113 : ∀ i, i < 164 → jM2 113 i = jM0 113 i := fun i hi => jM_of (by decide) hi rfl
  have o : ∀ i, i < 66 → jM0 104 i = nI 0 → jM2 104 i = nI 0 := fun i hi h => by rw [m104 i hi]; exact h
  have m3434 : jM2 104 34 = nI 4294967295 := by rw [m104 34 (by decide)]; decide
  generalize jM2 = M at z m16 m24 m104 m687 m688 m113 o m3434 ⊢
  refine ⟨⟨⟨⟨⟨?_, ?_, ?_, ?_, ?_, ?_, ?_⟩, ?_, ?_, ?_⟩, ?_⟩, ?_, ?_, ?_, ?_, ?_, ?_, ?_, ?_, ?_, ?_⟩, ?_, ?_, ?_, ?_, ?_, ?_⟩
  · rw [z 2 (by decide) 0 (by decide), z 105 (by decide) 1 (by decide)]
  · rw [z 2 (by decide) 1 (by decide), z 105 (by decide) 0 (by decide)]
  · rw [z 2 (by decide) 2 (by decide), z 105 (by decide) 3 (by decide)]
  · rw [z 2 (by decide) 3 (by decide), z 105 (by decide) 4 (by decide)]
  · rw [z 2 (by decide) 4 (by decide), o 6 (by decide) (by decide)]
  · rw [z 2 (by decide) 5 (by decide), o 7 (by decide) (by decide)]
  · rw [z 2 (by decide) 6 (by decide), z 105 (by decide) 5 (by decide)]
  · intro i hi
    have a1 : ∀ j, j < 50 → M 3 j = nI 0 := fun j hj => z 3 (by decide) j hj
    have a2 : ∀ j, j < 184 → M 105 j = nI 0 := fun j hj => z 105 (by decide) j hj
    have a3 : ∀ j, j < 10 → M 108 j = nI 0 := fun j hj => z 108 (by decide) j hj
    have a4 : ∀ j, j < 10 → M 109 j = nI 0 := fun j hj => z 109 (by decide) j hj
    rw [a1 _ (by omega), a1 _ (by omega), a1 _ (by omega), a1 _ (by omega), a1 _ (by omega), a2 _ (by omega), a2 _ (by omega), a2 _ (by omega), a3 _ hi, a4 _ hi]
    exact ⟨rfl, rfl, rfl, rfl, rfl⟩
  · intro i hi
    have a1 : ∀ j, j < 30 → M 4 j = nI 0 := fun j hj => z 4 (by decide) j hj
    have a2 : ∀ j, j < 184 → M 105 j = nI 0 := fun j hj => z 105 (by decide) j hj
    have a3 : ∀ j, j < 10 → M 110 j = nI 0 := fun j hj => z 110 (by decide) j hj
    rw [a1 _ (by omega), a1 _ (by omega), a1 _ (by omega), a2 _ (by omega), a2 _ (by omega), a3 _ hi]
    exact ⟨rfl, rfl, rfl⟩
  · intro j hj
    have a1 : ∀ j, j < 128 → M 5 j = nI 0 := fun j hj => z 5 (by decide) j hj
    have a2 : ∀ j, j < 184 → M 105 j = nI 0 := fun j hj => z 105 (by decide) j hj
    rw [a1 _ hj, a2 _ (by omega)]
  · have a1 : ∀ j, j < 50 → M 3 j = nI 0 := fun j hj => z 3 (by decide) j hj
    have a4 : ∀ j, j < 30 → M 4 j = nI 0 := fun j hj => z 4 (by decide) j hj
    exact ⟨0, 0, 0, by omega, by omega, by omega, z 2 (by decide) 4 (by decide), z 2 (by decide) 5 (by decide), z 2 (by decide) 6 (by decide), fun i hi => ⟨0, 0, 0, by omega, by omega, by omega, a1 _ (by omega), a1 _ (by omega), a1 _ (by omega)⟩, fun i hi => ⟨0, 0, by omega, by omega, a4 _ (by omega), a4 _ (by omega)⟩, fun i hi => absurd hi (by omega)⟩
  · exact ⟨0, by omega, z 2 (by decide) 7 (by decide), z 105 (by decide) 2 (by decide), fun j hj => absurd hj (by omega)⟩
  · exact ⟨0, fun _ => 0, by omega, z 7 (by decide) 0 (by decide), z 114 (by decide) 0 (by decide), rfl, Nat.zero_le _, z 7 (by decide) 1 (by decide), fun l hl => absurd hl (by omega)⟩
  · exact ⟨0, 0, by omega, by omega, z 2 (by decide) 4 (by decide), z 14 (by decide) 0 (by decide), o 35 (by decide) (by decide), fun j hj => absurd hj (by omega), fun i hi => absurd hi (by omega)⟩
  · have a1 : ∀ j, j < 20 → M 123 j = nI 0 := fun j hj => z 123 (by decide) j hj
    exact ⟨by rw [z 1 (by decide) 5 (by decide), o 37 (by decide) (by decide)], fun r hr => ⟨0, by omega, a1 _ (by omega), m16 r hr⟩⟩
  · have a1 : ∀ j, j < 32 → M 124 j = nI 0 := fun j hj => z 124 (by decide) j hj
    exact ⟨0, by omega, z 17 (by decide) 0 (by decide), o 39 (by decide) (by decide), fun k hk => absurd hk (by omega), fun i hi => ⟨0, by omega, a1 _ (by omega), fun y hy => by
      rw [Nat.zero_testBit]
      exact ⟨fun h => absurd h (by decide), fun ⟨k, k1, _⟩ => absurd k1 (by omega)⟩⟩⟩
  · have a1 : ∀ j, j < 24 → M 20 j = nI 0 := fun j hj => z 20 (by decide) j hj
    have a2 : ∀ j, j < 8 → M 129 j = nI 0 := fun j hj => z 129 (by decide) j hj
    have a3 : ∀ j, j < 8 → M 130 j = nI 0 := fun j hj => z 130 (by decide) j hj
    have a4 : ∀ j, j < 8 → M 131 j = nI 0 := fun j hj => z 131 (by decide) j hj
    exact ⟨⟨0, by omega, z 19 (by decide) 0 (by decide), o 45 (by decide) (by decide)⟩, fun i hi => ⟨0, 0, 0, by omega, by omega, by omega, a1 _ (by omega), a2 _ hi, a1 _ (by omega), a3 _ hi, a1 _ (by omega), a4 _ hi⟩⟩
  · have a1 : ∀ j, j < 20 → M 21 j = nI 0 := fun j hj => z 21 (by decide) j hj
    have a2 : ∀ j, j < 10 → M 132 j = nI 0 := fun j hj => z 132 (by decide) j hj
    have a3 : ∀ j, j < 10 → M 133 j = nI 0 := fun j hj => z 133 (by decide) j hj
    exact ⟨⟨0, by omega, z 19 (by decide) 1 (by decide), o 49 (by decide) (by decide)⟩, fun i hi => by rw [a1 _ (by omega), a1 _ (by omega), a2 _ hi, a3 _ hi]; exact ⟨rfl, rfl⟩⟩
  · have a1 : ∀ j, j < 32 → M 22 j = nI 0 := fun j hj => z 22 (by decide) j hj
    have a2 : ∀ j, j < 8 → M 138 j = nI 0 := fun j hj => z 138 (by decide) j hj
    have a3 : ∀ j, j < 8 → M 139 j = nI 0 := fun j hj => z 139 (by decide) j hj
    have a4 : ∀ j, j < 8 → M 140 j = nI 0 := fun j hj => z 140 (by decide) j hj
    have a5 : ∀ j, j < 8 → M 141 j = nI 0 := fun j hj => z 141 (by decide) j hj
    exact ⟨⟨0, by omega, z 19 (by decide) 2 (by decide), o 56 (by decide) (by decide)⟩, fun i hi => ⟨0, 0, 0, 0, by omega, by omega, by omega, by omega, a1 _ (by omega), a2 _ hi, a1 _ (by omega), a3 _ hi, a1 _ (by omega), a4 _ hi, a1 _ (by omega), a5 _ hi⟩⟩
  · exact fun j hj => ⟨0, by omega, z 23 (by decide) j hj, z 135 (by decide) j hj⟩
  · exact fun r hr => ⟨0, by omega, z 137 (by decide) r hr, m24 r hr⟩
  · exact ⟨by rw [z 0 (by decide) 2 (by decide), o 63 (by decide) (by decide)], Or.inl (z 0 (by decide) 2 (by decide))⟩
  · rw [z 0 (by decide) 4 (by decide), o 3 (by decide) (by decide)]
    exact rKept_0 ⟨0, by omega, z 0 (by decide) 5 (by decide)⟩
  · exact ⟨⟨0, by omega, z 0 (by decide) 11 (by decide), o 13 (by decide) (by decide)⟩, fun j hj => ⟨0, by omega, z 112 (by decide) j hj, by rw [z 67 (by decide) j hj]; decide⟩⟩
  · rw [m687, m688, o 33 (by decide) (by decide), m3434]; exact ⟨rfl, rfl⟩
  · exact ⟨z 54 (by decide) 3 (by decide), o 5 (by decide) (by decide)⟩
  · exact m113
