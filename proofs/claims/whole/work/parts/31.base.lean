/-! the shape of the heap behind the constructors; constants -/
theorem jp_set_ne {M : jp_M} {p q : Nat} {f : Nat → Int32} (h : p ≠ q) : jp_set M q f p = M p := by simp only [jp_set, if_neg h]
theorem jp_set_eq {M : jp_M} {q : Nat} {f : Nat → Int32} : jp_set M q f q = f := by simp only [jp_set, if_true]
theorem jne {W : List Nat} {p q : Nat} (hp : p ∉ W) (hq : q ∈ W) : p ≠ q := fun h => hp (h ▸ hq)
theorem jout {W V : List Nat} {p : Nat} (hp : p ∉ W) (h : V.all (fun x => W.contains x) = true) : p ∉ V := fun hv => hp (by simpa using List.all_eq_true.mp h p hv)
def jSH (w : Nat) : jp_S := [.inr (.inr (11, [some (some 1), some (some 25), none, some (some 49), none, none, some (some 50), some (some 54), some (some 56), some (some 61), some (some 67), none, some (some 68), some (some 69), some (some 77)])), .inr (.inr (0, [some (some 2), some (some 6), some (some 7), some (some 14), some (some 16), none, some (some 17), some (some 19)])), .inr (.inr (10, [none, none, none, none, none, none, none, none, some (some 3), some (some 4), some (some 5)])), .inl (0, 50), .inl (0, 30), .inl (0, 128), .inl (0, 600), .inr (.inr (3, [none, none, some (some 8), some (some 9), some (some 10), some (some 11), some (some 12), some (some 13)])), .inl (0, 16), .inl (0, 16), .inl (0, 16), .inl (2, 400), .inl (0, 10), .inl (0, 32), .inr (.inr (7, [none, some (some 15)])), .inl (0, 112), .inl (0, 10), .inr (.inr (7, [none, some (some 18)])), .inl (0, 32), .inr (.inr (8, [none, none, none, some (some 20), some (some 21), some (some 22), some (some 23), some (some 24)])), .inl (0, 24), .inl (0, 20), .inl (0, 32), .inl (0, 36), .inl (0, 10), .inr (.inr (0, [some (some 26), some (some 30), some (some 31), some (some 38), some (some 40), none, some (some 41), some (some 43)])), .inr (.inr (10, [none, none, none, none, none, none, none, none, some (some 27), some (some 28), some (some 29)])), .inl (0, 50), .inl (0, 30), .inl (0, 128), .inl (0, 600), .inr (.inr (3, [none, none, some (some 32), some (some 33), some (some 34), some (some 35), some (some 36), some (some 37)])), .inl (0, 16), .inl (0, 16), .inl (0, 16), .inl (2, 400), .inl (0, 10), .inl (0, 32), .inr (.inr (7, [none, some (some 39)])), .inl (0, 112), .inl (0, 10), .inr (.inr (7, [none, some (some 42)])), .inl (0, 32), .inr (.inr (8, [none, none, none, some (some 44), some (some 45), some (some 46), some (some 47), some (some 48)])), .inl (0, 24), .inl (0, 20), .inl (0, 32), .inl (0, 36), .inl (0, 10), .inr (.inl [some 80, some 84, some 88, some 92, some 96, some 100]), .inr (.inr (10, [none, none, none, none, none, none, none, none, some (some 51), some (some 52), some (some 53)])), .inl (0, 50), .inl (0, 30), .inl (0, 128), .inr (.inr (2, [some (some 1), some (some 2), some (some 55), none])), .inl (0, 8), .inr (.inr (1, [some (some 2), some (some 57), some (some 58), some (some 59), some (some 60), none, none, none, none, none])), .inl (0, 10), .inl (0, 80), .inl (0, 80), .inl (0, 80), .inr (.inr (9, [some (some 19), some (some 17), some (some 62), some (some 63), some (some 64), some (some 65), some (some 66), none, none, none])), .inl (0, 8), .inl (0, 10), .inl (0, 64), .inl (0, 16), .inl (0, 16), .inl (1, 400), .inr (.inr (6, [some (some 67), none, some (some w), none, none, none, none, none, none])), .inr (.inr (4, [some (some 68), some (some 70)])), .inr (.inr (3, [none, none, some (some 71), some (some 72), some (some 73), some (some 74), some (some 75), some (some 76)])), .inl (0, 16), .inl (0, 16), .inl (0, 16), .inl (2, 400), .inl (0, 10), .inl (0, 32), .inr (.inr (5, [some (some 68), some (some 78), none, none, none, none])), .inr (.inr (7, [none, some (some 79)])), .inl (0, 112), .inr (.inr (10, [none, none, none, none, none, none, none, none, some (some 81), some (some 82), some (some 83)])), .inl (0, 50), .inl (0, 30), .inl (0, 128), .inr (.inr (10, [none, none, none, none, none, none, none, none, some (some 85), some (some 86), some (some 87)])), .inl (0, 50), .inl (0, 30), .inl (0, 128), .inr (.inr (10, [none, none, none, none, none, none, none, none, some (some 89), some (some 90), some (some 91)])), .inl (0, 50), .inl (0, 30), .inl (0, 128), .inr (.inr (10, [none, none, none, none, none, none, none, none, some (some 93), some (some 94), some (some 95)])), .inl (0, 50), .inl (0, 30), .inl (0, 128), .inr (.inr (10, [none, none, none, none, none, none, none, none, some (some 97), some (some 98), some (some 99)])), .inl (0, 50), .inl (0, 30), .inl (0, 128), .inr (.inr (10, [none, none, none, none, none, none, none, none, some (some 101), some (some 102), some (some 103)])), .inl (0, 50), .inl (0, 30), .inl (0, 128), .inr (.inr (12, [none, some (some 105), some (some 106), none, some (some 107), none, none, none, some (some 108), some (some 109), some (some 110), some (some 111), some (some 112), none, none, none, none, none, some (some 113), some (some 114), some (some 115), some (some 116), some (some 117), some (some 118), some (some 119), some (some 120), none, none, none, some (some 121), none, none, none, none, none, none, some (some 122), none, some (some 123), none, some (some 124), some (some 125), some (some 126), some (some 127), some (some 128), none, some (some 129), some (some 130), some (some 131), none, some (some 132), some (some 133), some (some 134), some (some 135), some (some 136), some (some 137), none, some (some 138), some (some 139), some (some 140), some (some 141), some (some 142), none, none, none, some (some 143)])), .inl (0, 184), .inl (0, 1104), .inl (0, 184), .inl (0, 10), .inl (0, 10), .inl (0, 10), .inl (0, 600), .inl (0, 400), .inl (0, 164), .inl (0, 2), .inl (0, 48), .inl (0, 48), .inl (0, 48), .inl (0, 48), .inl (0, 1200), .inl (0, 1200), .inl (0, 40), .inl (0, 224), .inl (0, 20), .inl (0, 32), .inl (0, 10), .inl (0, 420), .inl (0, 80), .inl (0, 80), .inl (0, 8), .inl (0, 8), .inl (0, 8), .inl (0, 10), .inl (0, 10), .inl (0, 10), .inl (0, 36), .inl (0, 64), .inl (0, 10), .inl (0, 8), .inl (0, 8), .inl (0, 8), .inl (0, 8), .inl (0, 8), .inl (0, 2300)]
def jstr : List (List Int32) := [[108, 101, 97, 118, 101, 32, 114, 101, 110, 116, 32, 102, 105, 110, 101, 32, 119, 104, 101, 110, 32, 111, 114, 32, 97, 110, 100, 32, 110, 111, 116, 32, 107, 105, 110, 100, 32, 104, 105, 103, 104, 32, 100, 97, 121, 115, 32, 114, 111, 111, 102, 32, 116, 97, 108, 108, 32, 102, 105, 110, 101, 100, 32, 110, 101, 115, 116, 115, 32, 115, 117, 109, 109, 101, 114, 32, 117, 115, 101, 100, 32, 100, 97, 121, 32], [111, 110, 32, 112, 101, 114, 115, 111, 110, 32, 107, 105, 116, 101, 32, 119, 97, 115, 104, 105, 110, 103, 32, 117, 109, 98, 114, 101, 108, 108, 97, 32, 98, 101, 108, 108, 32, 98, 97, 108, 108, 111, 111, 110, 32, 98, 97, 108, 108, 32, 97, 116, 32, 102, 111, 114, 32], [116, 117, 114, 110, 32, 116, 111, 32], [99, 97, 115, 101, 32, 102, 111, 108, 108, 111, 119, 115, 32], [59, 43, 45, 42, 47, 40, 41, 60, 61, 62]]
def jcon (q i : Nat) : Int32 := if q = 2001 then ([0, 1, 0, 2, 1, 2, 0, 1] : List Int32).getD i 0 else (jstr.getD (q - 2002) []).getD i 0
def jK (Ln : Nat) (xs : Nat → Int32) (sv : jp_V) : jp_Kc := (fun q => if q = 2000 then some (0, Ln, xs) else if q = 2001 then some (0, 8, jcon 2001) else if 2002 ≤ q ∧ q < 2007 then some (1, (jstr.getD (q - 2002) []).length, jcon q) else none, fun q j => if 1000 ≤ q ∧ q < 1005 then (if j = 0 then some (.inr (some (q + 1002))) else if j = 1 then some (.inl 0) else none) else none, fun j => if j = 0 then some (.inr (some 2001)) else if j = 1 then some (.inl 1) else if j = 2 then some sv else none)
theorem jsw_0 {x : Int32} (h0 : ¬ x = (0 : Int32)) (h1 : ¬ x = (1 : Int32)) (h2 : ¬ x = (2 : Int32)) (h3 : ¬ x = (3 : Int32)) (h4 : ¬ x = (4 : Int32)) (h5 : ¬ x = (5 : Int32)) (h6 : ¬ x = (6 : Int32)) (h7 : ¬ x = (7 : Int32)) (h8 : ¬ x = (8 : Int32)) (h9 : ¬ x = (9 : Int32)) (h10 : ¬ x = (10 : Int32)) (h11 : ¬ x = (11 : Int32)) (h12 : ¬ x = (12 : Int32)) (h13 : ¬ x = (13 : Int32)) (h14 : ¬ x = (14 : Int32)) (h15 : ¬ x = (15 : Int32)) (h16 : ¬ x = (16 : Int32)) (h17 : ¬ x = (17 : Int32)) (h18 : ¬ x = (18 : Int32)) (h19 : ¬ x = (19 : Int32)) (h20 : ¬ x = (20 : Int32)) (h21 : ¬ x = (21 : Int32)) (h22 : ¬ x = (22 : Int32)) (h23 : ¬ x = (23 : Int32)) (h24 : ¬ x = (24 : Int32)) (h25 : ¬ x = (25 : Int32)) (h26 : ¬ x = (26 : Int32)) (h27 : ¬ x = (27 : Int32)) (h28 : ¬ x = (28 : Int32)) (h29 : ¬ x = (29 : Int32)) (h30 : ¬ x = (30 : Int32)) (h31 : ¬ x = (31 : Int32)) (h32 : ¬ x = (32 : Int32)) (h33 : ¬ x = (33 : Int32)) (h34 : ¬ x = (34 : Int32)) (h35 : ¬ x = (35 : Int32)) (h36 : ¬ x = (36 : Int32)) (h37 : ¬ x = (37 : Int32)) (h38 : ¬ x = (38 : Int32)) (h39 : ¬ x = (39 : Int32)) : x.toInt < 0 ∨ 39 < x.toInt := by
  by_cases hx : x.toInt < 0 ∨ 39 < x.toInt
  · exact hx
  · exfalso
    have h : x.toInt = 0 ∨ x.toInt = 1 ∨ x.toInt = 2 ∨ x.toInt = 3 ∨ x.toInt = 4 ∨ x.toInt = 5 ∨ x.toInt = 6 ∨ x.toInt = 7 ∨ x.toInt = 8 ∨ x.toInt = 9 ∨ x.toInt = 10 ∨ x.toInt = 11 ∨ x.toInt = 12 ∨ x.toInt = 13 ∨ x.toInt = 14 ∨ x.toInt = 15 ∨ x.toInt = 16 ∨ x.toInt = 17 ∨ x.toInt = 18 ∨ x.toInt = 19 ∨ x.toInt = 20 ∨ x.toInt = 21 ∨ x.toInt = 22 ∨ x.toInt = 23 ∨ x.toInt = 24 ∨ x.toInt = 25 ∨ x.toInt = 26 ∨ x.toInt = 27 ∨ x.toInt = 28 ∨ x.toInt = 29 ∨ x.toInt = 30 ∨ x.toInt = 31 ∨ x.toInt = 32 ∨ x.toInt = 33 ∨ x.toInt = 34 ∨ x.toInt = 35 ∨ x.toInt = 36 ∨ x.toInt = 37 ∨ x.toInt = 38 ∨ x.toInt = 39 := by omega
    rcases h with h | h | h | h | h | h | h | h | h | h | h | h | h | h | h | h | h | h | h | h | h | h | h | h | h | h | h | h | h | h | h | h | h | h | h | h | h | h | h | h
    · exact h0 (Int32.toInt_inj.mp (by rw [h]; rfl))
    · exact h1 (Int32.toInt_inj.mp (by rw [h]; rfl))
    · exact h2 (Int32.toInt_inj.mp (by rw [h]; rfl))
    · exact h3 (Int32.toInt_inj.mp (by rw [h]; rfl))
    · exact h4 (Int32.toInt_inj.mp (by rw [h]; rfl))
    · exact h5 (Int32.toInt_inj.mp (by rw [h]; rfl))
    · exact h6 (Int32.toInt_inj.mp (by rw [h]; rfl))
    · exact h7 (Int32.toInt_inj.mp (by rw [h]; rfl))
    · exact h8 (Int32.toInt_inj.mp (by rw [h]; rfl))
    · exact h9 (Int32.toInt_inj.mp (by rw [h]; rfl))
    · exact h10 (Int32.toInt_inj.mp (by rw [h]; rfl))
    · exact h11 (Int32.toInt_inj.mp (by rw [h]; rfl))
    · exact h12 (Int32.toInt_inj.mp (by rw [h]; rfl))
    · exact h13 (Int32.toInt_inj.mp (by rw [h]; rfl))
    · exact h14 (Int32.toInt_inj.mp (by rw [h]; rfl))
    · exact h15 (Int32.toInt_inj.mp (by rw [h]; rfl))
    · exact h16 (Int32.toInt_inj.mp (by rw [h]; rfl))
    · exact h17 (Int32.toInt_inj.mp (by rw [h]; rfl))
    · exact h18 (Int32.toInt_inj.mp (by rw [h]; rfl))
    · exact h19 (Int32.toInt_inj.mp (by rw [h]; rfl))
    · exact h20 (Int32.toInt_inj.mp (by rw [h]; rfl))
    · exact h21 (Int32.toInt_inj.mp (by rw [h]; rfl))
    · exact h22 (Int32.toInt_inj.mp (by rw [h]; rfl))
    · exact h23 (Int32.toInt_inj.mp (by rw [h]; rfl))
    · exact h24 (Int32.toInt_inj.mp (by rw [h]; rfl))
    · exact h25 (Int32.toInt_inj.mp (by rw [h]; rfl))
    · exact h26 (Int32.toInt_inj.mp (by rw [h]; rfl))
    · exact h27 (Int32.toInt_inj.mp (by rw [h]; rfl))
    · exact h28 (Int32.toInt_inj.mp (by rw [h]; rfl))
    · exact h29 (Int32.toInt_inj.mp (by rw [h]; rfl))
    · exact h30 (Int32.toInt_inj.mp (by rw [h]; rfl))
    · exact h31 (Int32.toInt_inj.mp (by rw [h]; rfl))
    · exact h32 (Int32.toInt_inj.mp (by rw [h]; rfl))
    · exact h33 (Int32.toInt_inj.mp (by rw [h]; rfl))
    · exact h34 (Int32.toInt_inj.mp (by rw [h]; rfl))
    · exact h35 (Int32.toInt_inj.mp (by rw [h]; rfl))
    · exact h36 (Int32.toInt_inj.mp (by rw [h]; rfl))
    · exact h37 (Int32.toInt_inj.mp (by rw [h]; rfl))
    · exact h38 (Int32.toInt_inj.mp (by rw [h]; rfl))
    · exact h39 (Int32.toInt_inj.mp (by rw [h]; rfl))
theorem jsw_1 {x : Int32} (h0 : ¬ x = (0 : Int32)) (h1 : ¬ x = (1 : Int32)) (h2 : ¬ x = (2 : Int32)) (h3 : ¬ x = (3 : Int32)) (h4 : ¬ x = (4 : Int32)) (h5 : ¬ x = (5 : Int32)) : x.toInt < 0 ∨ 5 < x.toInt := by
  by_cases hx : x.toInt < 0 ∨ 5 < x.toInt
  · exact hx
  · exfalso
    have h : x.toInt = 0 ∨ x.toInt = 1 ∨ x.toInt = 2 ∨ x.toInt = 3 ∨ x.toInt = 4 ∨ x.toInt = 5 := by omega
    rcases h with h | h | h | h | h | h
    · exact h0 (Int32.toInt_inj.mp (by rw [h]; rfl))
    · exact h1 (Int32.toInt_inj.mp (by rw [h]; rfl))
    · exact h2 (Int32.toInt_inj.mp (by rw [h]; rfl))
    · exact h3 (Int32.toInt_inj.mp (by rw [h]; rfl))
    · exact h4 (Int32.toInt_inj.mp (by rw [h]; rfl))
    · exact h5 (Int32.toInt_inj.mp (by rw [h]; rfl))
theorem jsw_2 {x : Int32} (h0 : ¬ x = (0 : Int32)) (h1 : ¬ x = (1 : Int32)) : Op.lookupswitch.offset [(0, 25), (1, 45)] 49 x.toInt = 49 := by
  have g0 : ¬ x.toInt = 0 := fun h => h0 (Int32.toInt_inj.mp (by rw [h]; rfl))
  have g1 : ¬ x.toInt = 1 := fun h => h1 (Int32.toInt_inj.mp (by rw [h]; rfl))
  simp only [lookupswitch.offset_cons, lookupswitch.offset_nil]
  simp [g0, Ne.symm g0, g1, Ne.symm g1]
theorem jsw_3 {x : Int32} (h0 : ¬ x = (38 : Int32)) (h1 : ¬ x = (39 : Int32)) (h2 : ¬ x = (40 : Int32)) (h3 : ¬ x = (41 : Int32)) (h4 : ¬ x = (42 : Int32)) (h5 : ¬ x = (43 : Int32)) (h6 : ¬ x = (44 : Int32)) (h7 : ¬ x = (45 : Int32)) (h8 : ¬ x = (46 : Int32)) (h9 : ¬ x = (47 : Int32)) (h10 : ¬ x = (48 : Int32)) (h11 : ¬ x = (49 : Int32)) (h12 : ¬ x = (50 : Int32)) (h13 : ¬ x = (51 : Int32)) (h14 : ¬ x = (52 : Int32)) (h15 : ¬ x = (53 : Int32)) (h16 : ¬ x = (54 : Int32)) (h17 : ¬ x = (55 : Int32)) (h18 : ¬ x = (56 : Int32)) (h19 : ¬ x = (57 : Int32)) (h20 : ¬ x = (58 : Int32)) (h21 : ¬ x = (59 : Int32)) (h22 : ¬ x = (60 : Int32)) (h23 : ¬ x = (61 : Int32)) (h24 : ¬ x = (62 : Int32)) : x.toInt < 38 ∨ 62 < x.toInt := by
  by_cases hx : x.toInt < 38 ∨ 62 < x.toInt
  · exact hx
  · exfalso
    have h : x.toInt = 38 ∨ x.toInt = 39 ∨ x.toInt = 40 ∨ x.toInt = 41 ∨ x.toInt = 42 ∨ x.toInt = 43 ∨ x.toInt = 44 ∨ x.toInt = 45 ∨ x.toInt = 46 ∨ x.toInt = 47 ∨ x.toInt = 48 ∨ x.toInt = 49 ∨ x.toInt = 50 ∨ x.toInt = 51 ∨ x.toInt = 52 ∨ x.toInt = 53 ∨ x.toInt = 54 ∨ x.toInt = 55 ∨ x.toInt = 56 ∨ x.toInt = 57 ∨ x.toInt = 58 ∨ x.toInt = 59 ∨ x.toInt = 60 ∨ x.toInt = 61 ∨ x.toInt = 62 := by omega
    rcases h with h | h | h | h | h | h | h | h | h | h | h | h | h | h | h | h | h | h | h | h | h | h | h | h | h
    · exact h0 (Int32.toInt_inj.mp (by rw [h]; rfl))
    · exact h1 (Int32.toInt_inj.mp (by rw [h]; rfl))
    · exact h2 (Int32.toInt_inj.mp (by rw [h]; rfl))
    · exact h3 (Int32.toInt_inj.mp (by rw [h]; rfl))
    · exact h4 (Int32.toInt_inj.mp (by rw [h]; rfl))
    · exact h5 (Int32.toInt_inj.mp (by rw [h]; rfl))
    · exact h6 (Int32.toInt_inj.mp (by rw [h]; rfl))
    · exact h7 (Int32.toInt_inj.mp (by rw [h]; rfl))
    · exact h8 (Int32.toInt_inj.mp (by rw [h]; rfl))
    · exact h9 (Int32.toInt_inj.mp (by rw [h]; rfl))
    · exact h10 (Int32.toInt_inj.mp (by rw [h]; rfl))
    · exact h11 (Int32.toInt_inj.mp (by rw [h]; rfl))
    · exact h12 (Int32.toInt_inj.mp (by rw [h]; rfl))
    · exact h13 (Int32.toInt_inj.mp (by rw [h]; rfl))
    · exact h14 (Int32.toInt_inj.mp (by rw [h]; rfl))
    · exact h15 (Int32.toInt_inj.mp (by rw [h]; rfl))
    · exact h16 (Int32.toInt_inj.mp (by rw [h]; rfl))
    · exact h17 (Int32.toInt_inj.mp (by rw [h]; rfl))
    · exact h18 (Int32.toInt_inj.mp (by rw [h]; rfl))
    · exact h19 (Int32.toInt_inj.mp (by rw [h]; rfl))
    · exact h20 (Int32.toInt_inj.mp (by rw [h]; rfl))
    · exact h21 (Int32.toInt_inj.mp (by rw [h]; rfl))
    · exact h22 (Int32.toInt_inj.mp (by rw [h]; rfl))
    · exact h23 (Int32.toInt_inj.mp (by rw [h]; rfl))
    · exact h24 (Int32.toInt_inj.mp (by rw [h]; rfl))
theorem jsw_4 {x : Int32} (h0 : ¬ x = (1 : Int32)) (h1 : ¬ x = (2 : Int32)) (h2 : ¬ x = (3 : Int32)) : x.toInt < 1 ∨ 3 < x.toInt := by
  by_cases hx : x.toInt < 1 ∨ 3 < x.toInt
  · exact hx
  · exfalso
    have h : x.toInt = 1 ∨ x.toInt = 2 ∨ x.toInt = 3 := by omega
    rcases h with h | h | h
    · exact h0 (Int32.toInt_inj.mp (by rw [h]; rfl))
    · exact h1 (Int32.toInt_inj.mp (by rw [h]; rfl))
    · exact h2 (Int32.toInt_inj.mp (by rw [h]; rfl))
theorem jsw_5 {x : Int32} (h0 : ¬ x = (1 : Int32)) (h1 : ¬ x = (2 : Int32)) : Op.lookupswitch.offset [(1, 26), (2, 34)] 42 x.toInt = 42 := by
  have g0 : ¬ x.toInt = 1 := fun h => h0 (Int32.toInt_inj.mp (by rw [h]; rfl))
  have g1 : ¬ x.toInt = 2 := fun h => h1 (Int32.toInt_inj.mp (by rw [h]; rfl))
  simp only [lookupswitch.offset_cons, lookupswitch.offset_nil]
  simp [g0, Ne.symm g0, g1, Ne.symm g1]
theorem jsw_6 {x : Int32} (h0 : ¬ x = (0 : Int32)) (h1 : ¬ x = (1 : Int32)) : Op.lookupswitch.offset [(0, 27), (1, 35)] 43 x.toInt = 43 := by
  have g0 : ¬ x.toInt = 0 := fun h => h0 (Int32.toInt_inj.mp (by rw [h]; rfl))
  have g1 : ¬ x.toInt = 1 := fun h => h1 (Int32.toInt_inj.mp (by rw [h]; rfl))
  simp only [lookupswitch.offset_cons, lookupswitch.offset_nil]
  simp [g0, Ne.symm g0, g1, Ne.symm g1]
theorem jsw_7 {x : Int32} (h0 : ¬ x = (0 : Int32)) (h1 : ¬ x = (1 : Int32)) (h2 : ¬ x = (2 : Int32)) : x.toInt < 0 ∨ 2 < x.toInt := by
  by_cases hx : x.toInt < 0 ∨ 2 < x.toInt
  · exact hx
  · exfalso
    have h : x.toInt = 0 ∨ x.toInt = 1 ∨ x.toInt = 2 := by omega
    rcases h with h | h | h
    · exact h0 (Int32.toInt_inj.mp (by rw [h]; rfl))
    · exact h1 (Int32.toInt_inj.mp (by rw [h]; rfl))
    · exact h2 (Int32.toInt_inj.mp (by rw [h]; rfl))
theorem jsw_8 {x : Int32} (h0 : ¬ x = (0 : Int32)) (h1 : ¬ x = (1 : Int32)) : Op.lookupswitch.offset [(0, 28), (1, 37)] 46 x.toInt = 46 := by
  have g0 : ¬ x.toInt = 0 := fun h => h0 (Int32.toInt_inj.mp (by rw [h]; rfl))
  have g1 : ¬ x.toInt = 1 := fun h => h1 (Int32.toInt_inj.mp (by rw [h]; rfl))
  simp only [lookupswitch.offset_cons, lookupswitch.offset_nil]
  simp [g0, Ne.symm g0, g1, Ne.symm g1]
theorem jsw_9 {x : Int32} (h0 : ¬ x = (0 : Int32)) (h1 : ¬ x = (1 : Int32)) (h2 : ¬ x = (2 : Int32)) (h3 : ¬ x = (3 : Int32)) (h4 : ¬ x = (4 : Int32)) (h5 : ¬ x = (5 : Int32)) (h6 : ¬ x = (6 : Int32)) (h7 : ¬ x = (7 : Int32)) (h8 : ¬ x = (8 : Int32)) (h9 : ¬ x = (9 : Int32)) (h10 : ¬ x = (10 : Int32)) (h11 : ¬ x = (11 : Int32)) (h12 : ¬ x = (12 : Int32)) (h13 : ¬ x = (13 : Int32)) : x.toInt < 0 ∨ 13 < x.toInt := by
  by_cases hx : x.toInt < 0 ∨ 13 < x.toInt
  · exact hx
  · exfalso
    have h : x.toInt = 0 ∨ x.toInt = 1 ∨ x.toInt = 2 ∨ x.toInt = 3 ∨ x.toInt = 4 ∨ x.toInt = 5 ∨ x.toInt = 6 ∨ x.toInt = 7 ∨ x.toInt = 8 ∨ x.toInt = 9 ∨ x.toInt = 10 ∨ x.toInt = 11 ∨ x.toInt = 12 ∨ x.toInt = 13 := by omega
    rcases h with h | h | h | h | h | h | h | h | h | h | h | h | h | h
    · exact h0 (Int32.toInt_inj.mp (by rw [h]; rfl))
    · exact h1 (Int32.toInt_inj.mp (by rw [h]; rfl))
    · exact h2 (Int32.toInt_inj.mp (by rw [h]; rfl))
    · exact h3 (Int32.toInt_inj.mp (by rw [h]; rfl))
    · exact h4 (Int32.toInt_inj.mp (by rw [h]; rfl))
    · exact h5 (Int32.toInt_inj.mp (by rw [h]; rfl))
    · exact h6 (Int32.toInt_inj.mp (by rw [h]; rfl))
    · exact h7 (Int32.toInt_inj.mp (by rw [h]; rfl))
    · exact h8 (Int32.toInt_inj.mp (by rw [h]; rfl))
    · exact h9 (Int32.toInt_inj.mp (by rw [h]; rfl))
    · exact h10 (Int32.toInt_inj.mp (by rw [h]; rfl))
    · exact h11 (Int32.toInt_inj.mp (by rw [h]; rfl))
    · exact h12 (Int32.toInt_inj.mp (by rw [h]; rfl))
    · exact h13 (Int32.toInt_inj.mp (by rw [h]; rfl))
