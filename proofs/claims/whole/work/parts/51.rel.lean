/-! the class's memory A against the reference's memory B -/
/-- what a world holds, in both -/
def wE (a p b r g t h e : Nat → Int32) (pp ss : Int32) : Prop :=
  (a 0 = g 1 ∧ a 1 = g 0 ∧ a 2 = g 3 ∧ a 3 = g 4 ∧ a 4 = pp ∧ a 5 = ss ∧ a 6 = g 5) ∧
  (∀ i, i < 10 → p (5 * i) = t i ∧ p (5 * i + 1) = g (6 + i) ∧ p (5 * i + 2) = h i ∧ p (5 * i + 3) = g (26 + i) ∧ p (5 * i + 4) = g (16 + i)) ∧
  (∀ i, i < 10 → b (3 * i) = g (46 + i) ∧ b (3 * i + 1) = e i ∧ b (3 * i + 2) = g (36 + i)) ∧
  (∀ j, j < 128 → r j = g (56 + j))
/-- what is so of every world of the class -/
def wP (p : Nat → Int32) : Prop := ∀ i, i < 10 → ∃ x y z, x ≤ 7 ∧ y ≤ 9 ∧ z ≤ 7 ∧ p (5 * i) = nI x ∧ p (5 * i + 2) = nI y ∧ p (5 * i + 3) = nI z
def wB (b : Nat → Int32) : Prop := ∀ i, i < 10 → ∃ x y, x ≤ 9 ∧ y ≤ 9 ∧ b (3 * i) = nI x ∧ b (3 * i + 1) = nI y
def wR (P U : Nat) (r : Nat → Int32) : Prop := ∀ i, i < U → ∃ x y z v, x < P ∧ y ≤ 9 ∧ z ≤ v ∧ v ≤ 7 ∧ r (8 * i + 1) = nI x ∧ r (8 * i + 3) = nI y ∧ r (8 * i + 4) = nI z ∧ r (8 * i + 5) = nI v
def wN (a p b r : Nat → Int32) : Prop := ∃ P S U : Nat, P ≤ 10 ∧ S ≤ 10 ∧ U ≤ 16 ∧ a 4 = nI P ∧ a 5 = nI S ∧ a 6 = nI U ∧ wP p ∧ wB b ∧ wR P U r
def rW (a p b r g t h e : Nat → Int32) (pp ss : Int32) : Prop := wE a p b r g t h e pp ss ∧ wN a p b r
def rBook (l l' : Int32) (bk bk' : Nat → Int32) : Prop := ∃ L, L ≤ 150 ∧ l = nI L ∧ l' = nI L ∧ ∀ j, j < 4 * L → bk j = bk' j
def jenc (o : Nat × Int32) : List Int32 := match o.1 with
  | 0 => [o.2]
  | 1 => [nI 10000 + o.2]
  | 2 => [nI 20043]
  | 3 => [nI 20045]
  | 4 => [nI 20042]
  | 5 => [nI 20047]
  | 6 => [nI 20060]
  | 7 => [nI 20061]
  | 8 => [nI 20062]
  | 9 => [nI 0, nI 20061]
  | 10 => [nI 20038]
  | _ => [nI 20124]
/-- a law's codes take a stack of kinds (0 a number, 1 a number that isn't 0, 2 a condition) to another -/
def jtyp : List (Nat × Int32) → List Nat → List Nat → Prop
  | [], s, s' => s = s'
  | (k, v) :: t, s, s' => s.length ≤ 28 ∧ (
      (k = 0 ∧ ∃ n, n < 10000 ∧ v = nI n ∧ jtyp t ((if n = 0 then 0 else 1) :: s) s') ∨
      (k = 1 ∧ ∃ n, n < 10 ∧ v = nI n ∧ jtyp t (0 :: s) s') ∨
      (2 ≤ k ∧ k ≤ 4 ∧ ∃ x y s0, s = y :: x :: s0 ∧ x < 2 ∧ y < 2 ∧ jtyp t (0 :: s0) s') ∨
      (k = 5 ∧ ∃ x s0, s = 1 :: x :: s0 ∧ x < 2 ∧ jtyp t (0 :: s0) s') ∨
      (6 ≤ k ∧ k ≤ 8 ∧ ∃ x y s0, s = y :: x :: s0 ∧ x < 2 ∧ y < 2 ∧ jtyp t (2 :: s0) s') ∨
      (k = 9 ∧ ∃ s0, s = 2 :: s0 ∧ jtyp t (2 :: s0) s') ∨
      ((k = 10 ∨ k = 11) ∧ ∃ s0, s = 2 :: 2 :: s0 ∧ jtyp t (2 :: s0) s'))
def jsegC (cd : Nat → Int32) (s : Nat) (l : List Int32) : Prop := ∀ k, k < l.length → cd (s + k) = l.getD k 0
def jsegR (op ar : Nat → Int32) (s : Nat) (l : List (Nat × Int32)) : Prop := ∀ k, k < l.length → op (s + k) = nI (l.getD k (0, 0)).1 ∧ ar (s + k) = (l.getD k (0, 0)).2
def jbit (E C : List (Nat × Int32)) : Prop := (∃ x, x < 2 ∧ jtyp E [] [x]) ∧ (C = [] ∨ jtyp C [] [2])
/-- a line of the law: in the class from s1 on, in the reference from r1 on -/
def jLine (cd op ar : Nat → Int32) (w w' s2 s3 f' h' t' : Int32) (s1 : Nat) (n3 : Nat) : Prop := ∃ (wd r1 : Nat) (E C : List (Nat × Int32)), wd ≤ 2 ∧ w = nI wd ∧ w' = nI wd ∧
  f' = nI r1 ∧ h' = nI (r1 + E.length) ∧ t' = nI (r1 + E.length + C.length) ∧ r1 + E.length + C.length ≤ 400 ∧
  s2 = nI (s1 + (E.flatMap jenc).length) ∧ s3 = nI n3 ∧ n3 = s1 + (E.flatMap jenc).length + (C.flatMap jenc).length ∧ n3 ≤ 400 ∧
  jsegC cd s1 (E.flatMap jenc) ∧ jsegC cd (s1 + (E.flatMap jenc).length) (C.flatMap jenc) ∧ jsegR op ar r1 E ∧ jsegR op ar (r1 + E.length) C ∧ jbit E C
def rLaw (a wd wh en cd m wd' fr' wh' to' op ar : Nat → Int32) : Prop := ∃ (n : Nat) (ps : Nat → Nat), n ≤ 16 ∧ a 0 = nI n ∧ m 0 = nI n ∧ ps 0 = 0 ∧ ps n ≤ 400 ∧ a 1 = nI (ps n) ∧ ∀ l, l < n → ps l ≤ ps (l + 1) ∧ jLine cd op ar (wd l) (wd' l) (wh l) (en l) (fr' l) (wh' l) (to' l) (ps l) (ps (l + 1))
def rPet (pp n n' : Int32) (rw rw' : Nat → Int32) : Prop := ∃ P N : Nat, P ≤ 10 ∧ N ≤ 16 ∧ pp = nI P ∧ n = nI N ∧ n' = nI N ∧ (∀ j, j < 7 * N → rw j = rw' j) ∧
  ∀ i, i < N → ∃ x y z v, x < P ∧ y ≤ 9 ∧ z ≤ v ∧ v ≤ 7 ∧ rw (7 * i + 1) = nI x ∧ rw (7 * i + 3) = nI y ∧ rw (7 * i + 4) = nI z ∧ rw (7 * i + 5) = nI v
def rLease (n n' : Int32) (l l' : Nat → Int32) : Prop := n = n' ∧ ∀ r, r < 10 → ∃ s, s ≤ 10 ∧ l' r = nI s ∧ l r = nI s - nI 1
def rCite (n n' : Int32) (rw c : Nat → Int32) : Prop := ∃ N, N ≤ 16 ∧ n = nI N ∧ n' = nI N ∧ (∀ k, k < N → ∃ x y, x < 16 ∧ y < 16 ∧ rw (2 * k) = nI x ∧ rw (2 * k + 1) = nI y) ∧
  ∀ i, i < 16 → ∃ m, m < 65536 ∧ c i = nI m ∧ ∀ y, y < 16 → (m.testBit y = true ↔ ∃ k, k < N ∧ rw (2 * k) = nI i ∧ rw (2 * k + 1) = nI y)
def rWish (n n' : Int32) (rw f l w : Nat → Int32) : Prop := (∃ N, N ≤ 8 ∧ n = nI N ∧ n' = nI N) ∧ ∀ i, i < 8 → ∃ x y z, x ≤ 99 ∧ y ≤ 99 ∧ z ≤ 99 ∧ rw (3 * i) = nI x ∧ f i = nI x ∧ rw (3 * i + 1) = nI y ∧ l i = nI y ∧ rw (3 * i + 2) = nI z ∧ w i = nI z
def rKite (n n' : Int32) (rw h s : Nat → Int32) : Prop := (∃ N, N ≤ 10 ∧ n = nI N ∧ n' = nI N) ∧ ∀ i, i < 10 → rw (2 * i) = h i ∧ rw (2 * i + 1) = s i
def rPoint (n n' : Int32) (rw f g m w : Nat → Int32) : Prop := (∃ N, N ≤ 8 ∧ n = nI N ∧ n' = nI N) ∧ ∀ i, i < 8 → ∃ x y z v, x ≤ 999 ∧ y ≤ 999 ∧ z ≤ 999 ∧ v ≤ 9 ∧ rw (4 * i) = nI x ∧ f i = nI x ∧ rw (4 * i + 1) = nI y ∧ g i = nI y ∧ rw (4 * i + 2) = nI z ∧ m i = nI z ∧ rw (4 * i + 3) = nI v ∧ w i = nI v
def rWays (w w' : Nat → Int32) : Prop := ∀ j, j < 36 → ∃ x, x ≤ 99 ∧ w j = nI x ∧ w' j = nI x
def rVoice (v v' : Nat → Int32) : Prop := ∀ r, r < 10 → ∃ x, x < 1024 ∧ v' r = nI x ∧ v r = nI (x ||| 2 ^ r)
/-- all that is and was told -/
def rA (A B : jp_M) : Prop :=
  rW (A 2) (A 3) (A 4) (A 5) (B 105) (B 108) (B 109) (B 110) (B 104 6) (B 104 7) ∧
  rBook (A 2 7) (B 105 2) (A 6) (B 111) ∧
  rLaw (A 7) (A 8) (A 9) (A 10) (A 11) (B 114) (B 115) (B 116) (B 117) (B 118) (B 119) (B 120) ∧
  rPet (A 2 4) (A 14 0) (B 104 35) (A 15) (B 122) ∧
  rLease (A 1 5) (B 104 37) (A 16) (B 123) ∧
  rCite (A 17 0) (B 104 39) (A 18) (B 124) ∧
  rWish (A 19 0) (B 104 45) (A 20) (B 129) (B 130) (B 131) ∧
  rKite (A 19 1) (B 104 49) (A 21) (B 132) (B 133) ∧
  rPoint (A 19 2) (B 104 56) (A 22) (B 138) (B 139) (B 140) (B 141) ∧
  rWays (A 23) (B 135) ∧
  rVoice (A 24) (B 137)
/-- the reference's image as a memory -/
def jpic (B : jp_M) : jp_M := fun q i => match q with
  | 104 => (match i with
    | 6 => B 143 184
    | 7 => B 143 185
    | 35 => B 143 186
    | 37 => B 143 187
    | 39 => B 143 188
    | 45 => B 143 189
    | 49 => B 143 190
    | 56 => B 143 191
    | _ => 0)
  | 105 => B 143 i
  | 108 => B 143 (192 + 7 * i)
  | 109 => B 143 (193 + 7 * i)
  | 110 => B 143 (194 + 7 * i)
  | 123 => B 143 (195 + 7 * i)
  | 132 => B 143 (196 + 7 * i)
  | 133 => B 143 (197 + 7 * i)
  | 137 => B 143 (198 + 7 * i)
  | 129 => B 143 (262 + 7 * i)
  | 130 => B 143 (263 + 7 * i)
  | 131 => B 143 (264 + 7 * i)
  | 138 => B 143 (265 + 7 * i)
  | 139 => B 143 (266 + 7 * i)
  | 140 => B 143 (267 + 7 * i)
  | 141 => B 143 (268 + 7 * i)
  | 124 => B 143 (318 + i)
  | 135 => B 143 (334 + i)
  | 122 => B 143 (370 + i)
  | 111 => B 143 (482 + i)
  | 114 => B 143 (1082 + i)
  | 115 => B 143 (1083 + 4 * i)
  | 116 => B 143 (1084 + 4 * i)
  | 117 => B 143 (1085 + 4 * i)
  | 118 => B 143 (1086 + 4 * i)
  | 119 => B 143 (1147 + 2 * i)
  | 120 => B 143 (1148 + 2 * i)
  | _ => 0
def rPic (A : jp_M) (hp hp' : Int32) (B : jp_M) : Prop := hp = hp' ∧ (hp = nI 0 ∨ hp = nI 1 ∧ rA (fun q => A (q + 24)) (jpic B))
/-- the worlds that are kept: the class's in a ring, the reference's in rows -/
def rKept (A : jp_M) (c c' nw : Int32) (rws t h e : Nat → Int32) (pp ss ln : Int32) : Prop := ∃ (K N : Nat) (Ls : Nat → Nat), K ≤ 6 ∧ N < 6 ∧ c = nI K ∧ c' = nI K ∧ nw = nI N ∧ ∀ j, j < K →
  rW (A (80 + 4 * ((N + 6 - j) % 6))) (A (81 + 4 * ((N + 6 - j) % 6))) (A (82 + 4 * ((N + 6 - j) % 6))) (A (83 + 4 * ((N + 6 - j) % 6))) (fun k => rws (184 * (K - 1 - j) + k)) t h e pp ss ∧
  A (80 + 4 * ((N + 6 - j) % 6)) 7 = nI (Ls j) ∧ rws (184 * (K - 1 - j) + 2) = nI (Ls j) ∧ Ls j ≤ 150 ∧ (∀ L, L ≤ 150 → ln = nI L → Ls j ≤ L) ∧ ∀ i, i ≤ j → Ls j ≤ Ls i
def rTape (n n' : Int32) (t t' : Nat → Int32) : Prop := (∃ N, N ≤ 400 ∧ n = nI N ∧ n' = nI N) ∧ ∀ j, j < 400 → ∃ v, v < 256 ∧ t' j = nI v ∧ t j = (nI v).toInt8.toInt32
def rWords (w : Nat → Int32) : Prop := ∀ i, i < 164 → w i = jM0 113 i
/-- the class and the reference at rest -/
def Rel (A B : jp_M) : Prop :=
  rA A B ∧ rPic A (A 0 2) (B 104 63) B ∧ rKept A (A 0 4) (B 104 3) (A 0 5) (B 106) (B 108) (B 109) (B 110) (B 104 6) (B 104 7) (A 2 7) ∧
  rTape (A 0 11) (B 104 13) (A 67) (B 112) ∧ (A 68 7 = B 104 33 ∧ A 68 8 = B 104 34) ∧ (A 54 3 = nI 0 ∧ B 104 5 = nI 0) ∧ rWords (B 113)
theorem jpic_eq {B B' : jp_M} (h : B' 143 = B 143) : jpic B' = jpic B := by
  funext q i
  simp only [jpic, h]
theorem rPic_cg {A A' B B' : jp_M} {x y x' y' : Int32} (hA : ∀ q, 24 ≤ q → q < 49 → A' q = A q) (hB : B' 143 = B 143) (hx : x' = x) (hy : y' = y) (h : rPic A x y B) : rPic A' x' y' B' := by
  subst hx; subst hy
  obtain ⟨h1, h2⟩ := h
  refine ⟨h1, h2.imp id (fun h => ⟨h.1, ?_⟩)⟩
  rw [jpic_eq hB]
  have h3 := h.2
  simp only [rA] at h3 ⊢
  rw [hA (2 + 24) (by omega) (by omega), hA (3 + 24) (by omega) (by omega), hA (4 + 24) (by omega) (by omega), hA (5 + 24) (by omega) (by omega), hA (6 + 24) (by omega) (by omega), hA (7 + 24) (by omega) (by omega), hA (8 + 24) (by omega) (by omega), hA (9 + 24) (by omega) (by omega), hA (10 + 24) (by omega) (by omega), hA (11 + 24) (by omega) (by omega), hA (14 + 24) (by omega) (by omega), hA (15 + 24) (by omega) (by omega), hA (1 + 24) (by omega) (by omega), hA (16 + 24) (by omega) (by omega), hA (17 + 24) (by omega) (by omega), hA (18 + 24) (by omega) (by omega), hA (19 + 24) (by omega) (by omega), hA (20 + 24) (by omega) (by omega), hA (21 + 24) (by omega) (by omega), hA (22 + 24) (by omega) (by omega), hA (23 + 24) (by omega) (by omega), hA (24 + 24) (by omega) (by omega)]
  exact h3
theorem rKept_cg {A A' : jp_M} {c c' nw : Int32} {rws t h e : Nat → Int32} {pp ss ln : Int32} (hA : ∀ q, 80 ≤ q → q < 104 → A' q = A q) (hk : rKept A c c' nw rws t h e pp ss ln) : rKept A' c c' nw rws t h e pp ss ln := by
  obtain ⟨K, N, Ls, hK, hN, e1, e2, e3, h⟩ := hk
  refine ⟨K, N, Ls, hK, hN, e1, e2, e3, fun j hj => ?_⟩
  have hm : (N + 6 - j) % 6 < 6 := Nat.mod_lt _ (by omega)
  rw [hA (80 + 4 * ((N + 6 - j) % 6)) (by omega) (by omega), hA (81 + 4 * ((N + 6 - j) % 6)) (by omega) (by omega), hA (82 + 4 * ((N + 6 - j) % 6)) (by omega) (by omega), hA (83 + 4 * ((N + 6 - j) % 6)) (by omega) (by omega)]
  exact h j hj
/-- nothing is kept -/
theorem rKept_0 {A : jp_M} {nw : Int32} {rws t h e : Nat → Int32} {pp ss ln : Int32} (hn : ∃ N, N < 6 ∧ nw = nI N) : rKept A (nI 0) (nI 0) nw rws t h e pp ss ln := by
  obtain ⟨N, h1, h2⟩ := hn
  exact ⟨0, N, fun _ => 0, by omega, h1, rfl, rfl, h2, fun j hj => absurd hj (by omega)⟩
theorem rKept_nw {A : jp_M} {c c' nw : Int32} {rws t h e : Nat → Int32} {pp ss ln : Int32} (hk : rKept A c c' nw rws t h e pp ss ln) : ∃ N, N < 6 ∧ nw = nI N := by
  obtain ⟨K, N, Ls, hK, hN, e1, e2, e3, -⟩ := hk
  exact ⟨N, hN, e3⟩
/-- the relation reads the class's places in A and the reference's in B -/
theorem Rel_cg {A B A' B' : jp_M} (hA : ∀ q, q < 104 → A' q = A q) (hB : ∀ q, 104 ≤ q → B' q = B q) (h : Rel A B) : Rel A' B' := by
  obtain ⟨h1, h2, h3, h4, h5, h6, h7⟩ := h
  refine ⟨?_, rPic_cg (fun q _ _ => hA q (by omega)) (hB 143 (by omega)) (by rw [hA 0 (by omega)]) (by rw [hB 104 (by omega)]) h2, ?_, ?_, ?_, ?_, ?_⟩
  · simp only [rA] at h1 ⊢
    rw [hA 1 (by omega), hA 2 (by omega), hA 3 (by omega), hA 4 (by omega), hA 5 (by omega), hA 6 (by omega), hA 7 (by omega), hA 8 (by omega), hA 9 (by omega), hA 10 (by omega), hA 11 (by omega), hA 14 (by omega), hA 15 (by omega), hA 16 (by omega), hA 17 (by omega), hA 18 (by omega), hA 19 (by omega), hA 20 (by omega), hA 21 (by omega), hA 22 (by omega), hA 23 (by omega), hA 24 (by omega), hB 104 (by omega), hB 105 (by omega), hB 108 (by omega), hB 109 (by omega), hB 110 (by omega), hB 111 (by omega), hB 114 (by omega), hB 115 (by omega), hB 116 (by omega), hB 117 (by omega), hB 118 (by omega), hB 119 (by omega), hB 120 (by omega), hB 122 (by omega), hB 123 (by omega), hB 124 (by omega), hB 129 (by omega), hB 130 (by omega), hB 131 (by omega), hB 132 (by omega), hB 133 (by omega), hB 135 (by omega), hB 137 (by omega), hB 138 (by omega), hB 139 (by omega), hB 140 (by omega), hB 141 (by omega)]
    exact h1
  · rw [hA 0 (by omega), hA 2 (by omega), hB 104 (by omega), hB 106 (by omega), hB 108 (by omega), hB 109 (by omega), hB 110 (by omega)]; exact rKept_cg (fun q _ _ => hA q (by omega)) h3
  · rw [hA 0 (by omega), hA 67 (by omega), hB 104 (by omega), hB 112 (by omega)]; exact h4
  · rw [hA 68 (by omega), hB 104 (by omega)]; exact h5
  · rw [hA 54 (by omega), hB 104 (by omega)]; exact h6
  · rw [hB 113 (by omega)]; exact h7
