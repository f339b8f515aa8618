/-- all that is told, once more: of the class -/
def cA (A A' : jp_M) : Prop := (∀ i, i < 8 → A' 2 i = A 2 i) ∧ (∀ i, i < 50 → A' 3 i = A 3 i) ∧ (∀ i, i < 30 → A' 4 i = A 4 i) ∧ (∀ i, i < 128 → A' 5 i = A 5 i) ∧
  (∀ L, L ≤ 150 → A 2 7 = nI L → ∀ j, j < 4 * L → A' 6 j = A 6 j) ∧ (∀ i, i < 2 → A' 7 i = A 7 i) ∧ (∀ n, n ≤ 16 → A 7 0 = nI n → ∀ l, l < n → A' 8 l = A 8 l ∧ A' 9 l = A 9 l ∧ A' 10 l = A 10 l) ∧ (∀ n, n ≤ 400 → A 7 1 = nI n → ∀ l, l < n → A' 11 l = A 11 l) ∧
  A' 14 0 = A 14 0 ∧ (∀ i, i < 112 → A' 15 i = A 15 i) ∧ A' 1 5 = A 1 5 ∧ (∀ i, i < 10 → A' 16 i = A 16 i) ∧ A' 17 0 = A 17 0 ∧ (∀ i, i < 32 → A' 18 i = A 18 i) ∧ (∀ i, i < 3 → A' 19 i = A 19 i) ∧
  (∀ i, i < 24 → A' 20 i = A 20 i) ∧ (∀ i, i < 20 → A' 21 i = A 21 i) ∧ (∀ i, i < 32 → A' 22 i = A 22 i) ∧ (∀ i, i < 36 → A' 23 i = A 23 i) ∧ (∀ i, i < 10 → A' 24 i = A 24 i)
/-- and of the reference -/
def cB (B B' : jp_M) : Prop := ∀ p i, inv p i < 1947 → B' p i = B p i
theorem segC_cg {cd cd' : Nat → Int32} {s : Nat} {l : List Int32} (h : ∀ k, k < l.length → cd' (s + k) = cd (s + k)) (hs : jsegC cd s l) : jsegC cd' s l := fun k hk => by rw [h k hk, hs k hk]
theorem segR_cg {op ar op' ar' : Nat → Int32} {s : Nat} {l : List (Nat × Int32)} (h : ∀ k, k < l.length → op' (s + k) = op (s + k) ∧ ar' (s + k) = ar (s + k)) (hs : jsegR op ar s l) : jsegR op' ar' s l := fun k hk => by rw [(h k hk).1, (h k hk).2]; exact hs k hk
theorem rA_cg {A B A' B' : jp_M} (hA : cA A A') (hB : cB B B') (h : rA A B) : rA A' B' := by
  obtain ⟨a2, a3, a4, a5, a6, a7, a8, a11, a14, a15, a1, a16, a17, a18, a19, a20, a21, a22, a23, a24⟩ := hA
  obtain ⟨hW, hBk, hLw, hPe, hLe, hCi, hWi, hKi, hPo, hWy, hVo⟩ := h
  have b105 : ∀ i, i < 184 → B' 105 i = B 105 i := fun i hi => hB 105 i (by show (if i < 184 then i else 5000) < 1947; rw [if_pos hi]; omega)
  have b6 : B' 104 6 = B 104 6 := hB 104 6 (by decide)
  have b7 : B' 104 7 = B 104 7 := hB 104 7 (by decide)
  have b108 : ∀ i, i < 10 → B' 108 i = B 108 i := fun i hi => hB 108 i (by show (if i < 10 then 192 + 7 * i else 5000) < 1947; rw [if_pos hi]; omega)
  have b109 : ∀ i, i < 10 → B' 109 i = B 109 i := fun i hi => hB 109 i (by show (if i < 10 then 193 + 7 * i else 5000) < 1947; rw [if_pos hi]; omega)
  have b110 : ∀ i, i < 10 → B' 110 i = B 110 i := fun i hi => hB 110 i (by show (if i < 10 then 194 + 7 * i else 5000) < 1947; rw [if_pos hi]; omega)
  have b123 : ∀ i, i < 10 → B' 123 i = B 123 i := fun i hi => hB 123 i (by show (if i < 10 then 195 + 7 * i else 5000) < 1947; rw [if_pos hi]; omega)
  have b132 : ∀ i, i < 10 → B' 132 i = B 132 i := fun i hi => hB 132 i (by show (if i < 10 then 196 + 7 * i else 5000) < 1947; rw [if_pos hi]; omega)
  have b133 : ∀ i, i < 10 → B' 133 i = B 133 i := fun i hi => hB 133 i (by show (if i < 10 then 197 + 7 * i else 5000) < 1947; rw [if_pos hi]; omega)
  have b137 : ∀ i, i < 10 → B' 137 i = B 137 i := fun i hi => hB 137 i (by show (if i < 10 then 198 + 7 * i else 5000) < 1947; rw [if_pos hi]; omega)
  have b129 : ∀ i, i < 8 → B' 129 i = B 129 i := fun i hi => hB 129 i (by show (if i < 8 then 262 + 7 * i else 5000) < 1947; rw [if_pos hi]; omega)
  have b130 : ∀ i, i < 8 → B' 130 i = B 130 i := fun i hi => hB 130 i (by show (if i < 8 then 263 + 7 * i else 5000) < 1947; rw [if_pos hi]; omega)
  have b131 : ∀ i, i < 8 → B' 131 i = B 131 i := fun i hi => hB 131 i (by show (if i < 8 then 264 + 7 * i else 5000) < 1947; rw [if_pos hi]; omega)
  have b138 : ∀ i, i < 8 → B' 138 i = B 138 i := fun i hi => hB 138 i (by show (if i < 8 then 265 + 7 * i else 5000) < 1947; rw [if_pos hi]; omega)
  have b139 : ∀ i, i < 8 → B' 139 i = B 139 i := fun i hi => hB 139 i (by show (if i < 8 then 266 + 7 * i else 5000) < 1947; rw [if_pos hi]; omega)
  have b140 : ∀ i, i < 8 → B' 140 i = B 140 i := fun i hi => hB 140 i (by show (if i < 8 then 267 + 7 * i else 5000) < 1947; rw [if_pos hi]; omega)
  have b141 : ∀ i, i < 8 → B' 141 i = B 141 i := fun i hi => hB 141 i (by show (if i < 8 then 268 + 7 * i else 5000) < 1947; rw [if_pos hi]; omega)
  have b124 : ∀ i, i < 16 → B' 124 i = B 124 i := fun i hi => hB 124 i (by show (if i < 16 then 318 + i else 5000) < 1947; rw [if_pos hi]; omega)
  have b135 : ∀ i, i < 36 → B' 135 i = B 135 i := fun i hi => hB 135 i (by show (if i < 36 then 334 + i else 5000) < 1947; rw [if_pos hi]; omega)
  have b122 : ∀ i, i < 112 → B' 122 i = B 122 i := fun i hi => hB 122 i (by show (if i < 112 then 370 + i else 5000) < 1947; rw [if_pos hi]; omega)
  have b111 : ∀ i, i < 600 → B' 111 i = B 111 i := fun i hi => hB 111 i (by show (if i < 600 then 482 + i else 5000) < 1947; rw [if_pos hi]; omega)
  have b114 : ∀ i, i < 1 → B' 114 i = B 114 i := fun i hi => hB 114 i (by show (if i < 1 then 1082 + i else 5000) < 1947; rw [if_pos hi]; omega)
  have b115 : ∀ i, i < 16 → B' 115 i = B 115 i := fun i hi => hB 115 i (by show (if i < 16 then 1083 + 4 * i else 5000) < 1947; rw [if_pos hi]; omega)
  have b116 : ∀ i, i < 16 → B' 116 i = B 116 i := fun i hi => hB 116 i (by show (if i < 16 then 1084 + 4 * i else 5000) < 1947; rw [if_pos hi]; omega)
  have b117 : ∀ i, i < 16 → B' 117 i = B 117 i := fun i hi => hB 117 i (by show (if i < 16 then 1085 + 4 * i else 5000) < 1947; rw [if_pos hi]; omega)
  have b118 : ∀ i, i < 16 → B' 118 i = B 118 i := fun i hi => hB 118 i (by show (if i < 16 then 1086 + 4 * i else 5000) < 1947; rw [if_pos hi]; omega)
  have b119 : ∀ i, i < 400 → B' 119 i = B 119 i := fun i hi => hB 119 i (by show (if i < 400 then 1147 + 2 * i else 5000) < 1947; rw [if_pos hi]; omega)
  have b120 : ∀ i, i < 400 → B' 120 i = B 120 i := fun i hi => hB 120 i (by show (if i < 400 then 1148 + 2 * i else 5000) < 1947; rw [if_pos hi]; omega)
  have b35 : B' 104 35 = B 104 35 := hB 104 35 (by decide)
  have b37 : B' 104 37 = B 104 37 := hB 104 37 (by decide)
  have b39 : B' 104 39 = B 104 39 := hB 104 39 (by decide)
  have b45 : B' 104 45 = B 104 45 := hB 104 45 (by decide)
  have b49 : B' 104 49 = B 104 49 := hB 104 49 (by decide)
  have b56 : B' 104 56 = B 104 56 := hB 104 56 (by decide)
  refine ⟨?_, ?_, ?_, ?_, ?_, ?_, ?_, ?_, ?_, ?_, ?_⟩
  · rw [b6, b7]
    exact rW_cg (fun i hi => a2 i (by omega)) a3 a4 a5 b105 b108 b109 b110 hW
  · obtain ⟨L, l1, l2, l3, l4⟩ := hBk
    refine ⟨L, l1, by rw [a2 7 (by omega), l2], by rw [b105 2 (by omega), l3], fun j hj => ?_⟩
    rw [a6 L l1 l2 j hj, b111 j (by omega), l4 j hj]
  · obtain ⟨n, ps, n1, n2, n3, n4, n5, n6, n7⟩ := hLw
    have pm : ∀ d i, i + d ≤ n → ps i ≤ ps (i + d) := by
      intro d
      induction d with
      | zero => intro i _; exact Nat.le_refl _
      | succ d ih =>
        intro i hi
        exact Nat.le_trans (ih i (by omega)) (n7 (i + d) (by omega)).1
    refine ⟨n, ps, n1, by rw [a7 0 (by omega), n2], by rw [b114 0 (by omega), n3], n4, n5, by rw [a7 1 (by omega), n6], fun l hl => ⟨(n7 l hl).1, ?_⟩⟩
    obtain ⟨-, wd, r1, E, C, w0, w1, w2, l1, l2, l3, l4, l5, l6, l7, l8, s1, s2, s3, s4, hbit⟩ := n7 l hl
    obtain ⟨x8, x9, x10⟩ := a8 n n1 n2 l hl
    have hps := pm (n - (l + 1)) (l + 1) (by omega)
    rw [show l + 1 + (n - (l + 1)) = n by omega] at hps
    have x11 : ∀ k, k < ps n → A' 11 k = A 11 k := fun k hk => a11 (ps n) n5 n6 k hk
    refine ⟨wd, r1, E, C, w0, by rw [x8, w1], by rw [b115 l (by omega), w2], by rw [b116 l (by omega), l1], by rw [b117 l (by omega), l2], by rw [b118 l (by omega), l3], l4, by rw [x9, l5], by rw [x10, l6], l7, l8,
      segC_cg (fun k hk => x11 _ (by omega)) s1, segC_cg (fun k hk => x11 _ (by omega)) s2, segR_cg (fun k hk => ⟨b119 _ (by omega), b120 _ (by omega)⟩) s3, segR_cg (fun k hk => ⟨b119 _ (by omega), b120 _ (by omega)⟩) s4, hbit⟩
  · obtain ⟨P, N, p1, p2, p3, p4, p5, p6, p7⟩ := hPe
    refine ⟨P, N, p1, p2, by rw [a2 4 (by omega), p3], by rw [a14, p4], by rw [b35, p5], fun j hj => by rw [a15 j (by omega), b122 j (by omega), p6 j hj], fun i hi => ?_⟩
    rw [a15 _ (by omega), a15 _ (by omega), a15 _ (by omega), a15 _ (by omega)]
    exact p7 i hi
  · refine ⟨by rw [a1, b37]; exact hLe.1, fun r hr => ?_⟩
    rw [a16 r hr, b123 r hr]
    exact hLe.2 r hr
  · obtain ⟨N, c1, c2, c3, c4, c5⟩ := hCi
    refine ⟨N, c1, by rw [a17, c2], by rw [b39, c3], fun k hk => ?_, fun i hi => ?_⟩
    · rw [a18 _ (by omega), a18 _ (by omega)]; exact c4 k hk
    · obtain ⟨m, m1, m2, m3⟩ := c5 i hi
      refine ⟨m, m1, by rw [b124 i hi, m2], fun y hy => ?_⟩
      rw [m3 y hy]
      constructor
      · rintro ⟨k, k1, k2, k3⟩
        exact ⟨k, k1, by rw [a18 _ (by omega), k2], by rw [a18 _ (by omega), k3]⟩
      · rintro ⟨k, k1, k2, k3⟩
        rw [a18 _ (by omega)] at k2 k3
        exact ⟨k, k1, k2, k3⟩
  · obtain ⟨⟨N, c1, c2, c3⟩, c4⟩ := hWi
    refine ⟨⟨N, c1, by rw [a19 0 (by omega), c2], by rw [b45, c3]⟩, fun i hi => ?_⟩
    rw [a20 _ (by omega), a20 _ (by omega), a20 _ (by omega), b129 i hi, b130 i hi, b131 i hi]
    exact c4 i hi
  · obtain ⟨⟨N, c1, c2, c3⟩, c4⟩ := hKi
    refine ⟨⟨N, c1, by rw [a19 1 (by omega), c2], by rw [b49, c3]⟩, fun i hi => ?_⟩
    rw [a21 _ (by omega), a21 _ (by omega), b132 i hi, b133 i hi]
    exact c4 i hi
  · obtain ⟨⟨N, c1, c2, c3⟩, c4⟩ := hPo
    refine ⟨⟨N, c1, by rw [a19 2 (by omega), c2], by rw [b56, c3]⟩, fun i hi => ?_⟩
    rw [a22 _ (by omega), a22 _ (by omega), a22 _ (by omega), a22 _ (by omega), b138 i hi, b139 i hi, b140 i hi, b141 i hi]
    exact c4 i hi
  · intro j hj
    rw [a23 j hj, b135 j hj]
    exact hWy j hj
  · intro r hr
    rw [a24 r hr, b137 r hr]
    exact hVo r hr
