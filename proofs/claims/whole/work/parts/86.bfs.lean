def PR : Nat := 1000000007
/-- a sum, taken by the prime -/
def sm (f : Nat → Nat) : Nat → Nat
  | 0 => 0
  | n + 1 => (sm f n + f n) % PR
theorem sm_lt (f : Nat → Nat) : ∀ n, sm f n < PR := by
  intro n
  cases n with
  | zero => show 0 < PR; decide
  | succ n => exact Nat.mod_lt _ (by decide)
theorem sm_cg {f g : Nat → Nat} : ∀ n, (∀ u, u < n → f u = g u) → sm f n = sm g n := by
  intro n
  induction n with
  | zero => intro _; rfl
  | succ n ih =>
    intro h
    rw [sm, sm, ih (fun u hu => h u (by omega)), h n (by omega)]
theorem sm_0 : ∀ n, sm (fun _ => 0) n = 0 := by
  intro n
  induction n with
  | zero => rfl
  | succ n ih => rw [sm, ih]; rfl
theorem sm_add {f g : Nat → Nat} {c a : Nat} (h1 : ∀ u, ¬ u = c → g u = f u) (h2 : f c = 0) (h3 : g c = a) : ∀ n, c < n → sm g n = (sm f n + a) % PR := by
  intro n
  induction n with
  | zero => intro h; omega
  | succ n ih =>
    intro hc
    rw [sm, sm]
    by_cases h : c = n
    · subst h
      rw [sm_cg (f := g) (g := f) c (fun u hu => h1 u (by omega)), h2, h3, Nat.add_zero, Nat.mod_eq_of_lt (sm_lt f c)]
    · rw [ih (by omega), h1 n (fun e => h e.symm), Nat.mod_add_mod, Nat.mod_add_mod]
      congr 1; omega
/-- one beside the other -/
def adj (c o : Nat) : Bool := decide (c / 8 - o / 8 + (o / 8 - c / 8) + (c % 8 - o % 8 + (o % 8 - c % 8)) = 1)
theorem adj_i (c : Nat) : adj c c = false := by
  unfold adj
  simp
/-- what is known while cells are gone through: steps, ways, and the pairs that were looked at -/
def BI (s : Nat) (F : Nat → Bool) (st w : Nat → Nat) (E : Nat → Nat → Bool) : Prop :=
  (st s = 0 ∧ w s = 1) ∧
  (∀ v, v < 80 → st v = 1000 ∨ st v ≤ 80) ∧
  (∀ v, v < 80 → w v < PR) ∧
  (∀ u v, E u v = true → u < 80 ∧ v < 80 ∧ adj u v = true ∧ F v = true ∧ st u ≤ 80 ∧ st v ≤ st u + 1) ∧
  (∀ v, v < 80 → ¬ v = s → w v = sm (fun u => if E u v = true ∧ st u + 1 = st v then w u else 0) 80) ∧
  (∀ v, v < 80 → ¬ v = s → st v ≤ 80 → ∃ u, u < 80 ∧ E u v = true ∧ st v = st u + 1)
theorem BI.j0 {s : Nat} {F : Nat → Bool} {st w : Nat → Nat} {E : Nat → Nat → Bool} (h : BI s F st w E) : st s = 0 ∧ w s = 1 := h.1
theorem BI.j1 {s : Nat} {F : Nat → Bool} {st w : Nat → Nat} {E : Nat → Nat → Bool} (h : BI s F st w E) : ∀ v, v < 80 → st v = 1000 ∨ st v ≤ 80 := h.2.1
theorem BI.jw {s : Nat} {F : Nat → Bool} {st w : Nat → Nat} {E : Nat → Nat → Bool} (h : BI s F st w E) : ∀ v, v < 80 → w v < PR := h.2.2.1
theorem BI.j2 {s : Nat} {F : Nat → Bool} {st w : Nat → Nat} {E : Nat → Nat → Bool} (h : BI s F st w E) : ∀ u v, E u v = true → u < 80 ∧ v < 80 ∧ adj u v = true ∧ F v = true ∧ st u ≤ 80 ∧ st v ≤ st u + 1 := h.2.2.2.1
theorem BI.j3 {s : Nat} {F : Nat → Bool} {st w : Nat → Nat} {E : Nat → Nat → Bool} (h : BI s F st w E) : ∀ v, v < 80 → ¬ v = s → w v = sm (fun u => if E u v = true ∧ st u + 1 = st v then w u else 0) 80 := h.2.2.2.2.1
theorem BI.j4 {s : Nat} {F : Nat → Bool} {st w : Nat → Nat} {E : Nat → Nat → Bool} (h : BI s F st w E) : ∀ v, v < 80 → ¬ v = s → st v ≤ 80 → ∃ u, u < 80 ∧ E u v = true ∧ st v = st u + 1 := h.2.2.2.2.2
def upN (f : Nat → Nat) (k v : Nat) : Nat → Nat := fun j => if j = k then v else f j
def stR (st : Nat → Nat) (u v : Nat) : Nat → Nat := if st v = 1000 then upN st v (st u + 1) else st
def wR' (st w : Nat → Nat) (u v : Nat) : Nat → Nat := if stR st u v v = st u + 1 then upN w v ((w v + w u) % PR) else w
def eR' (E : Nat → Nat → Bool) (u v : Nat) : Nat → Nat → Bool := fun a b => if a = u ∧ b = v then true else E a b
theorem BI_rel {s : Nat} {F : Nat → Bool} {st w : Nat → Nat} {E : Nat → Nat → Bool} (h : BI s F st w E) {u v : Nat} (hs : s < 80) (hu : u < 80) (hv : v < 80) (ha : adj u v = true) (hF : F v = true) (hsu : st u < 80) (hE : E u v = false)
    (hle : st v ≤ st u + 1 ∨ st v = 1000) (hno : st v ≤ st u ∨ ∀ x, E v x = false) : BI s F (stR st u v) (wR' st w u v) (eR' E u v) := by
  obtain ⟨⟨j01, j02⟩, j1, jw, j2, j3, j4⟩ := h
  have huv : ¬ u = v := by
    rintro rfl
    rw [adj_i] at ha; exact absurd ha (by decide)
  by_cases h1000 : st v = 1000
  · -- reached for the first time
    have hvs : ¬ v = s := by rintro rfl; omega
    have hnov : ∀ x, E v x = false := by
      intro x
      rcases Bool.eq_false_or_eq_true (E v x) with h | h
      · have := (j2 v x h).2.2.2.2.1; omega
      · exact h
    have hniv : ∀ x, E x v = false := by
      intro x
      rcases Bool.eq_false_or_eq_true (E x v) with h | h
      · have := (j2 x v h).2.2.2.2; omega
      · exact h
    have hw0 : w v = 0 := by
      rw [j3 v hv hvs]
      refine Eq.trans (sm_cg (g := fun _ => 0) 80 (fun x _ => ?_)) (sm_0 80)
      rw [if_neg (fun h => by rw [hniv x] at h; exact absurd h.1 (by decide))]
    have e1 : stR st u v = upN st v (st u + 1) := if_pos h1000
    have e2 : wR' st w u v = upN w v (w u) := by
      unfold wR'
      rw [e1, if_pos (show upN st v (st u + 1) v = st u + 1 from if_pos rfl), hw0, Nat.zero_add, Nat.mod_eq_of_lt (jw u hu)]
    rw [e1, e2]
    have sx : ∀ x, ¬ x = v → upN st v (st u + 1) x = st x := fun x hx => if_neg hx
    have sv : upN st v (st u + 1) v = st u + 1 := if_pos rfl
    have wx : ∀ x, ¬ x = v → upN w v (w u) x = w x := fun x hx => if_neg hx
    have wv : upN w v (w u) v = w u := if_pos rfl
    refine ⟨⟨by rw [sx s (fun e => hvs e.symm), j01], by rw [wx s (fun e => hvs e.symm), j02]⟩, ?_, ?_, ?_, ?_, ?_⟩
    · intro x hx
      by_cases hxv : x = v
      · rw [hxv, sv]; right; omega
      · rw [sx x hxv]; exact j1 x hx
    · intro x hx
      by_cases hxv : x = v
      · rw [hxv, wv]; exact jw u hu
      · rw [wx x hxv]; exact jw x hx
    · intro a b hab
      unfold eR' at hab
      by_cases hc : a = u ∧ b = v
      · obtain ⟨rfl, rfl⟩ := hc
        rw [sx a huv, sv]
        exact ⟨hu, hv, ha, hF, by omega, Nat.le_refl _⟩
      · rw [if_neg hc] at hab
        have hav : ¬ a = v := by rintro rfl; rw [hnov b] at hab; exact absurd hab (by decide)
        have hbv : ¬ b = v := by rintro rfl; rw [hniv a] at hab; exact absurd hab (by decide)
        rw [sx a hav, sx b hbv]
        exact j2 a b hab
    · intro x hx hxs
      by_cases hxv : x = v
      · subst hxv
        rw [wv]
        have := sm_add (f := fun _ => 0) (g := fun y => if eR' E u x y x = true ∧ upN st x (st u + 1) y + 1 = upN st x (st u + 1) x then upN w x (w u) y else 0) (c := u) (a := w u) (by
          intro y hy
          have : eR' E u x y x = false := by
            unfold eR'
            rw [if_neg (fun e => hy e.1)]; exact hniv y
          simp only [this, Bool.false_eq_true, false_and, if_false]) rfl (by
          have h1 : eR' E u x u x = true := if_pos ⟨rfl, rfl⟩
          simp only [h1, sx u huv, sv, wx u huv, true_and, if_true]) 80 hu
        rw [this, sm_0, Nat.zero_add, Nat.mod_eq_of_lt (jw u hu)]
      · rw [wx x hxv, j3 x hx hxs]
        refine sm_cg 80 (fun y _ => ?_)
        have he : eR' E u v y x = E y x := if_neg (fun e => hxv e.2)
        by_cases hyv : y = v
        · subst hyv
          simp only [he, hnov x, Bool.false_eq_true, false_and, if_false]
        · simp only [he, sx y hyv, sx x hxv, wx y hyv]
    · intro x hx hxs hx80
      by_cases hxv : x = v
      · subst hxv
        exact ⟨u, hu, if_pos ⟨rfl, rfl⟩, by rw [sv, sx u huv]⟩
      · rw [sx x hxv] at hx80 ⊢
        obtain ⟨y, y1, y2, y3⟩ := j4 x hx hxs hx80
        have hyv : ¬ y = v := by rintro rfl; rw [hnov x] at y2; exact absurd y2 (by decide)
        exact ⟨y, y1, by unfold eR'; rw [if_neg (fun e => hxv e.2)]; exact y2, by rw [sx y hyv, y3]⟩
  · have e1 : stR st u v = st := if_neg h1000
    by_cases hst : st v = st u + 1
    · -- one way more
      have hvs : ¬ v = s := by rintro rfl; omega
      have hnov : ∀ x, E v x = false := hno.resolve_left (by omega)
      have e2 : wR' st w u v = upN w v ((w v + w u) % PR) := by
        unfold wR'
        rw [e1, if_pos hst]
      rw [e1, e2]
      have wx : ∀ x, ¬ x = v → upN w v ((w v + w u) % PR) x = w x := fun x hx => if_neg hx
      have wv : upN w v ((w v + w u) % PR) v = (w v + w u) % PR := if_pos rfl
      refine ⟨⟨j01, by rw [wx s (fun e => hvs e.symm), j02]⟩, j1, ?_, ?_, ?_, ?_⟩
      · intro x hx
        by_cases hxv : x = v
        · rw [hxv, wv]; exact Nat.mod_lt _ (by decide)
        · rw [wx x hxv]; exact jw x hx
      · intro a b hab
        unfold eR' at hab
        by_cases hc : a = u ∧ b = v
        · obtain ⟨rfl, rfl⟩ := hc
          exact ⟨hu, hv, ha, hF, by omega, by omega⟩
        · rw [if_neg hc] at hab
          exact j2 a b hab
      · intro x hx hxs
        by_cases hxv : x = v
        · subst hxv
          rw [wv]
          have hjx := j3 x hx hxs
          have := sm_add (f := fun y => if E y x = true ∧ st y + 1 = st x then w y else 0) (g := fun y => if eR' E u x y x = true ∧ st y + 1 = st x then upN w x ((w x + w u) % PR) y else 0) (c := u) (a := w u) (by
            intro y hy
            have h1 : eR' E u x y x = E y x := if_neg (fun e => hy e.1)
            by_cases hyx : y = x
            · subst hyx
              simp only [h1, hnov y, Bool.false_eq_true, false_and, if_false]
            · simp only [h1, wx y hyx]) (by simp only [hE, Bool.false_eq_true, false_and, if_false]) (by
            have h1 : eR' E u x u x = true := if_pos ⟨rfl, rfl⟩
            simp only [h1, hst, wx u huv, true_and, if_true]) 80 hu
          rw [this, ← hjx]
        · rw [wx x hxv, j3 x hx hxs]
          refine sm_cg 80 (fun y _ => ?_)
          have he : eR' E u v y x = E y x := if_neg (fun e => hxv e.2)
          by_cases hyv : y = v
          · subst hyv
            simp only [he, hnov x, Bool.false_eq_true, false_and, if_false]
          · simp only [he, wx y hyv]
      · intro x hx hxs hx80
        obtain ⟨y, y1, y2, y3⟩ := j4 x hx hxs hx80
        refine ⟨y, y1, ?_, y3⟩
        unfold eR'
        by_cases hc : y = u ∧ x = v
        · rw [if_pos hc]
        · rw [if_neg hc]; exact y2
    · -- nothing new
      have e2 : wR' st w u v = w := by
        unfold wR'
        rw [e1, if_neg hst]
      rw [e1, e2]
      refine ⟨⟨j01, j02⟩, j1, jw, ?_, ?_, ?_⟩
      · intro a b hab
        unfold eR' at hab
        by_cases hc : a = u ∧ b = v
        · obtain ⟨rfl, rfl⟩ := hc
          exact ⟨hu, hv, ha, hF, by omega, by omega⟩
        · rw [if_neg hc] at hab
          exact j2 a b hab
      · intro x hx hxs
        rw [j3 x hx hxs]
        refine sm_cg 80 (fun y _ => ?_)
        by_cases hc : y = u ∧ x = v
        · obtain ⟨rfl, rfl⟩ := hc
          simp only [hE, Bool.false_eq_true, false_and, if_false]
          rw [if_neg (fun e => hst e.2.symm)]
        · have he : eR' E u v y x = E y x := if_neg hc
          simp only [he]
      · intro x hx hxs hx80
        obtain ⟨y, y1, y2, y3⟩ := j4 x hx hxs hx80
        refine ⟨y, y1, ?_, y3⟩
        unfold eR'
        by_cases hc : y = u ∧ x = v
        · rw [if_pos hc]
        · rw [if_neg hc]; exact y2
/-- all pairs were looked at -/
def fin (F : Nat → Bool) (st : Nat → Nat) (E : Nat → Nat → Bool) : Prop := ∀ u, u < 80 → st u ≤ 80 → ∀ v, v < 80 → adj u v = true → F v = true → E u v = true
theorem BI_half {s : Nat} {F : Nat → Bool} {st w st' w' : Nat → Nat} {E E' : Nat → Nat → Bool} (h : BI s F st w E) (h' : BI s F st' w' E') (hf' : fin F st' E') {k : Nat} (ih : ∀ j, j ≤ k → ∀ v, v < 80 → (st v = j ↔ st' v = j)) {v : Nat} (hv : v < 80) (hk : k + 1 ≤ 80) (e : st v = k + 1) : st' v = k + 1 := by
  have hvs : ¬ v = s := by rintro rfl; have := h.j0.1; omega
  obtain ⟨u, u1, u2, u3⟩ := h.j4 v hv hvs (by omega)
  obtain ⟨-, -, g1, g2, -, -⟩ := h.j2 u v u2
  have hu' : st' u = k := (ih k (Nat.le_refl _) u u1).1 (by omega)
  have := (h'.j2 u v (hf' u u1 (by omega) v hv g1 g2)).2.2.2.2.2
  by_cases hj : st' v ≤ k
  · have := (ih (st' v) hj v hv).2 rfl
    omega
  · omega
theorem BI_uni {s : Nat} {F : Nat → Bool} {st w st' w' : Nat → Nat} {E E' : Nat → Nat → Bool} (h : BI s F st w E) (h' : BI s F st' w' E') (hf : fin F st E) (hf' : fin F st' E') : ∀ k, k ≤ 80 → ∀ j, j ≤ k → ∀ v, v < 80 → (st v = j ↔ st' v = j) ∧ (st v = j → w v = w' v) := by
  intro k
  induction k with
  | zero =>
    intro _ j hj v hv
    obtain rfl : j = 0 := by omega
    have z1 : st v = 0 → v = s := by
      intro e
      apply Classical.byContradiction
      intro hvs
      obtain ⟨u, -, -, u3⟩ := h.j4 v hv hvs (by omega)
      omega
    have z2 : st' v = 0 → v = s := by
      intro e
      apply Classical.byContradiction
      intro hvs
      obtain ⟨u, -, -, u3⟩ := h'.j4 v hv hvs (by omega)
      omega
    refine ⟨⟨fun e => by rw [z1 e]; exact h'.j0.1, fun e => by rw [z2 e]; exact h.j0.1⟩, fun e => ?_⟩
    rw [z1 e, h.j0.2, h'.j0.2]
  | succ k ih =>
    intro hk j hj v hv
    by_cases hjk : j ≤ k
    · exact ih (by omega) j hjk v hv
    · obtain rfl : j = k + 1 := by omega
      have ih1 : ∀ j, j ≤ k → ∀ v, v < 80 → (st v = j ↔ st' v = j) := fun j hj v hv => (ih (by omega) j hj v hv).1
      have ih2 : ∀ j, j ≤ k → ∀ v, v < 80 → (st' v = j ↔ st v = j) := fun j hj v hv => (ih1 j hj v hv).symm
      have a1 := fun e => BI_half h h' hf' ih1 hv hk e
      have a2 := fun e => BI_half h' h hf ih2 hv hk e
      refine ⟨⟨a1, a2⟩, fun e => ?_⟩
      have e' := a1 e
      have hvs : ¬ v = s := by rintro rfl; have := h.j0.1; omega
      rw [h.j3 v hv hvs, h'.j3 v hv hvs]
      refine sm_cg 80 (fun u hu => ?_)
      by_cases hc : E u v = true ∧ st u + 1 = st v
      · obtain ⟨c1, c2⟩ := hc
        obtain ⟨-, -, g1, g2, -, -⟩ := h.j2 u v c1
        obtain ⟨i1, i2⟩ := ih (by omega) k (Nat.le_refl _) u hu
        have hu' : st' u = k := i1.1 (by omega)
        rw [if_pos ⟨c1, c2⟩, if_pos ⟨hf' u hu (by omega) v hv g1 g2, by omega⟩, i2 (by omega)]
      · by_cases hc' : E' u v = true ∧ st' u + 1 = st' v
        · obtain ⟨c1, c2⟩ := hc'
          obtain ⟨-, -, g1, g2, -, -⟩ := h'.j2 u v c1
          obtain ⟨i1, i2⟩ := ih (by omega) k (Nat.le_refl _) u hu
          have hu' : st u = k := i1.2 (by omega)
          exact absurd ⟨hf u hu (by omega) v hv g1 g2, by omega⟩ hc
        · rw [if_neg hc, if_neg hc']
theorem BI_same {s : Nat} {F : Nat → Bool} {st w st' w' : Nat → Nat} {E E' : Nat → Nat → Bool} (h : BI s F st w E) (h' : BI s F st' w' E') (hf : fin F st E) (hf' : fin F st' E') {v : Nat} (hv : v < 80) : st v = st' v ∧ (st v ≤ 80 → w v = w' v) := by
  have key := fun j hj => BI_uni h h' hf hf' 80 (Nat.le_refl _) j hj v hv
  rcases h.j1 v hv with h1 | h1
  · rcases h'.j1 v hv with h2 | h2
    · exact ⟨by omega, fun h => by omega⟩
    · have := (key (st' v) h2).1.2 rfl
      omega
  · obtain ⟨k1, k2⟩ := key (st v) h1
    exact ⟨(k1.1 rfl).symm, fun _ => k2 rfl⟩
/-- not more than there are -/
theorem php : ∀ m n (q : Nat → Nat), (∀ j, j < n → q j < m) → (∀ i j, i < n → j < n → q i = q j → i = j) → n ≤ m := by
  intro m
  induction m with
  | zero =>
    intro n q h _
    cases n with
    | zero => exact Nat.le_refl _
    | succ n => exact absurd (h 0 (by omega)) (by omega)
  | succ m ih =>
    intro n q h1 h2
    cases n with
    | zero => omega
    | succ n =>
      by_cases hex : ∃ j0, j0 < n + 1 ∧ q j0 = m
      · obtain ⟨j0, g1, g2⟩ := hex
        have := ih n (fun j => if j = j0 then q n else q j) (by
          intro j hj
          split
          · next e =>
            have a1 := h1 n (by omega)
            have : ¬ q n = m := fun e' => by
              have := h2 n j0 (by omega) g1 (by omega)
              omega
            omega
          · next e =>
            have a1 := h1 j (by omega)
            have : ¬ q j = m := fun e' => e (h2 j j0 (by omega) g1 (by omega))
            omega) (by
          intro i j hi hj e
          split at e
          · next ei =>
            split at e
            · next ej => omega
            · next ej =>
              have := h2 n j (by omega) (by omega) e
              omega
          · next ei =>
            split at e
            · next ej =>
              have := h2 i n (by omega) (by omega) e
              omega
            · exact h2 i j (by omega) (by omega) e)
        omega
      · have := ih (n + 1) q (by
          intro j hj
          have a1 := h1 j hj
          have : ¬ q j = m := fun e => hex ⟨j, hj, e⟩
          omega) h2
        omega
