-- lk:
/-! ===== the search as both make it: boxes, heights, what fits ===== -/
def ovx (a b : Nat → Nat) : Prop := a 2 < b 2 + b 5 ∧ b 2 < a 2 + a 5
def ovy (a b : Nat → Nat) : Prop := a 3 < b 3 + b 6 ∧ b 3 < a 3 + a 6
def ovz (a b : Nat → Nat) : Prop := a 4 < b 4 + b 7 ∧ b 4 < a 4 + a 7
def cov (b : Nat → Nat) (x z : Nat) : Prop := b 2 ≤ x ∧ x < b 2 + b 5 ∧ b 4 ≤ z ∧ z < b 4 + b 7
def abv (a b : Nat → Nat) : Prop := a 3 + a 6 ≤ b 3 ∧ ovx a b ∧ ovz a b
def frt (a b : Nat → Nat) : Prop := a 4 + a 7 ≤ b 4 ∧ ovx a b ∧ ovy a b
noncomputable def hgt (P : Nat → Nat → Nat) (x z : Nat) : Nat → Nat
  | 0 => 0
  | i + 1 => cIf (P i 0 = 1 ∧ cov (P i) x z) (max (hgt P x z i) (P i 3 + P i 6)) (hgt P x z i)
noncomputable def wab (g : Nat → Nat → Nat) (P : Nat → Nat → Nat) (a : Nat → Nat) : Nat → Nat
  | 0 => 0
  | i + 1 => wab g P a i + cIf (P i 0 = 1 ∧ abv a (P i)) (g 3 i) 0
def cmN (a n b m : Nat) : Nat := min (a + n) (b + m) - max a b
noncomputable def und (P : Nat → Nat → Nat) (b : Nat → Nat) : Nat → Nat
  | 0 => 0
  | q + 1 => und P b q + cIf (P q 0 = 1 ∧ P q 3 + P q 6 = b 3) (cmN (b 2) (b 5) (P q 2) (P q 5) * cmN (b 4) (b 7) (P q 4) (P q 7)) 0
def setP (P : Nat → Nat → Nat) (j : Nat) (b : Nat → Nat) : Nat → Nat → Nat := fun i => if i = j then b else P i
theorem setP_s (P : Nat → Nat → Nat) (j : Nat) (b : Nat → Nat) : setP P j b j = b := if_pos rfl
theorem setP_n {P : Nat → Nat → Nat} {j i : Nat} {b : Nat → Nat} (h : i ≠ j) : setP P j b i = P i := if_neg h
def outA (g : Nat → Nat → Nat) (b : Nat → Nat) : Prop := b 2 + b 5 ≤ g 8 0 ∧ b 3 + b 6 ≤ g 8 1 ∧ b 4 + b 7 ≤ g 8 2
def ordA (g P : Nat → Nat → Nat) (j : Nat) (b : Nat → Nat) (i : Nat) : Prop := g 6 i < g 6 j ∧ frt (P i) b ∨ g 6 j < g 6 i ∧ frt b (P i)
def limA (g P : Nat → Nat → Nat) (j : Nat) (b : Nat → Nat) (i : Nat) : Prop := g 5 i = 0 ∨ ¬ abv (P i) b ∨ wab g P (P i) 6 + g 3 j < g 5 i
def fitA (g P : Nat → Nat → Nat) (j : Nat) (b : Nat → Nat) : Prop := outA g b ∧ (∀ x z, cov b x z → hgt P x z 6 = b 3) ∧ ∀ i, i < 6 → P i 0 = 1 → limA g P j b i ∧ ¬ ordA g P j b i
def fitB (g P : Nat → Nat → Nat) (j : Nat) (b : Nat → Nat) : Prop := outA g b ∧ (∀ q, q < j → P q 0 = 1 → ¬ (ovx b (P q) ∧ ovy b (P q) ∧ ovz b (P q)) ∧ ¬ ordA g P j b q) ∧ (b 3 = 0 ∨ und P b j = b 5 * b 7) ∧ ∀ a, a < j + 1 → setP P j b a 0 = 1 → g 5 a = 0 ∨ wab g (setP P j b) (setP P j b a) (j + 1) < g 5 a
def psv (b : Nat → Nat) : Prop := 0 < b 5 ∧ 0 < b 6 ∧ 0 < b 7
def Good (g P : Nat → Nat → Nat) (j : Nat) : Prop := (∀ i, j ≤ i → P i 0 = 0) ∧ (∀ i, P i 0 = 1 → psv (P i)) ∧ (∀ a b, a ≠ b → P a 0 = 1 → P b 0 = 1 → ¬ (ovx (P a) (P b) ∧ ovy (P a) (P b) ∧ ovz (P a) (P b))) ∧ (∀ a x z, P a 0 = 1 → cov (P a) x z → P a 3 = 0 ∨ ∃ q, P q 0 = 1 ∧ cov (P q) x z ∧ P q 3 + P q 6 = P a 3) ∧ ∀ a, P a 0 = 1 → g 5 a = 0 ∨ wab g P (P a) 6 < g 5 a
theorem Good.lt {g P : Nat → Nat → Nat} {j i : Nat} (h : Good g P j) (hi : P i 0 = 1) : i < j := by
  rcases Nat.lt_or_ge i j with z | z
  · exact z
  · have := h.1 i z; omega
theorem ovx_c {a b : Nat → Nat} (h : ovx a b) : ovx b a := ⟨h.2, h.1⟩
theorem ovy_c {a b : Nat → Nat} (h : ovy a b) : ovy b a := ⟨h.2, h.1⟩
theorem ovz_c {a b : Nat → Nat} (h : ovz a b) : ovz b a := ⟨h.2, h.1⟩
/-- a cell of the floor under both -/
theorem cov_both {a b : Nat → Nat} (ha : psv a) (hb : psv b) (hx : ovx a b) (hz : ovz a b) : ∃ x z, cov a x z ∧ cov b x z := by
  obtain ⟨h1, h2⟩ := hx
  obtain ⟨h3, h4⟩ := hz
  obtain ⟨a1, _, a2⟩ := ha
  obtain ⟨b1, _, b2⟩ := hb
  exact ⟨max (a 2) (b 2), max (a 4) (b 4), ⟨by omega, by omega, by omega, by omega⟩, ⟨by omega, by omega, by omega, by omega⟩⟩
theorem ov_of {a b : Nat → Nat} {x z : Nat} (h : cov a x z) (h' : cov b x z) : ovx a b ∧ ovz a b := by
  obtain ⟨h1, h2, h3, h4⟩ := h
  obtain ⟨h5, h6, h7, h8⟩ := h'
  exact ⟨⟨by omega, by omega⟩, ⟨by omega, by omega⟩⟩
theorem hgt_ge {P : Nat → Nat → Nat} {x z i : Nat} : ∀ {n : Nat}, i < n → P i 0 = 1 → cov (P i) x z → P i 3 + P i 6 ≤ hgt P x z n
  | 0, h, _, _ => absurd h (by omega)
  | n + 1, h, h1, h2 => by
    by_cases e : i = n
    · subst e
      rw [hgt, cIf_t ⟨h1, h2⟩]
      omega
    · have := hgt_ge (n := n) (by omega) h1 h2
      rw [hgt]
      refine cIf_ind (fun _ => by omega) (fun _ => this)
theorem hgt_at {P : Nat → Nat → Nat} {x z : Nat} : ∀ n : Nat, hgt P x z n = 0 ∨ ∃ i, i < n ∧ P i 0 = 1 ∧ cov (P i) x z ∧ P i 3 + P i 6 = hgt P x z n
  | 0 => Or.inl rfl
  | n + 1 => by
    by_cases h : P n 0 = 1 ∧ cov (P n) x z
    · rw [hgt, cIf_t h]
      rcases Nat.le_total (hgt P x z n) (P n 3 + P n 6) with q | q
      · rw [Nat.max_eq_right q]
        exact Or.inr ⟨n, by omega, h.1, h.2, rfl⟩
      · rw [Nat.max_eq_left q]
        rcases hgt_at (P := P) (x := x) (z := z) n with w | ⟨i, h1, h2⟩
        · exact Or.inl w
        · exact Or.inr ⟨i, by omega, h2⟩
    · rw [hgt, cIf_f h]
      rcases hgt_at (P := P) (x := x) (z := z) n with w | ⟨i, h1, h2⟩
      · exact Or.inl w
      · exact Or.inr ⟨i, by omega, h2⟩
/-! sums -/
def sm (f : Nat → Nat) : Nat → Nat
  | 0 => 0
  | n + 1 => sm f n + f n
theorem sm_add (f h : Nat → Nat) : ∀ n, sm (fun i => f i + h i) n = sm f n + sm h n
  | 0 => rfl
  | n + 1 => by rw [sm, sm, sm, sm_add f h n]; omega
theorem sm_mul (c : Nat) (f : Nat → Nat) : ∀ n, sm (fun i => c * f i) n = c * sm f n
  | 0 => rfl
  | n + 1 => by rw [sm, sm, sm_mul c f n, Nat.mul_add]
theorem sm_zero : ∀ n, sm (fun _ => 0) n = 0
  | 0 => rfl
  | n + 1 => by rw [sm, sm_zero n]
theorem sm_congr {f h : Nat → Nat} : ∀ n, (∀ i, i < n → f i = h i) → sm f n = sm h n
  | 0, _ => rfl
  | n + 1, e => by rw [sm, sm, sm_congr n (fun i hi => e i (by omega)), e n (by omega)]
theorem sm_le {f : Nat → Nat} {c : Nat} : ∀ n, (∀ i, i < n → f i ≤ c) → sm f n ≤ n * c
  | 0, _ => by simp [sm]
  | n + 1, e => by
    have := sm_le (f := f) n (fun i hi => e i (by omega))
    have := e n (by omega)
    rw [sm, Nat.succ_mul]
    omega
theorem sm_full {f : Nat → Nat} {c : Nat} : ∀ n, (∀ i, i < n → f i ≤ c) → sm f n = n * c → ∀ i, i < n → f i = c
  | 0, _, _, i, h => absurd h (by omega)
  | n + 1, e, q, i, h => by
    have h1 := sm_le (f := f) (c := c) n (fun i hi => e i (by omega))
    have h2 := e n (by omega)
    rw [sm, Nat.succ_mul] at q
    by_cases w : i = n
    · subst w; omega
    · exact sm_full n (fun i hi => e i (by omega)) (by omega) i (by omega)
theorem sm_const (c : Nat) : ∀ n, sm (fun _ => c) n = n * c
  | 0 => by simp [sm]
  | n + 1 => by rw [sm, sm_const c n, Nat.succ_mul]
/-- how many of the places b, b+1 .. of n lie in the m from q -/
theorem sm_iv (b q m : Nat) : ∀ n, sm (fun x => cIf (q ≤ b + x ∧ b + x < q + m) 1 0) n = cmN b n q m
  | 0 => by simp [sm, cmN]; omega
  | n + 1 => by
    rw [sm, sm_iv b q m n]
    unfold cmN
    by_cases h : q ≤ b + n ∧ b + n < q + m
    · rw [cIf_t h]; omega
    · rw [cIf_f h]; omega
/-- how many of the first n boxes end at b's floor over a cell -/
noncomputable def cnt1 (P : Nat → Nat → Nat) (b : Nat → Nat) (x z : Nat) (n : Nat) : Nat := sm (fun q => cIf ((P q 0 = 1 ∧ P q 3 + P q 6 = b 3) ∧ cov (P q) x z) 1 0) n
theorem und_cells (P : Nat → Nat → Nat) (b : Nat → Nat) : ∀ n, und P b n = sm (fun z => sm (fun x => cnt1 P b (b 2 + x) (b 4 + z) n) (b 5)) (b 7)
  | 0 => by
    unfold und cnt1
    simp only [sm, sm_zero]
  | n + 1 => by
    rw [und, und_cells P b n]
    have e : ∀ z, sm (fun x => cnt1 P b (b 2 + x) (b 4 + z) (n + 1)) (b 5) = sm (fun x => cnt1 P b (b 2 + x) (b 4 + z) n) (b 5) + sm (fun x => cIf ((P n 0 = 1 ∧ P n 3 + P n 6 = b 3) ∧ cov (P n) (b 2 + x) (b 4 + z)) 1 0) (b 5) := fun z => sm_add _ _ _
    rw [sm_congr (b 7) (fun z _ => e z), sm_add]
    congr 1
    by_cases h : P n 0 = 1 ∧ P n 3 + P n 6 = b 3
    · rw [cIf_t h]
      have e2 : ∀ z, sm (fun x => cIf ((P n 0 = 1 ∧ P n 3 + P n 6 = b 3) ∧ cov (P n) (b 2 + x) (b 4 + z)) 1 0) (b 5) = cmN (b 2) (b 5) (P n 2) (P n 5) * cIf (P n 4 ≤ b 4 + z ∧ b 4 + z < P n 4 + P n 7) 1 0 := by
        intro z
        by_cases hz : P n 4 ≤ b 4 + z ∧ b 4 + z < P n 4 + P n 7
        · rw [cIf_t hz, Nat.mul_one, ← sm_iv]
          refine sm_congr _ (fun x _ => ?_)
          by_cases hx : P n 2 ≤ b 2 + x ∧ b 2 + x < P n 2 + P n 5
          · rw [cIf_t hx, cIf_t ⟨h, hx.1, hx.2, hz.1, hz.2⟩]
          · rw [cIf_f hx, cIf_f (fun w => hx ⟨w.2.1, w.2.2.1⟩)]
        · rw [cIf_f hz, Nat.mul_zero]
          exact (sm_congr (h := fun _ => 0) _ (fun x _ => cIf_f (fun w => hz ⟨w.2.2.2.1, w.2.2.2.2⟩) _ _)).trans (sm_zero _)
      rw [sm_congr (b 7) (fun z _ => e2 z), sm_mul, sm_iv]
    · rw [cIf_f h]
      symm
      exact (sm_congr (h := fun _ => 0) _ (fun z _ => (sm_congr (h := fun _ => 0) _ (fun x _ => cIf_f (fun w => h w.1) _ _)).trans (sm_zero _))).trans (sm_zero _)
theorem cnt1_pos {P : Nat → Nat → Nat} {b : Nat → Nat} {x z q : Nat} : ∀ {n : Nat}, q < n → (P q 0 = 1 ∧ P q 3 + P q 6 = b 3) ∧ cov (P q) x z → 1 ≤ cnt1 P b x z n
  | 0, h, _ => absurd h (by omega)
  | n + 1, h, h1 => by
    show 1 ≤ cnt1 P b x z n + cIf ((P n 0 = 1 ∧ P n 3 + P n 6 = b 3) ∧ cov (P n) x z) 1 0
    by_cases e : q = n
    · subst e; rw [cIf_t h1]; omega
    · have := cnt1_pos (P := P) (b := b) (x := x) (z := z) (q := q) (n := n) (by omega) h1
      omega
theorem cnt1_ex {P : Nat → Nat → Nat} {b : Nat → Nat} {x z : Nat} : ∀ {n : Nat}, 1 ≤ cnt1 P b x z n → ∃ q, q < n ∧ (P q 0 = 1 ∧ P q 3 + P q 6 = b 3) ∧ cov (P q) x z
  | 0, h => absurd h (by simp [cnt1, sm])
  | n + 1, h => by
    have h' : 1 ≤ cnt1 P b x z n + cIf ((P n 0 = 1 ∧ P n 3 + P n 6 = b 3) ∧ cov (P n) x z) 1 0 := h
    by_cases e : (P n 0 = 1 ∧ P n 3 + P n 6 = b 3) ∧ cov (P n) x z
    · exact ⟨n, by omega, e⟩
    · rw [cIf_f e] at h'
      obtain ⟨q, h1, h2⟩ := cnt1_ex (n := n) (by omega)
      exact ⟨q, by omega, h2⟩
theorem cnt1_le {g P : Nat → Nat → Nat} {j : Nat} {b : Nat → Nat} {x z : Nat} (G : Good g P j) : ∀ n : Nat, cnt1 P b x z n ≤ 1
  | 0 => by simp [cnt1, sm]
  | n + 1 => by
    show cnt1 P b x z n + cIf ((P n 0 = 1 ∧ P n 3 + P n 6 = b 3) ∧ cov (P n) x z) 1 0 ≤ 1
    by_cases e : (P n 0 = 1 ∧ P n 3 + P n 6 = b 3) ∧ cov (P n) x z
    · rw [cIf_t e]
      rcases Nat.lt_or_ge (cnt1 P b x z n) 1 with w | w
      · omega
      · obtain ⟨q, h1, h2, h3⟩ := cnt1_ex w
        exfalso
        have o := ov_of h3 e.2
        have p1 := G.2.1 q h2.1
        have p2 := G.2.1 n e.1.1
        refine G.2.2.1 q n (by omega) h2.1 e.1.1 ⟨o.1, ?_, o.2⟩
        have := e.1.2
        have := h2.2
        unfold psv at p1 p2
        exact ⟨by omega, by omega⟩
    · rw [cIf_f e]
      exact cnt1_le G n
/-- under all of b's floor stand boxes that end there -/
theorem und_iff {g P : Nat → Nat → Nat} {j : Nat} {b : Nat → Nat} (G : Good g P j) : und P b j = b 5 * b 7 ↔ ∀ x z, cov b x z → ∃ q, P q 0 = 1 ∧ cov (P q) x z ∧ P q 3 + P q 6 = b 3 := by
  rw [und_cells]
  constructor
  · intro h x z hc
    obtain ⟨h1, h2, h3, h4⟩ := hc
    have a1 : ∀ z, z < b 7 → sm (fun x => cnt1 P b (b 2 + x) (b 4 + z) j) (b 5) ≤ b 5 := fun z _ => by
      have := sm_le (f := fun x => cnt1 P b (b 2 + x) (b 4 + z) j) (c := 1) (b 5) (fun x _ => cnt1_le G j)
      omega
    have a2 := sm_full (b 7) a1 (by rw [h, Nat.mul_comm]) (z - b 4) (by omega)
    have a3 := sm_full (f := fun x => cnt1 P b (b 2 + x) (b 4 + (z - b 4)) j) (c := 1) (b 5) (fun x _ => cnt1_le G j) (by rw [a2, Nat.mul_one]) (x - b 2) (by omega)
    have a4 : cnt1 P b x z j = 1 := by
      have e1 : b 2 + (x - b 2) = x := by omega
      have e2 : b 4 + (z - b 4) = z := by omega
      simp only [e1, e2] at a3
      exact a3
    obtain ⟨q, q1, q2, q3⟩ := cnt1_ex (P := P) (b := b) (x := x) (z := z) (n := j) (by omega)
    exact ⟨q, q2.1, q3, q2.2⟩
  · intro h
    rw [Nat.mul_comm, ← sm_const (b 5) (b 7)]
    refine sm_congr _ (fun z hz => ?_)
    refine Eq.trans (sm_congr (h := fun _ => 1) _ (fun x hx => ?_)) (by rw [sm_const, Nat.mul_one])
    obtain ⟨q, q1, q2, q3⟩ := h (b 2 + x) (b 4 + z) ⟨by omega, by omega, by omega, by omega⟩
    have a1 := cnt1_pos (P := P) (b := b) (n := j) (G.lt q1) ⟨⟨q1, q3⟩, q2⟩
    have a2 := cnt1_le (b := b) (x := b 2 + x) (z := b 4 + z) G j
    omega
/-! weights above -/
theorem wab_ext {g P P' : Nat → Nat → Nat} {a : Nat → Nat} : ∀ n, (∀ i, i < n → P' i = P i) → wab g P' a n = wab g P a n
  | 0, _ => rfl
  | n + 1, e => by rw [wab, wab, wab_ext n (fun i hi => e i (by omega)), e n (by omega)]
theorem wab_out {g P : Nat → Nat → Nat} {a : Nat → Nat} {j : Nat} (h : ∀ i, j ≤ i → P i 0 = 0) : ∀ k, wab g P a (j + k) = wab g P a j
  | 0 => rfl
  | k + 1 => by
    rw [← Nat.add_assoc, wab, wab_out h k, cIf_f (fun w => by have := h (j + k) (by omega); omega)]
    rfl
theorem wab_out' {g P : Nat → Nat → Nat} {a : Nat → Nat} {j n : Nat} (h : ∀ i, j ≤ i → P i 0 = 0) (hn : j ≤ n) : wab g P a n = wab g P a j := by
  obtain ⟨k, rfl⟩ := Nat.exists_eq_add_of_le hn
  exact wab_out h k
theorem wab_none {g P : Nat → Nat → Nat} {a : Nat → Nat} : ∀ n, (∀ i, i < n → P i 0 = 1 → ¬ abv a (P i)) → wab g P a n = 0
  | 0, _ => rfl
  | n + 1, h => by rw [wab, wab_none n (fun i hi => h i (by omega)), cIf_f (fun w => h n (by omega) w.1 w.2)]
theorem setP_out {P : Nat → Nat → Nat} {j : Nat} {b : Nat → Nat} (h : ∀ i, j ≤ i → P i 0 = 0) : ∀ i, j + 1 ≤ i → setP P j b i 0 = 0 := fun i hi => by rw [setP_n (by omega)]; exact h i (by omega)
theorem wab_set {g P : Nat → Nat → Nat} {j : Nat} {b a : Nat → Nat} (h : ∀ i, j ≤ i → P i 0 = 0) (hj : j < 6) (hb : b 0 = 1) : wab g (setP P j b) a (j + 1) = wab g P a 6 + cIf (abv a b) (g 3 j) 0 := by
  rw [wab, wab_ext (P := P) j (fun i hi => setP_n (by omega)), wab_out' h (by omega : j ≤ 6), setP_s]
  by_cases e : abv a b
  · rw [cIf_t e, cIf_t ⟨hb, e⟩]
  · rw [cIf_f e, cIf_f (fun w => e w.2)]
theorem no_above {g P : Nat → Nat → Nat} {j : Nat} {b : Nat → Nat} (G : Good g P j) (hj : j < 6) (hp : psv b) (hh : ∀ x z, cov b x z → hgt P x z 6 = b 3) (i : Nat) (hi : P i 0 = 1) : ¬ abv b (P i) := by
  rintro ⟨h1, h2, h3⟩
  obtain ⟨x, z, c1, c2⟩ := cov_both hp (G.2.1 i hi) h2 h3
  have := hgt_ge (n := 6) (by have := G.lt hi; omega) hi c2
  rw [hh x z c1] at this
  have := G.2.1 i hi
  unfold psv at this hp
  omega
theorem no_self {b : Nat → Nat} (hp : psv b) : ¬ abv b b := by
  rintro ⟨h1, _⟩
  unfold psv at hp
  omega
theorem fit_iff {g P : Nat → Nat → Nat} {j : Nat} {b : Nat → Nat} (G : Good g P j) (hj : j < 6) (hb : b 0 = 1) (hp : psv b) : fitA g P j b ↔ fitB g P j b := by
  constructor
  · rintro ⟨h1, h2, h3⟩
    have hov : ∀ q, P q 0 = 1 → ¬ (ovx b (P q) ∧ ovy b (P q) ∧ ovz b (P q)) := by
      rintro q hq ⟨o1, o2, o3⟩
      obtain ⟨x, z, c1, c2⟩ := cov_both hp (G.2.1 q hq) o1 o3
      have := hgt_ge (n := 6) (by have := G.lt hq; omega) hq c2
      rw [h2 x z c1] at this
      unfold ovy at o2
      omega
    refine ⟨h1, fun q hq hi => ⟨hov q hi, (h3 q (by omega) hi).2⟩, ?_, ?_⟩
    · by_cases e : b 3 = 0
      · exact Or.inl e
      · refine Or.inr ((und_iff G).mpr (fun x z c => ?_))
        have := h2 x z c
        rcases hgt_at (P := P) (x := x) (z := z) 6 with w | ⟨i, _, i2, i3, i4⟩
        · omega
        · exact ⟨i, i2, i3, by omega⟩
    · intro a ha hi
      by_cases e : a = j
      · subst e
        rw [setP_s, wab_set G.1 hj hb, cIf_f (no_self hp), wab_none 6 (fun i _ hi => no_above G hj hp h2 i hi)]
        omega
      · rw [setP_n e] at hi ⊢
        rw [wab_set G.1 hj hb]
        rcases (h3 a (by omega) hi).1 with w | w | w
        · exact Or.inl w
        · rw [cIf_f w]; exact G.2.2.2.2 a hi
        · right
          exact cIf_ind (R := fun v => wab g P (P a) 6 + v < g 5 a) (fun _ => w) (fun _ => by omega)
  · rintro ⟨h1, h2, h3, h4⟩
    refine ⟨h1, ?_, ?_⟩
    · intro x z c
      have hno : ∀ t q, P q 3 = t → P q 0 = 1 → cov (P q) x z → P q 3 + P q 6 ≤ b 3 := by
        intro t
        induction t using Nat.strongRecOn with
        | _ t ih =>
          intro q hq hi hc
          rcases Nat.lt_or_ge (b 3) (P q 3 + P q 6) with w | w
          · exfalso
            have o := ov_of c hc
            have hn := (h2 q (G.lt hi) hi).1
            have hy : ¬ ovy b (P q) := fun oy => hn ⟨o.1, oy, o.2⟩
            have pq := G.2.1 q hi
            unfold ovy at hy
            unfold psv at pq hp
            rcases G.2.2.2.1 q x z hi hc with r | ⟨q', r1, r2, r3⟩
            · omega
            · have pq' := G.2.1 q' r1
              unfold psv at pq'
              have := ih (P q' 3) (by omega) q' rfl r1 r2
              omega
          · exact w
      have hle : hgt P x z 6 ≤ b 3 := by
        rcases hgt_at (P := P) (x := x) (z := z) 6 with w | ⟨i, _, i2, i3, i4⟩
        · omega
        · rw [← i4]; exact hno _ i rfl i2 i3
      rcases h3 with w | w
      · omega
      · obtain ⟨q, q1, q2, q3⟩ := (und_iff G).mp w x z c
        have := hgt_ge (n := 6) (by have := G.lt q1; omega) q1 q2
        omega
    · intro i hi6 hi
      have hij := G.lt hi
      refine ⟨?_, (h2 i hij hi).2⟩
      have := h4 i (by omega) (by rw [setP_n (by omega)]; exact hi)
      rw [setP_n (by omega), wab_set G.1 hj hb] at this
      rcases this with w | w
      · exact Or.inl w
      · by_cases e : abv (P i) b
        · rw [cIf_t e] at w; exact Or.inr (Or.inr w)
        · exact Or.inr (Or.inl e)
/-- a box more, that fits -/
theorem good_set {g P : Nat → Nat → Nat} {j : Nat} {b : Nat → Nat} (G : Good g P j) (hj : j < 6) (hb : b 0 = 1) (hp : psv b) (hf : fitA g P j b) : Good g (setP P j b) (j + 1) := by
  have hB := (fit_iff G hj hb hp).mp hf
  refine ⟨setP_out G.1, ?_, ?_, ?_, ?_⟩
  · intro i hi
    by_cases e : i = j
    · subst e; rw [setP_s]; exact hp
    · rw [setP_n e] at hi ⊢; exact G.2.1 i hi
  · intro a c hac ha hc
    by_cases e : a = j
    · subst e
      rw [setP_n (Ne.symm hac)] at hc ⊢
      rw [setP_s]
      exact (hB.2.1 c (G.lt hc) hc).1
    · by_cases e2 : c = j
      · subst e2
        rw [setP_n e] at ha ⊢
        rw [setP_s]
        rintro ⟨o1, o2, o3⟩
        exact (hB.2.1 a (G.lt ha) ha).1 ⟨ovx_c o1, ovy_c o2, ovz_c o3⟩
      · rw [setP_n e] at ha ⊢
        rw [setP_n e2] at hc ⊢
        exact G.2.2.1 a c hac ha hc
  · intro a x z ha hc
    by_cases e : a = j
    · subst e
      rw [setP_s] at hc ⊢
      have := hf.2.1 x z hc
      rcases hgt_at (P := P) (x := x) (z := z) 6 with w | ⟨i, _, i2, i3, i4⟩
      · exact Or.inl (by omega)
      · refine Or.inr ⟨i, ?_⟩
        rw [setP_n (by have := G.lt i2; omega)]
        exact ⟨i2, i3, by omega⟩
    · rw [setP_n e] at ha hc ⊢
      rcases G.2.2.2.1 a x z ha hc with w | ⟨q, q1, q2, q3⟩
      · exact Or.inl w
      · refine Or.inr ⟨q, ?_⟩
        rw [setP_n (by have := G.lt q1; omega)]
        exact ⟨q1, q2, q3⟩
  · intro a ha
    have hlt : a < j + 1 := by
      rcases Nat.lt_or_ge a (j + 1) with w | w
      · exact w
      · have := setP_out (b := b) G.1 a w; omega
    rw [wab_out' (setP_out G.1) (by omega : j + 1 ≤ 6)]
    exact hB.2.2.2 a hlt ha
theorem hgt_ext {P P' : Nat → Nat → Nat} {x z : Nat} : ∀ n, (∀ i, i < n → P' i = P i) → hgt P' x z n = hgt P x z n
  | 0, _ => rfl
  | n + 1, e => by rw [hgt, hgt, hgt_ext n (fun i hi => e i (by omega)), e n (by omega)]
theorem hgt_out {P : Nat → Nat → Nat} {x z j : Nat} (h : ∀ i, j ≤ i → P i 0 = 0) : ∀ k, hgt P x z (j + k) = hgt P x z j
  | 0 => rfl
  | k + 1 => by
    rw [← Nat.add_assoc, hgt, hgt_out h k, cIf_f (fun w => by have := h (j + k) (by omega); omega)]
theorem hgt_out' {P : Nat → Nat → Nat} {x z j n : Nat} (h : ∀ i, j ≤ i → P i 0 = 0) (hn : j ≤ n) : hgt P x z n = hgt P x z j := by
  obtain ⟨k, rfl⟩ := Nat.exists_eq_add_of_le hn
  exact hgt_out h k
/-- the heights with a box more -/
theorem hgt_set {g P : Nat → Nat → Nat} {j : Nat} {b : Nat → Nat} (G : Good g P j) (hj : j < 6) (hb : b 0 = 1) (hf : fitA g P j b) (x z : Nat) : hgt (setP P j b) x z 6 = cIf (cov b x z) (b 3 + b 6) (hgt P x z 6) := by
  rw [hgt_out' (setP_out G.1) (by omega : j + 1 ≤ 6), hgt, setP_s, hgt_ext (P := P) j (fun i hi => setP_n (by omega))]
  have e6 := hgt_out' (x := x) (z := z) G.1 (by omega : j ≤ 6)
  by_cases e : cov b x z
  · have := hf.2.1 x z e
    rw [cIf_t e, cIf_t ⟨hb, e⟩]
    omega
  · rw [cIf_f e, cIf_f (fun w => e w.2), e6]
