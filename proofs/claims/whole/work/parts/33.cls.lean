-- lk: 31 32
/-! ===== the class's search is that search: what its numbers stand for ===== -/
def lmI (v : Nat) : Int32 := nI v - 1
def bRow (r : Nat → Int32) (b : Nat → Nat) : Prop := r 4 = nI (b 1) ∧ r 5 = nI (b 5) ∧ r 6 = nI (b 6) ∧ r 7 = nI (b 7) ∧ r 8 = nI (b 2) ∧ r 9 = nI (b 3) ∧ r 10 = nI (b 4)
def tRow (g : Nat → Nat → Nat) (i : Nat) (r : Nat → Int32) : Prop := r 1 = nI (g 3 i) ∧ r 2 = lmI (g 5 i) ∧ r 3 = nI (g 6 i)
def lb (b : Nat → Nat) : Prop := b 2 + b 5 ≤ 12 ∧ b 3 + b 6 ≤ 12 ∧ b 4 + b 7 ≤ 12
theorem lb_of {g : Nat → Nat → Nat} {b : Nat → Nat} (c : Cg g) (h : outA g b) : lb b := by
  obtain ⟨h1, h2, h3⟩ := h
  have := c.2.1 0 (by omega)
  have := c.2.1 1 (by omega)
  have := c.2.1 2 (by omega)
  exact ⟨by omega, by omega, by omega⟩
theorem Bn.lb {g P : Nat → Nat → Nat} (h : Bn g P) (c : Cg g) {i : Nat} (hi : P i 0 = 1) : lb (P i) := lb_of c ((h i).2 hi).2.2.2
def RC (g P : Nat → Nat → Nat) (s : Nat × Nat × Nat × (Nat → Nat → Nat)) (M : Nat → Nat → Int32) : Prop :=
  (∀ x z, x < 12 → z < 12 → M 20 (z * 12 + x) = nI (hgt P x z 6)) ∧
  (∀ i, i < 6 → M (14 + i) 0 = nI (P i 0) ∧ (P i 0 = 1 → bRow (M (14 + i)) (P i))) ∧
  (∀ i, i < g 7 0 → tRow g i (M (14 + i))) ∧
  (M 11 7 = nI (g 9 0) ∧ M 11 8 = nI s.1 ∧ M 11 5 = nI s.2.1 ∧ M 11 6 = nI s.2.2.1) ∧
  (∀ i, i < 6 → M (5 + i) 0 = nI (s.2.2.2 i 0) ∧ (s.2.2.2 i 0 = 1 → bRow (M (5 + i)) (s.2.2.2 i) ∧ tRow g i (M (5 + i)))) ∧
  (∀ i, i < g 7 0 → (∀ k, k < 3 → M (57 + i) k = nI (g k i)) ∧ ∀ t, t < 6 → (cHt (M (57 + i) 7) (nI t) ↔ t ∈ Tl g i))
theorem nI_m1' {n : Nat} (h : 0 < n) : nI n - 1 = nI (n - 1) := by
  obtain ⟨k, rfl⟩ : ∃ k, n = k + 1 := ⟨n - 1, by omega⟩
  exact nI_pred k
theorem nle_I {a b : Nat} (ha : a < 2 ^ 31) (hb : b < 2 ^ 31) : ¬ nI a ≤ nI b ↔ b < a := by rw [nI_leI ha hb]; omega
theorem nlt_I {a b : Nat} (ha : a < 2 ^ 31) (hb : b < 2 ^ 31) : ¬ nI a < nI b ↔ b ≤ a := by rw [nI_ltI ha hb]; omega
theorem cAb_iff {f h : Nat → Int32} {a b : Nat → Nat} (hf : bRow f a) (hh : bRow h b) (la : lb a) (l2 : lb b) : cAb f h ↔ abv a b := by
  obtain ⟨_, f5, f6, f7, f8, f9, f10⟩ := hf
  obtain ⟨_, h5, h6, h7, h8, h9, h10⟩ := hh
  obtain ⟨a1, a2, a3⟩ := la
  obtain ⟨b1, b2, b3⟩ := l2
  unfold cAb abv ovx ovz
  rw [f5, f6, f7, f8, f9, f10, h5, h7, h8, h9, h10, nI_add, nI_add, nI_add, nI_add, nI_add, nlt_I (by omega) (by omega), nle_I (by omega) (by omega), nle_I (by omega) (by omega), nle_I (by omega) (by omega), nle_I (by omega) (by omega)]
  omega
theorem cFr_iff {f h : Nat → Int32} {a b : Nat → Nat} (hf : bRow f a) (hh : bRow h b) (la : lb a) (l2 : lb b) : cFr f h ↔ frt a b := by
  obtain ⟨_, f5, f6, f7, f8, f9, f10⟩ := hf
  obtain ⟨_, h5, h6, h7, h8, h9, h10⟩ := hh
  obtain ⟨a1, a2, a3⟩ := la
  obtain ⟨b1, b2, b3⟩ := l2
  unfold cFr frt ovx ovy
  rw [f5, f6, f7, f8, f9, f10, h5, h6, h8, h9, h10, nI_add, nI_add, nI_add, nI_add, nI_add, nlt_I (by omega) (by omega), nle_I (by omega) (by omega), nle_I (by omega) (by omega), nle_I (by omega) (by omega), nle_I (by omega) (by omega)]
  omega
section RCs
variable {g P : Nat → Nat → Nat} {s : Nat × Nat × Nat × (Nat → Nat → Nat)} {M : Nat → Nat → Int32}
theorem in_ne {i : Nat} (hb : P i 0 = 0 ∨ P i 0 = 1) (h : M (14 + i) 0 = nI (P i 0)) : M (14 + i) 0 = 0 ↔ ¬ P i 0 = 1 := by
  rw [h]
  rcases hb with e | e <;> rw [e] <;> simp [nI]
theorem endd_iff (c : Cg g) (hs : Sn g s) (h : RC g P s M) : endd M ↔ enA g s := by
  obtain ⟨_, _, _, ⟨h1, h2, _⟩, _⟩ := h
  unfold endd enA
  have := c.2.2.1
  have := hs.1
  rw [h1, h2, nlt_I (by omega) (by omega)]
theorem csum_cl (hb : Bn g P) (h : RC g P s M) : ∀ n, n ≤ 6 → csum (gCell M 14) n = nI (clS P n)
  | 0, _ => rfl
  | n + 1, hn => by
    obtain ⟨e1, e2⟩ := h.2.1 n (by omega)
    rw [csum, clS, csum_cl hb h n (by omega)]
    unfold gCell
    have e3 := in_ne (hb n).1 e1
    by_cases e : P n 0 = 1
    · rw [if_neg (fun w => e3.mp w e), if_pos e]
      obtain ⟨_, f5, f6, f7, _⟩ := e2 e
      rw [f5, f6, f7, pk_mul, pk_mul, nI_add]
    · rw [if_pos (e3.mpr e), if_neg e, Int32.add_zero]
      rfl
theorem csum_wy (hb : Bn g P) (h : RC g P s M) : ∀ n, n ≤ 6 → csum (gWY M 14) n = nI (wyS g P n)
  | 0, _ => rfl
  | n + 1, hn => by
    obtain ⟨e1, e2⟩ := h.2.1 n (by omega)
    rw [csum, wyS, csum_wy hb h n (by omega)]
    unfold gWY
    have e3 := in_ne (hb n).1 e1
    by_cases e : P n 0 = 1
    · rw [if_neg (fun w => e3.mp w e), if_pos e]
      obtain ⟨_, _, _, _, _, f9, _⟩ := e2 e
      have t1 := (h.2.2.1 n ((hb n).2 e).1).1
      rw [f9, t1, pk_mul, nI_add]
    · rw [if_pos (e3.mpr e), if_neg e, Int32.add_zero]
      rfl
theorem wAb_n (c : Cg g) (hb : Bn g P) (h : RC g P s M) {i : Nat} (hi : i < 6) (hi1 : P i 0 = 1) : ∀ n, n ≤ 6 → csum (gAb M 14 i) n = nI (wab g P (P i) n)
  | 0, _ => rfl
  | n + 1, hn => by
    obtain ⟨e1, e2⟩ := h.2.1 n (by omega)
    rw [csum, wab, wAb_n c hb h hi hi1 n (by omega)]
    unfold gAb
    have e3 := in_ne (hb n).1 e1
    by_cases e : P n 0 = 1
    · rw [if_neg (fun w => e3.mp w e)]
      have e4 := cAb_iff ((h.2.1 i hi).2 hi1) (e2 e) (hb.lb c hi1) (hb.lb c e)
      have t1 := (h.2.2.1 n ((hb n).2 e).1).1
      by_cases w : abv (P i) (P n)
      · rw [if_pos (e4.mpr w), cIf_t ⟨e, w⟩, t1, nI_add]
      · rw [if_neg (fun q => w (e4.mp q)), cIf_f (fun q => w q.2), Int32.add_zero]
        rfl
    · rw [if_pos (e3.mpr e), cIf_f (fun q => e q.1), Int32.add_zero]
      rfl
theorem wab_le (c : Cg g) (hb : Bn g P) (a : Nat → Nat) : ∀ n, wab g P a n ≤ n * 1000
  | 0 => by simp [wab]
  | n + 1 => by
    have := wab_le c hb a n
    rw [wab, Nat.succ_mul]
    refine Nat.add_le_add this (cIf_ind (R := fun v => v ≤ 1000) (fun q => ?_) (fun _ => Nat.zero_le _))
    exact (c.2.2.2 n ((hb n).2 q.1).1).2.1.2
/-- what the class looks at before a step, where the box is in the space -/
theorem fit_c (c : Cg g) (hb : Bn g P) (h : RC g P s M) {j : Nat} {b : Nat → Nat} (hj : j < g 7 0) (hr : bRow (M (14 + j)) b) (ho : outA g b) : fitC M j ↔ fitA g P j b := by
  have hn6 := c.1
  have l := lb_of c ho
  obtain ⟨t1, t2, t3⟩ := h.2.2.1 j hj
  have hlim : ∀ i, i < 6 → (¬ badL M 14 j i ↔ (P i 0 = 1 → limA g P j b i)) := by
    intro i hi
    obtain ⟨e1, e2⟩ := h.2.1 i hi
    have e3 := in_ne (hb i).1 e1
    unfold badL limA
    by_cases e : P i 0 = 1
    · obtain ⟨u1, u2, u3⟩ := h.2.2.1 i ((hb i).2 e).1
      have e4 := cAb_iff (e2 e) hr (hb.lb c e) l
      have cw := c.2.2.2 i ((hb i).2 e).1
      have cj := c.2.2.2 j hj
      have e5 : wAb M 14 i = nI (wab g P (P i) 6) := wAb_n c hb h hi e 6 (by omega)
      have w6 := wab_le c hb (P i) 6
      have e6 : M (14 + i) 2 = -1 ↔ g 5 i = 0 := by
        rw [u2]
        unfold lmI
        by_cases z : g 5 i = 0
        · rw [z]; simp [nI]
        · rw [nI_m1' (by omega)]
          constructor
          · intro q
            exact absurd q (by
              have hp := nI_pos (n := g 5 i - 1) (by omega)
              intro q
              rw [q] at hp
              exact hp (by decide))
          · intro q; exact absurd q z
      have e7 : ¬ g 5 i = 0 → (¬ wAb M 14 i + M (14 + j) 1 ≤ M (14 + i) 2 ↔ ¬ wab g P (P i) 6 + g 3 j < g 5 i) := by
        intro z
        rw [e5, t1, u2, nI_add]
        unfold lmI
        rw [nI_m1' (by omega), nle_I (by omega) (by omega)]
        omega
      rw [e6, e4]
      constructor
      · intro q _
        by_cases z : g 5 i = 0
        · exact Or.inl z
        · right
          by_cases y : abv (P i) b
          · right
            apply Classical.byContradiction
            intro w
            exact q ⟨fun w => e3.mp w e, z, y, (e7 z).mpr w⟩
          · exact Or.inl y
      · intro q w
        rcases q e with z | z | z
        · exact w.2.1 z
        · exact z w.2.2.1
        · exact (e7 w.2.1).mp w.2.2.2 z
    · constructor
      · intro _ w; exact absurd w e
      · intro _ w; exact w.1 (e3.mpr e)
  have hord : ∀ i, i < 6 → (¬ badO M 14 j i ↔ (P i 0 = 1 → ¬ ordA g P j b i)) := by
    intro i hi
    obtain ⟨e1, e2⟩ := h.2.1 i hi
    have e3 := in_ne (hb i).1 e1
    unfold badO ordA
    by_cases e : P i 0 = 1
    · obtain ⟨u1, u2, u3⟩ := h.2.2.1 i ((hb i).2 e).1
      have cw := c.2.2.2 i ((hb i).2 e).1
      have cj := c.2.2.2 j hj
      rw [cFr_iff (e2 e) hr (hb.lb c e) l, cFr_iff hr (e2 e) l (hb.lb c e), t3, u3, nle_I (by omega) (by omega), nle_I (by omega) (by omega)]
      constructor
      · intro q _ w; exact q ⟨fun w => e3.mp w e, w⟩
      · intro q w; exact q e w.2
    · constructor
      · intro _ w; exact absurd w e
      · intro _ w; exact w.1 (e3.mpr e)
  have hfr : frb M j (nF M j 8) (nF M j 10) (nF M j 5) (nF M j 7) ↔ ∀ x z, cov b x z → hgt P x z 6 = b 3 := by
    obtain ⟨_, r5, r6, r7, r8, r9, r10⟩ := hr
    obtain ⟨l1, l2, l3⟩ := l
    rw [nF_of r8 (by omega), nF_of r10 (by omega), nF_of r5 (by omega), nF_of r7 (by omega)]
    unfold frb okc
    have hgl : ∀ x z, hgt P x z 6 ≤ 12 := by
      intro x z
      rcases hgt_at (P := P) (x := x) (z := z) 6 with w | ⟨i, _, i2, i3, i4⟩
      · omega
      · have := (hb.lb c i2).2.1; omega
    constructor
    · intro q x z ⟨k1, k2, k3, k4⟩
      have := q z k3 k4 x k1 k2
      rw [h.1 x z (by omega) (by omega), r9] at this
      exact (nI_eq (by have := hgl x z; omega) (by omega)).mp this
    · intro q z k3 k4 x k1 k2
      rw [h.1 x z (by omega) (by omega), r9, q x z ⟨k1, k2, k3, k4⟩]
  unfold fitC fitA
  rw [hfr]
  constructor
  · rintro ⟨q1, q2, q3⟩
    exact ⟨ho, q1, fun i hi hp => ⟨(hlim i hi).mp (q2 i hi) hp, (hord i hi).mp (q3 i hi) hp⟩⟩
  · rintro ⟨_, q1, q2⟩
    exact ⟨q1, fun i hi => (hlim i hi).mpr (fun hp => (q2 i hi hp).1), fun i hi => (hord i hi).mpr (fun hp => (q2 i hi hp).2)⟩
end RCs
