-- lk: 28 29 30 31 32 33
/-! ===== the reference's search is that search: what its numbers stand for ===== -/
def RMs (g : Nat → Nat → Nat) (M : Nat → Nat → Int32) : Prop := (M 21 0 = nI (g 8 0) ∧ M 21 1 = nI (g 8 1) ∧ M 21 2 = nI (g 8 2) ∧ M 21 3 = nI (g 7 0)) ∧ ∀ i, i < g 7 0 → (∀ k, k < 3 → M (22 + k) i = nI (g k i)) ∧ M 25 i = nI (g 3 i) ∧ M 26 i = nI (g 4 i) ∧ M 27 i = lmI (g 5 i) ∧ M 28 i = nI (g 6 i)
def mRow (M : Nat → Nat → Int32) (i : Nat) (b : Nat → Nat) : Prop := M 30 i = nI (b 2) ∧ M 31 i = nI (b 3) ∧ M 32 i = nI (b 4) ∧ M 33 i = nI (b 5) ∧ M 34 i = nI (b 6) ∧ M 35 i = nI (b 7) ∧ M 36 i = nI (b 1)
def RMp (x : Nat) (P : Nat → Nat → Nat) (M : Nat → Nat → Int32) : Prop := ∀ i, i < 6 → i ≠ x → M 29 i = nI (P i 0) ∧ (P i 0 = 1 → mRow M i (P i))
def pRow (g : Nat → Nat → Nat) (M : Nat → Nat → Int32) (i : Nat) (b : Nat → Nat) : Prop := M 38 i = nI (b 2) ∧ M 39 i = nI (b 3) ∧ M 40 i = nI (b 4) ∧ M 41 i = nI (b 5) ∧ M 42 i = nI (b 6) ∧ M 43 i = nI (b 7) ∧ M 44 i = nI (b 1) ∧ M 45 i = nI (g 3 i) ∧ M 46 i = nI (g 6 i)
/-- the best packing as the reference holds it -/
def RMk (g : Nat → Nat → Nat) (s : Nat × Nat × Nat × (Nat → Nat → Nat)) (M : Nat → Nat → Int32) (L : Nat → Int64) : Prop := M 21 34 = 1 ∧ M 21 32 = nI s.2.1 ∧ L 21 = lN s.2.2.1 ∧ ∀ i, i < 6 → M 37 i = nI (s.2.2.2 i 0) ∧ (s.2.2.2 i 0 = 1 → pRow g M i (s.2.2.2 i))
def RMb (g : Nat → Nat → Nat) (s : Nat × Nat × Nat × (Nat → Nat → Nat)) (M : Nat → Nat → Int32) (L : Nat → Int64) : Prop := M 21 34 = 0 ∧ s.2.1 = 0 ∧ s.2.2.1 = 0 ∧ (∀ i, s.2.2.2 i 0 = 0) ∨ RMk g s M L
theorem cmn_nI {a n b m : Nat} (h1 : a + n < 2 ^ 30) (h2 : b + m < 2 ^ 30) : cmn (nI a) (nI n) (nI b) (nI m) = nI (cmN a n b m) := by
  unfold cmn cmN
  rw [nI_add, nI_add]
  by_cases c1 : b + m ≤ a + n
  · rw [if_pos ((nI_leI (by omega) (by omega)).mpr c1), Nat.min_eq_right c1]
    by_cases c2 : a ≤ b
    · rw [if_pos ((nI_leI (by omega) (by omega)).mpr c2), Nat.max_eq_right c2]
      by_cases c3 : b + m ≤ b
      · rw [if_pos ((nI_leI (by omega) (by omega)).mpr c3), show b + m - b = 0 by omega]; rfl
      · rw [if_neg (fun q => c3 ((nI_leI (by omega) (by omega)).mp q)), pk_sub (by omega)]
    · rw [if_neg (fun q => c2 ((nI_leI (by omega) (by omega)).mp q)), Nat.max_eq_left (by omega)]
      by_cases c3 : b + m ≤ a
      · rw [if_pos ((nI_leI (by omega) (by omega)).mpr c3), show b + m - a = 0 by omega]; rfl
      · rw [if_neg (fun q => c3 ((nI_leI (by omega) (by omega)).mp q)), pk_sub (by omega)]
  · rw [if_neg (fun q => c1 ((nI_leI (by omega) (by omega)).mp q)), Nat.min_eq_left (by omega)]
    by_cases c2 : a ≤ b
    · rw [if_pos ((nI_leI (by omega) (by omega)).mpr c2), Nat.max_eq_right c2]
      by_cases c3 : a + n ≤ b
      · rw [if_pos ((nI_leI (by omega) (by omega)).mpr c3), show a + n - b = 0 by omega]; rfl
      · rw [if_neg (fun q => c3 ((nI_leI (by omega) (by omega)).mp q)), pk_sub (by omega)]
    · rw [if_neg (fun q => c2 ((nI_leI (by omega) (by omega)).mp q)), Nat.max_eq_left (by omega)]
      by_cases c3 : a + n ≤ a
      · rw [if_pos ((nI_leI (by omega) (by omega)).mpr c3), show a + n - a = 0 by omega]; rfl
      · rw [if_neg (fun q => c3 ((nI_leI (by omega) (by omega)).mp q)), pk_sub (by omega)]
theorem nle0 {v : Nat} (h : v < 2 ^ 31) : ¬ nI v ≤ 0 ↔ 0 < v := by
  constructor
  · intro q
    rcases Nat.eq_zero_or_pos v with w | w
    · subst w; exact absurd (by decide : nI 0 ≤ 0) q
    · exact w
  · intro q; exact nI_nle q h
theorem cmn_pos {a n b m : Nat} (h1 : a + n < 2 ^ 30) (h2 : b + m < 2 ^ 30) (hn : 0 < n) (hm : 0 < m) : ¬ cmn (nI a) (nI n) (nI b) (nI m) ≤ 0 ↔ a < b + m ∧ b < a + n := by
  rw [cmn_nI h1 h2, nle0 (by unfold cmN; omega)]
  unfold cmN
  omega
section MB
variable {M : Nat → Nat → Int32} {p q : Nat} {a b : Nat → Nat}
theorem cmX_ov (ha : mRow M p a) (hb : mRow M q b) (la : lb a) (l2 : lb b) (pa : psv a) (pb : psv b) : (¬ cmX M p q ≤ 0 ↔ ovx a b) ∧ (¬ cmY M p q ≤ 0 ↔ ovy a b) ∧ (¬ cmZ M p q ≤ 0 ↔ ovz a b) := by
  obtain ⟨a2, a3, a4, a5, a6, a7, _⟩ := ha
  obtain ⟨b2, b3, b4, b5, b6, b7, _⟩ := hb
  obtain ⟨l1, l3, l4⟩ := la
  obtain ⟨m1, m3, m4⟩ := l2
  obtain ⟨p1, p2, p3⟩ := pa
  obtain ⟨r1, r2, r3⟩ := pb
  unfold cmX cmY cmZ ovx ovy ovz
  rw [a2, a3, a4, a5, a6, a7, b2, b3, b4, b5, b6, b7]
  exact ⟨cmn_pos (by omega) (by omega) (by omega) (by omega), cmn_pos (by omega) (by omega) (by omega) (by omega), cmn_pos (by omega) (by omega) (by omega) (by omega)⟩
theorem mAb_iff (ha : mRow M p a) (hb : mRow M q b) (la : lb a) (l2 : lb b) (pa : psv a) (pb : psv b) : mAb M p q ↔ abv b a := by
  obtain ⟨e1, e2, e3⟩ := cmX_ov ha hb la l2 pa pb
  have e4 : mAb M p q ↔ ¬ cmX M p q ≤ 0 ∧ ¬ cmZ M p q ≤ 0 ∧ ¬ M 31 p < M 31 q + M 34 q := Iff.rfl
  have l3 := la.2.1
  have l4 := l2.2.1
  rw [e4, e1, e3, ha.2.1, hb.2.1, hb.2.2.2.2.1, nI_add, nlt_I (by omega) (by omega)]
  unfold abv ovx ovz
  omega
theorem mBf_iff (ha : mRow M p a) (hb : mRow M q b) (la : lb a) (l2 : lb b) (pa : psv a) (pb : psv b) : mBf M p q ↔ frt b a := by
  obtain ⟨e1, e2, e3⟩ := cmX_ov ha hb la l2 pa pb
  have e4 : mBf M p q ↔ ¬ cmX M p q ≤ 0 ∧ ¬ cmY M p q ≤ 0 ∧ ¬ M 32 p < M 32 q + M 35 q := Iff.rfl
  have l3 := la.2.2
  have l4 := l2.2.2
  rw [e4, e1, e2, ha.2.2.1, hb.2.2.1, hb.2.2.2.2.2.1, nI_add, nlt_I (by omega) (by omega)]
  unfold frt ovx ovy
  omega
end MB
theorem sub_le0 {a b : Nat} (ha : a < 2 ^ 30) (hb : b < 2 ^ 30) : (¬ nI a - nI b ≤ 0 ↔ b < a) ∧ (¬ 0 ≤ nI a - nI b ↔ a < b) := by
  have h := pk_sub_toInt ha hb
  rw [Int32.le_iff_toInt_le, Int32.le_iff_toInt_le, h, show (0 : Int32).toInt = 0 from rfl]
  omega
theorem in_m {P : Nat → Nat → Nat} {M : Nat → Nat → Int32} {i : Nat} (hb : P i 0 = 0 ∨ P i 0 = 1) (h : M 29 i = nI (P i 0)) : M 29 i = 0 ↔ ¬ P i 0 = 1 := by
  rw [h]
  rcases hb with e | e <;> rw [e] <;> simp [nI]
section FM
variable {g P : Nat → Nat → Nat} {M : Nat → Nat → Int32} {j : Nat} {b : Nat → Nat}
theorem unS_n (c : Cg g) (hb : Bn g P) (hP : RMp j P M) (hr : mRow M j b) (ho : outA g b) (hj : j < 6) : ∀ n, n ≤ j → unS M j n = nI (und P b n)
  | 0, _ => rfl
  | n + 1, hn => by
    obtain ⟨e1, e2⟩ := hP n (by omega) (by omega)
    have e3 := in_m (hb n).1 e1
    rw [unS, und, unS_n c hb hP hr ho hj n (by omega)]
    by_cases e : P n 0 = 1
    · have l := lb_of c ho
      have ln := hb.lb c e
      obtain ⟨q2, q3, q4, q5, q6, q7, _⟩ := e2 e
      rw [if_neg (fun w => e3.mp w e)]
      have e4 : M 31 n + M 34 n = M 31 j ↔ P n 3 + P n 6 = b 3 := by
        rw [q3, q6, hr.2.1, nI_add, nI_eq (by have := ln.2.1; omega) (by have := l.2.1; omega)]
      by_cases w : P n 3 + P n 6 = b 3
      · rw [if_pos (e4.mpr w), cIf_t ⟨e, w⟩]
        unfold cmX cmZ
        rw [q2, q4, q5, q7, hr.1, hr.2.2.1, hr.2.2.2.1, hr.2.2.2.2.2.1, cmn_nI (by have := l.1; omega) (by have := ln.1; omega), cmn_nI (by have := l.2.2; omega) (by have := ln.2.2; omega), pk_mul, nI_add]
      · rw [if_neg (fun q => w (e4.mp q)), cIf_f (fun q => w q.2), Int32.add_zero]; rfl
    · rw [if_pos (e3.mpr e), cIf_f (fun q => e q.1)]; rfl
theorem und_le (c : Cg g) (hb : Bn g P) (ho : outA g b) : ∀ n, und P b n ≤ n * 144
  | 0 => by simp [und]
  | n + 1 => by
    have := und_le c hb ho n
    rw [und, Nat.succ_mul]
    have l := lb_of c ho
    refine Nat.add_le_add this (cIf_ind (R := fun v => v ≤ 144) (fun _ => ?_) (fun _ => by omega))
    have h1 : cmN (b 2) (b 5) (P n 2) (P n 5) ≤ 12 := by have := l.1; unfold cmN; omega
    have h2 : cmN (b 4) (b 7) (P n 4) (P n 7) ≤ 12 := by have := l.2.2; unfold cmN; omega
    exact Nat.le_trans (Nat.mul_le_mul h1 h2) (by decide)
theorem bsS_n (c : Cg g) (hs : RMs g M) (hb : Bn g P) (hB : Bn g (setP P j b)) (hP : RMp j P M) (hr : mRow M j b) (hb0 : b 0 = 1) (hj : j < 6) {a : Nat} (ha : a < j + 1) (hi : setP P j b a 0 = 1) : ∀ n, n ≤ j + 1 → bsS M j a n = nI (wab g (setP P j b) (setP P j b a) n)
  | 0, _ => rfl
  | n + 1, hn => by
    rw [bsS, wab, bsS_n c hs hb hB hP hr hb0 hj ha hi n (by omega)]
    have hrow : ∀ i, i < j + 1 → setP P j b i 0 = 1 → mRow M i (setP P j b i) := by
      intro i hi hp
      by_cases e : i = j
      · subst e; rw [setP_s]; exact hr
      · rw [setP_n e] at hp ⊢; exact (hP i (by omega) e).2 hp
    have hin : ∀ i, i < j + 1 → ((nI i = nI j ∨ ¬ M 29 i = 0) ↔ setP P j b i 0 = 1) := by
      intro i hi
      by_cases e : i = j
      · subst e; rw [setP_s]; exact ⟨fun _ => hb0, fun _ => Or.inl rfl⟩
      · rw [setP_n e]
        have e3 := in_m (hb i).1 (hP i (by omega) e).1
        constructor
        · rintro (w | w)
          · exact absurd ((nI_eq (by omega) (by omega)).mp w) e
          · apply Classical.byContradiction
            intro q; exact w (e3.mpr q)
        · intro w; exact Or.inr (fun q => e3.mp q w)
    have hcn : cnB M j a n ↔ (setP P j b n 0 = 1 ∧ abv (setP P j b a) (setP P j b n)) := by
      unfold cnB
      rw [hin a ha, hin n (by omega)]
      constructor
      · rintro ⟨_, _, h3, h4⟩
        exact ⟨h3, (mAb_iff (hrow n (by omega) h3) (hrow a ha hi) (hB.lb c h3) (hB.lb c hi) ((hB n).2 h3).2.2.1 ((hB a).2 hi).2.2.1).mp h4⟩
      · rintro ⟨h3, h4⟩
        refine ⟨?_, hi, h3, (mAb_iff (hrow n (by omega) h3) (hrow a ha hi) (hB.lb c h3) (hB.lb c hi) ((hB n).2 h3).2.2.1 ((hB a).2 hi).2.2.1).mpr h4⟩
        intro w
        obtain rfl := (nI_eq (by omega) (by omega)).mp w
        exact no_self ((hB a).2 hi).2.2.1 h4
    by_cases w : cnB M j a n
    · rw [cIf_t w, cIf_t (hcn.mp w), (hs.2 n ((hB n).2 (hcn.mp w).1).1).2.1, nI_add]
    · rw [cIf_f w, cIf_f (fun q => w (hcn.mpr q)), Int32.add_zero]; rfl
theorem bsS_0 (hb : Bn g P) (hP : RMp j P M) (hj : j < 6) {a : Nat} (ha : a < j + 1) (hi : ¬ setP P j b a 0 = 1) (hb0 : b 0 = 1) : ∀ n, bsS M j a n = 0
  | 0 => rfl
  | n + 1 => by
    rw [bsS, bsS_0 hb hP hj ha hi hb0 n, cIf_f ?_]
    · rfl
    · rintro ⟨_, h2, _⟩
      by_cases e : a = j
      · subst e; rw [setP_s] at hi; exact hi hb0
      · rw [setP_n e] at hi
        have e3 := in_m (hb a).1 (hP a (by omega) e).1
        rcases h2 with w | w
        · exact e ((nI_eq (by omega) (by omega)).mp w)
        · exact w (e3.mpr hi)
theorem lm_1 {v : Nat} (h : v ≤ 6001) : lmI v = -1 ↔ v = 0 := by
  unfold lmI
  by_cases z : v = 0
  · rw [z]; simp [nI]
  · rw [nI_m1' (by omega)]
    constructor
    · intro q
      have hp := nI_pos (n := v - 1) (by omega)
      rw [q] at hp
      exact absurd (by decide) hp
    · intro q; exact absurd q z
theorem fit_m (c : Cg g) (hs : RMs g M) (hb : Bn g P) (hP : RMp j P M) (hj : j < g 7 0) (hr : mRow M j b) (hb0 : b 0 = 1) (hp : psv b) (ht : b 1 < 6) (hlb : b 2 + b 5 ≤ 24 ∧ b 3 + b 6 ≤ 24 ∧ b 4 + b 7 ≤ 24) : ftM M j ↔ fitB g P j b := by
  have hn6 := c.1
  have hj6 : j < 6 := by omega
  obtain ⟨⟨s0, s1, s2, s3⟩, ss⟩ := hs
  have hs : RMs g M := ⟨⟨s0, s1, s2, s3⟩, ss⟩
  have c0 := c.2.1 0 (by omega)
  have c1 := c.2.1 1 (by omega)
  have c2 := c.2.1 2 (by omega)
  have ho : outM M j ↔ outA g b := by
    obtain ⟨r2, r3, r4, r5, r6, r7, _⟩ := hr
    unfold outM outA
    rw [s0, s1, s2, r2, r3, r4, r5, r6, r7, nI_add, nI_add, nI_add, nlt_I (by omega) (by omega), nlt_I (by omega) (by omega), nI_leI (by omega) (by omega)]
  unfold ftM fitB
  rw [ho]
  refine and_congr_right (fun ho => ?_)
  have l := lb_of c ho
  have hB := Bn_set hb hj hb0 hp ht ho
  refine and_congr ?_ (and_congr ?_ ?_)
  · refine forall_congr' (fun q => forall_congr' (fun hq => ?_))
    obtain ⟨e1, e2⟩ := hP q (by omega) (by omega)
    have e3 := in_m (hb q).1 e1
    unfold okQ
    by_cases e : P q 0 = 1
    · have lq := hb.lb c e
      have pq := ((hb q).2 e).2.2.1
      have iq := ((hb q).2 e).1
      obtain ⟨x1, x2, x3⟩ := cmX_ov hr (e2 e) l lq hp pq
      have h1 : colM M j q ↔ ovx b (P q) ∧ ovy b (P q) ∧ ovz b (P q) := by
        unfold colM
        rw [x1, x2, x3]
        constructor
        · rintro ⟨y1, y2, y3⟩; exact ⟨y1, y3, y2⟩
        · rintro ⟨y1, y2, y3⟩; exact ⟨y1, y3, y2⟩
      have h2 : ordM M j q ↔ ordA g P j b q := by
        unfold ordM ordA
        have sj := (c.2.2.2 j hj).2.2.2.2
        have sq := (c.2.2.2 q iq).2.2.2.2
        rw [(ss j hj).2.2.2.2, (ss q iq).2.2.2.2, (sub_le0 (by omega) (by omega)).1, (sub_le0 (by omega) (by omega)).2, mBf_iff hr (e2 e) l lq hp pq, mBf_iff (e2 e) hr lq l pq hp]
      rw [h1, h2]
      constructor
      · rintro (w | w) _
        · exact absurd e (e3.mp w)
        · exact w
      · intro w; exact Or.inr (w e)
    · constructor
      · intro _ w; exact absurd w e
      · intro _; exact Or.inl (e3.mpr e)
  · rw [unS_n c hb hP hr ho hj6 j (Nat.le_refl _), hr.2.1, hr.2.2.2.1, hr.2.2.2.2.2.1, pk_mul]
    have u := und_le c hb ho j
    have m1 : b 5 * b 7 ≤ 12 * 12 := Nat.mul_le_mul (by have := l.1; omega) (by have := l.2.2; omega)
    rw [nI_eq (by omega) (by omega), show (nI (b 3) = 0 ↔ b 3 = 0) from nI_eq (a := b 3) (b := 0) (by have := l.2.1; omega) (by omega)]
  · unfold brn
    refine forall_congr' (fun a => forall_congr' (fun ha => ?_))
    unfold brA
    have ga := ss a (by omega)
    have ca := c.2.2.2 a (by omega)
    rw [ga.2.2.2.1, lm_1 (by omega)]
    by_cases e : setP P j b a 0 = 1
    · rw [bsS_n c hs hb hB hP hr hb0 hj6 ha e (j + 1) (Nat.le_refl _)]
      have w6 := wab_le c hB (setP P j b a) (j + 1)
      have w7 : (j + 1) * 1000 ≤ 6 * 1000 := Nat.mul_le_mul (by omega) (by omega)
      constructor
      · rintro (w | w) _
        · exact Or.inl w
        · by_cases z : g 5 a = 0
          · exact Or.inl z
          · unfold lmI at w
            rw [nI_m1' (by omega), nlt_I (by omega) (by omega)] at w
            exact Or.inr (by omega)
      · intro w
        by_cases z : g 5 a = 0
        · exact Or.inl z
        · rcases w e with w | w
          · exact Or.inl w
          · right
            unfold lmI
            rw [nI_m1' (by omega), nlt_I (by omega) (by omega)]
            omega
    · rw [bsS_0 hb hP hj6 ha e hb0]
      constructor
      · intro _ w; exact absurd w e
      · intro _
        by_cases z : g 5 a = 0
        · exact Or.inl z
        · right
          unfold lmI
          rw [nI_m1' (by omega)]
          exact nI_pos (by omega)
end FM
