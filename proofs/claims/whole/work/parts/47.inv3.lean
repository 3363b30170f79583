-- lk: 46
/-! ===== overlap, above, free, bound ===== -/
section INV
variable {np : Nat} {g B : Nat → Nat → Nat} {wq sq : Nat → Nat} {mt : Nat} {M : Nat → Nat → Int32} {L : Nat → Int64}
theorem IV.lb (h : IV np g B wq sq mt M) {i : Nat} (hi : B i 0 = 1) : lb (B i) ∧ psv (B i) ∧ i < np := by
  obtain ⟨hD, _, _, _, _, hB, _⟩ := h
  obtain ⟨a, b, c, ⟨d1, d2, d3⟩, e⟩ := (hB.1 i).2 hi
  have h0 := hD.2.2.1 0 (by omega)
  have h1 := hD.2.2.1 1 (by omega)
  have h2 := hD.2.2.1 2 (by omega)
  exact ⟨⟨by omega, by omega, by omega⟩, c, a⟩
theorem pl_null {n : Int32} (h : ∀ i, i < 6 → n = nI (i + 1) → M (5 + i) 0 = 0) (d : Nat) : Rn d mX0_placeOf [.ref 3, .int n] (mk np M L) (some .null) (mk np M L) := by
  by_cases hw : mW n 1 (nI 6)
  · obtain ⟨k, hk, rfl, -⟩ := mW_of (Nat.le_refl 6) hw
    exact rn_placeOf_out hk (h k hk rfl) d
  · have r := rn_placeOf (np := np) (M := M) (L := L) (n := n) d
    have e : plO M n = .null := by
      unfold plO
      by_cases h1 : n < 1
      · exact if_pos h1
      · rw [if_neg h1]
        by_cases h2 : 6 < n
        · exact if_pos h2
        · exact absurd ⟨h1, h2⟩ hw
    rwa [e] at r
theorem sm_overlap (h : IV np g B wq sq mt M) (a b : Int32) : SM mX5_overlap mX6_overlap [.int a, .int b] np M L := by
  have hP := h.2.2.2.2.2.2
  have hB := h.2.2.2.2.2.1
  have n6 := h.n6
  -- in the packing, or not
  have sp : ∀ v : Int32, (∃ i, i < np ∧ v = nI (i + 1) ∧ B i 0 = 1) ∨ (∀ i, i < 6 → v = nI (i + 1) → M (5 + i) 0 = 0) := by
    intro v
    by_cases q : ∃ i, i < np ∧ v = nI (i + 1) ∧ B i 0 = 1
    · exact Or.inl q
    · refine Or.inr (fun i hi hv => (in_b (hB.1 i).1 (hP i hi).1).mpr (fun e => q ⟨i, ((hB.1 i).2 e).1, hv, e⟩))
  -- the reference says no where one isn't in the packing
  have no : (∀ i, i < 6 → a = nI (i + 1) → M (5 + i) 0 = 0) ∨ (∀ i, i < 6 → b = nI (i + 1) → M (5 + i) 0 = 0) → Rn 2 mX6_overlap [.ref 21, .int a, .int b] (mk np M L) (some (.int 0)) (mk np M L) := by
    intro q
    by_cases ha : mW a 1 (nI np)
    · obtain ⟨i, hi, rfl, -⟩ := mW_of n6 ha
      by_cases hb : mW b 1 (nI np)
      · obtain ⟨k, hk, rfl, -⟩ := mW_of n6 hb
        have r := rn_mov_kk (L := L) (M := M) n6 hi hk h.m3 0
        rwa [zi_f (fun w => by
          rcases q with q | q
          · exact w.1 ((in_b (hB.1 i).1 (hP i (by omega)).2.1).mpr ((in_b (hB.1 i).1 (hP i (by omega)).1).mp (q i (by omega) rfl)))
          · exact w.2.1 ((in_b (hB.1 k).1 (hP k (by omega)).2.1).mpr ((in_b (hB.1 k).1 (hP k (by omega)).1).mp (q k (by omega) rfl))))] at r
      · exact rn_mov_ku n6 hi h.m3 (h.nu hb) 0
    · exact rn_mov_u (h.nu ha) 0
  rcases sp a with ⟨i, hi, rfl, ei⟩ | ha
  · have pa : ∀ d, Rn d mX0_placeOf [.ref 3, .int (nI (i + 1))] (mk np M L) (some (.ref (5 + i))) (mk np M L) := fun d => rn_placeOf_in (by omega) (fun q => (in_b (hB.1 i).1 (hP i (by omega)).1).mp q ei) d
    rcases sp b with ⟨k, hk, rfl, ek⟩ | hb
    · have pb : ∀ d, Rn d mX0_placeOf [.ref 3, .int (nI (k + 1))] (mk np M L) (some (.ref (5 + k))) (mk np M L) := fun d => rn_placeOf_in (by omega) (fun q => (in_b (hB.1 k).1 (hP k (by omega)).1).mp q ek) d
      have r1 := rn_ov_rr (i := i) (k := k) (by omega) (by omega) pa pb 0
      have r2 := rn_mov_kk (L := L) (M := M) n6 hi hk h.m3 0
      have eq : (¬ M 37 i = 0 ∧ ¬ M 37 k = 0 ∧ mOv M i k) ↔ cOv (M (5 + i)) (M (5 + k)) := by
        obtain ⟨⟨⟨_, f5, f6, f7, f8, f9, f10⟩, _⟩, ⟨q2, q3, q4, q5, q6, q7, _⟩⟩ := (hP i (by omega)).2.2 ei
        obtain ⟨⟨⟨_, k5, k6, k7, k8, k9, k10⟩, _⟩, ⟨u2, u3, u4, u5, u6, u7, _⟩⟩ := (hP k (by omega)).2.2 ek
        obtain ⟨⟨l1, l2, l3⟩, ⟨p1, p2, p3⟩, _⟩ := h.lb ei
        obtain ⟨⟨l4, l5, l6⟩, ⟨p4, p5, p6⟩, _⟩ := h.lb ek
        have z1 : ¬ M 37 i = 0 := fun q => (in_b (hB.1 i).1 (hP i (by omega)).2.1).mp q ei
        have z2 : ¬ M 37 k = 0 := fun q => (in_b (hB.1 k).1 (hP k (by omega)).2.1).mp q ek
        unfold mOv cOv
        rw [q2, q3, q4, q5, q6, q7, u2, u3, u4, u5, u6, u7, cmn_pos (by omega) (by omega) (by omega) (by omega), cmn_pos (by omega) (by omega) (by omega) (by omega), cmn_pos (by omega) (by omega) (by omega) (by omega)]
        rw [f5, f6, f7, f8, f9, f10, k5, k6, k7, k8, k9, k10, nI_add, nI_add, nI_add, nI_add, nI_add, nI_add, nle_I (by omega) (by omega), nle_I (by omega) (by omega), nle_I (by omega) (by omega), nle_I (by omega) (by omega), nle_I (by omega) (by omega), nle_I (by omega) (by omega)]
        constructor
        · rintro ⟨_, _, a, b, c⟩; omega
        · intro w; exact ⟨z1, z2, by omega, by omega, by omega⟩
      rw [show zi (¬ M 37 i = 0 ∧ ¬ M 37 k = 0 ∧ mOv M i k) = zi (cOv (M (5 + i)) (M (5 + k))) from congrArg zi (propext eq)] at r2
      exact SM_0 r1 r2 (by omega) (by omega) h.x
    · exact SM_0 (rn_ov_rn (i := i) (k := 0) (by omega) (by omega) pa (pl_null hb) 0) (no (Or.inr hb)) (by omega) (by omega) h.x
  · rcases sp b with ⟨k, hk, rfl, ek⟩ | hb
    · have pb : ∀ d, Rn d mX0_placeOf [.ref 3, .int (nI (k + 1))] (mk np M L) (some (.ref (5 + k))) (mk np M L) := fun d => rn_placeOf_in (by omega) (fun q => (in_b (hB.1 k).1 (hP k (by omega)).1).mp q ek) d
      exact SM_0 (rn_ov_nr (i := 0) (k := k) (by omega) (by omega) (pl_null ha) pb 0) (no (Or.inl ha)) (by omega) (by omega) h.x
    · exact SM_0 (rn_ov_nn (i := 0) (k := 0) (by omega) (by omega) (pl_null ha) (pl_null hb) 0) (no (Or.inl ha)) (by omega) (by omega) h.x
/-- above -/
theorem nI_nm1 {v : Nat} (h : v < 2 ^ 31) : ¬ nI v ≤ (-1 : Int32) := by
  intro q
  have hp := nI_pos (n := v) h
  rw [Int32.le_iff_toInt_le] at q
  rw [Int32.lt_iff_toInt_lt] at hp
  have e1 : (-1 : Int32).toInt = -1 := by decide
  have e0 : (0 : Int32).toInt = 0 := by decide
  omega
theorem up_mu (h : IV np g B wq sq mt M) {X Z : Nat} (hX : X < 12) (hZ : Z < 12) : ∀ n, n ≤ 6 → (upS M (nI X) (nI Z) n = (0, -1) ∧ muS M (nI X) (nI Z) n = (0, 0)) ∨ ∃ j, j < n ∧ B j 0 = 1 ∧ cov (B j) X Z ∧ upS M (nI X) (nI Z) n = (nI j + 1, nI (B j 3)) ∧ muS M (nI X) (nI Z) n = (nI j + 1, nI (B j 3 + B j 6))
  | 0, _ => Or.inl ⟨rfl, rfl⟩
  | n + 1, hn => by
    have ih := up_mu h hX hZ n (by omega)
    obtain ⟨p1, p2, p3⟩ := h.2.2.2.2.2.2 n (by omega)
    have b1 := (h.2.2.2.2.2.1.1 n).1
    have no := h.2.2.2.2.2.1.2
    by_cases e : B n 0 = 1
    · obtain ⟨⟨⟨_, f5, f6, f7, f8, f9, f10⟩, _⟩, ⟨q2, q3, q4, q5, q6, q7, _⟩⟩ := p3 e
      obtain ⟨⟨l1, l2, l3⟩, ⟨s1, s2, s3⟩, _⟩ := h.lb e
      have z1 : ¬ M (5 + n) 0 = 0 := fun q => (in_b b1 p1).mp q e
      have z2 : ¬ M 37 n = 0 := fun q => (in_b b1 p2).mp q e
      have c1 : cOver (M (5 + n)) (nI X) (nI Z) ↔ cov (B n) X Z := by
        unfold cOver cov
        rw [f5, f7, f8, f10, nI_add, nI_add, nlt_I (by omega) (by omega), nle_I (by omega) (by omega), nlt_I (by omega) (by omega), nle_I (by omega) (by omega)]
      have c2 : ¬ cmn (nI X) 1 (M 38 n) (M 41 n) ≤ 0 ↔ B n 2 ≤ X ∧ X < B n 2 + B n 5 := by
        rw [q2, q5, show (1 : Int32) = nI 1 from rfl, cmn_pos (by omega) (by omega) (by omega) (by omega)]
        omega
      have c3 : ¬ cmn (nI Z) 1 (M 40 n) (M 43 n) ≤ 0 ↔ B n 4 ≤ Z ∧ Z < B n 4 + B n 7 := by
        rw [q4, q7, show (1 : Int32) = nI 1 from rfl, cmn_pos (by omega) (by omega) (by omega) (by omega)]
        omega
      by_cases cv : cov (B n) X Z
      · have d2 := c2.mpr ⟨cv.1, cv.2.1⟩
        have d3 := c3.mpr cv.2.2
        rcases ih with ⟨u, m⟩ | ⟨j, hj, ej, cj, u, m⟩
        · refine Or.inr ⟨n, by omega, e, cv, ?_, ?_⟩
          · rw [upS]
            exact (if_pos ⟨z1, c1.mpr cv, by rw [u, f9]; exact nI_nm1 (by omega)⟩).trans (by rw [f9])
          · rw [muS, cIf_t ⟨z2, d2, d3, by rw [m, q3, q6, nI_add]; exact nI_nle (by omega) (by omega)⟩, q3, q6, nI_add]
        · have nov := no n j (by omega) e ej
          obtain ⟨⟨t1, t2, t3⟩, ⟨v1, v2, v3⟩, _⟩ := h.lb ej
          have hxz : ovx (B n) (B j) ∧ ovz (B n) (B j) := by
            obtain ⟨a1, a2, a3, a4⟩ := cv
            obtain ⟨b1, b2, b3, b4⟩ := cj
            exact ⟨⟨by omega, by omega⟩, ⟨by omega, by omega⟩⟩
          have ny : ¬ ovy (B n) (B j) := fun q => nov ⟨hxz.1, q, hxz.2⟩
          unfold ovy at ny
          by_cases gt : B j 3 < B n 3
          · refine Or.inr ⟨n, by omega, e, cv, ?_, ?_⟩
            · rw [upS]
              exact (if_pos ⟨z1, c1.mpr cv, by rw [u, f9]; exact (nle_I (by omega) (by omega)).mpr gt⟩).trans (by rw [f9])
            · rw [muS, cIf_t ⟨z2, d2, d3, by rw [m, q3, q6, nI_add]; exact (nle_I (by omega) (by omega)).mpr (by omega)⟩, q3, q6, nI_add]
          · refine Or.inr ⟨j, by omega, ej, cj, ?_, ?_⟩
            · rw [upS]
              exact (if_neg (fun q => gt (by have := q.2.2; rw [u, f9] at this; exact (nle_I (by omega) (by omega)).mp this))).trans u
            · rw [muS, cIf_f (fun q => by have := q.2.2.2; rw [m, q3, q6, nI_add] at this; have := (nle_I (by omega) (by omega)).mp this; omega), m]
      · have n1 : upS M (nI X) (nI Z) (n + 1) = upS M (nI X) (nI Z) n := by rw [upS]; exact if_neg (fun q => cv (c1.mp q.2.1))
        have n2 : muS M (nI X) (nI Z) (n + 1) = muS M (nI X) (nI Z) n := by rw [muS]; exact cIf_f (fun q => cv ⟨(c2.mp q.2.1).1, (c2.mp q.2.1).2, c3.mp q.2.2.1⟩) _ _
        rw [n1, n2]
        rcases ih with w | ⟨j, hj, w⟩
        · exact Or.inl w
        · exact Or.inr ⟨j, by omega, w⟩
    · have n1 : upS M (nI X) (nI Z) (n + 1) = upS M (nI X) (nI Z) n := by rw [upS]; exact if_neg (fun q => q.1 ((in_b b1 p1).mpr e))
      have n2 : muS M (nI X) (nI Z) (n + 1) = muS M (nI X) (nI Z) n := by rw [muS]; exact cIf_f (fun q => q.1 ((in_b b1 p2).mpr e)) _ _
      rw [n1, n2]
      rcases ih with w | ⟨j, hj, w⟩
      · exact Or.inl w
      · exact Or.inr ⟨j, by omega, w⟩
theorem sm_above (h : IV np g B wq sq mt M) (x z : Int32) : SM mX5_above mX6_above [.int x, .int z] np M L := by
  have r1 := rn_above (np := np) (L := L) (M := M) (x := x) (z := z) 0
  have r2 := rn_mabove (np := np) (L := L) (M := M) (x := x) (z := z) 0
  obtain ⟨c0, c1, c2⟩ : M 1 0 = nI (g 8 0) ∧ M 1 1 = nI (g 8 1) ∧ M 1 2 = nI (g 8 2) := ⟨h.2.1.2.1 0 (by omega), h.2.1.2.1 1 (by omega), h.2.1.2.1 2 (by omega)⟩
  obtain ⟨m0, m1, m2, _⟩ := h.2.2.1.1
  have d0 := h.1.2.2.1 0 (by omega)
  have d2 := h.1.2.2.1 2 (by omega)
  have e : inF M x z ↔ inG M x z := by unfold inF inG; rw [c0, c2, m0, m2]; exact Iff.rfl
  by_cases hi : inF M x z
  · have hi' := hi
    unfold inF at hi'
    rw [c0, c2, nI_m1' (by omega), nI_m1' (by omega)] at hi'
    obtain ⟨X, hX, rfl⟩ := cW_of (k := g 8 0 - 1) rfl (by omega) hi'.1
    obtain ⟨Z, hZ, rfl⟩ := cW_of (k := g 8 2 - 1) rfl (by omega) hi'.2
    rw [cIf_t hi] at r1
    rw [cIf_t (e.mp hi)] at r2
    have : (upS M (nI X) (nI Z) 6).1 = (muS M (nI X) (nI Z) 6).1 := by
      rcases up_mu h (X := X) (Z := Z) (by omega) (by omega) 6 (by omega) with ⟨u, m⟩ | ⟨j, _, _, _, u, m⟩ <;> rw [u, m]
    rw [this] at r1
    exact SM_0 r1 r2 (by omega) (by omega) h.x
  · rw [cIf_f hi] at r1
    rw [cIf_f (fun q => hi (e.mpr q))] at r2
    exact SM_0 r1 r2 (by omega) (by omega) h.x
theorem sub_add3 (a b c : Int32) : a - b - c = a - (b + c) := by
  apply Int32.toBitVec_inj.mp
  simp only [Int32.toBitVec_sub, Int32.toBitVec_add]
  exact BitVec.sub_sub _ _ _
theorem mf_eq (h : IV np g B wq sq mt M) : ∀ n, n ≤ 6 → mfS M n = M 1 0 * M 1 1 * M 1 2 - csum (gCell M 5) n
  | 0, _ => by
    obtain ⟨m0, m1, m2, _⟩ := h.2.2.1.1
    rw [mfS, m0, m1, m2, h.2.1.2.1 0 (by omega), h.2.1.2.1 1 (by omega), h.2.1.2.1 2 (by omega)]
    show _ = _ - 0
    rw [Int32.sub_zero]
  | n + 1, hn => by
    obtain ⟨p1, p2, p3⟩ := h.2.2.2.2.2.2 n (by omega)
    have b1 := (h.2.2.2.2.2.1.1 n).1
    rw [mfS, csum, mf_eq h n (by omega), sub_add3]
    congr 2
    unfold gCell
    by_cases e : B n 0 = 1
    · obtain ⟨⟨⟨_, f5, f6, f7, f8, f9, f10⟩, _⟩, ⟨q2, q3, q4, q5, q6, q7, _⟩⟩ := p3 e
      rw [if_neg (fun q => (in_b b1 p2).mp q e), if_neg (fun q => (in_b b1 p1).mp q e), q5, q6, q7, f5, f6, f7]
    · rw [if_pos ((in_b b1 p2).mpr e), if_pos ((in_b b1 p1).mpr e)]
theorem sm_free (h : IV np g B wq sq mt M) : SM mX5_free mX6_free [] np M L := by
  have r1 := rn_free (np := np) (L := L) (M := M) 0
  have r2 := rn_mfree (np := np) (L := L) (M := M) 0
  rw [mf_eq h 6 (by omega)] at r2
  exact SM_0 r1 r2 (by omega) (by omega) h.x
theorem bd_eq (h : IV np g B wq sq mt M) : ∀ n, n ≤ np → bdS M np n = mbS M n
  | 0, _ => rfl
  | n + 1, hn => by
    obtain ⟨c1, _⟩ := h.2.1.2.2 n (by omega)
    obtain ⟨m1, _⟩ := h.2.2.1.2 n (by rw [h.1.2.1]; omega)
    have e := lg_iff h (k := n) (by omega)
    rw [bdS, mbS, bd_eq h n (by omega)]
    by_cases w : mLg M n
    · rw [cIf_f (fun q => q.2 (e.mpr w)), cIf_t w, Int32.add_zero]
    · rw [cIf_t ⟨by omega, fun q => w (e.mp q)⟩, cIf_f w, c1 0 (by omega), c1 1 (by omega), c1 2 (by omega), ← m1 0 (by omega), ← m1 1 (by omega), ← m1 2 (by omega)]
theorem bd_st {n : Nat} : ∀ k, bdS M n (n + k) = bdS M n n
  | 0 => rfl
  | k + 1 => by rw [← Nat.add_assoc, bdS, cIf_f (fun q => by omega)]; exact bd_st k
theorem sm_bound (h : IV np g B wq sq mt M) : SM mX5_bound mX6_bound [] np M L := by
  have r1 := rn_bound (np := np) (L := L) (M := M) 0
  have r2 := rn_mbound (np := np) (L := L) (M := M) h.n6 h.m3 0
  have e6 : bdS M np 6 = mbS M np := by
    obtain ⟨k, hk⟩ := Nat.exists_eq_add_of_le h.n6
    rw [hk, bd_st, bd_eq h np (Nat.le_refl _)]
  obtain ⟨m0, m1, m2, _⟩ := h.2.2.1.1
  have s : M 1 0 * M 1 1 * M 1 2 = M 21 0 * M 21 1 * M 21 2 := by rw [m0, m1, m2, h.2.1.2.1 0 (by omega), h.2.1.2.1 1 (by omega), h.2.1.2.1 2 (by omega)]
  rw [e6, s] at r1
  have mn : ∀ a b : Int32, (if a < b then a else b) = (if a ≤ b then a else b) := by
    intro a b
    by_cases q : a < b
    · rw [if_pos q, if_pos (by rw [Int32.le_iff_toInt_le]; rw [Int32.lt_iff_toInt_lt] at q; omega)]
    · rw [if_neg q]
      by_cases w : a ≤ b
      · rw [if_pos w]
        apply Int32.toInt_inj.mp
        rw [Int32.le_iff_toInt_le] at w
        rw [Int32.lt_iff_toInt_lt] at q
        omega
      · rw [if_neg w]
  rw [mn] at r1
  exact SM_0 r1 r2 (by omega) (by omega) h.x
end INV
