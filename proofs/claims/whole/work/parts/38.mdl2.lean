-- lk: 28 29 30 31 32 33 37
/-! ===== the reference's search is that search: judge, what a level changes ===== -/
def chg (j h k : Nat) : Prop := (29 ≤ h ∧ h ≤ 46) ∨ (h = 21 ∧ (k = 5 ∨ k = 32 ∨ k = 34)) ∨ (47 ≤ h ∧ h ≤ 55 ∧ ∀ q, q < j → ¬ own q h k)
def FR (j : Nat) (M M' : Nat → Nat → Int32) : Prop := ∀ h k, ¬ chg j h k → M' h k = M h k
theorem FR.rf (j : Nat) (M : Nat → Nat → Int32) : FR j M M := fun _ _ _ => rfl
theorem FR.tr {j : Nat} {M M1 M2 : Nat → Nat → Int32} (a : FR j M M1) (b : FR j M1 M2) : FR j M M2 := fun h k q => (b h k q).trans (a h k q)
theorem FR.lo {j i : Nat} {M M1 : Nat → Nat → Int32} (a : FR j M M1) (h : i ≤ j) : FR i M M1 := fun h' k q => a h' k (fun w => q (by
  rcases w with w | w | ⟨w1, w2, w3⟩
  · exact Or.inl w
  · exact Or.inr (Or.inl w)
  · exact Or.inr (Or.inr ⟨w1, w2, fun q hq => w3 q (by omega)⟩)))
theorem FR.up {j h k : Nat} {M M1 : Nat → Nat → Int32} {v : Int32} (a : FR j M M1) (hc : chg j h k) : FR j M (up2 M1 h k v) := by
  intro h' k' q
  by_cases e : h' = h
  · subst e
    rw [up2_s]
    by_cases e2 : k' = k
    · subst e2; exact absurd hc q
    · rw [upd_n e2]; exact a _ _ q
  · rw [up2_n e]; exact a _ _ q
theorem own_ne {p q h k : Nat} (hpq : p ≠ q) (h1 : own p h k) : ¬ own q h k := by
  unfold own at *
  omega
theorem FR.fb {j p : Nat} {M M1 M2 : Nat → Nat → Int32} (a : FR j M M1) (hp : j ≤ p) (b : Fb p M1 M2) : FR j M M2 := by
  intro h k q
  by_cases w : own p h k
  · exfalso
    apply q
    right; right
    refine ⟨by unfold own at w; omega, by unfold own at w; omega, fun q' hq' => own_ne (by omega) w⟩
  · rw [b h k w]; exact a h k q
theorem FR.row {j h : Nat} {M M1 : Nat → Nat → Int32} (a : FR j M M1) (hh : h < 21 ∨ 22 ≤ h ∧ h ≤ 28 ∨ 56 ≤ h) : M1 h = M h := funext fun k => a h k (by unfold chg; omega)
theorem FR.m {j k : Nat} {M M1 : Nat → Nat → Int32} (a : FR j M M1) (hk : k ≠ 5 ∧ k ≠ 32 ∧ k ≠ 34) : M1 21 k = M 21 k := a 21 k (by unfold chg; omega)
theorem FR.ow {j q h k : Nat} {M M1 : Nat → Nat → Int32} (a : FR j M M1) (hq : q < j) (ho : own q h k) : M1 h k = M h k := a h k (by
  rintro (w | w | ⟨w1, w2, w3⟩)
  · unfold own at ho; omega
  · unfold own at ho; omega
  · exact w3 q hq ho)
theorem RMs.fr {g : Nat → Nat → Nat} {j : Nat} {M M1 : Nat → Nat → Int32} (h : RMs g M) (a : FR j M M1) : RMs g M1 := by
  unfold RMs at *
  rw [a.m (k := 0) (by omega), a.m (k := 1) (by omega), a.m (k := 2) (by omega), a.m (k := 3) (by omega), a.row (h := 25) (by omega), a.row (h := 26) (by omega), a.row (h := 27) (by omega), a.row (h := 28) (by omega)]
  refine ⟨h.1, fun i hi => ⟨fun k hk => ?_, (h.2 i hi).2⟩⟩
  rw [a.row (h := 22 + k) (by omega)]
  exact (h.2 i hi).1 k hk
/-- the lists of a level -/
def LvB (g P : Nat → Nat → Nat) (j : Nat) (M : Nat → Nat → Int32) : Prop := (M 48 j = nI (Tl g j).length ∧ blk (M 49) (6 * j) (Tl g j)) ∧ (M 50 j = nI (stP P (eX P) j).length ∧ blk (M 53) (7 * j) (stP P (eX P) j)) ∧ (M 51 j = nI (stP P (eY P) j).length ∧ blk (M 54) (7 * j) (stP P (eY P) j)) ∧ (M 52 j = nI (stP P (eZ P) j).length ∧ blk (M 55) (7 * j) (stP P (eZ P) j))
theorem Tl_len (g : Nat → Nat → Nat) (j : Nat) : (Tl g j).length ≤ 6 := by
  have h1 := tls_len (f := fg g j) (tmo (nI (g 4 j)))
  have h2 := tmo_le (nI (g 4 j))
  unfold Tl
  omega
theorem stP_len {P : Nat → Nat → Nat} {a : Nat → Nat} : ∀ n, (stP P a n).length ≤ n + 1 ∧ 0 < (stP P a n).length
  | 0 => by simp [stP]
  | n + 1 => by
    have := stP_len (P := P) (a := a) n
    unfold stP
    split
    · omega
    · exact ⟨by have := insN_len (a := a n) (l := stP P a n); omega, insN_ne _ _⟩
theorem LvB.fr {g P : Nat → Nat → Nat} {j i : Nat} {M M1 : Nat → Nat → Int32} (h : LvB g P j M) (hj : j < 6) (hi : j < i) (a : FR i M M1) : LvB g P j M1 := by
  have o1 : ∀ h, h = 48 ∨ h = 50 ∨ h = 51 ∨ h = 52 → M1 h j = M h j := fun h hh => a.ow hi (by unfold own; omega)
  have o2 : ∀ h k, h = 53 ∨ h = 54 ∨ h = 55 → 7 * j ≤ k → k < 7 * j + 7 → M1 h k = M h k := fun h k hh h1 h2 => a.ow hi (by unfold own; omega)
  have o3 : ∀ k, 6 * j ≤ k → k < 6 * j + 6 → M1 49 k = M 49 k := fun k h1 h2 => a.ow hi (by unfold own; omega)
  obtain ⟨⟨t1, t2⟩, ⟨x1, x2⟩, ⟨y1, y2⟩, ⟨z1, z2⟩⟩ := h
  have tl := Tl_len g j
  refine ⟨⟨by rw [o1 48 (by omega)]; exact t1, fun k hk => by rw [o3 _ (by omega) (by omega)]; exact t2 k hk⟩, ⟨by rw [o1 50 (by omega)]; exact x1, fun k hk => ?_⟩, ⟨by rw [o1 51 (by omega)]; exact y1, fun k hk => ?_⟩, ⟨by rw [o1 52 (by omega)]; exact z1, fun k hk => ?_⟩⟩
  · have := (stP_len (P := P) (a := eX P) j).1
    rw [o2 53 _ (by omega) (by omega) (by omega)]; exact x2 k hk
  · have := (stP_len (P := P) (a := eY P) j).1
    rw [o2 54 _ (by omega) (by omega) (by omega)]; exact y2 k hk
  · have := (stP_len (P := P) (a := eZ P) j).1
    rw [o2 55 _ (by omega) (by omega) (by omega)]; exact z2 k hk
theorem tls_cg {f f' : Nat → Int32} (h0 : f 0 = f' 0) (h1 : f 1 = f' 1) (h2 : f 2 = f' 2) : ∀ n, tls f n = tls f' n
  | 0 => rfl
  | n + 1 => by
    show cIf (cMk f n) (tls f n) (tls f n ++ [n]) = cIf (cMk f' n) (tls f' n) (tls f' n ++ [n])
    have e : ∀ b t, smT f b t ↔ smT f' b t := fun b t => by
      unfold smT
      rw [(tW_c h0 h1 h2 b).1, (tW_c h0 h1 h2 b).2.1, (tW_c h0 h1 h2 b).2.2, (tW_c h0 h1 h2 t).1, (tW_c h0 h1 h2 t).2.1, (tW_c h0 h1 h2 t).2.2]
    have e2 : cMk f n ↔ cMk f' n := by unfold cMk; exact exists_congr (fun b => and_congr_right (fun _ => e b n))
    rw [tls_cg h0 h1 h2 n]
    by_cases w : cMk f n
    · rw [cIf_t w, cIf_t (e2.mp w)]
    · rw [cIf_f w, cIf_f (fun q => w (e2.mpr q))]
theorem stN_P {P : Nat → Nat → Nat} {M : Nat → Nat → Int32} {a : Nat → Nat} : ∀ n, (∀ i, i < n → (P i 0 = 0 ∨ P i 0 = 1) ∧ M 29 i = nI (P i 0)) → stN M a n = stP P a n
  | 0, _ => rfl
  | n + 1, h => by
    have e := in_m (h n (by omega)).1 (h n (by omega)).2
    rw [stN, stP, stN_P n (fun i hi => h i (by omega))]
    rcases (h n (by omega)).1 with w | w
    · rw [if_pos (e.mpr (by omega)), if_pos w]
    · rw [if_neg (fun q => e.mp q w), if_neg (by omega)]
/-- begin, as the search needs it -/
theorem mb_lv {g P : Nat → Nat → Nat} {np : Nat} {M : Nat → Nat → Int32} {L : Nat → Int64} {j x : Nat} (c : Cg g) (hs : RMs g M) (hb : Bn g P) (hP : RMp x P M) (hx : j ≤ x) (hj : j < g 7 0) (d : Nat) : ∃ M', Rn (d + 1) mX6_begin [.ref 21, .int (nI j)] (mk np M L) none (mk np M' L) ∧ LvB g P j M' ∧ M' 47 j = nI 0 ∧ Fb j M M' := by
  have hn6 := c.1
  have hE : Ends j M (eX P) (eY P) (eZ P) := by
    intro q hq h29
    obtain ⟨e1, e2⟩ := hP q (by omega) (by omega)
    have e3 := in_m (hb q).1 e1
    have hp : P q 0 = 1 := by
      apply Classical.byContradiction
      intro w; exact h29 (e3.mpr w)
    obtain ⟨q2, q3, q4, q5, q6, q7, _⟩ := e2 hp
    obtain ⟨l1, l2, l3⟩ := hb.lb c hp
    rw [q2, q3, q4, q5, q6, q7, nI_add, nI_add, nI_add]
    unfold eX eY eZ
    exact ⟨⟨rfl, by omega⟩, ⟨rfl, by omega⟩, ⟨rfl, by omega⟩⟩
  obtain ⟨M', h1, h2⟩ := rn_mbegin (np := np) (L := L) (by omega) hE d
  obtain ⟨b1, b2, b3, b4, b5, b6⟩ := h1
  have hj' := hs.2 j hj
  have eT : tls (pf M j) (tmo (M 26 j)) = Tl g j := by
    unfold Tl
    rw [hj'.2.2.1]
    exact tls_cg (hj'.1 0 (by omega)) (hj'.1 1 (by omega)) (hj'.1 2 (by omega)) _
  have eS : ∀ a : Nat → Nat, stN M a j = stP P a j := fun a => stN_P j (fun i hi => ⟨(hb i).1, (hP i (by omega) (by omega)).1⟩)
  rw [eT] at b2
  rw [eS] at b3 b4 b5
  exact ⟨M', h2, ⟨b2, b3, b4, b5⟩, b1, b6⟩
/-! judge -/
theorem jcM_at {n i : Nat} {M : Nat → Nat → Int32} : ∀ k, i < k → k ≤ 6 → jcM n M k 37 i = zi (¬ nI n ≤ nI i ∧ ¬ M 29 i = 0) ∧ jcM n M k 38 i = M 30 i ∧ jcM n M k 39 i = M 31 i ∧ jcM n M k 40 i = M 32 i ∧ jcM n M k 41 i = M 33 i ∧ jcM n M k 42 i = M 34 i ∧ jcM n M k 43 i = M 35 i ∧ jcM n M k 44 i = M 36 i ∧ jcM n M k 45 i = M 25 i ∧ jcM n M k 46 i = M 28 i
  | 0, h, _ => absurd h (by omega)
  | k + 1, h, h6 => by
    have r : ∀ h, h < 37 ∨ 46 < h → jcM n M k h = M h := fun h hh => jcM_in hh k
    by_cases e : i = k
    · subst e
      unfold jcM jst
      rw [r 29 (by omega), r 30 (by omega), r 31 (by omega), r 32 (by omega), r 33 (by omega), r 34 (by omega), r 35 (by omega), r 36 (by omega), r 25 (by omega), r 28 (by omega)]
      refine ⟨?_, ?_, ?_, ?_, ?_, ?_, ?_, ?_, ?_, ?_⟩ <;> simp [up2, upd]
    · have ih := jcM_at (n := n) (i := i) (M := M) k (by omega) (by omega)
      unfold jcM jst
      refine ⟨?_, ?_, ?_, ?_, ?_, ?_, ?_, ?_, ?_, ?_⟩ <;> simp [up2, upd, e, ih]
theorem jcM_fr {n : Nat} {M : Nat → Nat → Int32} (j : Nat) : ∀ k, FR j M (jcM n M k)
  | 0 => FR.rf j M
  | k + 1 => by
    unfold jcM jst
    exact ((((((((((jcM_fr j k).up (Or.inl (by omega))).up (Or.inl (by omega))).up (Or.inl (by omega))).up (Or.inl (by omega))).up (Or.inl (by omega))).up (Or.inl (by omega))).up (Or.inl (by omega))).up (Or.inl (by omega))).up (Or.inl (by omega))).up (Or.inl (by omega))
theorem jg_fr {n : Nat} {M : Nat → Nat → Int32} {L : Nat → Int64} (j : Nat) : FR j M (jgM n M L) ∧ (∀ h, h ≠ 21 → jgL n M L h = L h) ∧ (∀ h, 29 ≤ h → h ≤ 36 → jgM n M L h = M h) ∧ (∀ h, 47 ≤ h → h ≤ 55 → jgM n M L h = M h) ∧ jgM n M L 21 5 = M 21 5 := by
  unfold jgM jgL
  by_cases w : jbt n M L
  · rw [cIf_t w, cIf_t w]; exact ⟨FR.rf j M, fun _ _ => rfl, fun _ _ _ => rfl, fun _ _ _ => rfl, rfl⟩
  · rw [cIf_f w, cIf_f w]
    refine ⟨(((FR.rf j M).up (Or.inr (Or.inl (by omega)))).up (Or.inr (Or.inl (by omega)))).tr (jcM_fr j 6), fun h hh => if_neg hh, fun h h1 h2 => ?_, fun h h1 h2 => ?_, ?_⟩
    · rw [jcM_in (by omega), up2_n (by omega), up2_n (by omega)]
    · rw [jcM_in (by omega), up2_n (by omega), up2_n (by omega)]
    · rw [jcM_in (by omega), up2_s, upd_n (by omega), up2_s, upd_n (by omega)]
theorem clS_out {P : Nat → Nat → Nat} {j : Nat} (h : ∀ i, j ≤ i → P i 0 ≠ 1) : ∀ k, clS P (j + k) = clS P j
  | 0 => rfl
  | k + 1 => by rw [← Nat.add_assoc, clS, if_neg (h (j + k) (by omega)), clS_out h k]; rfl
theorem wyS_out {g P : Nat → Nat → Nat} {j : Nat} (h : ∀ i, j ≤ i → P i 0 ≠ 1) : ∀ k, wyS g P (j + k) = wyS g P j
  | 0 => rfl
  | k + 1 => by rw [← Nat.add_assoc, wyS, if_neg (h (j + k) (by omega)), wyS_out h k]; rfl
theorem clS_0 {P : Nat → Nat → Nat} (hp : ∀ i, P i 0 = 1 → psv (P i)) : ∀ n, clS P n = 0 → ∀ i, i < n → ¬ P i 0 = 1
  | 0, _, i, h => absurd h (by omega)
  | n + 1, e, i, h => by
    rw [clS] at e
    by_cases w : P n 0 = 1
    · rw [if_pos w] at e
      obtain ⟨a, b, c⟩ := hp n w
      have := Nat.mul_pos (Nat.mul_pos a b) c
      omega
    · by_cases q : i = n
      · subst q; exact w
      · exact clS_0 hp n (by omega) i (by omega)
theorem wyS_0 {g P : Nat → Nat → Nat} : ∀ n, (∀ i, i < n → ¬ P i 0 = 1) → wyS g P n = 0
  | 0, _ => rfl
  | n + 1, h => by rw [wyS, if_neg (h n (by omega)), wyS_0 n (fun i hi => h i (by omega))]
section JG
variable {g P : Nat → Nat → Nat} {s : Nat × Nat × Nat × (Nat → Nat → Nat)} {M : Nat → Nat → Int32} {L : Nat → Int64}
theorem jcS_n (hb : Bn g P) (hP : RMp 6 P M) : ∀ n, n ≤ 6 → jcS M n = nI (clS P n)
  | 0, _ => rfl
  | n + 1, hn => by
    obtain ⟨e1, e2⟩ := hP n (by omega) (by omega)
    have e3 := in_m (hb n).1 e1
    rw [jcS, clS, jcS_n hb hP n (by omega)]
    by_cases e : P n 0 = 1
    · rw [if_neg (fun w => e3.mp w e), if_pos e]
      obtain ⟨_, _, _, f5, f6, f7, _⟩ := e2 e
      rw [f5, f6, f7, pk_mul, pk_mul, nI_add]
    · rw [if_pos (e3.mpr e), if_neg e, Int32.add_zero]; rfl
theorem jlS_n (c : Cg g) (hs : RMs g M) (hb : Bn g P) (hP : RMp 6 P M) : ∀ n, n ≤ 6 → jlS M n = lN (wyS g P n)
  | 0, _ => rfl
  | n + 1, hn => by
    obtain ⟨e1, e2⟩ := hP n (by omega) (by omega)
    have e3 := in_m (hb n).1 e1
    rw [jlS, wyS, jlS_n c hs hb hP n (by omega)]
    by_cases e : P n 0 = 1
    · rw [if_neg (fun w => e3.mp w e), if_pos e]
      have i1 := ((hb n).2 e).1
      have cw := (c.2.2.2 n i1).2.1
      have l := (hb.lb c e).2.1
      rw [(e2 e).2.1, (hs.2 n i1).2.1, nI_l (by omega), nI_l (by omega), lN_mul, lN_add]
    · rw [if_pos (e3.mpr e), if_neg e, Int64.add_zero]; rfl
theorem lgc {a b : Nat} (ha : a < 2 ^ 31) (hb : b < 2 ^ 31) : ¬ lg_cmp (lN a) (lN b) < 0 ↔ b ≤ a := by
  unfold lg_cmp
  by_cases h1 : lN a > lN b
  · rw [if_pos h1]
    have := (lN_lt hb ha).mp h1
    exact ⟨fun _ => by omega, fun _ => by decide⟩
  · rw [if_neg h1]
    have h2 : ¬ b < a := fun q => h1 ((lN_lt hb ha).mpr q)
    by_cases h3 : lN a = lN b
    · rw [if_pos h3]
      have := (lN_eq ha hb).mp h3
      exact ⟨fun _ => by omega, fun _ => by decide⟩
    · rw [if_neg h3]
      have h4 : a ≠ b := fun q => h3 (by rw [q])
      constructor
      · intro q; exact absurd (by decide) q
      · intro q; omega
theorem jg_rm (c : Cg g) (hs : RMs g M) (hb : Bn g P) (hP : RMp 6 P M) (hS : Sn g s) (h : RMb g s M L) : RMk g (jdg g P s) (jgM (g 7 0) M L) (jgL (g 7 0) M L) := by
  have hn6 := c.1
  have hout : ∀ i, g 7 0 ≤ i → P i 0 ≠ 1 := fun i hi w => by have := ((hb i).2 w).1; omega
  obtain ⟨k6, hk6⟩ := Nat.exists_eq_add_of_le hn6.2
  have e1 : jcS M (g 7 0) = nI (clS P 6) := by rw [jcS_n hb hP _ hn6.2]; conv => rhs; rw [hk6]; rw [clS_out hout k6]
  have e2 : jlS M (g 7 0) = lN (wyS g P 6) := by rw [jlS_n c hs hb hP _ hn6.2]; conv => rhs; rw [hk6]; rw [wyS_out hout k6]
  have b1 := clS_le c hb 6
  have b2 := wyS_le c hb 6
  have b3 := clS_le c hS.2.2.2 6
  have b4 := wyS_le c hS.2.2.2 6
  obtain ⟨s1, s2, s3, s4⟩ := hS
  -- what is kept, if all is kept anew
  have hnew : ∀ Pb : Nat → Nat → Nat, (∀ i, i < 6 → P i 0 = Pb i 0) → (∀ i, i < 6 → Pb i 0 = 1 → Pb i = P i) → ¬ jbt (g 7 0) M L → ∀ s' : Nat × Nat × Nat × (Nat → Nat → Nat), s'.2.1 = clS P 6 → s'.2.2.1 = wyS g P 6 → s'.2.2.2 = Pb → RMk g s' (jgM (g 7 0) M L) (jgL (g 7 0) M L) := by
    intro Pb hp1 hp2 hn s' q1 q2 q3
    unfold jgM jgL
    rw [cIf_f hn, cIf_f hn, e1, e2]
    refine ⟨by rw [jcM_in (by omega), up2_s, upd_n (by omega), up2_s, upd_s], by rw [jcM_in (by omega), up2_s, upd_s, q1], by rw [q2]; exact if_pos rfl, fun i hi => ?_⟩
    rw [q3]
    obtain ⟨j37, j38, j39, j40, j41, j42, j43, j44, j45, j46⟩ := jcM_at (n := g 7 0) (i := i) (M := up2 (up2 M 21 34 1) 21 32 (nI (clS P 6))) 6 hi (by omega)
    have r : ∀ h, h ≠ 21 → up2 (up2 M 21 34 1) 21 32 (nI (clS P 6)) h = M h := fun h hh => by rw [up2_n hh, up2_n hh]
    rw [r 29 (by omega)] at j37
    rw [r 30 (by omega)] at j38
    rw [r 31 (by omega)] at j39
    rw [r 32 (by omega)] at j40
    rw [r 33 (by omega)] at j41
    rw [r 34 (by omega)] at j42
    rw [r 35 (by omega)] at j43
    rw [r 36 (by omega)] at j44
    rw [r 25 (by omega)] at j45
    rw [r 28 (by omega)] at j46
    obtain ⟨f1, f2⟩ := hP i hi (by omega)
    have e3 := in_m (hb i).1 f1
    constructor
    · rw [j37, ← hp1 i hi]
      rcases (hb i).1 with w | w
      · rw [zi_f (fun q => q.2 (e3.mpr (by omega))), w]; rfl
      · rw [zi_t ⟨(nle_I (by omega) (by omega)).mpr ((hb i).2 w).1, fun q => e3.mp q w⟩, w]; rfl
    · intro w
      rw [hp2 i hi w]
      have wP : P i 0 = 1 := by rw [hp1 i hi]; exact w
      obtain ⟨m2, m3, m4, m5, m6, m7, m1⟩ := f2 wP
      have g1 := hs.2 i ((hb i).2 wP).1
      exact ⟨j38.trans m2, j39.trans m3, j40.trans m4, j41.trans m5, j42.trans m6, j43.trans m7, j44.trans m1, j45.trans g1.2.1, j46.trans g1.2.2.2.2⟩
  rcases h with ⟨h1, h2, h3, h4⟩ | ⟨h1, h2, h3, h4⟩
  · have hn : ¬ jbt (g 7 0) M L := fun q => q.1 h1
    unfold jdg
    by_cases w : s.2.1 < clS P 6 ∨ clS P 6 = s.2.1 ∧ wyS g P 6 < s.2.2.1
    · rw [cIf_t w]
      exact hnew P (fun _ _ => rfl) (fun _ _ _ => rfl) hn _ rfl rfl rfl
    · rw [cIf_f w]
      have z : clS P 6 = 0 := by omega
      have zn := clS_0 (fun i hi => ((hb i).2 hi).2.2.1) 6 z
      refine hnew s.2.2.2 (fun i hi => ?_) (fun i hi q => ?_) hn s (by omega) (by rw [wyS_0 6 zn]; exact h3) rfl
      · rw [h4 i]; rcases (hb i).1 with v | v
        · exact v
        · exact absurd v (zn i hi)
      · rw [h4 i] at q; exact absurd q (by omega)
  · have e4 : jbt (g 7 0) M L ↔ ¬ (s.2.1 < clS P 6 ∨ clS P 6 = s.2.1 ∧ wyS g P 6 < s.2.2.1) := by
      unfold jbt
      rw [e1, e2, h1, h2, h3, nI_ltI (by omega) (by omega), nI_eq (by omega) (by omega), lgc (by omega) (by omega)]
      constructor
      · rintro ⟨_, q⟩; omega
      · intro q; exact ⟨by decide, by omega⟩
    unfold jdg
    by_cases w : s.2.1 < clS P 6 ∨ clS P 6 = s.2.1 ∧ wyS g P 6 < s.2.2.1
    · rw [cIf_t w]
      exact hnew P (fun _ _ => rfl) (fun _ _ _ => rfl) (fun q => e4.mp q w) _ rfl rfl rfl
    · rw [cIf_f w]
      unfold jgM jgL
      rw [cIf_t (e4.mpr w), cIf_t (e4.mpr w)]
      exact ⟨h1, h2, h3, h4⟩
end JG
