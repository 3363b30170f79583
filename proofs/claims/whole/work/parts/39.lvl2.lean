-- lk: 28 29 30 31 32 33 37 38
/-! ===== the reference's search is that search: its levels ===== -/
theorem flat_at {β : Type} {f : Nat → List β} {m : Nat} (hm : ∀ a, (f a).length = m) : ∀ (l : List Nat) (a b : Nat), b < m → (l.flatMap f)[a * m + b]? = l[a]?.bind (fun v => (f v)[b]?)
  | [], a, b, _ => by simp
  | x :: l, 0, b, hb => by
    rw [List.flatMap_cons, Nat.zero_mul, Nat.zero_add, List.getElem?_append_left (by rw [hm]; omega)]
    simp
  | x :: l, a + 1, b, hb => by
    rw [List.flatMap_cons, List.getElem?_append_right (by rw [hm, Nat.succ_mul]; omega), hm, Nat.succ_mul, show a * m + m + b - m = a * m + b by omega, flat_at hm l a b hb]
    simp
theorem flat_len {β : Type} {f : Nat → List β} {m : Nat} (hm : ∀ a, (f a).length = m) : ∀ l : List Nat, (l.flatMap f).length = l.length * m
  | [] => by simp
  | x :: l => by rw [List.flatMap_cons, List.length_append, hm, flat_len hm l, List.length_cons, Nat.succ_mul]; omega
theorem flat_idx {c nx nz ny : Nat} : c = c / nx / nz / ny * (ny * (nz * nx)) + (c / nx / nz % ny * (nz * nx) + (c / nx % nz * nx + c % nx)) := by
  have e1 := Nat.div_add_mod c nx
  have e2 := Nat.div_add_mod (c / nx) nz
  have e3 := Nat.div_add_mod (c / nx / nz) ny
  generalize c / nx / nz / ny = ti at *
  generalize c / nx / nz % ny = yi at *
  generalize c / nx / nz = c2 at *
  generalize c / nx % nz = zi at *
  generalize c / nx = c1 at *
  generalize c % nx = xi at *
  subst e3
  subst e2
  subst e1
  rw [Nat.mul_add, Nat.mul_add, Nat.mul_add]
  have h1 : nx * (nz * (ny * ti)) = ti * (ny * (nz * nx)) := by ac_rfl
  have h2 : nx * (nz * yi) = yi * (nz * nx) := by ac_rfl
  have h3 : nx * zi = zi * nx := by ac_rfl
  omega
theorem cds_len (g P : Nat → Nat → Nat) (j : Nat) : (cds g P j).length = (Tl g j).length * ((stP P (eY P) j).length * ((stP P (eZ P) j).length * (stP P (eX P) j).length)) := by
  unfold cds
  refine flat_len (fun t => flat_len (fun y => flat_len (fun z => ?_) _) _) _
  rw [List.length_map]
theorem cds_at {g P : Nat → Nat → Nat} {j c nx ny nz : Nat} (hx : (stP P (eX P) j).length = nx) (hy : (stP P (eY P) j).length = ny) (hz : (stP P (eZ P) j).length = nz) (hc : c < (cds g P j).length) : ∃ t x y z, (cds g P j)[c]? = some (bx g j t x y z) ∧ (Tl g j)[c / nx / nz / ny]? = some t ∧ (stP P (eX P) j)[c % nx]? = some x ∧ (stP P (eZ P) j)[c / nx % nz]? = some z ∧ (stP P (eY P) j)[c / nx / nz % ny]? = some y := by
  have px := (stP_len (P := P) (a := eX P) j).2
  have py := (stP_len (P := P) (a := eY P) j).2
  have pz := (stP_len (P := P) (a := eZ P) j).2
  have m1 : c % nx < nx := Nat.mod_lt _ (by omega)
  have m2 : c / nx % nz < nz := Nat.mod_lt _ (by omega)
  have m3 : c / nx / nz % ny < ny := Nat.mod_lt _ (by omega)
  have l1 : c / nx % nz * nx + c % nx < nz * nx := by
    have : (c / nx % nz + 1) * nx ≤ nz * nx := Nat.mul_le_mul (by omega) (Nat.le_refl _)
    rw [Nat.succ_mul] at this
    omega
  have l2 : c / nx / nz % ny * (nz * nx) + (c / nx % nz * nx + c % nx) < ny * (nz * nx) := by
    have : (c / nx / nz % ny + 1) * (nz * nx) ≤ ny * (nz * nx) := Nat.mul_le_mul (by omega) (Nat.le_refl _)
    rw [Nat.succ_mul] at this
    omega
  have l3 : c / nx / nz / ny < (Tl g j).length := by
    rw [cds_len, hx, hy, hz] at hc
    rcases Nat.lt_or_ge (c / nx / nz / ny) (Tl g j).length with w | w
    · exact w
    · have : (Tl g j).length * (ny * (nz * nx)) ≤ c / nx / nz / ny * (ny * (nz * nx)) := Nat.mul_le_mul w (Nat.le_refl _)
      have := flat_idx (c := c) (nx := nx) (nz := nz) (ny := ny)
      omega
  have ex : (stP P (eX P) j)[c % nx]? = some ((stP P (eX P) j)[c % nx]'(by omega)) := List.getElem?_eq_getElem _
  have ey : (stP P (eY P) j)[c / nx / nz % ny]? = some ((stP P (eY P) j)[c / nx / nz % ny]'(by omega)) := List.getElem?_eq_getElem _
  have ez : (stP P (eZ P) j)[c / nx % nz]? = some ((stP P (eZ P) j)[c / nx % nz]'(by omega)) := List.getElem?_eq_getElem _
  have et : (Tl g j)[c / nx / nz / ny]? = some ((Tl g j)[c / nx / nz / ny]'l3) := List.getElem?_eq_getElem _
  refine ⟨_, _, _, _, ?_, et, ex, ez, ey⟩
  have b1 : ∀ t y z, ((stP P (eX P) j).map fun x => bx g j t x y z).length = nx := fun t y z => by rw [List.length_map, hx]
  have b2 : ∀ t y, ((stP P (eZ P) j).flatMap fun z => (stP P (eX P) j).map fun x => bx g j t x y z).length = nz * nx := fun t y => by rw [flat_len (b1 t y), hz]
  have b3 : ∀ t, ((stP P (eY P) j).flatMap fun y => (stP P (eZ P) j).flatMap fun z => (stP P (eX P) j).map fun x => bx g j t x y z).length = ny * (nz * nx) := fun t => by rw [flat_len (b2 t), hy]
  unfold cds
  conv => lhs; rw [flat_idx (c := c) (nx := nx) (nz := nz) (ny := ny)]
  rw [flat_at b3 _ _ _ l2, et, Option.bind_some, flat_at (b2 _) _ _ _ l1, ey, Option.bind_some, flat_at (b1 _ _) _ _ _ m1, ez, Option.bind_some, List.getElem?_map, ex, Option.map_some]
theorem blk_at {r : Nat → Int32} {fr k x : Nat} {l : List Nat} (h : blk r fr l) (hx : l[k]? = some x) : r (fr + k) = nI x := by
  have hk : k < l.length := by
    rcases Nat.lt_or_ge k l.length with w | w
    · exact w
    · rw [List.getElem?_eq_none w] at hx; cases hx
  rw [h k hk, List.getD_eq_getElem?_getD, hx]
  rfl
/-- the rows behind a try: the box is set, the piece in or out, the steps counted -/
def m1M (M : Nat → Nat → Int32) (j c : Nat) : Nat → Nat → Int32 := up2 (up2 M 29 j 0) 47 j (nI (c + 1))
def m3M (M : Nat → Nat → Int32) (j c t x y z : Nat) (v : Int32) (m : Nat) : Nat → Nat → Int32 := up2 (up2 (bxM (m1M M j c) j t x y z) 29 j v) 21 5 (nI m)
section M3
variable {g P : Nat → Nat → Nat} {M : Nat → Nat → Int32} {j c t x y z m : Nat} {v : Int32}
theorem m1_row {h : Nat} (hh : h ≠ 29 ∧ h ≠ 47) : m1M M j c h = M h := by unfold m1M; rw [up2_n hh.2, up2_n hh.1]
theorem m3_row {h : Nat} (hh : h ≠ 21 ∧ h ≠ 47 ∧ (h < 29 ∨ 36 < h)) : m3M M j c t x y z v m h = M h := by
  unfold m3M bxM
  rw [up2_n (by omega), up2_n (by omega), up2_n (by omega), up2_n (by omega), up2_n (by omega), up2_n (by omega), up2_n (by omega), up2_n (by omega), up2_n (by omega), m1_row (by omega)]
theorem chg47 : chg j 47 j := Or.inr (Or.inr ⟨by omega, by omega, fun q hq => by unfold own; omega⟩)
theorem m1_fr : FR j M (m1M M j c) := by
  unfold m1M
  exact ((FR.rf j M).up (Or.inl (by omega))).up chg47
theorem bx_fr {M1 : Nat → Nat → Int32} : FR j M1 (bxM M1 j t x y z) := by
  unfold bxM
  exact ((((((((FR.rf j M1).up (Or.inl (by omega))).up (Or.inl (by omega))).up (Or.inl (by omega))).up (Or.inl (by omega))).up (Or.inl (by omega))).up (Or.inl (by omega))).up (Or.inl (by omega)))
theorem m3_fr : FR j M (m3M M j c t x y z v m) := by
  unfold m3M
  exact ((m1_fr.tr bx_fr).up (Or.inl (by omega))).up (Or.inr (Or.inl (by omega)))
theorem bx_29 {M1 : Nat → Nat → Int32} {h : Nat} (hh : h < 30 ∨ 36 < h) : bxM M1 j t x y z h = M1 h := by
  unfold bxM
  rw [up2_n (by omega), up2_n (by omega), up2_n (by omega), up2_n (by omega), up2_n (by omega), up2_n (by omega), up2_n (by omega)]
theorem up2_i {M1 : Nat → Nat → Int32} {h h' k i : Nat} {w : Int32} (hi : i ≠ k) : up2 M1 h k w h' i = M1 h' i := by
  by_cases e : h' = h
  · subst e; rw [up2_s, upd_n hi]
  · rw [up2_n e]
theorem bx_i {M1 : Nat → Nat → Int32} {h i : Nat} (hi : i ≠ j) : bxM M1 j t x y z h i = M1 h i := by
  unfold bxM
  rw [up2_i hi, up2_i hi, up2_i hi, up2_i hi, up2_i hi, up2_i hi, up2_i hi]
theorem bx_mr {M1 : Nat → Nat → Int32} (hs : RMs g M1) (hj : j < g 7 0) : mRow (bxM M1 j t x y z) j (bx g j t x y z) := by
  have e := tW_c (f := pf M1 j) (g := fg g j) ((hs.2 j hj).1 0 (by omega)) ((hs.2 j hj).1 1 (by omega)) ((hs.2 j hj).1 2 (by omega)) t
  have e2 := tW_g g j t
  unfold bxM
  rw [e.1, e.2.1, e.2.2, e2.1, e2.2.1, e2.2.2]
  refine ⟨?_, ?_, ?_, ?_, ?_, ?_, ?_⟩ <;> simp [up2, upd, bx]
theorem mRow_c {M1 M2 : Nat → Nat → Int32} {i : Nat} {b : Nat → Nat} (h : mRow M1 i b) (e : ∀ h, 30 ≤ h → h ≤ 36 → M2 h i = M1 h i) : mRow M2 i b := by
  unfold mRow at *
  rw [e 30 (by omega) (by omega), e 31 (by omega) (by omega), e 32 (by omega) (by omega), e 33 (by omega) (by omega), e 34 (by omega) (by omega), e 35 (by omega) (by omega), e 36 (by omega) (by omega)]
  exact h
theorem m1_rp (hP : RMp j P M) (hPj : P j 0 = 0) : RMp 6 P (m1M M j c) := by
  intro i hi _
  unfold m1M
  by_cases e : i = j
  · subst e
    refine ⟨by rw [up2_n (by omega), up2_s, upd_s, hPj]; rfl, fun w => absurd w (by omega)⟩
  · obtain ⟨h1, h2⟩ := hP i hi e
    refine ⟨by rw [up2_n (by omega), up2_s, upd_n e]; exact h1, fun w => mRow_c (h2 w) (fun h a b => by rw [up2_n (by omega), up2_n (by omega)])⟩
theorem bx_rp {M1 : Nat → Nat → Int32} (hP : RMp 6 P M1) (hj : j < 6) : RMp j P (bxM M1 j t x y z) := by
  intro i hi e
  obtain ⟨h1, h2⟩ := hP i hi (by omega)
  exact ⟨by rw [bx_29 (by omega)]; exact h1, fun w => mRow_c (h2 w) (fun h a b => bx_i e)⟩
theorem m3_i {h i : Nat} (hh : 30 ≤ h ∧ h ≤ 36) : m3M M j c t x y z v m h i = bxM (m1M M j c) j t x y z h i := by
  unfold m3M
  rw [up2_n (by omega), up2_n (by omega)]
theorem m3_rp (hP : RMp j P M) (hPj : P j 0 = 0) (hj : j < 6) : RMp j P (m3M M j c t x y z v m) := by
  intro i hi e
  obtain ⟨h1, h2⟩ := bx_rp (t := t) (x := x) (y := y) (z := z) (m1_rp (c := c) hP hPj) hj i hi e
  refine ⟨?_, fun w => mRow_c (h2 w) (fun h a b => m3_i ⟨a, b⟩)⟩
  unfold m3M
  rw [up2_n (by omega), up2_s, upd_n e]
  exact h1
theorem m3_29 : m3M M j c t x y z v m 29 j = v := by
  unfold m3M
  rw [up2_n (by omega), up2_s, upd_s]
theorem m3_rp1 (hs : RMs g M) (hP : RMp j P M) (hPj : P j 0 = 0) (hj : j < g 7 0) (hj6 : j < 6) (hv : v = 1) : RMp 6 (setP P j (bx g j t x y z)) (m3M M j c t x y z v m) := by
  intro i hi _
  by_cases e : i = j
  · subst e
    rw [setP_s, m3_29, hv]
    exact ⟨rfl, fun _ => mRow_c (bx_mr (hs.fr (m1_fr (c := c))) hj) (fun h a b => m3_i ⟨a, b⟩)⟩
  · rw [setP_n e]; exact m3_rp hP hPj hj6 i hi e
theorem m3_47 : m3M M j c t x y z v m 47 j = nI (c + 1) := by
  unfold m3M m1M
  rw [up2_n (by omega), up2_n (by omega), bx_29 (by omega), up2_s, upd_s]
theorem m1_47 : m1M M j c 47 j = nI (c + 1) := by
  unfold m1M
  rw [up2_s, upd_s]
theorem m3_5 : m3M M j c t x y z v m 21 5 = nI m := by
  unfold m3M
  rw [up2_s, upd_s]
theorem m3_21 {k : Nat} (hk : k ≠ 5) : m3M M j c t x y z v m 21 k = M 21 k := by
  unfold m3M
  rw [up2_s, upd_n hk, up2_n (by omega), bx_29 (by omega), m1_row (by omega)]
end M3
theorem RMk.c {g : Nat → Nat → Nat} {s s' : Nat × Nat × Nat × (Nat → Nat → Nat)} {M M1 : Nat → Nat → Int32} {L : Nat → Int64} (h : RMk g s M L) (hs : s'.2 = s.2) (e1 : M1 21 34 = M 21 34) (e2 : M1 21 32 = M 21 32) (e3 : ∀ h, 37 ≤ h → h ≤ 46 → M1 h = M h) : RMk g s' M1 L := by
  unfold RMk at *
  rw [hs, e1, e2, e3 37 (by omega) (by omega)]
  refine ⟨h.1, h.2.1, h.2.2.1, fun i hi => ⟨(h.2.2.2 i hi).1, fun w => ?_⟩⟩
  have := (h.2.2.2 i hi).2 w
  unfold pRow at *
  rw [e3 38 (by omega) (by omega), e3 39 (by omega) (by omega), e3 40 (by omega) (by omega), e3 41 (by omega) (by omega), e3 42 (by omega) (by omega), e3 43 (by omega) (by omega), e3 44 (by omega) (by omega), e3 45 (by omega) (by omega), e3 46 (by omega) (by omega)]
  exact this
theorem RMb.c {g : Nat → Nat → Nat} {s s' : Nat × Nat × Nat × (Nat → Nat → Nat)} {M M1 : Nat → Nat → Int32} {L : Nat → Int64} (h : RMb g s M L) (hs : s'.2 = s.2) (e1 : M1 21 34 = M 21 34) (e2 : M1 21 32 = M 21 32) (e3 : ∀ h, 37 ≤ h → h ≤ 46 → M1 h = M h) : RMb g s' M1 L := by
  rcases h with ⟨h1, h2⟩ | h
  · exact Or.inl ⟨by rw [e1]; exact h1, by rw [hs]; exact h2⟩
  · exact Or.inr (h.c hs e1 e2 e3)
theorem LvB.c {g P : Nat → Nat → Nat} {j : Nat} {M M1 : Nat → Nat → Int32} (h : LvB g P j M) (e : ∀ h, 48 ≤ h → h ≤ 55 → M1 h = M h) : LvB g P j M1 := by
  unfold LvB at *
  rw [e 48 (by omega) (by omega), e 49 (by omega) (by omega), e 50 (by omega) (by omega), e 51 (by omega) (by omega), e 52 (by omega) (by omega), e 53 (by omega) (by omega), e 54 (by omega) (by omega), e 55 (by omega) (by omega)]
  exact h
noncomputable def fin (g : Nat → Nat → Nat) (r j : Nat) (P : Nat → Nat → Nat) (s1 : Nat × Nat × Nat × (Nat → Nat → Nat)) : Nat × Nat × Nat × (Nat → Nat → Nat) := cIf (enA g s1) s1 (srch g r (j + 1) P s1)
noncomputable def lvF (g : Nat → Nat → Nat) (r j : Nat) (P : Nat → Nat → Nat) (c : Nat) (s : Nat × Nat × Nat × (Nat → Nat → Nat)) : Nat × Nat × Nat × (Nat → Nat → Nat) := fin g r j P (((cds g P j).drop c).foldl (stp (srch g r (j + 1)) g j P) s)
theorem lvF_0 (g : Nat → Nat → Nat) (r j : Nat) (P : Nat → Nat → Nat) (s : Nat × Nat × Nat × (Nat → Nat → Nat)) : lvF g r j P 0 s = srch g (r + 1) j P s := by
  unfold lvF fin
  rw [List.drop_zero]
  rfl
theorem lvF_cons {g : Nat → Nat → Nat} {r j : Nat} {P : Nat → Nat → Nat} {c : Nat} {s : Nat × Nat × Nat × (Nat → Nat → Nat)} {b : Nat → Nat} (hb : (cds g P j)[c]? = some b) : lvF g r j P c s = lvF g r j P (c + 1) (stp (srch g r (j + 1)) g j P s b) := by
  unfold lvF
  have hk : c < (cds g P j).length := by
    rcases Nat.lt_or_ge c (cds g P j).length with w | w
    · exact w
    · rw [List.getElem?_eq_none w] at hb; cases hb
  rw [List.getElem?_eq_getElem hk, Option.some.injEq] at hb
  rw [List.drop_eq_getElem_cons hk, List.foldl_cons, hb]
theorem lvF_en {g : Nat → Nat → Nat} {r j : Nat} {P : Nat → Nat → Nat} {c : Nat} {s : Nat × Nat × Nat × (Nat → Nat → Nat)} (h : enA g s) : lvF g r j P c s = s := by
  unfold lvF fin
  rw [fold_en h, cIf_t h]
theorem lvF_all {g : Nat → Nat → Nat} {r j : Nat} {P : Nat → Nat → Nat} {s : Nat × Nat × Nat × (Nat → Nat → Nat)} (h : ¬ enA g s) : lvF g r j P (cds g P j).length s = srch g r (j + 1) P s := by
  unfold lvF fin
  rw [List.drop_length, List.foldl_nil, cIf_f h]
abbrev pLs (g : Nat → Nat → Nat) (p : Int32) (v3 v4 v5 v6 : Option Value) : List (Option Value) := [some (.ref 21), some (.int (nI (g 9 0))), some (.int p), v3, v4, v5, v6]
/-- what is known at the head of the loop on level j, place c -/
def PRE (g P : Nat → Nat → Nat) (j c : Nat) (s : Nat × Nat × Nat × (Nat → Nat → Nat)) (M : Nat → Nat → Int32) (L : Nat → Int64) : Prop := Sn g s ∧ ¬ enA g s ∧ RMs g M ∧ RMp j P M ∧ RMb g s M L ∧ M 21 5 = nI s.1 ∧ LvB g P j M ∧ M 47 j = nI c
def POST (g : Nat → Nat → Nat) (j : Nat) (s : Nat × Nat × Nat × (Nat → Nat → Nat)) (M : Nat → Nat → Int32) (L : Nat → Int64) (M' : Nat → Nat → Int32) (L' : Nat → Int64) : Prop := RMk g s M' L' ∧ M' 21 5 = nI s.1 ∧ FR j M M' ∧ ∀ h, h ≠ 21 → L' h = L h
def LV (g : Nat → Nat → Nat) (np d r : Nat) (Q : zCf → Prop) : Prop := ∀ j P, j + r + 1 = g 7 0 → Good g P j → Bn g P → ∀ k c, c + k = (cds g P j).length → ∀ s M L v3 v4 v5 v6, PRE g P j c s M L →
  (∀ M' L' v3 v4 v5 v6, ¬ enA g (lvF g r j P c s) → RMp 6 P M' → POST g j (lvF g r j P c s) M L M' L' → Ev (d + 5) mX6_pack 77 (pLs g (nI j + (-1)) v3 v4 v5 v6) [] (mk np M' L') Q) →
  (∀ M' L' v3 v4 v5 v6, enA g (lvF g r j P c s) → POST g j (lvF g r j P c s) M L M' L' → Ev (d + 5) mX6_pack 280 (pLs g (-1) v3 v4 v5 v6) [] (mk np M' L') Q) →
  Ev (d + 5) mX6_pack 77 (pLs g (nI j) v3 v4 v5 v6) [] (mk np M L) Q
theorem POST.tr {g : Nat → Nat → Nat} {j i : Nat} {s s' : Nat × Nat × Nat × (Nat → Nat → Nat)} {M M1 M' : Nat → Nat → Int32} {L L1 L' : Nat → Int64} (h : POST g i s M1 L1 M' L') (e : s = s') (hi : j ≤ i) (f : FR j M M1) (l : ∀ h, h ≠ 21 → L1 h = L h) : POST g j s' M L M' L' := by
  subst e
  exact ⟨h.1, h.2.1, f.tr (h.2.2.1.lo hi), fun q hq => (h.2.2.2 q hq).trans (l q hq)⟩
