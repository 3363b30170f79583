-- lk: 28 29 30 31 32 33 37 38 39
/-! ===== the reference's search is that search: a level ===== -/
theorem mul4 (a b c e : Nat) : a * b * c * e = a * (c * (e * b)) := by ac_rfl
theorem lv_step {g : Nat → Nat → Nat} (cg : Cg g) {np d r : Nat} {Q : zCf → Prop} (hIH : ∀ r', r = r' + 1 → LV g np d r' Q) : LV g np d r Q := by
  intro j P hr G hB k
  have hn6 := cg.1
  have hj : j < g 7 0 := by omega
  have hj6 : j < 6 := by omega
  have hPj : P j 0 = 0 := G.1 j (Nat.le_refl _)
  have al := cg.2.2.1
  have tl := Tl_len g j
  have lx := stP_len (P := P) (a := eX P) j
  have ly := stP_len (P := P) (a := eY P) j
  have lz := stP_len (P := P) (a := eZ P) j
  have hlen := cds_len g P j
  have hall : (cds g P j).length < 2 ^ 20 := by
    rw [hlen]
    have a1 : (stP P (eZ P) j).length * (stP P (eX P) j).length ≤ 7 * 7 := Nat.mul_le_mul (by omega) (by omega)
    have a2 : (stP P (eY P) j).length * ((stP P (eZ P) j).length * (stP P (eX P) j).length) ≤ 7 * (7 * 7) := Nat.mul_le_mul (by omega) a1
    have a3 : (Tl g j).length * ((stP P (eY P) j).length * ((stP P (eZ P) j).length * (stP P (eX P) j).length)) ≤ 6 * (7 * (7 * 7)) := Nat.mul_le_mul tl a2
    omega
  have hprod : (Tl g j).length * (stP P (eX P) j).length * (stP P (eY P) j).length * (stP P (eZ P) j).length = (cds g P j).length := by rw [hlen, mul4]
  have G1 : Good g P (j + 1) := ⟨fun i hi => G.1 i (by omega), G.2⟩
  induction k with
  | zero =>
    intro c hc s M L v3 v4 v5 v6 hpre hN hE
    obtain ⟨hS, hen, hs, hP, hb, h5, hl, h47⟩ := hpre
    obtain rfl : c = (cds g P j).length := by omega
    obtain ⟨⟨t1, t2⟩, ⟨x1, x2⟩, ⟨y1, y2⟩, ⟨z1, z2⟩⟩ := hl
    have hl : LvB g P j M := ⟨⟨t1, t2⟩, ⟨x1, x2⟩, ⟨y1, y2⟩, ⟨z1, z2⟩⟩
    rw [lvF_all hen] at hN hE
    have hs1 := hs.fr (m1_fr (M := M) (j := j) (c := (cds g P j).length))
    have hP1 := m1_rp (c := (cds g P j).length) hP hPj
    have hb1 : RMb g s (m1M M j (cds g P j).length) L := hb.c rfl (by rw [m1_row (by omega)]) (by rw [m1_row (by omega)]) (fun h a b => m1_row (by omega))
    have h51 : m1M M j (cds g P j).length 21 5 = nI s.1 := by rw [m1_row (by omega)]; exact h5
    have hl1 : LvB g P j (m1M M j (cds g P j).length) := hl.c (fun h a b => m1_row (by omega))
    cases r with
    | zero =>
      have hJ := Rn_le (rn_judge (np := np) (M := m1M M j (cds g P j).length) (L := L) hn6.2 hs1.1.2.2.2 0) (show 0 ≤ d + 4 by omega)
      refine sg_E hj6 t1 x1 y1 z1 hprod (by omega) h47 rfl (by omega) hn6.2 hs.1.2.2.2 (by omega) hJ (fun v3 v4 v5 v6 => ?_)
      have hk := jg_rm cg hs1 hB hP1 hS hb1
      obtain ⟨f1, f2, f3, f4, f5⟩ := jg_fr (n := g 7 0) (M := m1M M j (cds g P j).length) (L := L) j
      generalize jgM (g 7 0) (m1M M j (cds g P j).length) L = M5 at *
      generalize jgL (g 7 0) (m1M M j (cds g P j).length) L = L5 at *
      have e5 : M5 21 5 = nI (jdg g P s).1 := by rw [f5, h51, jdg_1]
      have ne : ¬ enA g (jdg g P s) := by unfold enA; rw [jdg_1]; exact hen
      have P5 : RMp 6 P M5 := fun i hi hx => ⟨by rw [f3 29 (by omega) (by omega)]; exact (hP1 i hi hx).1, fun w => mRow_c ((hP1 i hi hx).2 w) (fun h a b => by rw [f3 h (by omega) (by omega)])⟩
      have l5 : LvB g P j M5 := hl1.c (fun h a b => f4 h (by omega) (by omega))
      obtain ⟨⟨t1', t2'⟩, ⟨x1', x2'⟩, ⟨y1', y2'⟩, ⟨z1', z2'⟩⟩ := l5
      refine sg_G (n := 0) hj6 t1' x1' y1' z1' hprod (by omega) (by rw [f4 47 (by omega) (by omega), m1_47]) rfl (fun v3 v4 v5 v6 => ?_)
      refine hN _ _ _ _ _ _ ne (m1_rp (c := (cds g P j).length + 1) (fun i hi _ => P5 i hi (by omega)) hPj) ⟨hk.c rfl (by show m1M M5 j _ 21 34 = _; rw [m1_row (by omega)]) (by show m1M M5 j _ 21 32 = _; rw [m1_row (by omega)]) (fun h a b => by show m1M M5 j _ h = _; rw [m1_row (by omega)]), by show m1M M5 j _ 21 5 = _; rw [m1_row (by omega)]; exact e5, (m1_fr.tr f1).tr m1_fr, f2⟩
    | succ r =>
      obtain ⟨M5, hR, l5, c5, f5⟩ := mb_lv (np := np) (L := L) cg hs1 hB hP1 (show j + 1 ≤ 6 by omega) (show j + 1 < g 7 0 by omega) (d + 3)
      refine sg_F hj6 t1 x1 y1 z1 hprod (by omega) h47 rfl (by omega) hn6.2 hs.1.2.2.2 (by omega) hR (fun v3 v4 v5 v6 => ?_)
      have F5 : FR (j + 1) (m1M M j (cds g P j).length) M5 := (FR.rf _ _).fb (Nat.le_refl _) f5
      have row5 : ∀ h, h < 47 → M5 h = m1M M j (cds g P j).length h := fun h hh => f5.row (by omega)
      refine hIH r rfl (j + 1) P (by omega) G1 hB (cds g P (j + 1)).length 0 (by omega) s M5 L v3 v4 v5 v6 ⟨hS, hen, hs1.fr F5, fun i hi _ => ⟨by rw [row5 29 (by omega)]; exact (hP1 i hi (by omega)).1, fun w => mRow_c ((hP1 i hi (by omega)).2 w) (fun h a b => by rw [row5 h (by omega)])⟩, hb1.c rfl (by rw [row5 21 (by omega)]) (by rw [row5 21 (by omega)]) (fun h a b => row5 h (by omega)), by rw [row5 21 (by omega)]; exact h51, l5, c5⟩ ?_ ?_
      · intro M' L' v3 v4 v5 v6 ne P' ps
        rw [lvF_0] at ne ps
        rw [pk_m1]
        have l' : LvB g P j M' := (hl1.fr hj6 (by omega) F5).fr hj6 (by omega) ps.2.2.1
        have c' : M' 47 j = nI ((cds g P j).length + 1) := by
          rw [ps.2.2.1.ow (q := j) (by omega) (Or.inl ⟨Or.inl rfl, rfl⟩), F5.ow (q := j) (by omega) (Or.inl ⟨Or.inl rfl, rfl⟩), m1_47]
        obtain ⟨⟨t1', t2'⟩, ⟨x1', x2'⟩, ⟨y1', y2'⟩, ⟨z1', z2'⟩⟩ := l'
        refine sg_G (n := 0) hj6 t1' x1' y1' z1' hprod (by omega) c' rfl (fun v3 v4 v5 v6 => ?_)
        refine hN _ _ _ _ _ _ ne (m1_rp (c := (cds g P j).length + 1) (fun i hi _ => P' i hi (by omega)) hPj) ⟨ps.1.c rfl (by show m1M M' j _ 21 34 = _; rw [m1_row (by omega)]) (by show m1M M' j _ 21 32 = _; rw [m1_row (by omega)]) (fun h a b => by show m1M M' j _ h = _; rw [m1_row (by omega)]), by show m1M M' j _ 21 5 = _; rw [m1_row (by omega)]; exact ps.2.1, ((m1_fr.tr (F5.lo (by omega))).tr (ps.2.2.1.lo (by omega))).tr m1_fr, ps.2.2.2⟩
      · intro M' L' v3 v4 v5 v6 en ps
        rw [lvF_0] at en ps
        exact hE _ _ _ _ _ _ en (ps.tr rfl (by omega) (m1_fr.tr (F5.lo (by omega))) (fun _ _ => rfl))
  | succ k ih =>
    intro c hc s M L v3 v4 v5 v6 hpre hN hE
    obtain ⟨hS, hen, hs, hP, hb, h5, hl, h47⟩ := hpre
    have hcl : c < (cds g P j).length := by omega
    obtain ⟨⟨t1, t2⟩, ⟨x1, x2⟩, ⟨y1, y2⟩, ⟨z1, z2⟩⟩ := hl
    have hl : LvB g P j M := ⟨⟨t1, t2⟩, ⟨x1, x2⟩, ⟨y1, y2⟩, ⟨z1, z2⟩⟩
    obtain ⟨t, x, y, z, hbx, ht, hx, hz, hy⟩ := cds_at (g := g) (P := P) (j := j) rfl rfl rfl hcl
    have ht6 : t < 6 := Tl_lt (List.mem_of_getElem? ht)
    have hm1 := m1_fr (M := M) (j := j) (c := c)
    have hs1 := hs.fr hm1
    have hti : c / (stP P (eX P) j).length / (stP P (eZ P) j).length / (stP P (eY P) j).length < 6 := by
      rcases Nat.lt_or_ge (c / (stP P (eX P) j).length / (stP P (eZ P) j).length / (stP P (eY P) j).length) (Tl g j).length with w | w
      · omega
      · rw [List.getElem?_eq_none w] at ht; cases ht
    have r1 : ∀ h, h ≠ 29 → h ≠ 47 → m1M M j c h = M h := fun h a b => m1_row ⟨a, b⟩
    have hSB := Rn_le (rn_setBox (np := np) (M := m1M M j c) (L := L) (p := j) (c := c) (x := x) (y := y) (z := z) (t := t) hj6 (by omega) lx.2 (by omega) ly.2 (by omega) lz.2 (by omega) (by rw [r1 50 (by omega) (by omega)]; exact x1) (by rw [r1 51 (by omega) (by omega)]; exact y1) (by rw [r1 52 (by omega) (by omega)]; exact z1) (by rw [r1 53 (by omega) (by omega)]; exact blk_at x2 hx) (by rw [r1 55 (by omega) (by omega)]; exact blk_at z2 hz) (by rw [r1 54 (by omega) (by omega)]; exact blk_at y2 hy) (by rw [r1 49 (by omega) (by omega)]; exact blk_at t2 ht) hti ht6 0) (show 0 + 1 ≤ d + 4 by omega)
    have hF := Rn_le (rn_fits (np := np) (M := bxM (m1M M j c) j t x y z) (L := L) hj6 0) (show 0 + 3 ≤ d + 4 by omega)
    have hps := bx_ps cg hj t x y z
    have h24 : x ≤ 12 ∧ y ≤ 12 ∧ z ≤ 12 := by
      have q : ∀ a : Nat → Nat, (∀ i, P i 0 = 1 → a i ≤ 12) → ∀ x, x ∈ stP P a j → x ≤ 12 := fun a ha x hx => by
        rcases (stP_mem j).mp hx with w | ⟨q, _, q2, q3⟩
        · omega
        · rw [← q3]
          exact ha q (by rcases (hB q).1 with w | w; exact absurd w q2; exact w)
      exact ⟨q _ (fun i hi => (hB.lb cg hi).1) x (List.mem_of_getElem? hx), q _ (fun i hi => (hB.lb cg hi).2.1) y (List.mem_of_getElem? hy), q _ (fun i hi => (hB.lb cg hi).2.2) z (List.mem_of_getElem? hz)⟩
    have hfit : ftM (bxM (m1M M j c) j t x y z) j ↔ fitA g P j (bx g j t x y z) := by
      rw [fit_iff G hj6 rfl hps.1]
      exact fit_m cg (hs1.fr bx_fr) hB (bx_rp (m1_rp hP hPj) hj6) hj (bx_mr hs1 hj) rfl hps.1 ht6 ⟨by show x + dW g j t ≤ 24; omega, by show y + dH g j t ≤ 24; omega, by show z + dD g j t ≤ 24; omega⟩
    have h2l : bxM (m1M M j c) j t x y z 21 5 = nI s.1 := by rw [bx_29 (by omega), r1 21 (by omega) (by omega)]; exact h5
    have h2n : bxM (m1M M j c) j t x y z 21 3 = nI (g 7 0) := by rw [bx_29 (by omega), r1 21 (by omega) (by omega)]; exact hs.1.2.2.2
    have hsle := hS.1
    have hslt : s.1 < g 9 0 := by unfold enA at hen; omega
    rw [lvF_cons hbx] at hN hE
    by_cases w : fitA g P j (bx g j t x y z)
    · rw [zi_t (hfit.mpr w)] at hF
      have GP := good_set G hj6 rfl hps.1 w
      have BP := Bn_set hB hj rfl hps.1 ht6 w.1
      have hS' : Sn g (s.1 + 1, s.2) := ⟨hslt, hS.2⟩
      have P3 : RMp 6 (setP P j (bx g j t x y z)) (m3M M j c t x y z 1 (s.1 + 1)) := m3_rp1 hs hP hPj hj hj6 rfl
      have s3 := hs.fr (m3_fr (M := M) (j := j) (c := c) (t := t) (x := x) (y := y) (z := z) (v := 1) (m := s.1 + 1))
      have b3 : RMb g (s.1 + 1, s.2) (m3M M j c t x y z 1 (s.1 + 1)) L := hb.c rfl (m3_21 (by omega)) (m3_21 (by omega)) (fun h a b => m3_row (by omega))
      have l3 : LvB g P j (m3M M j c t x y z 1 (s.1 + 1)) := hl.c (fun h a b => m3_row (by omega))
      by_cases we : s.1 + 1 = g 9 0
      · have e1 : stp (srch g r (j + 1)) g j P s (bx g j t x y z) = jdg g (setP P j (bx g j t x y z)) (s.1 + 1, s.2) := by
          unfold stp
          rw [cIf_f hen, cIf_t w, cIf_t (show enA g (s.1 + 1, s.2) from by unfold enA; show g 9 0 ≤ s.1 + 1; omega)]
        have ej : enA g (jdg g (setP P j (bx g j t x y z)) (s.1 + 1, s.2)) := by unfold enA; rw [jdg_1]; show g 9 0 ≤ s.1 + 1; omega
        rw [e1, lvF_en ej] at hE
        have hJ := Rn_le (rn_judge (np := np) (M := m3M M j c t x y z 1 (s.1 + 1)) (L := L) hn6.2 s3.1.2.2.2 0) (show 0 ≤ d + 4 by omega)
        refine sg_B (n := 0) hj6 t1 x1 y1 z1 hprod (by omega) h47 hcl (by omega) (by omega) h2l hSB hF we hJ (fun v3 v4 v5 v6 => ?_)
        obtain ⟨f1, f2, f3, f4, f5⟩ := jg_fr (n := g 7 0) (M := m3M M j c t x y z 1 (s.1 + 1)) (L := L) j
        exact hE _ _ _ _ _ _ ej ⟨jg_rm cg s3 BP P3 hS' b3, by rw [f5, m3_5, jdg_1], m3_fr.tr f1, f2⟩
      · have en' : ¬ enA g (s.1 + 1, s.2) := by unfold enA; show ¬ g 9 0 ≤ s.1 + 1; omega
        have e1 : stp (srch g r (j + 1)) g j P s (bx g j t x y z) = srch g r (j + 1) (setP P j (bx g j t x y z)) (s.1 + 1, s.2) := by
          unfold stp
          rw [cIf_f hen, cIf_t w, cIf_f en']
        rw [e1] at hN hE
        cases r with
        | zero =>
          have hJ := Rn_le (rn_judge (np := np) (M := m3M M j c t x y z 1 (s.1 + 1)) (L := L) hn6.2 s3.1.2.2.2 0) (show 0 ≤ d + 4 by omega)
          refine sg_C hj6 t1 x1 y1 z1 hprod (by omega) h47 hcl (by omega) (by omega) h2l hSB hF we (by omega) hn6.2 h2n (by omega) hJ (fun v3 v4 v5 v6 => ?_)
          have hk := jg_rm cg s3 BP P3 hS' b3
          obtain ⟨f1, f2, f3, f4, f5⟩ := jg_fr (n := g 7 0) (M := m3M M j c t x y z 1 (s.1 + 1)) (L := L) j
          have e5 : jgM (g 7 0) (m3M M j c t x y z 1 (s.1 + 1)) L 21 5 = nI (jdg g (setP P j (bx g j t x y z)) (s.1 + 1, s.2)).1 := by rw [f5, m3_5, jdg_1]
          have P5 : RMp j P (jgM (g 7 0) (m3M M j c t x y z 1 (s.1 + 1)) L) := fun i hi hx => by
            have q := P3 i hi (by omega)
            rw [setP_n hx] at q
            exact ⟨by rw [f3 29 (by omega) (by omega)]; exact q.1, fun w => mRow_c (q.2 w) (fun h a b => by rw [f3 h (by omega) (by omega)])⟩
          have l5 : LvB g P j (jgM (g 7 0) (m3M M j c t x y z 1 (s.1 + 1)) L) := l3.c (fun h a b => f4 h (by omega) (by omega))
          have c5 : jgM (g 7 0) (m3M M j c t x y z 1 (s.1 + 1)) L 47 j = nI (c + 1) := by rw [f4 47 (by omega) (by omega), m3_47]
          have FF : FR j M (jgM (g 7 0) (m3M M j c t x y z 1 (s.1 + 1)) L) := m3_fr.tr f1
          have ss5 := hs.fr FF
          show Ev (d + 5) mX6_pack 77 _ [] (mk np (jgM (g 7 0) (m3M M j c t x y z 1 (s.1 + 1)) L) (jgL (g 7 0) (m3M M j c t x y z 1 (s.1 + 1)) L)) Q
          generalize jgM (g 7 0) (m3M M j c t x y z 1 (s.1 + 1)) L = M5 at *
          generalize jgL (g 7 0) (m3M M j c t x y z 1 (s.1 + 1)) L = L5 at *
          refine ih (c + 1) (by omega) _ M5 L5 v3 v4 v5 v6 ⟨jdg_Sn hS' BP, (by unfold enA; rw [jdg_1]; exact en'), ss5, P5, Or.inr hk, e5, l5, c5⟩ ?_ ?_
          · intro M' L' v3 v4 v5 v6 ne P' ps
            exact hN _ _ _ _ _ _ ne P' (ps.tr rfl (Nat.le_refl _) FF f2)
          · intro M' L' v3 v4 v5 v6 en ps
            exact hE _ _ _ _ _ _ en (ps.tr rfl (Nat.le_refl _) FF f2)
        | succ r =>
          obtain ⟨M5, hR, l5, c5, f5⟩ := mb_lv (np := np) (L := L) cg s3 BP P3 (show j + 1 ≤ 6 by omega) (show j + 1 < g 7 0 by omega) (d + 3)
          refine sg_D hj6 t1 x1 y1 z1 hprod (by omega) h47 hcl (by omega) (by omega) h2l hSB hF we (by omega) hn6.2 h2n (by omega) hR (fun v3 v4 v5 v6 => ?_)
          have F5 : FR (j + 1) (m3M M j c t x y z 1 (s.1 + 1)) M5 := (FR.rf _ _).fb (Nat.le_refl _) f5
          have row5 : ∀ h, h < 47 → M5 h = m3M M j c t x y z 1 (s.1 + 1) h := fun h hh => f5.row (by omega)
          refine hIH r rfl (j + 1) (setP P j (bx g j t x y z)) (by omega) GP BP (cds g (setP P j (bx g j t x y z)) (j + 1)).length 0 (by omega) (s.1 + 1, s.2) M5 L v3 v4 v5 v6 ⟨hS', en', s3.fr F5, fun i hi _ => ⟨by rw [row5 29 (by omega)]; exact (P3 i hi (by omega)).1, fun w => mRow_c ((P3 i hi (by omega)).2 w) (fun h a b => by rw [row5 h (by omega)])⟩, b3.c rfl (by rw [row5 21 (by omega)]) (by rw [row5 21 (by omega)]) (fun h a b => row5 h (by omega)), by rw [row5 21 (by omega)]; exact m3_5, l5, c5⟩ ?_ ?_
          · intro M' L' v3 v4 v5 v6 ne P' ps
            rw [lvF_0] at ne ps
            rw [pk_m1]
            have FF : FR j M M' := (m3_fr.tr (F5.lo (by omega))).tr (ps.2.2.1.lo (by omega))
            have l' : LvB g P j M' := (l3.fr hj6 (by omega) F5).fr hj6 (by omega) ps.2.2.1
            have c' : M' 47 j = nI (c + 1) := by
              rw [ps.2.2.1.ow (q := j) (by omega) (Or.inl ⟨Or.inl rfl, rfl⟩), F5.ow (q := j) (by omega) (Or.inl ⟨Or.inl rfl, rfl⟩), m3_47]
            have Pj : RMp j P M' := fun i hi hx => by
              have q := P' i hi (by omega)
              rw [setP_n hx] at q
              exact q
            refine ih (c + 1) (by omega) _ M' L' v3 v4 v5 v6 ⟨srch_Sn cg (r + 1) (j + 1) _ _ (by omega) BP hS', ne, hs.fr FF, Pj, Or.inr ps.1, ps.2.1, l', c'⟩ ?_ ?_
            · intro M'' L'' v3 v4 v5 v6 ne P'' ps'
              exact hN _ _ _ _ _ _ ne P'' (ps'.tr rfl (Nat.le_refl _) FF ps.2.2.2)
            · intro M'' L'' v3 v4 v5 v6 en ps'
              exact hE _ _ _ _ _ _ en (ps'.tr rfl (Nat.le_refl _) FF ps.2.2.2)
          · intro M' L' v3 v4 v5 v6 en ps
            rw [lvF_0] at en ps
            rw [lvF_en en] at hE
            exact hE _ _ _ _ _ _ en (ps.tr rfl (by omega) (m3_fr.tr (F5.lo (by omega))) (fun _ _ => rfl))
    · rw [zi_f (fun q => w (hfit.mp q))] at hF
      rw [stp_nf w] at hN hE
      refine sg_A (n := 0) hj6 t1 x1 y1 z1 hprod (by omega) h47 hcl (by omega) (show g 9 0 < 2 ^ 30 by omega) h2l hSB hF (fun v3 v4 v5 v6 => ?_)
      have FF := m3_fr (M := M) (j := j) (c := c) (t := t) (x := x) (y := y) (z := z) (v := 0) (m := s.1)
      refine ih (c + 1) (by omega) s (m3M M j c t x y z 0 s.1) L v3 v4 v5 v6 ⟨hS, hen, hs.fr FF, m3_rp hP hPj hj6, hb.c rfl (m3_21 (by omega)) (m3_21 (by omega)) (fun h a b => m3_row (by omega)), m3_5, hl.c (fun h a b => m3_row (by omega)), m3_47⟩ ?_ ?_
      · intro M' L' v3 v4 v5 v6 ne P' ps
        exact hN _ _ _ _ _ _ ne P' (ps.tr rfl (Nat.le_refl _) FF (fun _ _ => rfl))
      · intro M' L' v3 v4 v5 v6 en ps
        exact hE _ _ _ _ _ _ en (ps.tr rfl (Nat.le_refl _) FF (fun _ _ => rfl))
theorem lv_all {g : Nat → Nat → Nat} (cg : Cg g) {np d : Nat} {Q : zCf → Prop} : ∀ r, LV g np d r Q
  | 0 => lv_step cg (fun r' h => absurd h (by omega))
  | r + 1 => lv_step cg (fun r' h => by
    obtain rfl : r = r' := by omega
    exact lv_all cg r)
