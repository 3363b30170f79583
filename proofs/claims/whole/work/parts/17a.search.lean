/-! ===== Search: what does not recur ===== -/
theorem cellI (z x : Nat) : nI z * 12 + nI x = nI (z * 12 + x) := by
  rw [show (12 : Int32) = nI 12 from by decide, pk_mul, nI_add]
theorem zlt_f {k t f : Nat} (hk : k < 2 ^ 31) : zbr .lt (nI k) 0 t f = f := if_neg (nI_pos hk)
def endd (M : Nat → Nat → Int32) : Prop := ¬ M 11 8 < M 11 7
def lnA (f : Nat → Int32) (a : Nat) : Int32 := match a with | 0 => f 5 | 1 => f 6 | _ => f 7
def stS (M : Nat → Nat → Int32) (a : Nat) : Nat → Int32
  | 0 => 1
  | i + 1 => if M (14 + i) 0 = 0 then stS M a i else stS M a i ||| ((1 : Int32) <<< ((nOn (M (14 + i)) a + lnA (M (14 + i)) a) &&& 31))
def okc (M : Nat → Nat → Int32) (j z x : Nat) : Prop := M 20 (z * 12 + x) = M (14 + j) 9
def frb (M : Nat → Nat → Int32) (j X Z Wd Dp : Nat) : Prop := ∀ z, Z ≤ z → z < Z + Dp → ∀ x, X ≤ x → x < X + Wd → okc M j z x
def rc (X Z Wd z x k : Nat) : Prop := ∃ z' x', k = z' * 12 + x' ∧ X ≤ x' ∧ x' < X + Wd ∧ (Z ≤ z' ∧ z' < z ∨ Z ≤ z' ∧ z' = z ∧ x' < x)
noncomputable def hst (M : Nat → Nat → Int32) (P : Nat → Prop) (v : Int32) : Nat → Nat → Int32 := fun h => if h = 20 then (fun k => @ite _ (P k) (Classical.propDecidable _) v (M 20 k)) else M h
theorem hst_n {M : Nat → Nat → Int32} {P : Nat → Prop} {v : Int32} {h : Nat} (hn : h ≠ 20) : hst M P v h = M h := if_neg hn
theorem hst_up {M : Nat → Nat → Int32} {P P' : Nat → Prop} {v : Int32} {k0 : Nat} (hp : ∀ k, P' k ↔ P k ∨ k = k0) : up2 (hst M P v) 20 k0 v = hst M P' v := by
  funext h k
  by_cases hh : h = 20
  · subst hh
    rw [up2_s]
    simp only [hst, if_true, upd]
    by_cases h1 : k = k0
    · rw [if_pos h1, if_pos ((hp k).mpr (Or.inr h1))]
    · rw [if_neg h1]
      by_cases h2 : P k
      · rw [if_pos h2, if_pos ((hp k).mpr (Or.inl h2))]
      · rw [if_neg h2, if_neg (fun q => ((hp k).mp q).elim h2 h1)]
  · rw [up2_n hh, hst_n hh, hst_n hh]
theorem rc_step {X Z Wd z x : Nat} (hz : Z ≤ z) (hx : X ≤ x) (hw : x < X + Wd) (k : Nat) : rc X Z Wd z (x + 1) k ↔ rc X Z Wd z x k ∨ k = z * 12 + x := by
  constructor
  · rintro ⟨z', x', h1, h2, h3, h4⟩
    rcases h4 with h4 | ⟨h4, h5, h6⟩
    · exact Or.inl ⟨z', x', h1, h2, h3, Or.inl h4⟩
    · rcases Nat.lt_or_ge x' x with q | q
      · exact Or.inl ⟨z', x', h1, h2, h3, Or.inr ⟨h4, h5, q⟩⟩
      · obtain rfl : x' = x := by omega
        subst h5
        exact Or.inr h1
  · rintro (⟨z', x', h1, h2, h3, h4⟩ | h)
    · refine ⟨z', x', h1, h2, h3, ?_⟩
      rcases h4 with h4 | ⟨h4, h5, h6⟩
      · exact Or.inl h4
      · exact Or.inr ⟨h4, h5, by omega⟩
    · exact ⟨z, x, h, hx, hw, Or.inr ⟨hz, rfl, by omega⟩⟩
theorem rc_row {X Z Wd z : Nat} (hz : Z ≤ z) : rc X Z Wd z (X + Wd) = rc X Z Wd (z + 1) X := by
  funext k
  apply propext
  constructor
  · rintro ⟨z', x', h1, h2, h3, h4⟩
    exact ⟨z', x', h1, h2, h3, Or.inl (by omega)⟩
  · rintro ⟨z', x', h1, h2, h3, h4⟩
    refine ⟨z', x', h1, h2, h3, ?_⟩
    rcases h4 with h4 | h4
    · rcases Nat.lt_or_ge z' z with q | q
      · exact Or.inl (by omega)
      · exact Or.inr (by omega)
    · exact absurd h4 (by omega)
theorem hst_0 {M : Nat → Nat → Int32} {X Z Wd : Nat} {v : Int32} : hst M (rc X Z Wd Z X) v = M := by
  funext h
  unfold hst
  split
  · next hh =>
    subst hh
    funext k
    exact if_neg (by rintro ⟨z', x', h1, h2, h3, h4⟩; omega)
  · rfl

set_option maxHeartbeats 4000000 in
theorem rn_ended {np : Nat} {M : Nat → Nat → Int32} {L : Nat → Int64} (d : Nat) : Rn d mX3_hasEnded [.ref 11] (mk np M L) (some (.int (zi (endd M)))) (mk np M L) := by
  unfold Rn
  refine ev_s rfl ?_
  refine ev_gf (rd np M L (by omega) rfl) rfl rfl rfl ?_
  refine ev_s rfl ?_
  refine ev_gf (rd np M L (by omega) rfl) rfl rfl rfl ?_
  refine ev_ic rfl rfl (ev_br (zb_lt _ _ _ _) (fun c1 => ?_) (fun c1 => ?_))
  · show Ev _ _ 15 _ _ _ _
    refine ev_ik (v := 0) rfl (by decide) ?_
    refine ev_rz rfl rfl (by decide) ?_ ?_
    · exact some_i (zi_f (fun h => h c1)).symm
    · rfl
  · show Ev _ _ 11 _ _ _ _
    refine ev_ik (v := 1) rfl (by decide) ?_
    refine ev_s rfl ?_
    refine ev_rz rfl rfl (by decide) ?_ ?_
    · exact some_i (zi_t c1).symm
    · rfl
set_option maxHeartbeats 4000000 in
theorem lp_st0 {np : Nat} {M : Nat → Nat → Int32} {L : Nat → Int64}  (d : Nat) : ∀ k i, i + k = 6 → ∀ v4 : Option Value, ∀ v5 : Option Value, Ev (d + 1) mX3_startsOn 4 [some (.ref 11), some (.int 0), some (.int (stS M 0 i)), some (.int (nI i)), v4, v5] [] (mk np M L) (Qr mX3_startsOn (some (.int (stS M 0 6))) (mk np M L)) := by
  intro k
  induction k with
  | zero =>
    intro i hik v4 v5 
    obtain rfl : i = 6 := by omega
    iterate 2 refine ev_s rfl ?_
    refine ev_gf (rd np M L (by omega) rfl) rfl rfl rfl ?_
    refine ev_gf (rd np M L (by omega) rfl) rfl rfl rfl ?_
    refine ev_al (v := 6) (rd np M L (by omega) rfl) rfl rfl rfl ?_
    refine ev_ic rfl rfl ?_
    rw [show zbr .ge (nI 6) 6 87 16 = 87 from zge_t (n := 6) (by decide) (by omega) (by decide)]
    refine ev_s rfl ?_
    refine ev_ri rfl rfl ?_ ?_
    · rfl
    · rfl
  | succ k ih =>
    intro i hik v4 v5 
    have hi : i < 6 := by omega
    iterate 2 refine ev_s rfl ?_
    refine ev_gf (rd np M L (by omega) rfl) rfl rfl rfl ?_
    refine ev_gf (rd np M L (by omega) rfl) rfl rfl rfl ?_
    refine ev_al (v := 6) (rd np M L (by omega) rfl) rfl rfl rfl ?_
    refine ev_ic rfl rfl ?_
    rw [show zbr .ge (nI i) 6 87 16 = 16 from zge_f (n := 6) (by decide) hi (by decide)]
    refine ev_s rfl ?_
    refine ev_gf (rd np M L (by omega) rfl) rfl rfl rfl ?_
    refine ev_gf (rd np M L (by omega) rfl) rfl rfl rfl ?_
    refine ev_s rfl ?_
    refine ev_aa (v := (.ref (14 + i))) (rd np M L (by omega) rfl) rfl rfl (zin_nI (by omega) (by decide)) (by rw [if_pos (by omega)]; rfl) ?_
    refine ev_s (ls' := [some (.ref 11), some (.int 0), some (.int (stS M 0 i)), some (.int (nI i)), some (.ref (14 + i)), v5]) rfl ?_
    refine ev_s rfl ?_
    refine ev_gf (rd np M L (by omega) (cel_trial (by omega) _ _)) rfl rfl rfl ?_
    refine ev_if rfl rfl (ev_br (zb_eq _ _ _ _) (fun c1 => ?_) (fun c1 => ?_))
    · show Ev _ _ 81 _ _ _ _
      refine ev_inc (y := 1) (v := nI (i + 1)) (ls' := [some (.ref 11), some (.int 0), some (.int (stS M 0 i)), some (.int (nI (i + 1))), some (.ref (14 + i)), v5]) rfl rfl (by decide) (nI_1 _) rfl ?_
      refine ev_s rfl ?_
      have e9 := ih (i + 1) (by omega) (some (.ref (14 + i))) (v5)
      rw [show stS M 0 (i + 1) = _ from if_pos c1] at e9
      exact e9
    · show Ev _ _ 35 _ _ _ _
      refine ev_s rfl ?_
      refine ev_if rfl rfl ?_
      show Ev _ _ 39 _ _ _ _
      refine ev_s rfl ?_
      refine ev_gf (rd np M L (by omega) (cel_trial (by omega) _ _)) rfl rfl rfl ?_
      refine ev_s rfl ?_
      refine ev_s (ls' := [some (.ref 11), some (.int 0), some (.int (stS M 0 i)), some (.int (nI i)), some (.ref (14 + i)), some (.int (M (14 + i) 5))]) rfl ?_
      refine ev_s rfl ?_
      refine ev_ik (v := 1) rfl (by decide) ?_
      iterate 2 refine ev_s rfl ?_
      refine ev_cv (vs := [(.ref (14 + i)), (.int 0)]) (rest := [(.int 1), (.int (stS M 0 i))]) (rv := (some (.int (nOn (M (14 + i)) 0)))) rfl rfl rfl (rd np M L (by omega) (cel_trial (by omega) _ _)) rfl rfl rfl rfl (rn_numberOn (t := 0) (f := M (14 + i)) (rd np M L (by omega) (cel_trial (by omega) _ _)) (by omega) _) ?_
      show Ev _ _ 75 _ [(.int (nOn (M (14 + i)) 0)), (.int 1), (.int (stS M 0 i))] _ _
      iterate 4 refine ev_s rfl ?_
      refine ev_s (ls' := [some (.ref 11), some (.int 0), some (.int ((stS M 0 i) ||| (1 <<< (((nOn (M (14 + i)) 0) + (M (14 + i) 5)) &&& 31)))), some (.int (nI i)), some (.ref (14 + i)), some (.int (M (14 + i) 5))]) rfl ?_
      refine ev_inc (y := 1) (v := nI (i + 1)) (ls' := [some (.ref 11), some (.int 0), some (.int ((stS M 0 i) ||| (1 <<< (((nOn (M (14 + i)) 0) + (M (14 + i) 5)) &&& 31)))), some (.int (nI (i + 1))), some (.ref (14 + i)), some (.int (M (14 + i) 5))]) rfl rfl (by decide) (nI_1 _) rfl ?_
      refine ev_s rfl ?_
      have e9 := ih (i + 1) (by omega) (some (.ref (14 + i))) (some (.int (M (14 + i) 5)))
      rw [show stS M 0 (i + 1) = _ from if_neg c1] at e9
      exact e9
set_option maxHeartbeats 4000000 in
theorem rn_st0 {np : Nat} {M : Nat → Nat → Int32} {L : Nat → Int64}  (d : Nat) : Rn (d + 1) mX3_startsOn [(.ref 11), (.int 0)] (mk np M L) (some (.int (stS M 0 6))) (mk np M L) := by
  unfold Rn
  refine ev_ik (v := 1) rfl (by decide) ?_
  refine ev_s (ls' := [some (.ref 11), some (.int 0), some (.int 1), none, none, none]) rfl ?_
  refine ev_ik (v := 0) rfl (by decide) ?_
  refine ev_s (ls' := [some (.ref 11), some (.int 0), some (.int 1), some (.int 0), none, none]) rfl ?_
  exact lp_st0 d 6 0 (by omega) none none
set_option maxHeartbeats 4000000 in
theorem lp_st1 {np : Nat} {M : Nat → Nat → Int32} {L : Nat → Int64}  (d : Nat) : ∀ k i, i + k = 6 → ∀ v4 : Option Value, ∀ v5 : Option Value, Ev (d + 1) mX3_startsOn 4 [some (.ref 11), some (.int 1), some (.int (stS M 1 i)), some (.int (nI i)), v4, v5] [] (mk np M L) (Qr mX3_startsOn (some (.int (stS M 1 6))) (mk np M L)) := by
  intro k
  induction k with
  | zero =>
    intro i hik v4 v5 
    obtain rfl : i = 6 := by omega
    iterate 2 refine ev_s rfl ?_
    refine ev_gf (rd np M L (by omega) rfl) rfl rfl rfl ?_
    refine ev_gf (rd np M L (by omega) rfl) rfl rfl rfl ?_
    refine ev_al (v := 6) (rd np M L (by omega) rfl) rfl rfl rfl ?_
    refine ev_ic rfl rfl ?_
    rw [show zbr .ge (nI 6) 6 87 16 = 87 from zge_t (n := 6) (by decide) (by omega) (by decide)]
    refine ev_s rfl ?_
    refine ev_ri rfl rfl ?_ ?_
    · rfl
    · rfl
  | succ k ih =>
    intro i hik v4 v5 
    have hi : i < 6 := by omega
    iterate 2 refine ev_s rfl ?_
    refine ev_gf (rd np M L (by omega) rfl) rfl rfl rfl ?_
    refine ev_gf (rd np M L (by omega) rfl) rfl rfl rfl ?_
    refine ev_al (v := 6) (rd np M L (by omega) rfl) rfl rfl rfl ?_
    refine ev_ic rfl rfl ?_
    rw [show zbr .ge (nI i) 6 87 16 = 16 from zge_f (n := 6) (by decide) hi (by decide)]
    refine ev_s rfl ?_
    refine ev_gf (rd np M L (by omega) rfl) rfl rfl rfl ?_
    refine ev_gf (rd np M L (by omega) rfl) rfl rfl rfl ?_
    refine ev_s rfl ?_
    refine ev_aa (v := (.ref (14 + i))) (rd np M L (by omega) rfl) rfl rfl (zin_nI (by omega) (by decide)) (by rw [if_pos (by omega)]; rfl) ?_
    refine ev_s (ls' := [some (.ref 11), some (.int 1), some (.int (stS M 1 i)), some (.int (nI i)), some (.ref (14 + i)), v5]) rfl ?_
    refine ev_s rfl ?_
    refine ev_gf (rd np M L (by omega) (cel_trial (by omega) _ _)) rfl rfl rfl ?_
    refine ev_if rfl rfl (ev_br (zb_eq _ _ _ _) (fun c1 => ?_) (fun c1 => ?_))
    · show Ev _ _ 81 _ _ _ _
      refine ev_inc (y := 1) (v := nI (i + 1)) (ls' := [some (.ref 11), some (.int 1), some (.int (stS M 1 i)), some (.int (nI (i + 1))), some (.ref (14 + i)), v5]) rfl rfl (by decide) (nI_1 _) rfl ?_
      refine ev_s rfl ?_
      have e9 := ih (i + 1) (by omega) (some (.ref (14 + i))) (v5)
      rw [show stS M 1 (i + 1) = _ from if_pos c1] at e9
      exact e9
    · show Ev _ _ 35 _ _ _ _
      refine ev_s rfl ?_
      refine ev_if rfl rfl ?_
      show Ev _ _ 47 _ _ _ _
      refine ev_s rfl ?_
      refine ev_ik (v := 1) rfl (by decide) ?_
      refine ev_ic rfl rfl ?_
      show Ev _ _ 52 _ _ _ _
      refine ev_s rfl ?_
      refine ev_gf (rd np M L (by omega) (cel_trial (by omega) _ _)) rfl rfl rfl ?_
      refine ev_s rfl ?_
      refine ev_s (ls' := [some (.ref 11), some (.int 1), some (.int (stS M 1 i)), some (.int (nI i)), some (.ref (14 + i)), some (.int (M (14 + i) 6))]) rfl ?_
      refine ev_s rfl ?_
      refine ev_ik (v := 1) rfl (by decide) ?_
      iterate 2 refine ev_s rfl ?_
      refine ev_cv (vs := [(.ref (14 + i)), (.int 1)]) (rest := [(.int 1), (.int (stS M 1 i))]) (rv := (some (.int (nOn (M (14 + i)) 1)))) rfl rfl rfl (rd np M L (by omega) (cel_trial (by omega) _ _)) rfl rfl rfl rfl (rn_numberOn (t := 1) (f := M (14 + i)) (rd np M L (by omega) (cel_trial (by omega) _ _)) (by omega) _) ?_
      show Ev _ _ 75 _ [(.int (nOn (M (14 + i)) 1)), (.int 1), (.int (stS M 1 i))] _ _
      iterate 4 refine ev_s rfl ?_
      refine ev_s (ls' := [some (.ref 11), some (.int 1), some (.int ((stS M 1 i) ||| (1 <<< (((nOn (M (14 + i)) 1) + (M (14 + i) 6)) &&& 31)))), some (.int (nI i)), some (.ref (14 + i)), some (.int (M (14 + i) 6))]) rfl ?_
      refine ev_inc (y := 1) (v := nI (i + 1)) (ls' := [some (.ref 11), some (.int 1), some (.int ((stS M 1 i) ||| (1 <<< (((nOn (M (14 + i)) 1) + (M (14 + i) 6)) &&& 31)))), some (.int (nI (i + 1))), some (.ref (14 + i)), some (.int (M (14 + i) 6))]) rfl rfl (by decide) (nI_1 _) rfl ?_
      refine ev_s rfl ?_
      have e9 := ih (i + 1) (by omega) (some (.ref (14 + i))) (some (.int (M (14 + i) 6)))
      rw [show stS M 1 (i + 1) = _ from if_neg c1] at e9
      exact e9
set_option maxHeartbeats 4000000 in
theorem rn_st1 {np : Nat} {M : Nat → Nat → Int32} {L : Nat → Int64}  (d : Nat) : Rn (d + 1) mX3_startsOn [(.ref 11), (.int 1)] (mk np M L) (some (.int (stS M 1 6))) (mk np M L) := by
  unfold Rn
  refine ev_ik (v := 1) rfl (by decide) ?_
  refine ev_s (ls' := [some (.ref 11), some (.int 1), some (.int 1), none, none, none]) rfl ?_
  refine ev_ik (v := 0) rfl (by decide) ?_
  refine ev_s (ls' := [some (.ref 11), some (.int 1), some (.int 1), some (.int 0), none, none]) rfl ?_
  exact lp_st1 d 6 0 (by omega) none none
set_option maxHeartbeats 4000000 in
theorem lp_st2 {np : Nat} {M : Nat → Nat → Int32} {L : Nat → Int64}  (d : Nat) : ∀ k i, i + k = 6 → ∀ v4 : Option Value, ∀ v5 : Option Value, Ev (d + 1) mX3_startsOn 4 [some (.ref 11), some (.int 2), some (.int (stS M 2 i)), some (.int (nI i)), v4, v5] [] (mk np M L) (Qr mX3_startsOn (some (.int (stS M 2 6))) (mk np M L)) := by
  intro k
  induction k with
  | zero =>
    intro i hik v4 v5 
    obtain rfl : i = 6 := by omega
    iterate 2 refine ev_s rfl ?_
    refine ev_gf (rd np M L (by omega) rfl) rfl rfl rfl ?_
    refine ev_gf (rd np M L (by omega) rfl) rfl rfl rfl ?_
    refine ev_al (v := 6) (rd np M L (by omega) rfl) rfl rfl rfl ?_
    refine ev_ic rfl rfl ?_
    rw [show zbr .ge (nI 6) 6 87 16 = 87 from zge_t (n := 6) (by decide) (by omega) (by decide)]
    refine ev_s rfl ?_
    refine ev_ri rfl rfl ?_ ?_
    · rfl
    · rfl
  | succ k ih =>
    intro i hik v4 v5 
    have hi : i < 6 := by omega
    iterate 2 refine ev_s rfl ?_
    refine ev_gf (rd np M L (by omega) rfl) rfl rfl rfl ?_
    refine ev_gf (rd np M L (by omega) rfl) rfl rfl rfl ?_
    refine ev_al (v := 6) (rd np M L (by omega) rfl) rfl rfl rfl ?_
    refine ev_ic rfl rfl ?_
    rw [show zbr .ge (nI i) 6 87 16 = 16 from zge_f (n := 6) (by decide) hi (by decide)]
    refine ev_s rfl ?_
    refine ev_gf (rd np M L (by omega) rfl) rfl rfl rfl ?_
    refine ev_gf (rd np M L (by omega) rfl) rfl rfl rfl ?_
    refine ev_s rfl ?_
    refine ev_aa (v := (.ref (14 + i))) (rd np M L (by omega) rfl) rfl rfl (zin_nI (by omega) (by decide)) (by rw [if_pos (by omega)]; rfl) ?_
    refine ev_s (ls' := [some (.ref 11), some (.int 2), some (.int (stS M 2 i)), some (.int (nI i)), some (.ref (14 + i)), v5]) rfl ?_
    refine ev_s rfl ?_
    refine ev_gf (rd np M L (by omega) (cel_trial (by omega) _ _)) rfl rfl rfl ?_
    refine ev_if rfl rfl (ev_br (zb_eq _ _ _ _) (fun c1 => ?_) (fun c1 => ?_))
    · show Ev _ _ 81 _ _ _ _
      refine ev_inc (y := 1) (v := nI (i + 1)) (ls' := [some (.ref 11), some (.int 2), some (.int (stS M 2 i)), some (.int (nI (i + 1))), some (.ref (14 + i)), v5]) rfl rfl (by decide) (nI_1 _) rfl ?_
      refine ev_s rfl ?_
      have e9 := ih (i + 1) (by omega) (some (.ref (14 + i))) (v5)
      rw [show stS M 2 (i + 1) = _ from if_pos c1] at e9
      exact e9
    · show Ev _ _ 35 _ _ _ _
      refine ev_s rfl ?_
      refine ev_if rfl rfl ?_
      show Ev _ _ 47 _ _ _ _
      refine ev_s rfl ?_
      refine ev_ik (v := 1) rfl (by decide) ?_
      refine ev_ic rfl rfl ?_
      show Ev _ _ 60 _ _ _ _
      refine ev_s rfl ?_
      refine ev_gf (rd np M L (by omega) (cel_trial (by omega) _ _)) rfl rfl rfl ?_
      refine ev_s (ls' := [some (.ref 11), some (.int 2), some (.int (stS M 2 i)), some (.int (nI i)), some (.ref (14 + i)), some (.int (M (14 + i) 7))]) rfl ?_
      refine ev_s rfl ?_
      refine ev_ik (v := 1) rfl (by decide) ?_
      iterate 2 refine ev_s rfl ?_
      refine ev_cv (vs := [(.ref (14 + i)), (.int 2)]) (rest := [(.int 1), (.int (stS M 2 i))]) (rv := (some (.int (nOn (M (14 + i)) 2)))) rfl rfl rfl (rd np M L (by omega) (cel_trial (by omega) _ _)) rfl rfl rfl rfl (rn_numberOn (t := 2) (f := M (14 + i)) (rd np M L (by omega) (cel_trial (by omega) _ _)) (by omega) _) ?_
      show Ev _ _ 75 _ [(.int (nOn (M (14 + i)) 2)), (.int 1), (.int (stS M 2 i))] _ _
      iterate 4 refine ev_s rfl ?_
      refine ev_s (ls' := [some (.ref 11), some (.int 2), some (.int ((stS M 2 i) ||| (1 <<< (((nOn (M (14 + i)) 2) + (M (14 + i) 7)) &&& 31)))), some (.int (nI i)), some (.ref (14 + i)), some (.int (M (14 + i) 7))]) rfl ?_
      refine ev_inc (y := 1) (v := nI (i + 1)) (ls' := [some (.ref 11), some (.int 2), some (.int ((stS M 2 i) ||| (1 <<< (((nOn (M (14 + i)) 2) + (M (14 + i) 7)) &&& 31)))), some (.int (nI (i + 1))), some (.ref (14 + i)), some (.int (M (14 + i) 7))]) rfl rfl (by decide) (nI_1 _) rfl ?_
      refine ev_s rfl ?_
      have e9 := ih (i + 1) (by omega) (some (.ref (14 + i))) (some (.int (M (14 + i) 7)))
      rw [show stS M 2 (i + 1) = _ from if_neg c1] at e9
      exact e9
set_option maxHeartbeats 4000000 in
theorem rn_st2 {np : Nat} {M : Nat → Nat → Int32} {L : Nat → Int64}  (d : Nat) : Rn (d + 1) mX3_startsOn [(.ref 11), (.int 2)] (mk np M L) (some (.int (stS M 2 6))) (mk np M L) := by
  unfold Rn
  refine ev_ik (v := 1) rfl (by decide) ?_
  refine ev_s (ls' := [some (.ref 11), some (.int 2), some (.int 1), none, none, none]) rfl ?_
  refine ev_ik (v := 0) rfl (by decide) ?_
  refine ev_s (ls' := [some (.ref 11), some (.int 2), some (.int 1), some (.int 0), none, none]) rfl ?_
  exact lp_st2 d 6 0 (by omega) none none
