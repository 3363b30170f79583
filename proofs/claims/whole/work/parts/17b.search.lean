set_option maxHeartbeats 4000000 in
theorem lp_fbx {np : Nat} {M : Nat → Nat → Int32} {L : Nat → Int64} {j X Z Wd Dp : Nat} (hj : j < 6) (hX : M (14 + j) 8 = nI X) (hZ : M (14 + j) 10 = nI Z) (hW : M (14 + j) 5 = nI Wd) (hDp : M (14 + j) 7 = nI Dp) (hb1 : X + Wd ≤ 12) (hb2 : Z + Dp ≤ 12) (d : Nat) {z : Nat} (hz1 : Z ≤ z) (hz2 : z < Z + Dp) (hK : (∀ x, X ≤ x → x < X + Wd → okc M j z x) → ∀ v4, Ev d mX3_isFreeAndBorne 81 [some (.ref 11), some (.ref (14 + j)), some (.int (nI z)), some (.int (nI (X + Wd))), v4] [] (mk np M L) (Qr mX3_isFreeAndBorne (some (.int (zi (frb M j X Z Wd Dp)))) (mk np M L))) : ∀ k x, x + k = X + Wd → ∀ v4, X ≤ x → (∀ q, X ≤ q → q < x → okc M j z q) → Ev d mX3_isFreeAndBorne 23 [some (.ref 11), some (.ref (14 + j)), some (.int (nI z)), some (.int (nI x)), v4] [] (mk np M L) (Qr mX3_isFreeAndBorne (some (.int (zi (frb M j X Z Wd Dp)))) (mk np M L)) := by
  intro k
  induction k with
  | zero =>
    intro x hxk v4 hx1 hI
    obtain rfl : x = X + Wd := by omega
    iterate 2 refine ev_s rfl ?_
    refine ev_gf (rd np M L (by omega) (cel_trial (by omega) _ _)) rfl rfl rfl ?_
    rw [hX]
    refine ev_s rfl ?_
    refine ev_gf (rd np M L (by omega) (cel_trial (by omega) _ _)) rfl rfl rfl ?_
    rw [hW]
    refine ev_s rfl ?_
    refine ev_ic rfl rfl ?_
    rw [show zbr .ge (nI (X + Wd)) ((nI X) + (nI Wd)) 81 36 = 81 from zge_t (n := X + Wd) (nI_add X Wd) (by omega) (by omega)]
    exact hK (fun q h1 h2 => hI q h1 h2) v4
  | succ k ih =>
    intro x hxk v4 hx1 hI
    have hx2 : x < X + Wd := by omega
    iterate 2 refine ev_s rfl ?_
    refine ev_gf (rd np M L (by omega) (cel_trial (by omega) _ _)) rfl rfl rfl ?_
    rw [hX]
    refine ev_s rfl ?_
    refine ev_gf (rd np M L (by omega) (cel_trial (by omega) _ _)) rfl rfl rfl ?_
    rw [hW]
    refine ev_s rfl ?_
    refine ev_ic rfl rfl ?_
    rw [show zbr .ge (nI x) ((nI X) + (nI Wd)) 81 36 = 36 from zge_f (n := X + Wd) (nI_add X Wd) hx2 (by omega)]
    refine ev_s rfl ?_
    refine ev_bi (v := 12) rfl (by decide) ?_
    iterate 3 refine ev_s rfl ?_
    rw [cellI z x]
    refine ev_s (ls' := [some (.ref 11), some (.ref (14 + j)), some (.int (nI z)), some (.int (nI x)), some (.int (nI (z * 12 + x)))]) rfl ?_
    refine ev_s rfl ?_
    refine ev_if rfl rfl ?_
    rw [show zbr .lt (nI (z * 12 + x)) 0 73 49 = 49 from zlt_f (by omega)]
    iterate 2 refine ev_s rfl ?_
    refine ev_gf (rd np M L (by omega) rfl) rfl rfl rfl ?_
    refine ev_al (v := 144) (rd np M L (by omega) rfl) rfl rfl rfl ?_
    refine ev_ic rfl rfl ?_
    rw [show zbr .ge (nI (z * 12 + x)) 144 73 59 = 59 from zge_f (n := 144) (by decide) (by omega) (by decide)]
    refine ev_s rfl ?_
    refine ev_gf (rd np M L (by omega) rfl) rfl rfl rfl ?_
    refine ev_s rfl ?_
    refine ev_ia (rd np M L (by omega) rfl) rfl (zin_nI (by omega) (by decide)) ?_
    refine ev_s rfl ?_
    refine ev_gf (rd np M L (by omega) (cel_trial (by omega) _ _)) rfl rfl rfl ?_
    refine ev_ic rfl rfl (ev_br (zb_eq _ _ _ _) (fun c1 => ?_) (fun c1 => ?_))
    · show Ev _ _ 75 _ _ _ _
      refine ev_inc (y := 1) (v := nI (x + 1)) (ls' := [some (.ref 11), some (.ref (14 + j)), some (.int (nI z)), some (.int (nI (x + 1))), some (.int (nI (z * 12 + x)))]) rfl rfl (by decide) (nI_1 _) rfl ?_
      refine ev_s rfl ?_
      exact ih (x + 1) (by omega) _ (by omega) (fun q hq1 hq2 => by
        rcases Nat.lt_or_ge q x with h | h
        · exact hI q hq1 h
        · obtain rfl : q = x := by omega
          exact c1)
    · show Ev _ _ 73 _ _ _ _
      refine ev_ik (v := 0) rfl (by decide) ?_
      refine ev_rz rfl rfl (by decide) ?_ ?_
      · exact some_i (zi_f (fun h => c1 (h z hz1 hz2 x hx1 hx2))).symm
      · rfl
set_option maxHeartbeats 4000000 in
theorem lp_fbz {np : Nat} {M : Nat → Nat → Int32} {L : Nat → Int64} {j X Z Wd Dp : Nat} (hj : j < 6) (hX : M (14 + j) 8 = nI X) (hZ : M (14 + j) 10 = nI Z) (hW : M (14 + j) 5 = nI Wd) (hDp : M (14 + j) 7 = nI Dp) (hb1 : X + Wd ≤ 12) (hb2 : Z + Dp ≤ 12) (d : Nat) : ∀ k z, z + k = Z + Dp → ∀ v3 v4, Z ≤ z → (∀ q, Z ≤ q → q < z → ∀ x, X ≤ x → x < X + Wd → okc M j q x) → Ev d mX3_isFreeAndBorne 5 [some (.ref 11), some (.ref (14 + j)), some (.int (nI z)), v3, v4] [] (mk np M L) (Qr mX3_isFreeAndBorne (some (.int (zi (frb M j X Z Wd Dp)))) (mk np M L)) := by
  intro k
  induction k with
  | zero =>
    intro z hzk v3 v4 hz1 hI
    obtain rfl : z = Z + Dp := by omega
    iterate 2 refine ev_s rfl ?_
    refine ev_gf (rd np M L (by omega) (cel_trial (by omega) _ _)) rfl rfl rfl ?_
    rw [hZ]
    refine ev_s rfl ?_
    refine ev_gf (rd np M L (by omega) (cel_trial (by omega) _ _)) rfl rfl rfl ?_
    rw [hDp]
    refine ev_s rfl ?_
    refine ev_ic rfl rfl ?_
    rw [show zbr .ge (nI (Z + Dp)) ((nI Z) + (nI Dp)) 87 18 = 87 from zge_t (n := Z + Dp) (nI_add Z Dp) (by omega) (by omega)]
    refine ev_ik (v := 1) rfl (by decide) ?_
    refine ev_rz rfl rfl (by decide) ?_ ?_
    · exact some_i (zi_t (fun q h1 h2 => hI q h1 h2)).symm
    · rfl
  | succ k ih =>
    intro z hzk v3 v4 hz1 hI
    have hz2 : z < Z + Dp := by omega
    iterate 2 refine ev_s rfl ?_
    refine ev_gf (rd np M L (by omega) (cel_trial (by omega) _ _)) rfl rfl rfl ?_
    rw [hZ]
    refine ev_s rfl ?_
    refine ev_gf (rd np M L (by omega) (cel_trial (by omega) _ _)) rfl rfl rfl ?_
    rw [hDp]
    refine ev_s rfl ?_
    refine ev_ic rfl rfl ?_
    rw [show zbr .ge (nI z) ((nI Z) + (nI Dp)) 87 18 = 18 from zge_f (n := Z + Dp) (nI_add Z Dp) hz2 (by omega)]
    refine ev_s rfl ?_
    refine ev_gf (rd np M L (by omega) (cel_trial (by omega) _ _)) rfl rfl rfl ?_
    rw [hX]
    refine ev_s (ls' := [some (.ref 11), some (.ref (14 + j)), some (.int (nI z)), some (.int (nI X)), v4]) rfl ?_
    refine lp_fbx hj hX hZ hW hDp hb1 hb2 d hz1 hz2 (fun hall v4 => ?_) Wd X (by omega) _ (by omega) (fun q h1 h2 => absurd h2 (by omega))
    refine ev_inc (y := 1) (v := nI (z + 1)) (ls' := [some (.ref 11), some (.ref (14 + j)), some (.int (nI (z + 1))), some (.int (nI (X + Wd))), v4]) rfl rfl (by decide) (nI_1 _) rfl ?_
    refine ev_s rfl ?_
    exact ih (z + 1) (by omega) _ _ (by omega) (fun q hq1 hq2 => by
      rcases Nat.lt_or_ge q z with h | h
      · exact hI q hq1 h
      · obtain rfl : q = z := by omega
        exact hall)
set_option maxHeartbeats 4000000 in
theorem rn_fb {np : Nat} {M : Nat → Nat → Int32} {L : Nat → Int64} {j X Z Wd Dp : Nat} (hj : j < 6) (hX : M (14 + j) 8 = nI X) (hZ : M (14 + j) 10 = nI Z) (hW : M (14 + j) 5 = nI Wd) (hDp : M (14 + j) 7 = nI Dp) (hb1 : X + Wd ≤ 12) (hb2 : Z + Dp ≤ 12) (d : Nat) : Rn d mX3_isFreeAndBorne [.ref 11, .ref (14 + j)] (mk np M L) (some (.int (zi (frb M j X Z Wd Dp)))) (mk np M L) := by
  unfold Rn
  refine ev_s rfl ?_
  refine ev_gf (rd np M L (by omega) (cel_trial (by omega) _ _)) rfl rfl rfl ?_
  rw [hZ]
  refine ev_s (ls' := [some (.ref 11), some (.ref (14 + j)), some (.int (nI Z)), none, none]) rfl ?_
  exact lp_fbz hj hX hZ hW hDp hb1 hb2 d Dp Z (by omega) _ _ (by omega) (fun q h1 h2 => absurd h2 (by omega))
