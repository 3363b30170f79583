set_option maxHeartbeats 4000000 in
theorem lp_shx {np : Nat} {M : Nat → Nat → Int32} {L : Nat → Int64} {j X Z Wd Dp : Nat} (hj : j < 6) (hX : M (14 + j) 8 = nI X) (hZ : M (14 + j) 10 = nI Z) (hW : M (14 + j) 5 = nI Wd) (hDp : M (14 + j) 7 = nI Dp) (hb1 : X + Wd ≤ 12) (hb2 : Z + Dp ≤ 12) {v : Int32} (d : Nat) {z : Nat} (hz1 : Z ≤ z) (hz2 : z < Z + Dp) (hK : ∀ v5, Ev d mX3_setHeights 76 [some (.ref 11), some (.ref (14 + j)), some (.int v), some (.int (nI z)), some (.int (nI (X + Wd))), v5] [] (mk np (hst M (rc X Z Wd z (X + Wd)) v) L) (Qr mX3_setHeights none (mk np (hst M (rc X Z Wd (Z + Dp) X) v) L))) : ∀ k x, x + k = X + Wd → ∀ v5, X ≤ x → Ev d mX3_setHeights 24 [some (.ref 11), some (.ref (14 + j)), some (.int v), some (.int (nI z)), some (.int (nI x)), v5] [] (mk np (hst M (rc X Z Wd z x) v) L) (Qr mX3_setHeights none (mk np (hst M (rc X Z Wd (Z + Dp) X) v) L)) := by
  intro k
  induction k with
  | zero =>
    intro x hxk v5 hx1
    obtain rfl : x = X + Wd := by omega
    iterate 2 refine ev_s rfl ?_
    refine ev_gf (rd np (hst M (rc X Z Wd z (X + Wd)) v) L (by omega) ((congrArg (fun r => cel np (14 + j) r (L (14 + j))) (hst_n (by omega))).trans (cel_trial (by omega) _ _))) rfl rfl rfl ?_
    rw [hX]
    refine ev_s rfl ?_
    refine ev_gf (rd np (hst M (rc X Z Wd z (X + Wd)) v) L (by omega) ((congrArg (fun r => cel np (14 + j) r (L (14 + j))) (hst_n (by omega))).trans (cel_trial (by omega) _ _))) rfl rfl rfl ?_
    rw [hW]
    refine ev_s rfl ?_
    refine ev_ic rfl rfl ?_
    rw [show zbr .ge (nI (X + Wd)) ((nI X) + (nI Wd)) 76 38 = 76 from zge_t (n := X + Wd) (nI_add X Wd) (by omega) (by omega)]
    exact hK _
  | succ k ih =>
    intro x hxk v5 hx1
    have hx2 : x < X + Wd := by omega
    iterate 2 refine ev_s rfl ?_
    refine ev_gf (rd np (hst M (rc X Z Wd z x) v) L (by omega) ((congrArg (fun r => cel np (14 + j) r (L (14 + j))) (hst_n (by omega))).trans (cel_trial (by omega) _ _))) rfl rfl rfl ?_
    rw [hX]
    refine ev_s rfl ?_
    refine ev_gf (rd np (hst M (rc X Z Wd z x) v) L (by omega) ((congrArg (fun r => cel np (14 + j) r (L (14 + j))) (hst_n (by omega))).trans (cel_trial (by omega) _ _))) rfl rfl rfl ?_
    rw [hW]
    refine ev_s rfl ?_
    refine ev_ic rfl rfl ?_
    rw [show zbr .ge (nI x) ((nI X) + (nI Wd)) 76 38 = 38 from zge_f (n := X + Wd) (nI_add X Wd) hx2 (by omega)]
    refine ev_s rfl ?_
    refine ev_bi (v := 12) rfl (by decide) ?_
    iterate 3 refine ev_s rfl ?_
    rw [cellI z x]
    refine ev_s (ls' := [some (.ref 11), some (.ref (14 + j)), some (.int v), some (.int (nI z)), some (.int (nI x)), some (.int (nI (z * 12 + x)))]) rfl ?_
    refine ev_s rfl ?_
    refine ev_if rfl rfl ?_
    rw [show zbr .lt (nI (z * 12 + x)) 0 70 52 = 52 from zlt_f (by omega)]
    iterate 2 refine ev_s rfl ?_
    refine ev_gf (rd np (hst M (rc X Z Wd z x) v) L (by omega) ((congrArg (fun r => cel np 11 r (L 11)) (hst_n (by omega))).trans rfl)) rfl rfl rfl ?_
    refine ev_al (v := 144) (rd np (hst M (rc X Z Wd z x) v) L (by omega) rfl) rfl rfl rfl ?_
    refine ev_ic rfl rfl ?_
    rw [show zbr .ge (nI (z * 12 + x)) 144 70 62 = 62 from zge_f (n := 144) (by decide) (by omega) (by decide)]
    refine ev_s rfl ?_
    refine ev_gf (rd np (hst M (rc X Z Wd z x) v) L (by omega) ((congrArg (fun r => cel np 11 r (L 11)) (hst_n (by omega))).trans rfl)) rfl rfl rfl ?_
    iterate 2 refine ev_s rfl ?_
    refine ev_is (hp' := (mk np (hst M (rc X Z Wd z (x + 1)) v) L)) (rd np (hst M (rc X Z Wd z x) v) L (by omega) rfl) rfl (zin_nI (by omega) (by decide)) ((mk_setr rfl rfl rfl).trans (congrArg (fun m => mk np m L) (hst_up (rc_step hz1 hx1 hx2)))) ?_
    refine ev_inc (y := 1) (v := nI (x + 1)) (ls' := [some (.ref 11), some (.ref (14 + j)), some (.int v), some (.int (nI z)), some (.int (nI (x + 1))), some (.int (nI (z * 12 + x)))]) rfl rfl (by decide) (nI_1 _) rfl ?_
    refine ev_s rfl ?_
    exact ih (x + 1) (by omega) _ (by omega)
set_option maxHeartbeats 4000000 in
theorem lp_shz {np : Nat} {M : Nat → Nat → Int32} {L : Nat → Int64} {j X Z Wd Dp : Nat} (hj : j < 6) (hX : M (14 + j) 8 = nI X) (hZ : M (14 + j) 10 = nI Z) (hW : M (14 + j) 5 = nI Wd) (hDp : M (14 + j) 7 = nI Dp) (hb1 : X + Wd ≤ 12) (hb2 : Z + Dp ≤ 12) {v : Int32} (d : Nat) : ∀ k z, z + k = Z + Dp → ∀ v4 v5, Z ≤ z → Ev d mX3_setHeights 5 [some (.ref 11), some (.ref (14 + j)), some (.int v), some (.int (nI z)), v4, v5] [] (mk np (hst M (rc X Z Wd z X) v) L) (Qr mX3_setHeights none (mk np (hst M (rc X Z Wd (Z + Dp) X) v) L)) := by
  intro k
  induction k with
  | zero =>
    intro z hzk v4 v5 hz1
    obtain rfl : z = Z + Dp := by omega
    iterate 2 refine ev_s rfl ?_
    refine ev_gf (rd np (hst M (rc X Z Wd (Z + Dp) X) v) L (by omega) ((congrArg (fun r => cel np (14 + j) r (L (14 + j))) (hst_n (by omega))).trans (cel_trial (by omega) _ _))) rfl rfl rfl ?_
    rw [hZ]
    refine ev_s rfl ?_
    refine ev_gf (rd np (hst M (rc X Z Wd (Z + Dp) X) v) L (by omega) ((congrArg (fun r => cel np (14 + j) r (L (14 + j))) (hst_n (by omega))).trans (cel_trial (by omega) _ _))) rfl rfl rfl ?_
    rw [hDp]
    refine ev_s rfl ?_
    refine ev_ic rfl rfl ?_
    rw [show zbr .ge (nI (Z + Dp)) ((nI Z) + (nI Dp)) 82 18 = 82 from zge_t (n := Z + Dp) (nI_add Z Dp) (by omega) (by omega)]
    refine ev_rv rfl rfl ?_ ?_
    · rfl
    · rfl
  | succ k ih =>
    intro z hzk v4 v5 hz1
    have hz2 : z < Z + Dp := by omega
    iterate 2 refine ev_s rfl ?_
    refine ev_gf (rd np (hst M (rc X Z Wd z X) v) L (by omega) ((congrArg (fun r => cel np (14 + j) r (L (14 + j))) (hst_n (by omega))).trans (cel_trial (by omega) _ _))) rfl rfl rfl ?_
    rw [hZ]
    refine ev_s rfl ?_
    refine ev_gf (rd np (hst M (rc X Z Wd z X) v) L (by omega) ((congrArg (fun r => cel np (14 + j) r (L (14 + j))) (hst_n (by omega))).trans (cel_trial (by omega) _ _))) rfl rfl rfl ?_
    rw [hDp]
    refine ev_s rfl ?_
    refine ev_ic rfl rfl ?_
    rw [show zbr .ge (nI z) ((nI Z) + (nI Dp)) 82 18 = 18 from zge_f (n := Z + Dp) (nI_add Z Dp) hz2 (by omega)]
    refine ev_s rfl ?_
    refine ev_gf (rd np (hst M (rc X Z Wd z X) v) L (by omega) ((congrArg (fun r => cel np (14 + j) r (L (14 + j))) (hst_n (by omega))).trans (cel_trial (by omega) _ _))) rfl rfl rfl ?_
    rw [hX]
    refine ev_s (ls' := [some (.ref 11), some (.ref (14 + j)), some (.int v), some (.int (nI z)), some (.int (nI X)), v5]) rfl ?_
    refine lp_shx hj hX hZ hW hDp hb1 hb2 d hz1 hz2 (fun v5 => ?_) Wd X (by omega) _ (by omega)
    refine ev_inc (y := 1) (v := nI (z + 1)) (ls' := [some (.ref 11), some (.ref (14 + j)), some (.int v), some (.int (nI (z + 1))), some (.int (nI (X + Wd))), v5]) rfl rfl (by decide) (nI_1 _) rfl ?_
    refine ev_s rfl ?_
    rw [rc_row hz1]
    exact ih (z + 1) (by omega) _ _ (by omega)
set_option maxHeartbeats 4000000 in
theorem rn_sh {np : Nat} {M : Nat → Nat → Int32} {L : Nat → Int64} {j X Z Wd Dp : Nat} (hj : j < 6) (hX : M (14 + j) 8 = nI X) (hZ : M (14 + j) 10 = nI Z) (hW : M (14 + j) 5 = nI Wd) (hDp : M (14 + j) 7 = nI Dp) (hb1 : X + Wd ≤ 12) (hb2 : Z + Dp ≤ 12) {v : Int32} (d : Nat) : Rn d mX3_setHeights [.ref 11, .ref (14 + j), .int v] (mk np M L) none (mk np (hst M (rc X Z Wd (Z + Dp) X) v) L) := by
  unfold Rn
  refine ev_s rfl ?_
  refine ev_gf (rd np M L (by omega) (cel_trial (by omega) _ _)) rfl rfl rfl ?_
  rw [hZ]
  refine ev_s (ls' := [some (.ref 11), some (.ref (14 + j)), some (.int v), some (.int (nI Z)), none, none]) rfl ?_
  have e9 := lp_shz (v := v) (np := np) (L := L) hj hX hZ hW hDp hb1 hb2 d Dp Z (by omega) none none (by omega)
  rw [hst_0] at e9
  exact e9
