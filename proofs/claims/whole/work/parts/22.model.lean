/-! ===== LoadSpaceModel: what isn't its search ===== -/
def nrL (v : Int32) : Int32 := if 1 ≤ v then (if v ≤ 12 then v else 12) else 1
def cmn (a n b m : Int32) : Int32 :=
  if (if b + m ≤ a + n then b + m else a + n) ≤ (if a ≤ b then b else a) then 0 else (if b + m ≤ a + n then b + m else a + n) - (if a ≤ b then b else a)
/-- the lengths of piece k as the model holds them -/
def pf (M : Nat → Nat → Int32) (k : Nat) : Nat → Int32 := fun i => M (22 + i) k

set_option maxHeartbeats 4000000 in
theorem rn_near {hp : zHp} {v : Int32} (d : Nat) : Rn d mX6_near [(.int v)] hp (some (.int (nrL v))) hp := by
  unfold Rn
  refine ev_s rfl ?_
  refine ev_ik (v := 1) rfl (by decide) ?_
  refine ev_ic rfl rfl (ev_br (zb_ge _ _ _ _) (fun c1 => ?_) (fun c1 => ?_))
  · show Ev _ _ 9 _ _ _ _
    refine ev_s rfl ?_
    refine ev_bi (v := 12) rfl (by decide) ?_
    refine ev_ic rfl rfl (ev_br (zb_le _ _ _ _) (fun c2 => ?_) (fun c2 => ?_))
    · show Ev _ _ 20 _ _ _ _
      refine ev_s rfl ?_
      refine ev_ri rfl rfl ?_ ?_
      · unfold nrL; rw [if_pos c1, if_pos c2]
      · rfl
    · show Ev _ _ 15 _ _ _ _
      refine ev_bi (v := 12) rfl (by decide) ?_
      refine ev_s rfl ?_
      refine ev_ri rfl rfl ?_ ?_
      · unfold nrL; rw [if_pos c1, if_neg c2]
      · rfl
  · show Ev _ _ 5 _ _ _ _
    refine ev_ik (v := 1) rfl (by decide) ?_
    refine ev_s rfl ?_
    refine ev_ri rfl rfl ?_ ?_
    · unfold nrL; rw [if_neg c1]
    · rfl
set_option maxHeartbeats 4000000 in
theorem rn_turnsOf {hp : zHp} {x : Int32} (d : Nat) : Rn d mX6_turnsOf [(.int x)] hp (some (.int (nI (tmo x)))) hp := by
  unfold Rn
  refine ev_s rfl ?_
  refine ev_if rfl rfl (ev_bn (fun c1 => ?_) (fun c1 => ?_))
  · show Ev _ _ 8 _ _ _ _
    refine ev_s rfl ?_
    refine ev_ik (v := 1) rfl (by decide) ?_
    refine ev_ic rfl rfl (ev_bn (fun c2 => ?_) (fun c2 => ?_))
    · show Ev _ _ 17 _ _ _ _
      refine ev_bi (v := 6) rfl (by decide) ?_
      refine ev_ri rfl rfl ?_ ?_
      · rw [show tmo x = 6 from by simp [tmo, c1, c2]]; rfl
      · rfl
    · show Ev _ _ 13 _ _ _ _
      refine ev_ik (v := 2) rfl (by decide) ?_
      refine ev_s rfl ?_
      refine ev_ri rfl rfl ?_ ?_
      · rw [show tmo x = 2 from by simp [tmo, c1, c2]]; rfl
      · rfl
  · show Ev _ _ 4 _ _ _ _
    refine ev_ik (v := 1) rfl (by decide) ?_
    refine ev_s rfl ?_
    refine ev_ri rfl rfl ?_ ?_
    · rw [show tmo x = 1 from by simp [tmo, c1]]; rfl
    · rfl
set_option maxHeartbeats 4000000 in
theorem rn_common {hp : zHp} {a n b m : Int32} (d : Nat) : Rn d mX6_common [(.int a), (.int n), (.int b), (.int m)] hp (some (.int (cmn a n b m))) hp := by
  unfold Rn
  iterate 2 refine ev_s rfl ?_
  refine ev_ic rfl rfl (ev_br (zb_le _ _ _ _) (fun c1 => ?_) (fun c1 => ?_))
  · show Ev _ _ 9 _ _ _ _
    refine ev_s rfl ?_
    refine ev_s (ls' := [some (.int a), some (.int n), some (.int b), some (.int m), some (.int b), none]) rfl ?_
    iterate 6 refine ev_s rfl ?_
    refine ev_ic rfl rfl (ev_br (zb_ge _ _ _ _) (fun c2 => ?_) (fun c2 => ?_))
    · show Ev _ _ 27 _ _ _ _
      iterate 3 refine ev_s rfl ?_
      refine ev_s (ls' := [some (.int a), some (.int n), some (.int b), some (.int m), some (.int b), some (.int (b + m))]) rfl ?_
      iterate 2 refine ev_s rfl ?_
      refine ev_ic rfl rfl (ev_br (zb_le _ _ _ _) (fun c3 => ?_) (fun c3 => ?_))
      · show Ev _ _ 47 _ _ _ _
        refine ev_ik (v := 0) rfl (by decide) ?_
        refine ev_ri rfl rfl ?_ ?_
        · unfold cmn; simp only [if_pos c1, if_pos c2, if_pos c3]
        · rfl
      · show Ev _ _ 39 _ _ _ _
        iterate 4 refine ev_s rfl ?_
        refine ev_ri rfl rfl ?_ ?_
        · unfold cmn; simp only [if_pos c1, if_pos c2, if_neg c3]
        · rfl
    · show Ev _ _ 21 _ _ _ _
      iterate 4 refine ev_s rfl ?_
      refine ev_s (ls' := [some (.int a), some (.int n), some (.int b), some (.int m), some (.int b), some (.int (a + n))]) rfl ?_
      iterate 2 refine ev_s rfl ?_
      refine ev_ic rfl rfl (ev_br (zb_le _ _ _ _) (fun c4 => ?_) (fun c4 => ?_))
      · show Ev _ _ 47 _ _ _ _
        refine ev_ik (v := 0) rfl (by decide) ?_
        refine ev_ri rfl rfl ?_ ?_
        · unfold cmn; simp only [if_pos c1, if_neg c2, if_pos c4]
        · rfl
      · show Ev _ _ 39 _ _ _ _
        iterate 4 refine ev_s rfl ?_
        refine ev_ri rfl rfl ?_ ?_
        · unfold cmn; simp only [if_pos c1, if_neg c2, if_neg c4]
        · rfl
  · show Ev _ _ 5 _ _ _ _
    iterate 2 refine ev_s rfl ?_
    refine ev_s (ls' := [some (.int a), some (.int n), some (.int b), some (.int m), some (.int a), none]) rfl ?_
    iterate 6 refine ev_s rfl ?_
    refine ev_ic rfl rfl (ev_br (zb_ge _ _ _ _) (fun c5 => ?_) (fun c5 => ?_))
    · show Ev _ _ 27 _ _ _ _
      iterate 3 refine ev_s rfl ?_
      refine ev_s (ls' := [some (.int a), some (.int n), some (.int b), some (.int m), some (.int a), some (.int (b + m))]) rfl ?_
      iterate 2 refine ev_s rfl ?_
      refine ev_ic rfl rfl (ev_br (zb_le _ _ _ _) (fun c6 => ?_) (fun c6 => ?_))
      · show Ev _ _ 47 _ _ _ _
        refine ev_ik (v := 0) rfl (by decide) ?_
        refine ev_ri rfl rfl ?_ ?_
        · unfold cmn; simp only [if_neg c1, if_pos c5, if_pos c6]
        · rfl
      · show Ev _ _ 39 _ _ _ _
        iterate 4 refine ev_s rfl ?_
        refine ev_ri rfl rfl ?_ ?_
        · unfold cmn; simp only [if_neg c1, if_pos c5, if_neg c6]
        · rfl
    · show Ev _ _ 21 _ _ _ _
      iterate 4 refine ev_s rfl ?_
      refine ev_s (ls' := [some (.int a), some (.int n), some (.int b), some (.int m), some (.int a), some (.int (a + n))]) rfl ?_
      iterate 2 refine ev_s rfl ?_
      refine ev_ic rfl rfl (ev_br (zb_le _ _ _ _) (fun c7 => ?_) (fun c7 => ?_))
      · show Ev _ _ 47 _ _ _ _
        refine ev_ik (v := 0) rfl (by decide) ?_
        refine ev_ri rfl rfl ?_ ?_
        · unfold cmn; simp only [if_neg c1, if_neg c5, if_pos c7]
        · rfl
      · show Ev _ _ 39 _ _ _ _
        iterate 4 refine ev_s rfl ?_
        refine ev_ri rfl rfl ?_ ?_
        · unfold cmn; simp only [if_neg c1, if_neg c5, if_neg c7]
        · rfl
set_option maxHeartbeats 4000000 in
theorem rn_isPiece {np : Nat} {M : Nat → Nat → Int32} {L : Nat → Int64} {n : Int32} (d : Nat) : Rn (d + 1) mX6_isPiece [(.ref 21), (.int n)] (mk np M L) (some (.int (zi (mW n 1 (M 21 3))))) (mk np M L) := by
  unfold Rn
  refine ev_s rfl ?_
  refine ev_ik (v := 1) rfl (by decide) ?_
  refine ev_s rfl ?_
  refine ev_gf (rd np M L (by omega) rfl) rfl rfl rfl ?_
  refine ev_cs (vs := [(.int n), (.int 1), (.int (M 21 3))]) (rest := []) (rv := (some (.int (zi (mW n 1 (M 21 3)))))) rfl rfl rfl rfl rfl (rn_within _) ?_
  show Ev _ _ 9 _ [(.int (zi (mW n 1 (M 21 3))))] _ _
  refine ev_rz rfl rfl (zi_01 _) ?_ ?_
  · rfl
  · rfl
set_option maxHeartbeats 4000000 in
theorem rn_measure0 {np : Nat} {M : Nat → Nat → Int32} {L : Nat → Int64} {k t : Nat} (hk : k < 6) (ht : t < 6) (d : Nat) : Rn d mX6_measure [.ref 21, .int (nI k), .int (nI t), .int 0] (mk np M L) (some (.int (tW (pf M k) t))) (mk np M L) := by
  unfold Rn
  match t, ht with
  | 0, _ =>
    refine ev_s rfl ?_
    refine ev_gf (rd np M L (by omega) rfl) rfl rfl rfl ?_
    refine ev_s rfl ?_
    refine ev_ia (rd np M L (by omega) rfl) rfl (zin_nI (by omega) (by decide)) ?_
    refine ev_s (ls' := [some (.ref 21), some (.int (nI k)), some (.int (nI 0)), some (.int 0), some (.int (M 22 k)), none, none]) rfl ?_
    refine ev_s rfl ?_
    refine ev_gf (rd np M L (by omega) rfl) rfl rfl rfl ?_
    refine ev_s rfl ?_
    refine ev_ia (rd np M L (by omega) rfl) rfl (zin_nI (by omega) (by decide)) ?_
    refine ev_s (ls' := [some (.ref 21), some (.int (nI k)), some (.int (nI 0)), some (.int 0), some (.int (M 22 k)), some (.int (M 23 k)), none]) rfl ?_
    refine ev_s rfl ?_
    refine ev_gf (rd np M L (by omega) rfl) rfl rfl rfl ?_
    refine ev_s rfl ?_
    refine ev_ia (rd np M L (by omega) rfl) rfl (zin_nI (by omega) (by decide)) ?_
    refine ev_s (ls' := [some (.ref 21), some (.int (nI k)), some (.int (nI 0)), some (.int 0), some (.int (M 22 k)), some (.int (M 23 k)), some (.int (M 24 k))]) rfl ?_
    refine ev_s rfl ?_
    refine ev_sw (off := 145) rfl (by decide) rfl ?_
    show Ev _ _ 170 _ _ _ _
    refine ev_s rfl ?_
    refine ev_if rfl rfl ?_
    show Ev _ _ 174 _ _ _ _
    iterate 2 refine ev_s rfl ?_
    refine ev_ri rfl rfl ?_ ?_
    · rfl
    · rfl
  | 1, _ =>
    refine ev_s rfl ?_
    refine ev_gf (rd np M L (by omega) rfl) rfl rfl rfl ?_
    refine ev_s rfl ?_
    refine ev_ia (rd np M L (by omega) rfl) rfl (zin_nI (by omega) (by decide)) ?_
    refine ev_s (ls' := [some (.ref 21), some (.int (nI k)), some (.int (nI 1)), some (.int 0), some (.int (M 22 k)), none, none]) rfl ?_
    refine ev_s rfl ?_
    refine ev_gf (rd np M L (by omega) rfl) rfl rfl rfl ?_
    refine ev_s rfl ?_
    refine ev_ia (rd np M L (by omega) rfl) rfl (zin_nI (by omega) (by decide)) ?_
    refine ev_s (ls' := [some (.ref 21), some (.int (nI k)), some (.int (nI 1)), some (.int 0), some (.int (M 22 k)), some (.int (M 23 k)), none]) rfl ?_
    refine ev_s rfl ?_
    refine ev_gf (rd np M L (by omega) rfl) rfl rfl rfl ?_
    refine ev_s rfl ?_
    refine ev_ia (rd np M L (by omega) rfl) rfl (zin_nI (by omega) (by decide)) ?_
    refine ev_s (ls' := [some (.ref 21), some (.int (nI k)), some (.int (nI 1)), some (.int 0), some (.int (M 22 k)), some (.int (M 23 k)), some (.int (M 24 k))]) rfl ?_
    refine ev_s rfl ?_
    refine ev_sw (off := 35) rfl (by decide) rfl ?_
    show Ev _ _ 60 _ _ _ _
    refine ev_s rfl ?_
    refine ev_if rfl rfl ?_
    show Ev _ _ 64 _ _ _ _
    iterate 2 refine ev_s rfl ?_
    refine ev_ri rfl rfl ?_ ?_
    · rfl
    · rfl
  | 2, _ =>
    refine ev_s rfl ?_
    refine ev_gf (rd np M L (by omega) rfl) rfl rfl rfl ?_
    refine ev_s rfl ?_
    refine ev_ia (rd np M L (by omega) rfl) rfl (zin_nI (by omega) (by decide)) ?_
    refine ev_s (ls' := [some (.ref 21), some (.int (nI k)), some (.int (nI 2)), some (.int 0), some (.int (M 22 k)), none, none]) rfl ?_
    refine ev_s rfl ?_
    refine ev_gf (rd np M L (by omega) rfl) rfl rfl rfl ?_
    refine ev_s rfl ?_
    refine ev_ia (rd np M L (by omega) rfl) rfl (zin_nI (by omega) (by decide)) ?_
    refine ev_s (ls' := [some (.ref 21), some (.int (nI k)), some (.int (nI 2)), some (.int 0), some (.int (M 22 k)), some (.int (M 23 k)), none]) rfl ?_
    refine ev_s rfl ?_
    refine ev_gf (rd np M L (by omega) rfl) rfl rfl rfl ?_
    refine ev_s rfl ?_
    refine ev_ia (rd np M L (by omega) rfl) rfl (zin_nI (by omega) (by decide)) ?_
    refine ev_s (ls' := [some (.ref 21), some (.int (nI k)), some (.int (nI 2)), some (.int 0), some (.int (M 22 k)), some (.int (M 23 k)), some (.int (M 24 k))]) rfl ?_
    refine ev_s rfl ?_
    refine ev_sw (off := 57) rfl (by decide) rfl ?_
    show Ev _ _ 82 _ _ _ _
    refine ev_s rfl ?_
    refine ev_if rfl rfl ?_
    show Ev _ _ 86 _ _ _ _
    iterate 2 refine ev_s rfl ?_
    refine ev_ri rfl rfl ?_ ?_
    · rfl
    · rfl
  | 3, _ =>
    refine ev_s rfl ?_
    refine ev_gf (rd np M L (by omega) rfl) rfl rfl rfl ?_
    refine ev_s rfl ?_
    refine ev_ia (rd np M L (by omega) rfl) rfl (zin_nI (by omega) (by decide)) ?_
    refine ev_s (ls' := [some (.ref 21), some (.int (nI k)), some (.int (nI 3)), some (.int 0), some (.int (M 22 k)), none, none]) rfl ?_
    refine ev_s rfl ?_
    refine ev_gf (rd np M L (by omega) rfl) rfl rfl rfl ?_
    refine ev_s rfl ?_
    refine ev_ia (rd np M L (by omega) rfl) rfl (zin_nI (by omega) (by decide)) ?_
    refine ev_s (ls' := [some (.ref 21), some (.int (nI k)), some (.int (nI 3)), some (.int 0), some (.int (M 22 k)), some (.int (M 23 k)), none]) rfl ?_
    refine ev_s rfl ?_
    refine ev_gf (rd np M L (by omega) rfl) rfl rfl rfl ?_
    refine ev_s rfl ?_
    refine ev_ia (rd np M L (by omega) rfl) rfl (zin_nI (by omega) (by decide)) ?_
    refine ev_s (ls' := [some (.ref 21), some (.int (nI k)), some (.int (nI 3)), some (.int 0), some (.int (M 22 k)), some (.int (M 23 k)), some (.int (M 24 k))]) rfl ?_
    refine ev_s rfl ?_
    refine ev_sw (off := 79) rfl (by decide) rfl ?_
    show Ev _ _ 104 _ _ _ _
    refine ev_s rfl ?_
    refine ev_if rfl rfl ?_
    show Ev _ _ 108 _ _ _ _
    iterate 2 refine ev_s rfl ?_
    refine ev_ri rfl rfl ?_ ?_
    · rfl
    · rfl
  | 4, _ =>
    refine ev_s rfl ?_
    refine ev_gf (rd np M L (by omega) rfl) rfl rfl rfl ?_
    refine ev_s rfl ?_
    refine ev_ia (rd np M L (by omega) rfl) rfl (zin_nI (by omega) (by decide)) ?_
    refine ev_s (ls' := [some (.ref 21), some (.int (nI k)), some (.int (nI 4)), some (.int 0), some (.int (M 22 k)), none, none]) rfl ?_
    refine ev_s rfl ?_
    refine ev_gf (rd np M L (by omega) rfl) rfl rfl rfl ?_
    refine ev_s rfl ?_
    refine ev_ia (rd np M L (by omega) rfl) rfl (zin_nI (by omega) (by decide)) ?_
    refine ev_s (ls' := [some (.ref 21), some (.int (nI k)), some (.int (nI 4)), some (.int 0), some (.int (M 22 k)), some (.int (M 23 k)), none]) rfl ?_
    refine ev_s rfl ?_
    refine ev_gf (rd np M L (by omega) rfl) rfl rfl rfl ?_
    refine ev_s rfl ?_
    refine ev_ia (rd np M L (by omega) rfl) rfl (zin_nI (by omega) (by decide)) ?_
    refine ev_s (ls' := [some (.ref 21), some (.int (nI k)), some (.int (nI 4)), some (.int 0), some (.int (M 22 k)), some (.int (M 23 k)), some (.int (M 24 k))]) rfl ?_
    refine ev_s rfl ?_
    refine ev_sw (off := 101) rfl (by decide) rfl ?_
    show Ev _ _ 126 _ _ _ _
    refine ev_s rfl ?_
    refine ev_if rfl rfl ?_
    show Ev _ _ 130 _ _ _ _
    iterate 2 refine ev_s rfl ?_
    refine ev_ri rfl rfl ?_ ?_
    · rfl
    · rfl
  | 5, _ =>
    refine ev_s rfl ?_
    refine ev_gf (rd np M L (by omega) rfl) rfl rfl rfl ?_
    refine ev_s rfl ?_
    refine ev_ia (rd np M L (by omega) rfl) rfl (zin_nI (by omega) (by decide)) ?_
    refine ev_s (ls' := [some (.ref 21), some (.int (nI k)), some (.int (nI 5)), some (.int 0), some (.int (M 22 k)), none, none]) rfl ?_
    refine ev_s rfl ?_
    refine ev_gf (rd np M L (by omega) rfl) rfl rfl rfl ?_
    refine ev_s rfl ?_
    refine ev_ia (rd np M L (by omega) rfl) rfl (zin_nI (by omega) (by decide)) ?_
    refine ev_s (ls' := [some (.ref 21), some (.int (nI k)), some (.int (nI 5)), some (.int 0), some (.int (M 22 k)), some (.int (M 23 k)), none]) rfl ?_
    refine ev_s rfl ?_
    refine ev_gf (rd np M L (by omega) rfl) rfl rfl rfl ?_
    refine ev_s rfl ?_
    refine ev_ia (rd np M L (by omega) rfl) rfl (zin_nI (by omega) (by decide)) ?_
    refine ev_s (ls' := [some (.ref 21), some (.int (nI k)), some (.int (nI 5)), some (.int 0), some (.int (M 22 k)), some (.int (M 23 k)), some (.int (M 24 k))]) rfl ?_
    refine ev_s rfl ?_
    refine ev_sw (off := 123) rfl (by decide) rfl ?_
    show Ev _ _ 148 _ _ _ _
    refine ev_s rfl ?_
    refine ev_if rfl rfl ?_
    show Ev _ _ 152 _ _ _ _
    iterate 2 refine ev_s rfl ?_
    refine ev_ri rfl rfl ?_ ?_
    · rfl
    · rfl
  | t + 6, h => exact absurd h (by omega)
set_option maxHeartbeats 4000000 in
theorem rn_measure1 {np : Nat} {M : Nat → Nat → Int32} {L : Nat → Int64} {k t : Nat} (hk : k < 6) (ht : t < 6) (d : Nat) : Rn d mX6_measure [.ref 21, .int (nI k), .int (nI t), .int 1] (mk np M L) (some (.int (tH (pf M k) t))) (mk np M L) := by
  unfold Rn
  match t, ht with
  | 0, _ =>
    refine ev_s rfl ?_
    refine ev_gf (rd np M L (by omega) rfl) rfl rfl rfl ?_
    refine ev_s rfl ?_
    refine ev_ia (rd np M L (by omega) rfl) rfl (zin_nI (by omega) (by decide)) ?_
    refine ev_s (ls' := [some (.ref 21), some (.int (nI k)), some (.int (nI 0)), some (.int 1), some (.int (M 22 k)), none, none]) rfl ?_
    refine ev_s rfl ?_
    refine ev_gf (rd np M L (by omega) rfl) rfl rfl rfl ?_
    refine ev_s rfl ?_
    refine ev_ia (rd np M L (by omega) rfl) rfl (zin_nI (by omega) (by decide)) ?_
    refine ev_s (ls' := [some (.ref 21), some (.int (nI k)), some (.int (nI 0)), some (.int 1), some (.int (M 22 k)), some (.int (M 23 k)), none]) rfl ?_
    refine ev_s rfl ?_
    refine ev_gf (rd np M L (by omega) rfl) rfl rfl rfl ?_
    refine ev_s rfl ?_
    refine ev_ia (rd np M L (by omega) rfl) rfl (zin_nI (by omega) (by decide)) ?_
    refine ev_s (ls' := [some (.ref 21), some (.int (nI k)), some (.int (nI 0)), some (.int 1), some (.int (M 22 k)), some (.int (M 23 k)), some (.int (M 24 k))]) rfl ?_
    refine ev_s rfl ?_
    refine ev_sw (off := 145) rfl (by decide) rfl ?_
    show Ev _ _ 170 _ _ _ _
    refine ev_s rfl ?_
    refine ev_if rfl rfl ?_
    show Ev _ _ 179 _ _ _ _
    refine ev_s rfl ?_
    refine ev_ik (v := 1) rfl (by decide) ?_
    refine ev_ic rfl rfl ?_
    show Ev _ _ 184 _ _ _ _
    iterate 2 refine ev_s rfl ?_
    refine ev_ri rfl rfl ?_ ?_
    · rfl
    · rfl
  | 1, _ =>
    refine ev_s rfl ?_
    refine ev_gf (rd np M L (by omega) rfl) rfl rfl rfl ?_
    refine ev_s rfl ?_
    refine ev_ia (rd np M L (by omega) rfl) rfl (zin_nI (by omega) (by decide)) ?_
    refine ev_s (ls' := [some (.ref 21), some (.int (nI k)), some (.int (nI 1)), some (.int 1), some (.int (M 22 k)), none, none]) rfl ?_
    refine ev_s rfl ?_
    refine ev_gf (rd np M L (by omega) rfl) rfl rfl rfl ?_
    refine ev_s rfl ?_
    refine ev_ia (rd np M L (by omega) rfl) rfl (zin_nI (by omega) (by decide)) ?_
    refine ev_s (ls' := [some (.ref 21), some (.int (nI k)), some (.int (nI 1)), some (.int 1), some (.int (M 22 k)), some (.int (M 23 k)), none]) rfl ?_
    refine ev_s rfl ?_
    refine ev_gf (rd np M L (by omega) rfl) rfl rfl rfl ?_
    refine ev_s rfl ?_
    refine ev_ia (rd np M L (by omega) rfl) rfl (zin_nI (by omega) (by decide)) ?_
    refine ev_s (ls' := [some (.ref 21), some (.int (nI k)), some (.int (nI 1)), some (.int 1), some (.int (M 22 k)), some (.int (M 23 k)), some (.int (M 24 k))]) rfl ?_
    refine ev_s rfl ?_
    refine ev_sw (off := 35) rfl (by decide) rfl ?_
    show Ev _ _ 60 _ _ _ _
    refine ev_s rfl ?_
    refine ev_if rfl rfl ?_
    show Ev _ _ 69 _ _ _ _
    refine ev_s rfl ?_
    refine ev_ik (v := 1) rfl (by decide) ?_
    refine ev_ic rfl rfl ?_
    show Ev _ _ 74 _ _ _ _
    iterate 2 refine ev_s rfl ?_
    refine ev_ri rfl rfl ?_ ?_
    · rfl
    · rfl
  | 2, _ =>
    refine ev_s rfl ?_
    refine ev_gf (rd np M L (by omega) rfl) rfl rfl rfl ?_
    refine ev_s rfl ?_
    refine ev_ia (rd np M L (by omega) rfl) rfl (zin_nI (by omega) (by decide)) ?_
    refine ev_s (ls' := [some (.ref 21), some (.int (nI k)), some (.int (nI 2)), some (.int 1), some (.int (M 22 k)), none, none]) rfl ?_
    refine ev_s rfl ?_
    refine ev_gf (rd np M L (by omega) rfl) rfl rfl rfl ?_
    refine ev_s rfl ?_
    refine ev_ia (rd np M L (by omega) rfl) rfl (zin_nI (by omega) (by decide)) ?_
    refine ev_s (ls' := [some (.ref 21), some (.int (nI k)), some (.int (nI 2)), some (.int 1), some (.int (M 22 k)), some (.int (M 23 k)), none]) rfl ?_
    refine ev_s rfl ?_
    refine ev_gf (rd np M L (by omega) rfl) rfl rfl rfl ?_
    refine ev_s rfl ?_
    refine ev_ia (rd np M L (by omega) rfl) rfl (zin_nI (by omega) (by decide)) ?_
    refine ev_s (ls' := [some (.ref 21), some (.int (nI k)), some (.int (nI 2)), some (.int 1), some (.int (M 22 k)), some (.int (M 23 k)), some (.int (M 24 k))]) rfl ?_
    refine ev_s rfl ?_
    refine ev_sw (off := 57) rfl (by decide) rfl ?_
    show Ev _ _ 82 _ _ _ _
    refine ev_s rfl ?_
    refine ev_if rfl rfl ?_
    show Ev _ _ 91 _ _ _ _
    refine ev_s rfl ?_
    refine ev_ik (v := 1) rfl (by decide) ?_
    refine ev_ic rfl rfl ?_
    show Ev _ _ 96 _ _ _ _
    iterate 2 refine ev_s rfl ?_
    refine ev_ri rfl rfl ?_ ?_
    · rfl
    · rfl
  | 3, _ =>
    refine ev_s rfl ?_
    refine ev_gf (rd np M L (by omega) rfl) rfl rfl rfl ?_
    refine ev_s rfl ?_
    refine ev_ia (rd np M L (by omega) rfl) rfl (zin_nI (by omega) (by decide)) ?_
    refine ev_s (ls' := [some (.ref 21), some (.int (nI k)), some (.int (nI 3)), some (.int 1), some (.int (M 22 k)), none, none]) rfl ?_
    refine ev_s rfl ?_
    refine ev_gf (rd np M L (by omega) rfl) rfl rfl rfl ?_
    refine ev_s rfl ?_
    refine ev_ia (rd np M L (by omega) rfl) rfl (zin_nI (by omega) (by decide)) ?_
    refine ev_s (ls' := [some (.ref 21), some (.int (nI k)), some (.int (nI 3)), some (.int 1), some (.int (M 22 k)), some (.int (M 23 k)), none]) rfl ?_
    refine ev_s rfl ?_
    refine ev_gf (rd np M L (by omega) rfl) rfl rfl rfl ?_
    refine ev_s rfl ?_
    refine ev_ia (rd np M L (by omega) rfl) rfl (zin_nI (by omega) (by decide)) ?_
    refine ev_s (ls' := [some (.ref 21), some (.int (nI k)), some (.int (nI 3)), some (.int 1), some (.int (M 22 k)), some (.int (M 23 k)), some (.int (M 24 k))]) rfl ?_
    refine ev_s rfl ?_
    refine ev_sw (off := 79) rfl (by decide) rfl ?_
    show Ev _ _ 104 _ _ _ _
    refine ev_s rfl ?_
    refine ev_if rfl rfl ?_
    show Ev _ _ 113 _ _ _ _
    refine ev_s rfl ?_
    refine ev_ik (v := 1) rfl (by decide) ?_
    refine ev_ic rfl rfl ?_
    show Ev _ _ 118 _ _ _ _
    iterate 2 refine ev_s rfl ?_
    refine ev_ri rfl rfl ?_ ?_
    · rfl
    · rfl
  | 4, _ =>
    refine ev_s rfl ?_
    refine ev_gf (rd np M L (by omega) rfl) rfl rfl rfl ?_
    refine ev_s rfl ?_
    refine ev_ia (rd np M L (by omega) rfl) rfl (zin_nI (by omega) (by decide)) ?_
    refine ev_s (ls' := [some (.ref 21), some (.int (nI k)), some (.int (nI 4)), some (.int 1), some (.int (M 22 k)), none, none]) rfl ?_
    refine ev_s rfl ?_
    refine ev_gf (rd np M L (by omega) rfl) rfl rfl rfl ?_
    refine ev_s rfl ?_
    refine ev_ia (rd np M L (by omega) rfl) rfl (zin_nI (by omega) (by decide)) ?_
    refine ev_s (ls' := [some (.ref 21), some (.int (nI k)), some (.int (nI 4)), some (.int 1), some (.int (M 22 k)), some (.int (M 23 k)), none]) rfl ?_
    refine ev_s rfl ?_
    refine ev_gf (rd np M L (by omega) rfl) rfl rfl rfl ?_
    refine ev_s rfl ?_
    refine ev_ia (rd np M L (by omega) rfl) rfl (zin_nI (by omega) (by decide)) ?_
    refine ev_s (ls' := [some (.ref 21), some (.int (nI k)), some (.int (nI 4)), some (.int 1), some (.int (M 22 k)), some (.int (M 23 k)), some (.int (M 24 k))]) rfl ?_
    refine ev_s rfl ?_
    refine ev_sw (off := 101) rfl (by decide) rfl ?_
    show Ev _ _ 126 _ _ _ _
    refine ev_s rfl ?_
    refine ev_if rfl rfl ?_
    show Ev _ _ 135 _ _ _ _
    refine ev_s rfl ?_
    refine ev_ik (v := 1) rfl (by decide) ?_
    refine ev_ic rfl rfl ?_
    show Ev _ _ 140 _ _ _ _
    iterate 2 refine ev_s rfl ?_
    refine ev_ri rfl rfl ?_ ?_
    · rfl
    · rfl
  | 5, _ =>
    refine ev_s rfl ?_
    refine ev_gf (rd np M L (by omega) rfl) rfl rfl rfl ?_
    refine ev_s rfl ?_
    refine ev_ia (rd np M L (by omega) rfl) rfl (zin_nI (by omega) (by decide)) ?_
    refine ev_s (ls' := [some (.ref 21), some (.int (nI k)), some (.int (nI 5)), some (.int 1), some (.int (M 22 k)), none, none]) rfl ?_
    refine ev_s rfl ?_
    refine ev_gf (rd np M L (by omega) rfl) rfl rfl rfl ?_
    refine ev_s rfl ?_
    refine ev_ia (rd np M L (by omega) rfl) rfl (zin_nI (by omega) (by decide)) ?_
    refine ev_s (ls' := [some (.ref 21), some (.int (nI k)), some (.int (nI 5)), some (.int 1), some (.int (M 22 k)), some (.int (M 23 k)), none]) rfl ?_
    refine ev_s rfl ?_
    refine ev_gf (rd np M L (by omega) rfl) rfl rfl rfl ?_
    refine ev_s rfl ?_
    refine ev_ia (rd np M L (by omega) rfl) rfl (zin_nI (by omega) (by decide)) ?_
    refine ev_s (ls' := [some (.ref 21), some (.int (nI k)), some (.int (nI 5)), some (.int 1), some (.int (M 22 k)), some (.int (M 23 k)), some (.int (M 24 k))]) rfl ?_
    refine ev_s rfl ?_
    refine ev_sw (off := 123) rfl (by decide) rfl ?_
    show Ev _ _ 148 _ _ _ _
    refine ev_s rfl ?_
    refine ev_if rfl rfl ?_
    show Ev _ _ 157 _ _ _ _
    refine ev_s rfl ?_
    refine ev_ik (v := 1) rfl (by decide) ?_
    refine ev_ic rfl rfl ?_
    show Ev _ _ 162 _ _ _ _
    iterate 2 refine ev_s rfl ?_
    refine ev_ri rfl rfl ?_ ?_
    · rfl
    · rfl
  | t + 6, h => exact absurd h (by omega)
set_option maxHeartbeats 4000000 in
theorem rn_measure2 {np : Nat} {M : Nat → Nat → Int32} {L : Nat → Int64} {k t : Nat} (hk : k < 6) (ht : t < 6) (d : Nat) : Rn d mX6_measure [.ref 21, .int (nI k), .int (nI t), .int 2] (mk np M L) (some (.int (tD (pf M k) t))) (mk np M L) := by
  unfold Rn
  match t, ht with
  | 0, _ =>
    refine ev_s rfl ?_
    refine ev_gf (rd np M L (by omega) rfl) rfl rfl rfl ?_
    refine ev_s rfl ?_
    refine ev_ia (rd np M L (by omega) rfl) rfl (zin_nI (by omega) (by decide)) ?_
    refine ev_s (ls' := [some (.ref 21), some (.int (nI k)), some (.int (nI 0)), some (.int 2), some (.int (M 22 k)), none, none]) rfl ?_
    refine ev_s rfl ?_
    refine ev_gf (rd np M L (by omega) rfl) rfl rfl rfl ?_
    refine ev_s rfl ?_
    refine ev_ia (rd np M L (by omega) rfl) rfl (zin_nI (by omega) (by decide)) ?_
    refine ev_s (ls' := [some (.ref 21), some (.int (nI k)), some (.int (nI 0)), some (.int 2), some (.int (M 22 k)), some (.int (M 23 k)), none]) rfl ?_
    refine ev_s rfl ?_
    refine ev_gf (rd np M L (by omega) rfl) rfl rfl rfl ?_
    refine ev_s rfl ?_
    refine ev_ia (rd np M L (by omega) rfl) rfl (zin_nI (by omega) (by decide)) ?_
    refine ev_s (ls' := [some (.ref 21), some (.int (nI k)), some (.int (nI 0)), some (.int 2), some (.int (M 22 k)), some (.int (M 23 k)), some (.int (M 24 k))]) rfl ?_
    refine ev_s rfl ?_
    refine ev_sw (off := 145) rfl (by decide) rfl ?_
    show Ev _ _ 170 _ _ _ _
    refine ev_s rfl ?_
    refine ev_if rfl rfl ?_
    show Ev _ _ 179 _ _ _ _
    refine ev_s rfl ?_
    refine ev_ik (v := 1) rfl (by decide) ?_
    refine ev_ic rfl rfl ?_
    show Ev _ _ 189 _ _ _ _
    refine ev_s rfl ?_
    refine ev_ri rfl rfl ?_ ?_
    · rfl
    · rfl
  | 1, _ =>
    refine ev_s rfl ?_
    refine ev_gf (rd np M L (by omega) rfl) rfl rfl rfl ?_
    refine ev_s rfl ?_
    refine ev_ia (rd np M L (by omega) rfl) rfl (zin_nI (by omega) (by decide)) ?_
    refine ev_s (ls' := [some (.ref 21), some (.int (nI k)), some (.int (nI 1)), some (.int 2), some (.int (M 22 k)), none, none]) rfl ?_
    refine ev_s rfl ?_
    refine ev_gf (rd np M L (by omega) rfl) rfl rfl rfl ?_
    refine ev_s rfl ?_
    refine ev_ia (rd np M L (by omega) rfl) rfl (zin_nI (by omega) (by decide)) ?_
    refine ev_s (ls' := [some (.ref 21), some (.int (nI k)), some (.int (nI 1)), some (.int 2), some (.int (M 22 k)), some (.int (M 23 k)), none]) rfl ?_
    refine ev_s rfl ?_
    refine ev_gf (rd np M L (by omega) rfl) rfl rfl rfl ?_
    refine ev_s rfl ?_
    refine ev_ia (rd np M L (by omega) rfl) rfl (zin_nI (by omega) (by decide)) ?_
    refine ev_s (ls' := [some (.ref 21), some (.int (nI k)), some (.int (nI 1)), some (.int 2), some (.int (M 22 k)), some (.int (M 23 k)), some (.int (M 24 k))]) rfl ?_
    refine ev_s rfl ?_
    refine ev_sw (off := 35) rfl (by decide) rfl ?_
    show Ev _ _ 60 _ _ _ _
    refine ev_s rfl ?_
    refine ev_if rfl rfl ?_
    show Ev _ _ 69 _ _ _ _
    refine ev_s rfl ?_
    refine ev_ik (v := 1) rfl (by decide) ?_
    refine ev_ic rfl rfl ?_
    show Ev _ _ 79 _ _ _ _
    refine ev_s rfl ?_
    refine ev_ri rfl rfl ?_ ?_
    · rfl
    · rfl
  | 2, _ =>
    refine ev_s rfl ?_
    refine ev_gf (rd np M L (by omega) rfl) rfl rfl rfl ?_
    refine ev_s rfl ?_
    refine ev_ia (rd np M L (by omega) rfl) rfl (zin_nI (by omega) (by decide)) ?_
    refine ev_s (ls' := [some (.ref 21), some (.int (nI k)), some (.int (nI 2)), some (.int 2), some (.int (M 22 k)), none, none]) rfl ?_
    refine ev_s rfl ?_
    refine ev_gf (rd np M L (by omega) rfl) rfl rfl rfl ?_
    refine ev_s rfl ?_
    refine ev_ia (rd np M L (by omega) rfl) rfl (zin_nI (by omega) (by decide)) ?_
    refine ev_s (ls' := [some (.ref 21), some (.int (nI k)), some (.int (nI 2)), some (.int 2), some (.int (M 22 k)), some (.int (M 23 k)), none]) rfl ?_
    refine ev_s rfl ?_
    refine ev_gf (rd np M L (by omega) rfl) rfl rfl rfl ?_
    refine ev_s rfl ?_
    refine ev_ia (rd np M L (by omega) rfl) rfl (zin_nI (by omega) (by decide)) ?_
    refine ev_s (ls' := [some (.ref 21), some (.int (nI k)), some (.int (nI 2)), some (.int 2), some (.int (M 22 k)), some (.int (M 23 k)), some (.int (M 24 k))]) rfl ?_
    refine ev_s rfl ?_
    refine ev_sw (off := 57) rfl (by decide) rfl ?_
    show Ev _ _ 82 _ _ _ _
    refine ev_s rfl ?_
    refine ev_if rfl rfl ?_
    show Ev _ _ 91 _ _ _ _
    refine ev_s rfl ?_
    refine ev_ik (v := 1) rfl (by decide) ?_
    refine ev_ic rfl rfl ?_
    show Ev _ _ 101 _ _ _ _
    refine ev_s rfl ?_
    refine ev_ri rfl rfl ?_ ?_
    · rfl
    · rfl
  | 3, _ =>
    refine ev_s rfl ?_
    refine ev_gf (rd np M L (by omega) rfl) rfl rfl rfl ?_
    refine ev_s rfl ?_
    refine ev_ia (rd np M L (by omega) rfl) rfl (zin_nI (by omega) (by decide)) ?_
    refine ev_s (ls' := [some (.ref 21), some (.int (nI k)), some (.int (nI 3)), some (.int 2), some (.int (M 22 k)), none, none]) rfl ?_
    refine ev_s rfl ?_
    refine ev_gf (rd np M L (by omega) rfl) rfl rfl rfl ?_
    refine ev_s rfl ?_
    refine ev_ia (rd np M L (by omega) rfl) rfl (zin_nI (by omega) (by decide)) ?_
    refine ev_s (ls' := [some (.ref 21), some (.int (nI k)), some (.int (nI 3)), some (.int 2), some (.int (M 22 k)), some (.int (M 23 k)), none]) rfl ?_
    refine ev_s rfl ?_
    refine ev_gf (rd np M L (by omega) rfl) rfl rfl rfl ?_
    refine ev_s rfl ?_
    refine ev_ia (rd np M L (by omega) rfl) rfl (zin_nI (by omega) (by decide)) ?_
    refine ev_s (ls' := [some (.ref 21), some (.int (nI k)), some (.int (nI 3)), some (.int 2), some (.int (M 22 k)), some (.int (M 23 k)), some (.int (M 24 k))]) rfl ?_
    refine ev_s rfl ?_
    refine ev_sw (off := 79) rfl (by decide) rfl ?_
    show Ev _ _ 104 _ _ _ _
    refine ev_s rfl ?_
    refine ev_if rfl rfl ?_
    show Ev _ _ 113 _ _ _ _
    refine ev_s rfl ?_
    refine ev_ik (v := 1) rfl (by decide) ?_
    refine ev_ic rfl rfl ?_
    show Ev _ _ 123 _ _ _ _
    refine ev_s rfl ?_
    refine ev_ri rfl rfl ?_ ?_
    · rfl
    · rfl
  | 4, _ =>
    refine ev_s rfl ?_
    refine ev_gf (rd np M L (by omega) rfl) rfl rfl rfl ?_
    refine ev_s rfl ?_
    refine ev_ia (rd np M L (by omega) rfl) rfl (zin_nI (by omega) (by decide)) ?_
    refine ev_s (ls' := [some (.ref 21), some (.int (nI k)), some (.int (nI 4)), some (.int 2), some (.int (M 22 k)), none, none]) rfl ?_
    refine ev_s rfl ?_
    refine ev_gf (rd np M L (by omega) rfl) rfl rfl rfl ?_
    refine ev_s rfl ?_
    refine ev_ia (rd np M L (by omega) rfl) rfl (zin_nI (by omega) (by decide)) ?_
    refine ev_s (ls' := [some (.ref 21), some (.int (nI k)), some (.int (nI 4)), some (.int 2), some (.int (M 22 k)), some (.int (M 23 k)), none]) rfl ?_
    refine ev_s rfl ?_
    refine ev_gf (rd np M L (by omega) rfl) rfl rfl rfl ?_
    refine ev_s rfl ?_
    refine ev_ia (rd np M L (by omega) rfl) rfl (zin_nI (by omega) (by decide)) ?_
    refine ev_s (ls' := [some (.ref 21), some (.int (nI k)), some (.int (nI 4)), some (.int 2), some (.int (M 22 k)), some (.int (M 23 k)), some (.int (M 24 k))]) rfl ?_
    refine ev_s rfl ?_
    refine ev_sw (off := 101) rfl (by decide) rfl ?_
    show Ev _ _ 126 _ _ _ _
    refine ev_s rfl ?_
    refine ev_if rfl rfl ?_
    show Ev _ _ 135 _ _ _ _
    refine ev_s rfl ?_
    refine ev_ik (v := 1) rfl (by decide) ?_
    refine ev_ic rfl rfl ?_
    show Ev _ _ 145 _ _ _ _
    refine ev_s rfl ?_
    refine ev_ri rfl rfl ?_ ?_
    · rfl
    · rfl
  | 5, _ =>
    refine ev_s rfl ?_
    refine ev_gf (rd np M L (by omega) rfl) rfl rfl rfl ?_
    refine ev_s rfl ?_
    refine ev_ia (rd np M L (by omega) rfl) rfl (zin_nI (by omega) (by decide)) ?_
    refine ev_s (ls' := [some (.ref 21), some (.int (nI k)), some (.int (nI 5)), some (.int 2), some (.int (M 22 k)), none, none]) rfl ?_
    refine ev_s rfl ?_
    refine ev_gf (rd np M L (by omega) rfl) rfl rfl rfl ?_
    refine ev_s rfl ?_
    refine ev_ia (rd np M L (by omega) rfl) rfl (zin_nI (by omega) (by decide)) ?_
    refine ev_s (ls' := [some (.ref 21), some (.int (nI k)), some (.int (nI 5)), some (.int 2), some (.int (M 22 k)), some (.int (M 23 k)), none]) rfl ?_
    refine ev_s rfl ?_
    refine ev_gf (rd np M L (by omega) rfl) rfl rfl rfl ?_
    refine ev_s rfl ?_
    refine ev_ia (rd np M L (by omega) rfl) rfl (zin_nI (by omega) (by decide)) ?_
    refine ev_s (ls' := [some (.ref 21), some (.int (nI k)), some (.int (nI 5)), some (.int 2), some (.int (M 22 k)), some (.int (M 23 k)), some (.int (M 24 k))]) rfl ?_
    refine ev_s rfl ?_
    refine ev_sw (off := 123) rfl (by decide) rfl ?_
    show Ev _ _ 148 _ _ _ _
    refine ev_s rfl ?_
    refine ev_if rfl rfl ?_
    show Ev _ _ 157 _ _ _ _
    refine ev_s rfl ?_
    refine ev_ik (v := 1) rfl (by decide) ?_
    refine ev_ic rfl rfl ?_
    show Ev _ _ 167 _ _ _ _
    refine ev_s rfl ?_
    refine ev_ri rfl rfl ?_ ?_
    · rfl
    · rfl
  | t + 6, h => exact absurd h (by omega)
def mAb (M : Nat → Nat → Int32) (a b : Nat) : Prop := ¬ (cmn (M 30 a) (M 33 a) (M 30 b) (M 33 b)) ≤ 0 ∧ ¬ (cmn (M 32 a) (M 35 a) (M 32 b) (M 35 b)) ≤ 0 ∧ ¬ (M 31 a) < ((M 31 b) + (M 34 b))
set_option maxHeartbeats 4000000 in
theorem rn_isAbove {np : Nat} {M : Nat → Nat → Int32} {L : Nat → Int64} {a b : Nat} (ha : a < 6) (hb : b < 6) (d : Nat) : Rn (d + 1) mX6_isAbove [(.ref 21), (.int (nI a)), (.int (nI b))] (mk np M L) (some (.int (zi (mAb M a b)))) (mk np M L) := by
  unfold Rn
  refine ev_s rfl ?_
  refine ev_gf (rd np M L (by omega) rfl) rfl rfl rfl ?_
  refine ev_s rfl ?_
  refine ev_ia (rd np M L (by omega) rfl) rfl (zin_nI (by omega) (by decide)) ?_
  refine ev_s rfl ?_
  refine ev_gf (rd np M L (by omega) rfl) rfl rfl rfl ?_
  refine ev_s rfl ?_
  refine ev_ia (rd np M L (by omega) rfl) rfl (zin_nI (by omega) (by decide)) ?_
  refine ev_s rfl ?_
  refine ev_gf (rd np M L (by omega) rfl) rfl rfl rfl ?_
  refine ev_s rfl ?_
  refine ev_ia (rd np M L (by omega) rfl) rfl (zin_nI (by omega) (by decide)) ?_
  refine ev_s rfl ?_
  refine ev_gf (rd np M L (by omega) rfl) rfl rfl rfl ?_
  refine ev_s rfl ?_
  refine ev_ia (rd np M L (by omega) rfl) rfl (zin_nI (by omega) (by decide)) ?_
  refine ev_cs (vs := [(.int (M 30 a)), (.int (M 33 a)), (.int (M 30 b)), (.int (M 33 b))]) (rest := []) (rv := (some (.int (cmn (M 30 a) (M 33 a) (M 30 b) (M 33 b))))) rfl rfl rfl rfl rfl (rn_common _) ?_
  show Ev _ _ 27 _ [(.int (cmn (M 30 a) (M 33 a) (M 30 b) (M 33 b)))] _ _
  refine ev_if rfl rfl (ev_br (zb_le _ _ _ _) (fun c1 => ?_) (fun c1 => ?_))
  · show Ev _ _ 86 _ _ _ _
    refine ev_ik (v := 0) rfl (by decide) ?_
    refine ev_rz rfl rfl (by decide) ?_ ?_
    · exact some_i (zi_f (fun h => h.1 c1)).symm
    · rfl
  · show Ev _ _ 30 _ _ _ _
    refine ev_s rfl ?_
    refine ev_gf (rd np M L (by omega) rfl) rfl rfl rfl ?_
    refine ev_s rfl ?_
    refine ev_ia (rd np M L (by omega) rfl) rfl (zin_nI (by omega) (by decide)) ?_
    refine ev_s rfl ?_
    refine ev_gf (rd np M L (by omega) rfl) rfl rfl rfl ?_
    refine ev_s rfl ?_
    refine ev_ia (rd np M L (by omega) rfl) rfl (zin_nI (by omega) (by decide)) ?_
    refine ev_s rfl ?_
    refine ev_gf (rd np M L (by omega) rfl) rfl rfl rfl ?_
    refine ev_s rfl ?_
    refine ev_ia (rd np M L (by omega) rfl) rfl (zin_nI (by omega) (by decide)) ?_
    refine ev_s rfl ?_
    refine ev_gf (rd np M L (by omega) rfl) rfl rfl rfl ?_
    refine ev_s rfl ?_
    refine ev_ia (rd np M L (by omega) rfl) rfl (zin_nI (by omega) (by decide)) ?_
    refine ev_cs (vs := [(.int (M 32 a)), (.int (M 35 a)), (.int (M 32 b)), (.int (M 35 b))]) (rest := []) (rv := (some (.int (cmn (M 32 a) (M 35 a) (M 32 b) (M 35 b))))) rfl rfl rfl rfl rfl (rn_common _) ?_
    show Ev _ _ 57 _ [(.int (cmn (M 32 a) (M 35 a) (M 32 b) (M 35 b)))] _ _
    refine ev_if rfl rfl (ev_br (zb_le _ _ _ _) (fun c2 => ?_) (fun c2 => ?_))
    · show Ev _ _ 86 _ _ _ _
      refine ev_ik (v := 0) rfl (by decide) ?_
      refine ev_rz rfl rfl (by decide) ?_ ?_
      · exact some_i (zi_f (fun h => h.2.1 c2)).symm
      · rfl
    · show Ev _ _ 60 _ _ _ _
      refine ev_s rfl ?_
      refine ev_gf (rd np M L (by omega) rfl) rfl rfl rfl ?_
      refine ev_s rfl ?_
      refine ev_ia (rd np M L (by omega) rfl) rfl (zin_nI (by omega) (by decide)) ?_
      refine ev_s rfl ?_
      refine ev_gf (rd np M L (by omega) rfl) rfl rfl rfl ?_
      refine ev_s rfl ?_
      refine ev_ia (rd np M L (by omega) rfl) rfl (zin_nI (by omega) (by decide)) ?_
      refine ev_s rfl ?_
      refine ev_gf (rd np M L (by omega) rfl) rfl rfl rfl ?_
      refine ev_s rfl ?_
      refine ev_ia (rd np M L (by omega) rfl) rfl (zin_nI (by omega) (by decide)) ?_
      refine ev_s rfl ?_
      refine ev_ic rfl rfl (ev_br (zb_lt _ _ _ _) (fun c3 => ?_) (fun c3 => ?_))
      · show Ev _ _ 86 _ _ _ _
        refine ev_ik (v := 0) rfl (by decide) ?_
        refine ev_rz rfl rfl (by decide) ?_ ?_
        · exact some_i (zi_f (fun h => h.2.2 c3)).symm
        · rfl
      · show Ev _ _ 82 _ _ _ _
        refine ev_ik (v := 1) rfl (by decide) ?_
        refine ev_s rfl ?_
        refine ev_rz rfl rfl (by decide) ?_ ?_
        · exact some_i (zi_t ⟨c1, c2, c3⟩).symm
        · rfl
def mBf (M : Nat → Nat → Int32) (a b : Nat) : Prop := ¬ (cmn (M 30 a) (M 33 a) (M 30 b) (M 33 b)) ≤ 0 ∧ ¬ (cmn (M 31 a) (M 34 a) (M 31 b) (M 34 b)) ≤ 0 ∧ ¬ (M 32 a) < ((M 32 b) + (M 35 b))
set_option maxHeartbeats 4000000 in
theorem rn_isBefore {np : Nat} {M : Nat → Nat → Int32} {L : Nat → Int64} {a b : Nat} (ha : a < 6) (hb : b < 6) (d : Nat) : Rn (d + 1) mX6_isBefore [(.ref 21), (.int (nI a)), (.int (nI b))] (mk np M L) (some (.int (zi (mBf M a b)))) (mk np M L) := by
  unfold Rn
  refine ev_s rfl ?_
  refine ev_gf (rd np M L (by omega) rfl) rfl rfl rfl ?_
  refine ev_s rfl ?_
  refine ev_ia (rd np M L (by omega) rfl) rfl (zin_nI (by omega) (by decide)) ?_
  refine ev_s rfl ?_
  refine ev_gf (rd np M L (by omega) rfl) rfl rfl rfl ?_
  refine ev_s rfl ?_
  refine ev_ia (rd np M L (by omega) rfl) rfl (zin_nI (by omega) (by decide)) ?_
  refine ev_s rfl ?_
  refine ev_gf (rd np M L (by omega) rfl) rfl rfl rfl ?_
  refine ev_s rfl ?_
  refine ev_ia (rd np M L (by omega) rfl) rfl (zin_nI (by omega) (by decide)) ?_
  refine ev_s rfl ?_
  refine ev_gf (rd np M L (by omega) rfl) rfl rfl rfl ?_
  refine ev_s rfl ?_
  refine ev_ia (rd np M L (by omega) rfl) rfl (zin_nI (by omega) (by decide)) ?_
  refine ev_cs (vs := [(.int (M 30 a)), (.int (M 33 a)), (.int (M 30 b)), (.int (M 33 b))]) (rest := []) (rv := (some (.int (cmn (M 30 a) (M 33 a) (M 30 b) (M 33 b))))) rfl rfl rfl rfl rfl (rn_common _) ?_
  show Ev _ _ 27 _ [(.int (cmn (M 30 a) (M 33 a) (M 30 b) (M 33 b)))] _ _
  refine ev_if rfl rfl (ev_br (zb_le _ _ _ _) (fun c1 => ?_) (fun c1 => ?_))
  · show Ev _ _ 86 _ _ _ _
    refine ev_ik (v := 0) rfl (by decide) ?_
    refine ev_rz rfl rfl (by decide) ?_ ?_
    · exact some_i (zi_f (fun h => h.1 c1)).symm
    · rfl
  · show Ev _ _ 30 _ _ _ _
    refine ev_s rfl ?_
    refine ev_gf (rd np M L (by omega) rfl) rfl rfl rfl ?_
    refine ev_s rfl ?_
    refine ev_ia (rd np M L (by omega) rfl) rfl (zin_nI (by omega) (by decide)) ?_
    refine ev_s rfl ?_
    refine ev_gf (rd np M L (by omega) rfl) rfl rfl rfl ?_
    refine ev_s rfl ?_
    refine ev_ia (rd np M L (by omega) rfl) rfl (zin_nI (by omega) (by decide)) ?_
    refine ev_s rfl ?_
    refine ev_gf (rd np M L (by omega) rfl) rfl rfl rfl ?_
    refine ev_s rfl ?_
    refine ev_ia (rd np M L (by omega) rfl) rfl (zin_nI (by omega) (by decide)) ?_
    refine ev_s rfl ?_
    refine ev_gf (rd np M L (by omega) rfl) rfl rfl rfl ?_
    refine ev_s rfl ?_
    refine ev_ia (rd np M L (by omega) rfl) rfl (zin_nI (by omega) (by decide)) ?_
    refine ev_cs (vs := [(.int (M 31 a)), (.int (M 34 a)), (.int (M 31 b)), (.int (M 34 b))]) (rest := []) (rv := (some (.int (cmn (M 31 a) (M 34 a) (M 31 b) (M 34 b))))) rfl rfl rfl rfl rfl (rn_common _) ?_
    show Ev _ _ 57 _ [(.int (cmn (M 31 a) (M 34 a) (M 31 b) (M 34 b)))] _ _
    refine ev_if rfl rfl (ev_br (zb_le _ _ _ _) (fun c2 => ?_) (fun c2 => ?_))
    · show Ev _ _ 86 _ _ _ _
      refine ev_ik (v := 0) rfl (by decide) ?_
      refine ev_rz rfl rfl (by decide) ?_ ?_
      · exact some_i (zi_f (fun h => h.2.1 c2)).symm
      · rfl
    · show Ev _ _ 60 _ _ _ _
      refine ev_s rfl ?_
      refine ev_gf (rd np M L (by omega) rfl) rfl rfl rfl ?_
      refine ev_s rfl ?_
      refine ev_ia (rd np M L (by omega) rfl) rfl (zin_nI (by omega) (by decide)) ?_
      refine ev_s rfl ?_
      refine ev_gf (rd np M L (by omega) rfl) rfl rfl rfl ?_
      refine ev_s rfl ?_
      refine ev_ia (rd np M L (by omega) rfl) rfl (zin_nI (by omega) (by decide)) ?_
      refine ev_s rfl ?_
      refine ev_gf (rd np M L (by omega) rfl) rfl rfl rfl ?_
      refine ev_s rfl ?_
      refine ev_ia (rd np M L (by omega) rfl) rfl (zin_nI (by omega) (by decide)) ?_
      refine ev_s rfl ?_
      refine ev_ic rfl rfl (ev_br (zb_lt _ _ _ _) (fun c3 => ?_) (fun c3 => ?_))
      · show Ev _ _ 86 _ _ _ _
        refine ev_ik (v := 0) rfl (by decide) ?_
        refine ev_rz rfl rfl (by decide) ?_ ?_
        · exact some_i (zi_f (fun h => h.2.2 c3)).symm
        · rfl
      · show Ev _ _ 82 _ _ _ _
        refine ev_ik (v := 1) rfl (by decide) ?_
        refine ev_s rfl ?_
        refine ev_rz rfl rfl (by decide) ?_ ?_
        · exact some_i (zi_t ⟨c1, c2, c3⟩).symm
        · rfl
def fitM (M : Nat → Nat → Int32) (k t : Nat) : Prop := ¬ M 21 0 < tW (pf M k) t ∧ ¬ M 21 1 < tH (pf M k) t ∧ ¬ M 21 2 < tD (pf M k) t
def mLg (M : Nat → Nat → Int32) (k : Nat) : Prop := ¬ ∃ t, t < tmo (M 26 k) ∧ fitM M k t
theorem tmo_le (x : Int32) : tmo x ≤ 6 := by unfold tmo; split <;> (try split) <;> omega
set_option maxHeartbeats 4000000 in
theorem lp_mlg {np : Nat} {M : Nat → Nat → Int32} {L : Nat → Int64} {k : Nat} (hk : k < 6) (d : Nat) : ∀ n t, t + n = tmo (M 26 k) → Ev (d + 1) mX6_isLarge 4 [some (.ref 21), some (.int (nI k)), some (.int (zi (∃ q, q < t ∧ fitM M k q))), some (.int (nI t))] [] (mk np M L) (Qr mX6_isLarge (some (.int (zi (mLg M k)))) (mk np M L)) := by
  intro n
  have ht6 := tmo_le (M 26 k)
  induction n with
  | zero =>
    intro t htn
    iterate 2 refine ev_s rfl ?_
    refine ev_gf (rd np M L (by omega) rfl) rfl rfl rfl ?_
    refine ev_s rfl ?_
    refine ev_ia (rd np M L (by omega) rfl) rfl (zin_nI (by omega) (by decide)) ?_
    refine ev_cs (vs := [(.int (M 26 k))]) (rest := [(.int (nI t))]) (rv := (some (.int (nI (tmo (M 26 k)))))) rfl rfl rfl rfl rfl (rn_turnsOf _) ?_
    show Ev _ _ 14 _ [(.int (nI (tmo (M 26 k)))), (.int (nI t))] _ _
    refine ev_ic rfl rfl ?_
    rw [show zbr .ge (nI t) (nI (tmo (M 26 k))) 75 17 = 75 from zge_t (n := tmo (M 26 k)) rfl (by omega) (by omega)]
    refine ev_s rfl ?_
    refine ev_if rfl rfl (ev_bzn (fun c1 => ?_) (fun c1 => ?_))
    · show Ev _ _ 83 _ _ _ _
      refine ev_ik (v := 0) rfl (by decide) ?_
      refine ev_rz rfl rfl (by decide) ?_ ?_
      · exact some_i (zi_f (show ¬ mLg M k from fun h => h ⟨c1.choose, by have := c1.choose_spec.1; omega, c1.choose_spec.2⟩)).symm
      · rfl
    · show Ev _ _ 79 _ _ _ _
      refine ev_ik (v := 1) rfl (by decide) ?_
      refine ev_s rfl ?_
      refine ev_rz rfl rfl (by decide) ?_ ?_
      · exact some_i (zi_t (show mLg M k from fun ⟨q, h1, h2⟩ => c1 ⟨q, by omega, h2⟩)).symm
      · rfl
  | succ n ih =>
    intro t htn
    have htt : t < tmo (M 26 k) := by omega
    have e9 := ih (t + 1) (by omega)
    iterate 2 refine ev_s rfl ?_
    refine ev_gf (rd np M L (by omega) rfl) rfl rfl rfl ?_
    refine ev_s rfl ?_
    refine ev_ia (rd np M L (by omega) rfl) rfl (zin_nI (by omega) (by decide)) ?_
    refine ev_cs (vs := [(.int (M 26 k))]) (rest := [(.int (nI t))]) (rv := (some (.int (nI (tmo (M 26 k)))))) rfl rfl rfl rfl rfl (rn_turnsOf _) ?_
    show Ev _ _ 14 _ [(.int (nI (tmo (M 26 k)))), (.int (nI t))] _ _
    refine ev_ic rfl rfl ?_
    rw [show zbr .ge (nI t) (nI (tmo (M 26 k))) 75 17 = 17 from zge_f (n := tmo (M 26 k)) rfl htt (by omega)]
    refine ev_s rfl ?_
    refine ev_if rfl rfl (ev_bzn (fun c1 => ?_) (fun c1 => ?_))
    · show Ev _ _ 63 _ _ _ _
      refine ev_ik (v := 1) rfl (by decide) ?_
      refine ev_s rfl ?_
      refine ev_s (ls' := [some (.ref 21), some (.int (nI k)), some (.int 1), some (.int (nI t))]) rfl ?_
      refine ev_inc (y := 1) (v := nI (t + 1)) (ls' := [some (.ref 21), some (.int (nI k)), some (.int 1), some (.int (nI (t + 1)))]) rfl rfl (by decide) (nI_1 _) rfl ?_
      refine ev_s rfl ?_
      rw [zi_t (show ∃ q, q < t + 1 ∧ fitM M k q from ⟨c1.choose, by have := c1.choose_spec.1; omega, c1.choose_spec.2⟩)] at e9
      exact e9
    · show Ev _ _ 21 _ _ _ _
      iterate 3 refine ev_s rfl ?_
      refine ev_ik (v := 0) rfl (by decide) ?_
      refine ev_cv (vs := [(.ref 21), (.int (nI k)), (.int (nI t)), (.int 0)]) (rest := []) (rv := (some (.int (tW (pf M k) t)))) rfl rfl rfl (rd np M L (by omega) rfl) rfl rfl rfl rfl (rn_measure0 (k := k) (t := t) (by omega) (by omega) _) ?_
      show Ev _ _ 28 _ [(.int (tW (pf M k) t))] _ _
      refine ev_s rfl ?_
      refine ev_gf (rd np M L (by omega) rfl) rfl rfl rfl ?_
      refine ev_ic rfl rfl (ev_br (zb_gt _ _ _ _) (fun c2 => ?_) (fun c2 => ?_))
      · show Ev _ _ 67 _ _ _ _
        refine ev_ik (v := 0) rfl (by decide) ?_
        refine ev_s (ls' := [some (.ref 21), some (.int (nI k)), some (.int 0), some (.int (nI t))]) rfl ?_
        refine ev_inc (y := 1) (v := nI (t + 1)) (ls' := [some (.ref 21), some (.int (nI k)), some (.int 0), some (.int (nI (t + 1)))]) rfl rfl (by decide) (nI_1 _) rfl ?_
        refine ev_s rfl ?_
        rw [zi_f (show ¬ ∃ q, q < t + 1 ∧ fitM M k q from fun ⟨q, h1, h2⟩ => by
          rcases Nat.lt_or_ge q t with z | z
          · exact c1 ⟨q, z, h2⟩
          · obtain rfl : q = t := by omega
            exact h2.1 c2)] at e9
        exact e9
      · show Ev _ _ 35 _ _ _ _
        iterate 3 refine ev_s rfl ?_
        refine ev_ik (v := 1) rfl (by decide) ?_
        refine ev_cv (vs := [(.ref 21), (.int (nI k)), (.int (nI t)), (.int 1)]) (rest := []) (rv := (some (.int (tH (pf M k) t)))) rfl rfl rfl (rd np M L (by omega) rfl) rfl rfl rfl rfl (rn_measure1 (k := k) (t := t) (by omega) (by omega) _) ?_
        show Ev _ _ 42 _ [(.int (tH (pf M k) t))] _ _
        refine ev_s rfl ?_
        refine ev_gf (rd np M L (by omega) rfl) rfl rfl rfl ?_
        refine ev_ic rfl rfl (ev_br (zb_gt _ _ _ _) (fun c3 => ?_) (fun c3 => ?_))
        · show Ev _ _ 67 _ _ _ _
          refine ev_ik (v := 0) rfl (by decide) ?_
          refine ev_s (ls' := [some (.ref 21), some (.int (nI k)), some (.int 0), some (.int (nI t))]) rfl ?_
          refine ev_inc (y := 1) (v := nI (t + 1)) (ls' := [some (.ref 21), some (.int (nI k)), some (.int 0), some (.int (nI (t + 1)))]) rfl rfl (by decide) (nI_1 _) rfl ?_
          refine ev_s rfl ?_
          rw [zi_f (show ¬ ∃ q, q < t + 1 ∧ fitM M k q from fun ⟨q, h1, h2⟩ => by
            rcases Nat.lt_or_ge q t with z | z
            · exact c1 ⟨q, z, h2⟩
            · obtain rfl : q = t := by omega
              exact h2.2.1 c3)] at e9
          exact e9
        · show Ev _ _ 49 _ _ _ _
          iterate 3 refine ev_s rfl ?_
          refine ev_ik (v := 2) rfl (by decide) ?_
          refine ev_cv (vs := [(.ref 21), (.int (nI k)), (.int (nI t)), (.int 2)]) (rest := []) (rv := (some (.int (tD (pf M k) t)))) rfl rfl rfl (rd np M L (by omega) rfl) rfl rfl rfl rfl (rn_measure2 (k := k) (t := t) (by omega) (by omega) _) ?_
          show Ev _ _ 56 _ [(.int (tD (pf M k) t))] _ _
          refine ev_s rfl ?_
          refine ev_gf (rd np M L (by omega) rfl) rfl rfl rfl ?_
          refine ev_ic rfl rfl (ev_br (zb_gt _ _ _ _) (fun c4 => ?_) (fun c4 => ?_))
          · show Ev _ _ 67 _ _ _ _
            refine ev_ik (v := 0) rfl (by decide) ?_
            refine ev_s (ls' := [some (.ref 21), some (.int (nI k)), some (.int 0), some (.int (nI t))]) rfl ?_
            refine ev_inc (y := 1) (v := nI (t + 1)) (ls' := [some (.ref 21), some (.int (nI k)), some (.int 0), some (.int (nI (t + 1)))]) rfl rfl (by decide) (nI_1 _) rfl ?_
            refine ev_s rfl ?_
            rw [zi_f (show ¬ ∃ q, q < t + 1 ∧ fitM M k q from fun ⟨q, h1, h2⟩ => by
              rcases Nat.lt_or_ge q t with z | z
              · exact c1 ⟨q, z, h2⟩
              · obtain rfl : q = t := by omega
                exact h2.2.2 c4)] at e9
            exact e9
          · show Ev _ _ 63 _ _ _ _
            refine ev_ik (v := 1) rfl (by decide) ?_
            refine ev_s rfl ?_
            refine ev_s (ls' := [some (.ref 21), some (.int (nI k)), some (.int 1), some (.int (nI t))]) rfl ?_
            refine ev_inc (y := 1) (v := nI (t + 1)) (ls' := [some (.ref 21), some (.int (nI k)), some (.int 1), some (.int (nI (t + 1)))]) rfl rfl (by decide) (nI_1 _) rfl ?_
            refine ev_s rfl ?_
            rw [zi_t (show ∃ q, q < t + 1 ∧ fitM M k q from ⟨t, by omega, c2, c3, c4⟩)] at e9
            exact e9
set_option maxHeartbeats 4000000 in
theorem rn_mlg {np : Nat} {M : Nat → Nat → Int32} {L : Nat → Int64} {k : Nat} (hk : k < 6) (d : Nat) : Rn (d + 1) mX6_isLarge [(.ref 21), (.int (nI k))] (mk np M L) (some (.int (zi (mLg M k)))) (mk np M L) := by
  unfold Rn
  refine ev_ik (v := 0) rfl (by decide) ?_
  refine ev_s (ls' := [some (.ref 21), some (.int (nI k)), some (.int 0), none]) rfl ?_
  refine ev_ik (v := 0) rfl (by decide) ?_
  refine ev_s (ls' := [some (.ref 21), some (.int (nI k)), some (.int 0), some (.int 0)]) rfl ?_
  have e9 := lp_mlg (np := np) (M := M) (L := L) hk d (tmo (M 26 k)) 0 (by omega)
  rw [zi_f (show ¬ ∃ q, q < 0 ∧ fitM M k q from fun ⟨q, h, _⟩ => absurd h (by omega))] at e9
  exact e9
set_option maxHeartbeats 4000000 in
theorem rn_mturn_u {np : Nat} {M : Nat → Nat → Int32} {L : Nat → Int64} {n x : Int32} (hu : ¬ mW n 1 (M 21 3)) (d : Nat) : Rn (d + 2) mX6_turn [(.ref 21), (.int n), (.int x)] (mk np M L) (some (.int (-101))) (mk np M L) := by
  unfold Rn
  iterate 2 refine ev_s rfl ?_
  refine ev_cv (vs := [(.ref 21), (.int n)]) (rest := []) (rv := (some (.int 0))) rfl rfl rfl (rd np M L (by omega) rfl) rfl rfl rfl rfl (by have e9 := rn_isPiece (np := np) (M := M) (L := L) (n := n) d; rwa [zi_f hu] at e9) ?_
  show Ev _ _ 5 _ [(.int 0)] _ _
  refine ev_if rfl rfl ?_
  show Ev _ _ 8 _ _ _ _
  refine ev_bi (v := (-101)) rfl (by decide) ?_
  refine ev_ri rfl rfl ?_ ?_
  · rfl
  · rfl
set_option maxHeartbeats 4000000 in
theorem rn_mlimit_u {np : Nat} {M : Nat → Nat → Int32} {L : Nat → Int64} {n x : Int32} (hu : ¬ mW n 1 (M 21 3)) (d : Nat) : Rn (d + 2) mX6_limit [(.ref 21), (.int n), (.int x)] (mk np M L) (some (.int (-101))) (mk np M L) := by
  unfold Rn
  iterate 2 refine ev_s rfl ?_
  refine ev_cv (vs := [(.ref 21), (.int n)]) (rest := []) (rv := (some (.int 0))) rfl rfl rfl (rd np M L (by omega) rfl) rfl rfl rfl rfl (by have e9 := rn_isPiece (np := np) (M := M) (L := L) (n := n) d; rwa [zi_f hu] at e9) ?_
  show Ev _ _ 5 _ [(.int 0)] _ _
  refine ev_if rfl rfl ?_
  show Ev _ _ 8 _ _ _ _
  refine ev_bi (v := (-101)) rfl (by decide) ?_
  refine ev_ri rfl rfl ?_ ?_
  · rfl
  · rfl
set_option maxHeartbeats 4000000 in
theorem rn_morder_u {np : Nat} {M : Nat → Nat → Int32} {L : Nat → Int64} {n x : Int32} (hu : ¬ mW n 1 (M 21 3)) (d : Nat) : Rn (d + 2) mX6_order [(.ref 21), (.int n), (.int x)] (mk np M L) (some (.int (-101))) (mk np M L) := by
  unfold Rn
  iterate 2 refine ev_s rfl ?_
  refine ev_cv (vs := [(.ref 21), (.int n)]) (rest := []) (rv := (some (.int 0))) rfl rfl rfl (rd np M L (by omega) rfl) rfl rfl rfl rfl (by have e9 := rn_isPiece (np := np) (M := M) (L := L) (n := n) d; rwa [zi_f hu] at e9) ?_
  show Ev _ _ 5 _ [(.int 0)] _ _
  refine ev_if rfl rfl ?_
  show Ev _ _ 8 _ _ _ _
  refine ev_bi (v := (-101)) rfl (by decide) ?_
  refine ev_ri rfl rfl ?_ ?_
  · rfl
  · rfl
set_option maxHeartbeats 4000000 in
theorem rn_mat_u {np : Nat} {M : Nat → Nat → Int32} {L : Nat → Int64} {n x : Int32} (hu : ¬ mW n 1 (M 21 3)) (d : Nat) : Rn (d + 2) mX6_at [(.ref 21), (.int n), (.int x)] (mk np M L) (some (.int (-101))) (mk np M L) := by
  unfold Rn
  iterate 2 refine ev_s rfl ?_
  refine ev_cv (vs := [(.ref 21), (.int n)]) (rest := []) (rv := (some (.int 0))) rfl rfl rfl (rd np M L (by omega) rfl) rfl rfl rfl rfl (by have e9 := rn_isPiece (np := np) (M := M) (L := L) (n := n) d; rwa [zi_f hu] at e9) ?_
  show Ev _ _ 5 _ [(.int 0)] _ _
  refine ev_if rfl rfl ?_
  show Ev _ _ 8 _ _ _ _
  refine ev_bi (v := (-101)) rfl (by decide) ?_
  refine ev_ri rfl rfl ?_ ?_
  · rfl
  · rfl
set_option maxHeartbeats 4000000 in
theorem rn_mlarge_u {np : Nat} {M : Nat → Nat → Int32} {L : Nat → Int64} {n : Int32} (hu : ¬ mW n 1 (M 21 3)) (d : Nat) : Rn (d + 2) mX6_large [(.ref 21), (.int n)] (mk np M L) (some (.int (-101))) (mk np M L) := by
  unfold Rn
  iterate 2 refine ev_s rfl ?_
  refine ev_cv (vs := [(.ref 21), (.int n)]) (rest := []) (rv := (some (.int 0))) rfl rfl rfl (rd np M L (by omega) rfl) rfl rfl rfl rfl (by have e9 := rn_isPiece (np := np) (M := M) (L := L) (n := n) d; rwa [zi_f hu] at e9) ?_
  show Ev _ _ 5 _ [(.int 0)] _ _
  refine ev_if rfl rfl ?_
  show Ev _ _ 8 _ _ _ _
  refine ev_bi (v := (-101)) rfl (by decide) ?_
  refine ev_s rfl ?_
  refine ev_ri rfl rfl ?_ ?_
  · rfl
  · rfl
set_option maxHeartbeats 4000000 in
theorem rn_mturn_k {np : Nat} {M : Nat → Nat → Int32} {L : Nat → Int64} {k : Nat} {x : Int32} (hn : np ≤ 6) (hk : k < np) (hc : M 21 3 = nI np) (d : Nat) : Rn (d + 2) mX6_turn [(.ref 21), (.int (nI (k + 1))), (.int x)] (mk np M L) (some (.int (cIf (mW x 0 2) (M 26 k) (-102)))) (mk np (cIf (mW x 0 2) (up2 M 26 k x) M) L) := by
  unfold Rn
  iterate 2 refine ev_s rfl ?_
  refine ev_cv (vs := [(.ref 21), (.int (nI (k + 1)))]) (rest := []) (rv := (some (.int 1))) rfl rfl rfl (rd np M L (by omega) rfl) rfl rfl rfl rfl (Rn_le (show Rn 1 _ _ _ _ _ from by have e9 := rn_isPiece (np := np) (M := M) (L := L) (n := nI (k + 1)) 0; rwa [hc, zi_t (mW_nI hn hk)] at e9) (by omega)) ?_
  show Ev _ _ 5 _ [(.int 1)] _ _
  refine ev_if rfl rfl ?_
  show Ev _ _ 11 _ _ _ _
  refine ev_s rfl ?_
  refine ev_ik (v := 0) rfl (by decide) ?_
  refine ev_ik (v := 2) rfl (by decide) ?_
  refine ev_cs (vs := [(.int x), (.int 0), (.int 2)]) (rest := []) (rv := (some (.int (zi (mW x 0 2))))) rfl rfl rfl rfl rfl (rn_within _) ?_
  show Ev _ _ 17 _ [(.int (zi (mW x 0 2)))] _ _
  refine ev_if rfl rfl (ev_bzn (fun c1 => ?_) (fun c1 => ?_))
  · show Ev _ _ 23 _ _ _ _
    refine ev_s rfl ?_
    refine ev_gf (rd np M L (by omega) rfl) rfl rfl rfl ?_
    refine ev_s rfl ?_
    refine ev_ik (v := 1) rfl (by decide) ?_
    refine ev_s rfl ?_
    refine ev_ia (rd np M L (by omega) rfl) rfl (by rw [nI_pred]; exact zin_nI (by omega) (by decide)) ?_
    refine ev_s (ls' := [some (.ref 21), some (.int (nI (k + 1))), some (.int x), some (.int (M 26 k))]) rfl ?_
    refine ev_s rfl ?_
    refine ev_gf (rd np M L (by omega) rfl) rfl rfl rfl ?_
    refine ev_s rfl ?_
    refine ev_ik (v := 1) rfl (by decide) ?_
    iterate 2 refine ev_s rfl ?_
    refine ev_is (hp' := (mk np (up2 M 26 k x) L)) (rd np M L (by omega) rfl) rfl (by rw [nI_pred]; exact zin_nI (by omega) (by decide)) (mk_setr rfl rfl rfl) ?_
    refine ev_s rfl ?_
    refine ev_ri rfl rfl ?_ ?_
    · rw [cIf_t c1]
    · rw [cIf_t c1]
  · show Ev _ _ 20 _ _ _ _
    refine ev_bi (v := (-102)) rfl (by decide) ?_
    refine ev_ri rfl rfl ?_ ?_
    · rw [cIf_f c1]
    · rw [cIf_f c1]
set_option maxHeartbeats 4000000 in
theorem rn_mlimit_k {np : Nat} {M : Nat → Nat → Int32} {L : Nat → Int64} {k : Nat} {x : Int32} (hn : np ≤ 6) (hk : k < np) (hc : M 21 3 = nI np) (d : Nat) : Rn (d + 2) mX6_limit [(.ref 21), (.int (nI (k + 1))), (.int x)] (mk np M L) (some (.int (cIf (mW x (-1) 6000) 1 (-102)))) (mk np (cIf (mW x (-1) 6000) (up2 M 27 k x) M) L) := by
  unfold Rn
  iterate 2 refine ev_s rfl ?_
  refine ev_cv (vs := [(.ref 21), (.int (nI (k + 1)))]) (rest := []) (rv := (some (.int 1))) rfl rfl rfl (rd np M L (by omega) rfl) rfl rfl rfl rfl (Rn_le (show Rn 1 _ _ _ _ _ from by have e9 := rn_isPiece (np := np) (M := M) (L := L) (n := nI (k + 1)) 0; rwa [hc, zi_t (mW_nI hn hk)] at e9) (by omega)) ?_
  show Ev _ _ 5 _ [(.int 1)] _ _
  refine ev_if rfl rfl ?_
  show Ev _ _ 11 _ _ _ _
  refine ev_s rfl ?_
  refine ev_ik (v := (-1)) rfl (by decide) ?_
  refine ev_si (v := 6000) rfl (by decide) ?_
  refine ev_cs (vs := [(.int x), (.int (-1)), (.int 6000)]) (rest := []) (rv := (some (.int (zi (mW x (-1) 6000))))) rfl rfl rfl rfl rfl (rn_within _) ?_
  show Ev _ _ 19 _ [(.int (zi (mW x (-1) 6000)))] _ _
  refine ev_if rfl rfl (ev_bzn (fun c1 => ?_) (fun c1 => ?_))
  · show Ev _ _ 25 _ _ _ _
    refine ev_s rfl ?_
    refine ev_gf (rd np M L (by omega) rfl) rfl rfl rfl ?_
    refine ev_s rfl ?_
    refine ev_ik (v := 1) rfl (by decide) ?_
    iterate 2 refine ev_s rfl ?_
    refine ev_is (hp' := (mk np (up2 M 27 k x) L)) (rd np M L (by omega) rfl) rfl (by rw [nI_pred]; exact zin_nI (by omega) (by decide)) (mk_setr rfl rfl rfl) ?_
    refine ev_ik (v := 1) rfl (by decide) ?_
    refine ev_ri rfl rfl ?_ ?_
    · rw [cIf_t c1]
    · rw [cIf_t c1]
  · show Ev _ _ 22 _ _ _ _
    refine ev_bi (v := (-102)) rfl (by decide) ?_
    refine ev_ri rfl rfl ?_ ?_
    · rw [cIf_f c1]
    · rw [cIf_f c1]
set_option maxHeartbeats 4000000 in
theorem rn_morder_k {np : Nat} {M : Nat → Nat → Int32} {L : Nat → Int64} {k : Nat} {x : Int32} (hn : np ≤ 6) (hk : k < np) (hc : M 21 3 = nI np) (d : Nat) : Rn (d + 2) mX6_order [(.ref 21), (.int (nI (k + 1))), (.int x)] (mk np M L) (some (.int (cIf (mW x 0 9) (M 28 k) (-102)))) (mk np (cIf (mW x 0 9) (up2 M 28 k x) M) L) := by
  unfold Rn
  iterate 2 refine ev_s rfl ?_
  refine ev_cv (vs := [(.ref 21), (.int (nI (k + 1)))]) (rest := []) (rv := (some (.int 1))) rfl rfl rfl (rd np M L (by omega) rfl) rfl rfl rfl rfl (Rn_le (show Rn 1 _ _ _ _ _ from by have e9 := rn_isPiece (np := np) (M := M) (L := L) (n := nI (k + 1)) 0; rwa [hc, zi_t (mW_nI hn hk)] at e9) (by omega)) ?_
  show Ev _ _ 5 _ [(.int 1)] _ _
  refine ev_if rfl rfl ?_
  show Ev _ _ 11 _ _ _ _
  refine ev_s rfl ?_
  refine ev_ik (v := 0) rfl (by decide) ?_
  refine ev_bi (v := 9) rfl (by decide) ?_
  refine ev_cs (vs := [(.int x), (.int 0), (.int 9)]) (rest := []) (rv := (some (.int (zi (mW x 0 9))))) rfl rfl rfl rfl rfl (rn_within _) ?_
  show Ev _ _ 18 _ [(.int (zi (mW x 0 9)))] _ _
  refine ev_if rfl rfl (ev_bzn (fun c1 => ?_) (fun c1 => ?_))
  · show Ev _ _ 24 _ _ _ _
    refine ev_s rfl ?_
    refine ev_gf (rd np M L (by omega) rfl) rfl rfl rfl ?_
    refine ev_s rfl ?_
    refine ev_ik (v := 1) rfl (by decide) ?_
    refine ev_s rfl ?_
    refine ev_ia (rd np M L (by omega) rfl) rfl (by rw [nI_pred]; exact zin_nI (by omega) (by decide)) ?_
    refine ev_s (ls' := [some (.ref 21), some (.int (nI (k + 1))), some (.int x), some (.int (M 28 k))]) rfl ?_
    refine ev_s rfl ?_
    refine ev_gf (rd np M L (by omega) rfl) rfl rfl rfl ?_
    refine ev_s rfl ?_
    refine ev_ik (v := 1) rfl (by decide) ?_
    iterate 2 refine ev_s rfl ?_
    refine ev_is (hp' := (mk np (up2 M 28 k x) L)) (rd np M L (by omega) rfl) rfl (by rw [nI_pred]; exact zin_nI (by omega) (by decide)) (mk_setr rfl rfl rfl) ?_
    refine ev_s rfl ?_
    refine ev_ri rfl rfl ?_ ?_
    · rw [cIf_t c1]
    · rw [cIf_t c1]
  · show Ev _ _ 21 _ _ _ _
    refine ev_bi (v := (-102)) rfl (by decide) ?_
    refine ev_ri rfl rfl ?_ ?_
    · rw [cIf_f c1]
    · rw [cIf_f c1]
set_option maxHeartbeats 4000000 in
theorem rn_mlarge_k {np : Nat} {M : Nat → Nat → Int32} {L : Nat → Int64} {k : Nat} (hn : np ≤ 6) (hk : k < np) (hc : M 21 3 = nI np) (d : Nat) : Rn (d + 2) mX6_large [(.ref 21), (.int (nI (k + 1)))] (mk np M L) (some (.int (zi (mLg M k)))) (mk np M L) := by
  unfold Rn
  iterate 2 refine ev_s rfl ?_
  refine ev_cv (vs := [(.ref 21), (.int (nI (k + 1)))]) (rest := []) (rv := (some (.int 1))) rfl rfl rfl (rd np M L (by omega) rfl) rfl rfl rfl rfl (Rn_le (show Rn 1 _ _ _ _ _ from by have e9 := rn_isPiece (np := np) (M := M) (L := L) (n := nI (k + 1)) 0; rwa [hc, zi_t (mW_nI hn hk)] at e9) (by omega)) ?_
  show Ev _ _ 5 _ [(.int 1)] _ _
  refine ev_if rfl rfl ?_
  show Ev _ _ 13 _ _ _ _
  iterate 2 refine ev_s rfl ?_
  refine ev_ik (v := 1) rfl (by decide) ?_
  refine ev_s rfl ?_
  refine ev_cv (vs := [(.ref 21), (.int ((nI (k + 1)) - 1))]) (rest := []) (rv := (some (.int (zi (mLg M k))))) rfl rfl rfl (rd np M L (by omega) rfl) rfl rfl rfl rfl (by rw [nI_pred]; exact rn_mlg (by omega) _) ?_
  show Ev _ _ 20 _ [(.int (zi (mLg M k)))] _ _
  refine ev_if rfl rfl (ev_bze (fun c1 => ?_) (fun c1 => ?_))
  · show Ev _ _ 27 _ _ _ _
    refine ev_ik (v := 0) rfl (by decide) ?_
    refine ev_ri rfl rfl ?_ ?_
    · exact some_i (zi_f c1).symm
    · rfl
  · show Ev _ _ 23 _ _ _ _
    refine ev_ik (v := 1) rfl (by decide) ?_
    refine ev_s rfl ?_
    refine ev_ri rfl rfl ?_ ?_
    · exact some_i (zi_t c1).symm
    · rfl
set_option maxHeartbeats 4000000 in
theorem rn_mexact {np : Nat} {M : Nat → Nat → Int32} {L : Nat → Int64} (hz : M 21 6 = 0 ∨ M 21 6 = 1) (d : Nat) : Rn (d) mX6_exact [(.ref 21)] (mk np M L) (some (.int (M 21 6))) (mk np M L) := by
  unfold Rn
  refine ev_s rfl ?_
  refine ev_gf (rd np M L (by omega) rfl) rfl rfl rfl ?_
  refine ev_rz rfl rfl hz ?_ ?_
  · rfl
  · rfl
set_option maxHeartbeats 4000000 in
theorem rn_msteps {np : Nat} {M : Nat → Nat → Int32} {L : Nat → Int64} {x : Int32} (d : Nat) : Rn (d) mX6_steps [(.ref 21), (.int x)] (mk np M L) (some (.int (if x = 0 then M 21 5 else 3000 - M 21 4))) (mk np M L) := by
  unfold Rn
  refine ev_s rfl ?_
  refine ev_if rfl rfl (ev_br (zb_eq _ _ _ _) (fun c1 => ?_) (fun c1 => ?_))
  · show Ev _ _ 15 _ _ _ _
    refine ev_s rfl ?_
    refine ev_gf (rd np M L (by omega) rfl) rfl rfl rfl ?_
    refine ev_ri rfl rfl ?_ ?_
    · rw [if_pos c1]
    · rfl
  · show Ev _ _ 4 _ _ _ _
    refine ev_si (v := 3000) rfl (by decide) ?_
    refine ev_s rfl ?_
    refine ev_gf (rd np M L (by omega) rfl) rfl rfl rfl ?_
    iterate 2 refine ev_s rfl ?_
    refine ev_ri rfl rfl ?_ ?_
    · rw [if_neg c1]
    · rfl
set_option maxHeartbeats 4000000 in
theorem rn_thrown {np : Nat} {M : Nat → Nat → Int32} {L : Nat → Int64}  (d : Nat) : Rn (d) mX6_thrown [(.ref 21)] (mk np M L) (some (.int (M 21 44))) (mk np M L) := by
  unfold Rn
  refine ev_s rfl ?_
  refine ev_gf (rd np M L (by omega) rfl) rfl rfl rfl ?_
  refine ev_ri rfl rfl ?_ ?_
  · rfl
  · rfl
def mOn (M : Nat → Nat → Int32) (k : Nat) (x : Int32) : Int32 := if M 37 k = 0 then -1 else if x = 0 then M 38 k else if x = 1 then M 39 k else if x = 2 then M 40 k else M 44 k
set_option maxHeartbeats 4000000 in
theorem rn_mat_k {np : Nat} {M : Nat → Nat → Int32} {L : Nat → Int64} {k : Nat} {x : Int32} (hn : np ≤ 6) (hk : k < np) (hc : M 21 3 = nI np) (d : Nat) : Rn (d + 2) mX6_at [(.ref 21), (.int (nI (k + 1))), (.int x)] (mk np M L) (some (.int (cIf (mW x 0 3) (mOn M k x) (-102)))) (mk np M L) := by
  unfold Rn
  iterate 2 refine ev_s rfl ?_
  refine ev_cv (vs := [(.ref 21), (.int (nI (k + 1)))]) (rest := []) (rv := (some (.int 1))) rfl rfl rfl (rd np M L (by omega) rfl) rfl rfl rfl rfl (Rn_le (show Rn 1 _ _ _ _ _ from by have e9 := rn_isPiece (np := np) (M := M) (L := L) (n := nI (k + 1)) 0; rwa [hc, zi_t (mW_nI hn hk)] at e9) (by omega)) ?_
  show Ev _ _ 5 _ [(.int 1)] _ _
  refine ev_if rfl rfl ?_
  show Ev _ _ 11 _ _ _ _
  refine ev_s rfl ?_
  refine ev_ik (v := 0) rfl (by decide) ?_
  refine ev_ik (v := 3) rfl (by decide) ?_
  refine ev_cs (vs := [(.int x), (.int 0), (.int 3)]) (rest := []) (rv := (some (.int (zi (mW x 0 3))))) rfl rfl rfl rfl rfl (rn_within _) ?_
  show Ev _ _ 17 _ [(.int (zi (mW x 0 3)))] _ _
  refine ev_if rfl rfl (ev_bzn (fun c1 => ?_) (fun c1 => ?_))
  · show Ev _ _ 23 _ _ _ _
    refine ev_s rfl ?_
    refine ev_ik (v := 1) rfl (by decide) ?_
    refine ev_s rfl ?_
    rw [nI_pred k]
    refine ev_s (ls' := [some (.ref 21), some (.int (nI (k + 1))), some (.int x), some (.int (nI k))]) rfl ?_
    refine ev_s rfl ?_
    refine ev_gf (rd np M L (by omega) rfl) rfl rfl rfl ?_
    refine ev_s rfl ?_
    refine ev_ba (rd np M L (by omega) rfl) rfl (zin_nI (by omega) (by decide)) ?_
    refine ev_if rfl rfl (ev_bn (fun c2 => ?_) (fun c2 => ?_))
    · show Ev _ _ 40 _ _ _ _
      refine ev_s rfl ?_
      refine ev_if rfl rfl (ev_bn (fun c3 => ?_) (fun c3 => ?_))
      · show Ev _ _ 53 _ _ _ _
        refine ev_s rfl ?_
        refine ev_ik (v := 1) rfl (by decide) ?_
        refine ev_ic rfl rfl (ev_bn (fun c4 => ?_) (fun c4 => ?_))
        · show Ev _ _ 67 _ _ _ _
          refine ev_s rfl ?_
          refine ev_ik (v := 2) rfl (by decide) ?_
          refine ev_ic rfl rfl (ev_bn (fun c5 => ?_) (fun c5 => ?_))
          · show Ev _ _ 81 _ _ _ _
            refine ev_s rfl ?_
            refine ev_gf (rd np M L (by omega) rfl) rfl rfl rfl ?_
            refine ev_s rfl ?_
            refine ev_ia (rd np M L (by omega) rfl) rfl (zin_nI (by omega) (by decide)) ?_
            refine ev_ri rfl rfl ?_ ?_
            · rw [cIf_t c1]; unfold mOn; rw [if_neg c2, if_neg c3, if_neg c4, if_neg c5]
            · rfl
          · show Ev _ _ 72 _ _ _ _
            refine ev_s rfl ?_
            refine ev_gf (rd np M L (by omega) rfl) rfl rfl rfl ?_
            refine ev_s rfl ?_
            refine ev_ia (rd np M L (by omega) rfl) rfl (zin_nI (by omega) (by decide)) ?_
            refine ev_s rfl ?_
            refine ev_ri rfl rfl ?_ ?_
            · rw [cIf_t c1]; unfold mOn; rw [if_neg c2, if_neg c3, if_neg c4, if_pos c5]
            · rfl
        · show Ev _ _ 58 _ _ _ _
          refine ev_s rfl ?_
          refine ev_gf (rd np M L (by omega) rfl) rfl rfl rfl ?_
          refine ev_s rfl ?_
          refine ev_ia (rd np M L (by omega) rfl) rfl (zin_nI (by omega) (by decide)) ?_
          refine ev_s rfl ?_
          refine ev_ri rfl rfl ?_ ?_
          · rw [cIf_t c1]; unfold mOn; rw [if_neg c2, if_neg c3, if_pos c4]
          · rfl
      · show Ev _ _ 44 _ _ _ _
        refine ev_s rfl ?_
        refine ev_gf (rd np M L (by omega) rfl) rfl rfl rfl ?_
        refine ev_s rfl ?_
        refine ev_ia (rd np M L (by omega) rfl) rfl (zin_nI (by omega) (by decide)) ?_
        refine ev_s rfl ?_
        refine ev_ri rfl rfl ?_ ?_
        · rw [cIf_t c1]; unfold mOn; rw [if_neg c2, if_pos c3]
        · rfl
    · show Ev _ _ 36 _ _ _ _
      refine ev_ik (v := (-1)) rfl (by decide) ?_
      refine ev_s rfl ?_
      refine ev_ri rfl rfl ?_ ?_
      · rw [cIf_t c1]; unfold mOn; rw [if_pos c2]
      · rfl
  · show Ev _ _ 20 _ _ _ _
    refine ev_bi (v := (-102)) rfl (by decide) ?_
    refine ev_ri rfl rfl ?_ ?_
    · rw [cIf_f c1]
    · rfl
def mOv (M : Nat → Nat → Int32) (i k : Nat) : Prop := ¬ cmn (M 38 i) (M 41 i) (M 38 k) (M 41 k) ≤ 0 ∧ ¬ cmn (M 39 i) (M 42 i) (M 39 k) (M 42 k) ≤ 0 ∧ ¬ cmn (M 40 i) (M 43 i) (M 40 k) (M 43 k) ≤ 0
set_option maxHeartbeats 4000000 in
theorem rn_mov_u {np : Nat} {M : Nat → Nat → Int32} {L : Nat → Int64} {a b : Int32} (hu : ¬ mW a 1 (M 21 3)) (d : Nat) : Rn (d + 2) mX6_overlap [(.ref 21), (.int a), (.int b)] (mk np M L) (some (.int 0)) (mk np M L) := by
  unfold Rn
  iterate 2 refine ev_s rfl ?_
  refine ev_cv (vs := [(.ref 21), (.int a)]) (rest := []) (rv := (some (.int 0))) rfl rfl rfl (rd np M L (by omega) rfl) rfl rfl rfl rfl (by have e9 := rn_isPiece (np := np) (M := M) (L := L) (n := a) d; rwa [zi_f hu] at e9) ?_
  show Ev _ _ 5 _ [(.int 0)] _ _
  refine ev_if rfl rfl ?_
  show Ev _ _ 38 _ _ _ _
  refine ev_ik (v := 0) rfl (by decide) ?_
  refine ev_rz rfl rfl (by decide) ?_ ?_
  · rfl
  · rfl
set_option maxHeartbeats 4000000 in
theorem rn_mov_ku {np : Nat} {M : Nat → Nat → Int32} {L : Nat → Int64} {i : Nat} {b : Int32} (hn : np ≤ 6) (hi : i < np) (hc : M 21 3 = nI np) (hu2 : ¬ mW b 1 (M 21 3)) (d : Nat) : Rn (d + 2) mX6_overlap [(.ref 21), (.int (nI (i + 1))), (.int b)] (mk np M L) (some (.int 0)) (mk np M L) := by
  unfold Rn
  iterate 2 refine ev_s rfl ?_
  refine ev_cv (vs := [(.ref 21), (.int (nI (i + 1)))]) (rest := []) (rv := (some (.int 1))) rfl rfl rfl (rd np M L (by omega) rfl) rfl rfl rfl rfl (by have e9 := rn_isPiece (np := np) (M := M) (L := L) (n := nI (i + 1)) d; rwa [hc, zi_t (mW_nI hn hi)] at e9) ?_
  show Ev _ _ 5 _ [(.int 1)] _ _
  refine ev_if rfl rfl ?_
  show Ev _ _ 8 _ _ _ _
  iterate 2 refine ev_s rfl ?_
  refine ev_cv (vs := [(.ref 21), (.int b)]) (rest := []) (rv := (some (.int 0))) rfl rfl rfl (rd np M L (by omega) rfl) rfl rfl rfl rfl (by have e9 := rn_isPiece (np := np) (M := M) (L := L) (n := b) d; rwa [zi_f hu2] at e9) ?_
  show Ev _ _ 13 _ [(.int 0)] _ _
  refine ev_if rfl rfl ?_
  show Ev _ _ 38 _ _ _ _
  refine ev_ik (v := 0) rfl (by decide) ?_
  refine ev_rz rfl rfl (by decide) ?_ ?_
  · rfl
  · rfl
set_option maxHeartbeats 4000000 in
theorem rn_mov_kk {np : Nat} {M : Nat → Nat → Int32} {L : Nat → Int64} {i k : Nat} (hn : np ≤ 6) (hi : i < np) (hk : k < np) (hc : M 21 3 = nI np) (d : Nat) : Rn (d + 2) mX6_overlap [(.ref 21), (.int (nI (i + 1))), (.int (nI (k + 1)))] (mk np M L) (some (.int (zi (¬ M 37 i = 0 ∧ ¬ M 37 k = 0 ∧ mOv M i k)))) (mk np M L) := by
  unfold Rn
  iterate 2 refine ev_s rfl ?_
  refine ev_cv (vs := [(.ref 21), (.int (nI (i + 1)))]) (rest := []) (rv := (some (.int 1))) rfl rfl rfl (rd np M L (by omega) rfl) rfl rfl rfl rfl (by have e9 := rn_isPiece (np := np) (M := M) (L := L) (n := nI (i + 1)) d; rwa [hc, zi_t (mW_nI hn hi)] at e9) ?_
  show Ev _ _ 5 _ [(.int 1)] _ _
  refine ev_if rfl rfl ?_
  show Ev _ _ 8 _ _ _ _
  iterate 2 refine ev_s rfl ?_
  refine ev_cv (vs := [(.ref 21), (.int (nI (k + 1)))]) (rest := []) (rv := (some (.int 1))) rfl rfl rfl (rd np M L (by omega) rfl) rfl rfl rfl rfl (by have e9 := rn_isPiece (np := np) (M := M) (L := L) (n := nI (k + 1)) d; rwa [hc, zi_t (mW_nI hn hk)] at e9) ?_
  show Ev _ _ 13 _ [(.int 1)] _ _
  refine ev_if rfl rfl ?_
  show Ev _ _ 16 _ _ _ _
  refine ev_s rfl ?_
  refine ev_gf (rd np M L (by omega) rfl) rfl rfl rfl ?_
  refine ev_s rfl ?_
  refine ev_ik (v := 1) rfl (by decide) ?_
  refine ev_s rfl ?_
  refine ev_ba (rd np M L (by omega) rfl) rfl (by rw [nI_pred]; exact zin_nI (by omega) (by decide)) ?_
  refine ev_if rfl rfl (ev_br (zb_eq _ _ _ _) (fun c1 => ?_) (fun c1 => ?_))
  · show Ev _ _ 38 _ _ _ _
    refine ev_ik (v := 0) rfl (by decide) ?_
    refine ev_rz rfl rfl (by decide) ?_ ?_
    · exact some_i (zi_f (show ¬ (¬ M 37 i = 0 ∧ ¬ M 37 k = 0 ∧ mOv M i k) from fun h => h.1 c1)).symm
    · rfl
  · show Ev _ _ 27 _ _ _ _
    refine ev_s rfl ?_
    refine ev_gf (rd np M L (by omega) rfl) rfl rfl rfl ?_
    refine ev_s rfl ?_
    refine ev_ik (v := 1) rfl (by decide) ?_
    refine ev_s rfl ?_
    refine ev_ba (rd np M L (by omega) rfl) rfl (by rw [nI_pred]; exact zin_nI (by omega) (by decide)) ?_
    refine ev_if rfl rfl (ev_bn (fun c2 => ?_) (fun c2 => ?_))
    · show Ev _ _ 40 _ _ _ _
      refine ev_s rfl ?_
      refine ev_ik (v := 1) rfl (by decide) ?_
      refine ev_s rfl ?_
      rw [nI_pred i]
      refine ev_s (ls' := [some (.ref 21), some (.int (nI (i + 1))), some (.int (nI (k + 1))), some (.int (nI i)), none]) rfl ?_
      refine ev_s rfl ?_
      refine ev_ik (v := 1) rfl (by decide) ?_
      refine ev_s rfl ?_
      rw [nI_pred k]
      refine ev_s (ls' := [some (.ref 21), some (.int (nI (i + 1))), some (.int (nI (k + 1))), some (.int (nI i)), some (.int (nI k))]) rfl ?_
      refine ev_s rfl ?_
      refine ev_gf (rd np M L (by omega) rfl) rfl rfl rfl ?_
      refine ev_s rfl ?_
      refine ev_ia (rd np M L (by omega) rfl) rfl (zin_nI (by omega) (by decide)) ?_
      refine ev_s rfl ?_
      refine ev_gf (rd np M L (by omega) rfl) rfl rfl rfl ?_
      refine ev_s rfl ?_
      refine ev_ia (rd np M L (by omega) rfl) rfl (zin_nI (by omega) (by decide)) ?_
      refine ev_s rfl ?_
      refine ev_gf (rd np M L (by omega) rfl) rfl rfl rfl ?_
      refine ev_s rfl ?_
      refine ev_ia (rd np M L (by omega) rfl) rfl (zin_nI (by omega) (by decide)) ?_
      refine ev_s rfl ?_
      refine ev_gf (rd np M L (by omega) rfl) rfl rfl rfl ?_
      refine ev_s rfl ?_
      refine ev_ia (rd np M L (by omega) rfl) rfl (zin_nI (by omega) (by decide)) ?_
      refine ev_cs (vs := [(.int (M 38 i)), (.int (M 41 i)), (.int (M 38 k)), (.int (M 41 k))]) (rest := []) (rv := (some (.int (cmn (M 38 i) (M 41 i) (M 38 k) (M 41 k))))) rfl rfl rfl rfl rfl (rn_common _) ?_
      show Ev _ _ 78 _ [(.int (cmn (M 38 i) (M 41 i) (M 38 k) (M 41 k)))] _ _
      refine ev_if rfl rfl (ev_br (zb_le _ _ _ _) (fun c3 => ?_) (fun c3 => ?_))
      · show Ev _ _ 149 _ _ _ _
        refine ev_ik (v := 0) rfl (by decide) ?_
        refine ev_rz rfl rfl (by decide) ?_ ?_
        · exact some_i (zi_f (show ¬ (¬ M 37 i = 0 ∧ ¬ M 37 k = 0 ∧ mOv M i k) from fun h => h.2.2.1 c3)).symm
        · rfl
      · show Ev _ _ 81 _ _ _ _
        refine ev_s rfl ?_
        refine ev_gf (rd np M L (by omega) rfl) rfl rfl rfl ?_
        refine ev_s rfl ?_
        refine ev_ia (rd np M L (by omega) rfl) rfl (zin_nI (by omega) (by decide)) ?_
        refine ev_s rfl ?_
        refine ev_gf (rd np M L (by omega) rfl) rfl rfl rfl ?_
        refine ev_s rfl ?_
        refine ev_ia (rd np M L (by omega) rfl) rfl (zin_nI (by omega) (by decide)) ?_
        refine ev_s rfl ?_
        refine ev_gf (rd np M L (by omega) rfl) rfl rfl rfl ?_
        refine ev_s rfl ?_
        refine ev_ia (rd np M L (by omega) rfl) rfl (zin_nI (by omega) (by decide)) ?_
        refine ev_s rfl ?_
        refine ev_gf (rd np M L (by omega) rfl) rfl rfl rfl ?_
        refine ev_s rfl ?_
        refine ev_ia (rd np M L (by omega) rfl) rfl (zin_nI (by omega) (by decide)) ?_
        refine ev_cs (vs := [(.int (M 39 i)), (.int (M 42 i)), (.int (M 39 k)), (.int (M 42 k))]) (rest := []) (rv := (some (.int (cmn (M 39 i) (M 42 i) (M 39 k) (M 42 k))))) rfl rfl rfl rfl rfl (rn_common _) ?_
        show Ev _ _ 110 _ [(.int (cmn (M 39 i) (M 42 i) (M 39 k) (M 42 k)))] _ _
        refine ev_if rfl rfl (ev_br (zb_le _ _ _ _) (fun c4 => ?_) (fun c4 => ?_))
        · show Ev _ _ 149 _ _ _ _
          refine ev_ik (v := 0) rfl (by decide) ?_
          refine ev_rz rfl rfl (by decide) ?_ ?_
          · exact some_i (zi_f (show ¬ (¬ M 37 i = 0 ∧ ¬ M 37 k = 0 ∧ mOv M i k) from fun h => h.2.2.2.1 c4)).symm
          · rfl
        · show Ev _ _ 113 _ _ _ _
          refine ev_s rfl ?_
          refine ev_gf (rd np M L (by omega) rfl) rfl rfl rfl ?_
          refine ev_s rfl ?_
          refine ev_ia (rd np M L (by omega) rfl) rfl (zin_nI (by omega) (by decide)) ?_
          refine ev_s rfl ?_
          refine ev_gf (rd np M L (by omega) rfl) rfl rfl rfl ?_
          refine ev_s rfl ?_
          refine ev_ia (rd np M L (by omega) rfl) rfl (zin_nI (by omega) (by decide)) ?_
          refine ev_s rfl ?_
          refine ev_gf (rd np M L (by omega) rfl) rfl rfl rfl ?_
          refine ev_s rfl ?_
          refine ev_ia (rd np M L (by omega) rfl) rfl (zin_nI (by omega) (by decide)) ?_
          refine ev_s rfl ?_
          refine ev_gf (rd np M L (by omega) rfl) rfl rfl rfl ?_
          refine ev_s rfl ?_
          refine ev_ia (rd np M L (by omega) rfl) rfl (zin_nI (by omega) (by decide)) ?_
          refine ev_cs (vs := [(.int (M 40 i)), (.int (M 43 i)), (.int (M 40 k)), (.int (M 43 k))]) (rest := []) (rv := (some (.int (cmn (M 40 i) (M 43 i) (M 40 k) (M 43 k))))) rfl rfl rfl rfl rfl (rn_common _) ?_
          show Ev _ _ 142 _ [(.int (cmn (M 40 i) (M 43 i) (M 40 k) (M 43 k)))] _ _
          refine ev_if rfl rfl (ev_br (zb_le _ _ _ _) (fun c5 => ?_) (fun c5 => ?_))
          · show Ev _ _ 149 _ _ _ _
            refine ev_ik (v := 0) rfl (by decide) ?_
            refine ev_rz rfl rfl (by decide) ?_ ?_
            · exact some_i (zi_f (show ¬ (¬ M 37 i = 0 ∧ ¬ M 37 k = 0 ∧ mOv M i k) from fun h => h.2.2.2.2 c5)).symm
            · rfl
          · show Ev _ _ 145 _ _ _ _
            refine ev_ik (v := 1) rfl (by decide) ?_
            refine ev_s rfl ?_
            refine ev_rz rfl rfl (by decide) ?_ ?_
            · exact some_i (zi_t (show ¬ M 37 i = 0 ∧ ¬ M 37 k = 0 ∧ mOv M i k from ⟨c1, c2, c3, c4, c5⟩)).symm
            · rfl
    · show Ev _ _ 38 _ _ _ _
      refine ev_ik (v := 0) rfl (by decide) ?_
      refine ev_rz rfl rfl (by decide) ?_ ?_
      · exact some_i (zi_f (show ¬ (¬ M 37 i = 0 ∧ ¬ M 37 k = 0 ∧ mOv M i k) from fun h => h.2.1 c2)).symm
      · rfl
noncomputable def muS (M : Nat → Nat → Int32) (x z : Int32) : Nat → Int32 × Int32
  | 0 => (0, 0)
  | i + 1 => cIf (¬ M 37 i = 0 ∧ ¬ cmn x 1 (M 38 i) (M 41 i) ≤ 0 ∧ ¬ cmn z 1 (M 40 i) (M 43 i) ≤ 0 ∧ ¬ M 39 i + M 42 i ≤ (muS M x z i).2) (nI i + 1, M 39 i + M 42 i) (muS M x z i)
def inG (M : Nat → Nat → Int32) (x z : Int32) : Prop := mW x 0 (M 21 0 - 1) ∧ mW z 0 (M 21 2 - 1)
set_option maxHeartbeats 4000000 in
theorem lp_mabove {np : Nat} {M : Nat → Nat → Int32} {L : Nat → Int64} {x z : Int32} (d : Nat) : ∀ k i, i + k = 6 → Ev (d + 1) mX6_above 39 [some (.ref 21), some (.int x), some (.int z), some (.int ((muS M x z i).1)), some (.int ((muS M x z i).2)), some (.int (nI i))] [] (mk np M L) (Qr mX6_above (some (.int (muS M x z 6).1)) (mk np M L)) := by
  intro k
  induction k with
  | zero =>
    intro i hik 
    obtain rfl : i = 6 := by omega
    refine ev_s rfl ?_
    refine ev_bi (v := 6) rfl (by decide) ?_
    refine ev_ic rfl rfl ?_
    rw [show zbr .ge (nI 6) 6 148 46 = 148 from zge_t (n := 6) (by decide) (by omega) (by decide)]
    refine ev_s rfl ?_
    refine ev_ri rfl rfl ?_ ?_
    · rfl
    · rfl
  | succ k ih =>
    intro i hik 
    have hi : i < 6 := by omega
    refine ev_s rfl ?_
    refine ev_bi (v := 6) rfl (by decide) ?_
    refine ev_ic rfl rfl ?_
    rw [show zbr .ge (nI i) 6 148 46 = 46 from zge_f (n := 6) (by decide) hi (by decide)]
    refine ev_s rfl ?_
    refine ev_gf (rd np M L (by omega) rfl) rfl rfl rfl ?_
    refine ev_s rfl ?_
    refine ev_ba (rd np M L (by omega) rfl) rfl (zin_nI (by omega) (by decide)) ?_
    refine ev_if rfl rfl (ev_br (zb_eq _ _ _ _) (fun c1 => ?_) (fun c1 => ?_))
    · show Ev _ _ 142 _ _ _ _
      refine ev_inc (y := 1) (v := nI (i + 1)) (ls' := [some (.ref 21), some (.int x), some (.int z), some (.int ((muS M x z i).1)), some (.int ((muS M x z i).2)), some (.int (nI (i + 1)))]) rfl rfl (by decide) (nI_1 _) rfl ?_
      refine ev_s rfl ?_
      have e9 := ih (i + 1) (by omega)
      rw [show muS M x z (i + 1) = muS M x z i from cIf_f (fun h => h.1 c1) _ _] at e9
      exact e9
    · show Ev _ _ 56 _ _ _ _
      refine ev_s rfl ?_
      refine ev_ik (v := 1) rfl (by decide) ?_
      refine ev_s rfl ?_
      refine ev_gf (rd np M L (by omega) rfl) rfl rfl rfl ?_
      refine ev_s rfl ?_
      refine ev_ia (rd np M L (by omega) rfl) rfl (zin_nI (by omega) (by decide)) ?_
      refine ev_s rfl ?_
      refine ev_gf (rd np M L (by omega) rfl) rfl rfl rfl ?_
      refine ev_s rfl ?_
      refine ev_ia (rd np M L (by omega) rfl) rfl (zin_nI (by omega) (by decide)) ?_
      refine ev_cs (vs := [(.int x), (.int 1), (.int (M 38 i)), (.int (M 41 i))]) (rest := []) (rv := (some (.int (cmn x 1 (M 38 i) (M 41 i))))) rfl rfl rfl rfl rfl (rn_common _) ?_
      show Ev _ _ 75 _ [(.int (cmn x 1 (M 38 i) (M 41 i)))] _ _
      refine ev_if rfl rfl (ev_br (zb_le _ _ _ _) (fun c2 => ?_) (fun c2 => ?_))
      · show Ev _ _ 142 _ _ _ _
        refine ev_inc (y := 1) (v := nI (i + 1)) (ls' := [some (.ref 21), some (.int x), some (.int z), some (.int ((muS M x z i).1)), some (.int ((muS M x z i).2)), some (.int (nI (i + 1)))]) rfl rfl (by decide) (nI_1 _) rfl ?_
        refine ev_s rfl ?_
        have e9 := ih (i + 1) (by omega)
        rw [show muS M x z (i + 1) = muS M x z i from cIf_f (fun h => h.2.1 c2) _ _] at e9
        exact e9
      · show Ev _ _ 78 _ _ _ _
        refine ev_s rfl ?_
        refine ev_ik (v := 1) rfl (by decide) ?_
        refine ev_s rfl ?_
        refine ev_gf (rd np M L (by omega) rfl) rfl rfl rfl ?_
        refine ev_s rfl ?_
        refine ev_ia (rd np M L (by omega) rfl) rfl (zin_nI (by omega) (by decide)) ?_
        refine ev_s rfl ?_
        refine ev_gf (rd np M L (by omega) rfl) rfl rfl rfl ?_
        refine ev_s rfl ?_
        refine ev_ia (rd np M L (by omega) rfl) rfl (zin_nI (by omega) (by decide)) ?_
        refine ev_cs (vs := [(.int z), (.int 1), (.int (M 40 i)), (.int (M 43 i))]) (rest := []) (rv := (some (.int (cmn z 1 (M 40 i) (M 43 i))))) rfl rfl rfl rfl rfl (rn_common _) ?_
        show Ev _ _ 97 _ [(.int (cmn z 1 (M 40 i) (M 43 i)))] _ _
        refine ev_if rfl rfl (ev_br (zb_le _ _ _ _) (fun c3 => ?_) (fun c3 => ?_))
        · show Ev _ _ 142 _ _ _ _
          refine ev_inc (y := 1) (v := nI (i + 1)) (ls' := [some (.ref 21), some (.int x), some (.int z), some (.int ((muS M x z i).1)), some (.int ((muS M x z i).2)), some (.int (nI (i + 1)))]) rfl rfl (by decide) (nI_1 _) rfl ?_
          refine ev_s rfl ?_
          have e9 := ih (i + 1) (by omega)
          rw [show muS M x z (i + 1) = muS M x z i from cIf_f (fun h => h.2.2.1 c3) _ _] at e9
          exact e9
        · show Ev _ _ 100 _ _ _ _
          refine ev_s rfl ?_
          refine ev_gf (rd np M L (by omega) rfl) rfl rfl rfl ?_
          refine ev_s rfl ?_
          refine ev_ia (rd np M L (by omega) rfl) rfl (zin_nI (by omega) (by decide)) ?_
          refine ev_s rfl ?_
          refine ev_gf (rd np M L (by omega) rfl) rfl rfl rfl ?_
          refine ev_s rfl ?_
          refine ev_ia (rd np M L (by omega) rfl) rfl (zin_nI (by omega) (by decide)) ?_
          iterate 2 refine ev_s rfl ?_
          refine ev_ic rfl rfl (ev_br (zb_le _ _ _ _) (fun c4 => ?_) (fun c4 => ?_))
          · show Ev _ _ 142 _ _ _ _
            refine ev_inc (y := 1) (v := nI (i + 1)) (ls' := [some (.ref 21), some (.int x), some (.int z), some (.int ((muS M x z i).1)), some (.int ((muS M x z i).2)), some (.int (nI (i + 1)))]) rfl rfl (by decide) (nI_1 _) rfl ?_
            refine ev_s rfl ?_
            have e9 := ih (i + 1) (by omega)
            rw [show muS M x z (i + 1) = muS M x z i from cIf_f (fun h => h.2.2.2 c4) _ _] at e9
            exact e9
          · show Ev _ _ 120 _ _ _ _
            refine ev_s rfl ?_
            refine ev_ik (v := 1) rfl (by decide) ?_
            refine ev_s rfl ?_
            refine ev_s (ls' := [some (.ref 21), some (.int x), some (.int z), some (.int ((nI i) + 1)), some (.int ((muS M x z i).2)), some (.int (nI i))]) rfl ?_
            refine ev_s rfl ?_
            refine ev_gf (rd np M L (by omega) rfl) rfl rfl rfl ?_
            refine ev_s rfl ?_
            refine ev_ia (rd np M L (by omega) rfl) rfl (zin_nI (by omega) (by decide)) ?_
            refine ev_s rfl ?_
            refine ev_gf (rd np M L (by omega) rfl) rfl rfl rfl ?_
            refine ev_s rfl ?_
            refine ev_ia (rd np M L (by omega) rfl) rfl (zin_nI (by omega) (by decide)) ?_
            refine ev_s rfl ?_
            refine ev_s (ls' := [some (.ref 21), some (.int x), some (.int z), some (.int ((nI i) + 1)), some (.int ((M 39 i) + (M 42 i))), some (.int (nI i))]) rfl ?_
            refine ev_inc (y := 1) (v := nI (i + 1)) (ls' := [some (.ref 21), some (.int x), some (.int z), some (.int ((nI i) + 1)), some (.int ((M 39 i) + (M 42 i))), some (.int (nI (i + 1)))]) rfl rfl (by decide) (nI_1 _) rfl ?_
            refine ev_s rfl ?_
            have e9 := ih (i + 1) (by omega)
            rw [show muS M x z (i + 1) = (nI i + 1, M 39 i + M 42 i) from cIf_t ⟨c1, c2, c3, c4⟩ _ _] at e9
            exact e9
set_option maxHeartbeats 4000000 in
theorem rn_mabove {np : Nat} {M : Nat → Nat → Int32} {L : Nat → Int64} {x z : Int32} (d : Nat) : Rn (d + 1) mX6_above [(.ref 21), (.int x), (.int z)] (mk np M L) (some (.int (cIf (inG M x z) (muS M x z 6).1 (-102)))) (mk np M L) := by
  unfold Rn
  refine ev_s rfl ?_
  refine ev_ik (v := 0) rfl (by decide) ?_
  refine ev_s rfl ?_
  refine ev_gf (rd np M L (by omega) rfl) rfl rfl rfl ?_
  refine ev_ik (v := 1) rfl (by decide) ?_
  refine ev_s rfl ?_
  refine ev_cs (vs := [(.int x), (.int 0), (.int ((M 21 0) - 1))]) (rest := []) (rv := (some (.int (zi (mW x 0 ((M 21 0) - 1)))))) rfl rfl rfl rfl rfl (rn_within _) ?_
  show Ev _ _ 11 _ [(.int (zi (mW x 0 ((M 21 0) - 1))))] _ _
  refine ev_if rfl rfl (ev_bze (fun c1 => ?_) (fun c1 => ?_))
  · show Ev _ _ 28 _ _ _ _
    refine ev_bi (v := (-102)) rfl (by decide) ?_
    refine ev_ri rfl rfl ?_ ?_
    · rw [cIf_f (show ¬ inG M x z from fun q => c1 q.1)]
    · rfl
  · show Ev _ _ 14 _ _ _ _
    refine ev_s rfl ?_
    refine ev_ik (v := 0) rfl (by decide) ?_
    refine ev_s rfl ?_
    refine ev_gf (rd np M L (by omega) rfl) rfl rfl rfl ?_
    refine ev_ik (v := 1) rfl (by decide) ?_
    refine ev_s rfl ?_
    refine ev_cs (vs := [(.int z), (.int 0), (.int ((M 21 2) - 1))]) (rest := []) (rv := (some (.int (zi (mW z 0 ((M 21 2) - 1)))))) rfl rfl rfl rfl rfl (rn_within _) ?_
    show Ev _ _ 25 _ [(.int (zi (mW z 0 ((M 21 2) - 1))))] _ _
    refine ev_if rfl rfl (ev_bzn (fun c2 => ?_) (fun c2 => ?_))
    · show Ev _ _ 31 _ _ _ _
      refine ev_ik (v := 0) rfl (by decide) ?_
      refine ev_s (ls' := [some (.ref 21), some (.int x), some (.int z), some (.int 0), none, none]) rfl ?_
      refine ev_ik (v := 0) rfl (by decide) ?_
      refine ev_s (ls' := [some (.ref 21), some (.int x), some (.int z), some (.int 0), some (.int 0), none]) rfl ?_
      refine ev_ik (v := 0) rfl (by decide) ?_
      refine ev_s (ls' := [some (.ref 21), some (.int x), some (.int z), some (.int 0), some (.int 0), some (.int 0)]) rfl ?_
      rw [cIf_t (show inG M x z from ⟨c1, c2⟩)]
      exact lp_mabove d 6 0 (by omega)
    · show Ev _ _ 28 _ _ _ _
      refine ev_bi (v := (-102)) rfl (by decide) ?_
      refine ev_ri rfl rfl ?_ ?_
      · rw [cIf_f (show ¬ inG M x z from fun q => c2 q.2)]
      · rfl
def mfS (M : Nat → Nat → Int32) : Nat → Int32
  | 0 => M 21 0 * M 21 1 * M 21 2
  | i + 1 => mfS M i - (if M 37 i = 0 then 0 else M 41 i * M 42 i * M 43 i)
set_option maxHeartbeats 4000000 in
theorem lp_mfree {np : Nat} {M : Nat → Nat → Int32} {L : Nat → Int64}  (d : Nat) : ∀ k i, i + k = 6 → Ev (d) mX6_free 17 [some (.ref 21), some (.int (mfS M i)), some (.int (nI i))] [] (mk np M L) (Qr mX6_free (some (.int (mfS M 6))) (mk np M L)) := by
  intro k
  induction k with
  | zero =>
    intro i hik 
    obtain rfl : i = 6 := by omega
    refine ev_s rfl ?_
    refine ev_bi (v := 6) rfl (by decide) ?_
    refine ev_ic rfl rfl ?_
    rw [show zbr .ge (nI 6) 6 65 23 = 65 from zge_t (n := 6) (by decide) (by omega) (by decide)]
    refine ev_s rfl ?_
    refine ev_ri rfl rfl ?_ ?_
    · rfl
    · rfl
  | succ k ih =>
    intro i hik 
    have hi : i < 6 := by omega
    refine ev_s rfl ?_
    refine ev_bi (v := 6) rfl (by decide) ?_
    refine ev_ic rfl rfl ?_
    rw [show zbr .ge (nI i) 6 65 23 = 23 from zge_f (n := 6) (by decide) hi (by decide)]
    iterate 2 refine ev_s rfl ?_
    refine ev_gf (rd np M L (by omega) rfl) rfl rfl rfl ?_
    refine ev_s rfl ?_
    refine ev_ba (rd np M L (by omega) rfl) rfl (zin_nI (by omega) (by decide)) ?_
    refine ev_if rfl rfl (ev_br (zb_eq _ _ _ _) (fun c1 => ?_) (fun c1 => ?_))
    · show Ev _ _ 56 _ _ _ _
      refine ev_ik (v := 0) rfl (by decide) ?_
      refine ev_s rfl ?_
      refine ev_s (ls' := [some (.ref 21), some (.int ((mfS M i) - 0)), some (.int (nI i))]) rfl ?_
      refine ev_inc (y := 1) (v := nI (i + 1)) (ls' := [some (.ref 21), some (.int ((mfS M i) - 0)), some (.int (nI (i + 1)))]) rfl rfl (by decide) (nI_1 _) rfl ?_
      refine ev_s rfl ?_
      have e9 := ih (i + 1) (by omega)
      simp only [mfS, if_pos c1] at e9
      exact e9
    · show Ev _ _ 33 _ _ _ _
      refine ev_s rfl ?_
      refine ev_gf (rd np M L (by omega) rfl) rfl rfl rfl ?_
      refine ev_s rfl ?_
      refine ev_ia (rd np M L (by omega) rfl) rfl (zin_nI (by omega) (by decide)) ?_
      refine ev_s rfl ?_
      refine ev_gf (rd np M L (by omega) rfl) rfl rfl rfl ?_
      refine ev_s rfl ?_
      refine ev_ia (rd np M L (by omega) rfl) rfl (zin_nI (by omega) (by decide)) ?_
      iterate 2 refine ev_s rfl ?_
      refine ev_gf (rd np M L (by omega) rfl) rfl rfl rfl ?_
      refine ev_s rfl ?_
      refine ev_ia (rd np M L (by omega) rfl) rfl (zin_nI (by omega) (by decide)) ?_
      iterate 3 refine ev_s rfl ?_
      refine ev_s (ls' := [some (.ref 21), some (.int ((mfS M i) - (((M 41 i) * (M 42 i)) * (M 43 i)))), some (.int (nI i))]) rfl ?_
      refine ev_inc (y := 1) (v := nI (i + 1)) (ls' := [some (.ref 21), some (.int ((mfS M i) - (((M 41 i) * (M 42 i)) * (M 43 i)))), some (.int (nI (i + 1)))]) rfl rfl (by decide) (nI_1 _) rfl ?_
      refine ev_s rfl ?_
      have e9 := ih (i + 1) (by omega)
      simp only [mfS, if_neg c1] at e9
      exact e9
set_option maxHeartbeats 4000000 in
theorem rn_mfree {np : Nat} {M : Nat → Nat → Int32} {L : Nat → Int64}  (d : Nat) : Rn (d) mX6_free [(.ref 21)] (mk np M L) (some (.int (mfS M 6))) (mk np M L) := by
  unfold Rn
  refine ev_s rfl ?_
  refine ev_gf (rd np M L (by omega) rfl) rfl rfl rfl ?_
  refine ev_s rfl ?_
  refine ev_gf (rd np M L (by omega) rfl) rfl rfl rfl ?_
  iterate 2 refine ev_s rfl ?_
  refine ev_gf (rd np M L (by omega) rfl) rfl rfl rfl ?_
  refine ev_s rfl ?_
  refine ev_s (ls' := [some (.ref 21), some (.int (((M 21 0) * (M 21 1)) * (M 21 2))), none]) rfl ?_
  refine ev_ik (v := 0) rfl (by decide) ?_
  refine ev_s (ls' := [some (.ref 21), some (.int (((M 21 0) * (M 21 1)) * (M 21 2))), some (.int 0)]) rfl ?_
  exact lp_mfree d 6 0 (by omega)
noncomputable def mbS (M : Nat → Nat → Int32) : Nat → Int32
  | 0 => 0
  | i + 1 => mbS M i + cIf (mLg M i) 0 (M 22 i * M 23 i * M 24 i)
set_option maxHeartbeats 4000000 in
theorem lp_mbd {np : Nat} {M : Nat → Nat → Int32} {L : Nat → Int64} (hn : np ≤ 6) (hc : M 21 3 = nI np) (d : Nat) : ∀ k i, i + k = np → Ev (d + 2) mX6_bound 4 [some (.ref 21), some (.int (mbS M i)), some (.int (nI i))] [] (mk np M L) (Qr mX6_bound (some (.int (if M 21 0 * M 21 1 * M 21 2 ≤ mbS M np then M 21 0 * M 21 1 * M 21 2 else mbS M np))) (mk np M L)) := by
  intro k
  induction k with
  | zero =>
    intro i hik
    obtain rfl : i = np := by omega
    iterate 2 refine ev_s rfl ?_
    refine ev_gf (rd i M L (by omega) rfl) rfl rfl rfl ?_
    rw [hc]
    refine ev_ic rfl rfl ?_
    rw [show zbr .ge (nI i) (nI i) 53 12 = 53 from zge_t (n := i) rfl (by omega) (by omega)]
    refine ev_s rfl ?_
    refine ev_gf (rd i M L (by omega) rfl) rfl rfl rfl ?_
    refine ev_s rfl ?_
    refine ev_gf (rd i M L (by omega) rfl) rfl rfl rfl ?_
    iterate 2 refine ev_s rfl ?_
    refine ev_gf (rd i M L (by omega) rfl) rfl rfl rfl ?_
    refine ev_s rfl ?_
    refine ev_s (ls' := [some (.ref 21), some (.int (mbS M i)), some (.int (((M 21 0) * (M 21 1)) * (M 21 2)))]) rfl ?_
    iterate 2 refine ev_s rfl ?_
    refine ev_ic rfl rfl (ev_br (zb_ge _ _ _ _) (fun c1 => ?_) (fun c1 => ?_))
    · show Ev _ _ 77 _ _ _ _
      refine ev_s rfl ?_
      refine ev_ri rfl rfl ?_ ?_
      · rw [if_pos c1]
      · rfl
    · show Ev _ _ 73 _ _ _ _
      iterate 2 refine ev_s rfl ?_
      refine ev_ri rfl rfl ?_ ?_
      · rw [if_neg c1]
      · rfl
  | succ k ih =>
    intro i hik
    have hi : i < np := by omega
    iterate 2 refine ev_s rfl ?_
    refine ev_gf (rd np M L (by omega) rfl) rfl rfl rfl ?_
    rw [hc]
    refine ev_ic rfl rfl ?_
    rw [show zbr .ge (nI i) (nI np) 53 12 = 12 from zge_f (n := np) rfl hi (by omega)]
    iterate 3 refine ev_s rfl ?_
    refine ev_cv (vs := [(.ref 21), (.int (nI i))]) (rest := [(.int (mbS M i))]) (rv := (some (.int (zi (mLg M i))))) rfl rfl rfl (rd np M L (by omega) rfl) rfl rfl rfl rfl (rn_mlg (by omega) _) ?_
    show Ev _ _ 18 _ [(.int (zi (mLg M i))), (.int (mbS M i))] _ _
    refine ev_if rfl rfl (ev_bze (fun c1 => ?_) (fun c1 => ?_))
    · show Ev _ _ 25 _ _ _ _
      refine ev_s rfl ?_
      refine ev_gf (rd np M L (by omega) rfl) rfl rfl rfl ?_
      refine ev_s rfl ?_
      refine ev_ia (rd np M L (by omega) rfl) rfl (zin_nI (by omega) (by decide)) ?_
      refine ev_s rfl ?_
      refine ev_gf (rd np M L (by omega) rfl) rfl rfl rfl ?_
      refine ev_s rfl ?_
      refine ev_ia (rd np M L (by omega) rfl) rfl (zin_nI (by omega) (by decide)) ?_
      iterate 2 refine ev_s rfl ?_
      refine ev_gf (rd np M L (by omega) rfl) rfl rfl rfl ?_
      refine ev_s rfl ?_
      refine ev_ia (rd np M L (by omega) rfl) rfl (zin_nI (by omega) (by decide)) ?_
      iterate 2 refine ev_s rfl ?_
      refine ev_s (ls' := [some (.ref 21), some (.int ((mbS M i) + (((M 22 i) * (M 23 i)) * (M 24 i)))), some (.int (nI i))]) rfl ?_
      refine ev_inc (y := 1) (v := nI (i + 1)) (ls' := [some (.ref 21), some (.int ((mbS M i) + (((M 22 i) * (M 23 i)) * (M 24 i)))), some (.int (nI (i + 1)))]) rfl rfl (by decide) (nI_1 _) rfl ?_
      refine ev_s rfl ?_
      have e9 := ih (i + 1) (by omega)
      rw [show mbS M (i + 1) = mbS M i + (M 22 i * M 23 i * M 24 i) from congrArg (fun q => mbS M i + q) (cIf_f c1 _ _)] at e9
      exact e9
    · show Ev _ _ 21 _ _ _ _
      refine ev_ik (v := 0) rfl (by decide) ?_
      iterate 2 refine ev_s rfl ?_
      refine ev_s (ls' := [some (.ref 21), some (.int ((mbS M i) + 0)), some (.int (nI i))]) rfl ?_
      refine ev_inc (y := 1) (v := nI (i + 1)) (ls' := [some (.ref 21), some (.int ((mbS M i) + 0)), some (.int (nI (i + 1)))]) rfl rfl (by decide) (nI_1 _) rfl ?_
      refine ev_s rfl ?_
      have e9 := ih (i + 1) (by omega)
      rw [show mbS M (i + 1) = mbS M i + 0 from congrArg (fun q => mbS M i + q) (cIf_t c1 _ _)] at e9
      exact e9
set_option maxHeartbeats 4000000 in
theorem rn_mbound {np : Nat} {M : Nat → Nat → Int32} {L : Nat → Int64} (hn : np ≤ 6) (hc : M 21 3 = nI np) (d : Nat) : Rn (d + 2) mX6_bound [(.ref 21)] (mk np M L) (some (.int (if M 21 0 * M 21 1 * M 21 2 ≤ mbS M np then M 21 0 * M 21 1 * M 21 2 else mbS M np))) (mk np M L) := by
  unfold Rn
  refine ev_ik (v := 0) rfl (by decide) ?_
  refine ev_s (ls' := [some (.ref 21), some (.int 0), none]) rfl ?_
  refine ev_ik (v := 0) rfl (by decide) ?_
  refine ev_s (ls' := [some (.ref 21), some (.int 0), some (.int 0)]) rfl ?_
  exact lp_mbd hn hc d np 0 (by omega)
