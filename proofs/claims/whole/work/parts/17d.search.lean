def btr (M : Nat → Nat → Int32) : Prop := M 11 5 < csum (gCell M 14) 6 ∨ csum (gCell M 14) 6 = M 11 5 ∧ ¬ M 11 6 ≤ csum (gWY M 14) 6
noncomputable def kbM (M : Nat → Nat → Int32) : Nat → Nat → Int32 := @ite _ (btr M) (Classical.propDecidable _) (up2 (up2 (cyM M 6) 11 5 (csum (gCell M 14) 6)) 11 6 (csum (gWY M 14) 6)) M
theorem kbM_t {M : Nat → Nat → Int32} (h : btr M) : kbM M = up2 (up2 (cyM M 6) 11 5 (csum (gCell M 14) 6)) 11 6 (csum (gWY M 14) 6) := by unfold kbM; exact if_pos h
theorem kbM_f {M : Nat → Nat → Int32} (h : ¬ btr M) : kbM M = M := by unfold kbM; exact if_neg h
set_option maxHeartbeats 4000000 in
theorem rn_kib {np : Nat} {M : Nat → Nat → Int32} {L : Nat → Int64} (hz : ∀ q, q < 6 → M (14 + q) 0 = 0 ∨ M (14 + q) 0 = 1) (d : Nat) : Rn (d + 3) mX3_keepIfBetter [.ref 11] (mk np M L) none (mk np (kbM M) L) := by
  unfold Rn
  obtain ⟨M1, hM1⟩ : ∃ M1, M1 = cyM M 6 := ⟨_, rfl⟩
  refine ev_s rfl ?_
  refine ev_gf (rd np M L (by omega) rfl) rfl rfl rfl ?_
  refine ev_cv (vs := [(.ref 12)]) (rest := []) (rv := (some (.int (csum (gCell M 14) 6)))) rfl rfl rfl (rd np M L (by omega) rfl) rfl rfl rfl rfl (rn_cells_t _) ?_
  show Ev _ _ 7 _ [(.int (csum (gCell M 14) 6))] _ _
  refine ev_s (ls' := [some (.ref 11), some (.int (csum (gCell M 14) 6)), none]) rfl ?_
  refine ev_s rfl ?_
  refine ev_gf (rd np M L (by omega) rfl) rfl rfl rfl ?_
  refine ev_cv (vs := [(.ref 12)]) (rest := []) (rv := (some (.int (csum (gWY M 14) 6)))) rfl rfl rfl (rd np M L (by omega) rfl) rfl rfl rfl rfl (rn_wy _) ?_
  show Ev _ _ 15 _ [(.int (csum (gWY M 14) 6))] _ _
  refine ev_s (ls' := [some (.ref 11), some (.int (csum (gCell M 14) 6)), some (.int (csum (gWY M 14) 6))]) rfl ?_
  iterate 2 refine ev_s rfl ?_
  refine ev_gf (rd np M L (by omega) rfl) rfl rfl rfl ?_
  refine ev_ic rfl rfl (ev_br (zb_gt _ _ _ _) (fun c1 => ?_) (fun c1 => ?_))
  · show Ev _ _ 40 _ _ _ _
    refine ev_s rfl ?_
    refine ev_gf (rd np M L (by omega) rfl) rfl rfl rfl ?_
    refine ev_s rfl ?_
    refine ev_gf (rd np M L (by omega) rfl) rfl rfl rfl ?_
    refine ev_cv (vs := [(.ref 3), (.ref 12)]) (rest := []) (rv := none) (hp' := (mk np M1 L)) rfl rfl rfl (rd np M L (by omega) rfl) rfl rfl rfl rfl (by rw [hM1]; exact rn_pkcopy hz _) ?_
    show Ev _ _ 51 _ [] _ _
    iterate 2 refine ev_s rfl ?_
    refine ev_pf (hp' := (mk np (up2 M1 11 5 (csum (gCell M 14) 6)) L)) (rd np M1 L (by omega) rfl) rfl rfl (by simp) rfl rfl (mk_setr rfl rfl rfl) ?_
    iterate 2 refine ev_s rfl ?_
    refine ev_pf (hp' := (mk np (up2 (up2 M1 11 5 (csum (gCell M 14) 6)) 11 6 (csum (gWY M 14) 6)) L)) (rd np (up2 M1 11 5 (csum (gCell M 14) 6)) L (by omega) ((congrArg (fun r => cel np 11 r (L 11)) ((up2_s _ _ _ _).trans (congrArg (fun r => upd r 5 (csum (gCell M 14) 6)) rfl))).trans rfl)) rfl rfl (by simp) rfl rfl (mk_setr ((up2_s _ _ _ _).trans (congrArg (fun r => upd r 5 (csum (gCell M 14) 6)) rfl)) rfl rfl) ?_
    refine ev_rv rfl rfl ?_ ?_
    · rfl
    · rw [kbM_t (Or.inl c1), hM1]
  · show Ev _ _ 24 _ _ _ _
    iterate 2 refine ev_s rfl ?_
    refine ev_gf (rd np M L (by omega) rfl) rfl rfl rfl ?_
    refine ev_ic rfl rfl (ev_bn (fun c2 => ?_) (fun c2 => ?_))
    · show Ev _ _ 61 _ _ _ _
      refine ev_rv rfl rfl ?_ ?_
      · rfl
      · rw [kbM_f (fun h => h.elim (fun q => c1 q) (fun q => c2 q.1))]
    · show Ev _ _ 32 _ _ _ _
      iterate 2 refine ev_s rfl ?_
      refine ev_gf (rd np M L (by omega) rfl) rfl rfl rfl ?_
      refine ev_ic rfl rfl (ev_br (zb_ge _ _ _ _) (fun c3 => ?_) (fun c3 => ?_))
      · show Ev _ _ 61 _ _ _ _
        refine ev_rv rfl rfl ?_ ?_
        · rfl
        · rw [kbM_f (fun h => h.elim (fun q => c1 q) (fun q => q.2 c3))]
      · show Ev _ _ 40 _ _ _ _
        refine ev_s rfl ?_
        refine ev_gf (rd np M L (by omega) rfl) rfl rfl rfl ?_
        refine ev_s rfl ?_
        refine ev_gf (rd np M L (by omega) rfl) rfl rfl rfl ?_
        refine ev_cv (vs := [(.ref 3), (.ref 12)]) (rest := []) (rv := none) (hp' := (mk np M1 L)) rfl rfl rfl (rd np M L (by omega) rfl) rfl rfl rfl rfl (by rw [hM1]; exact rn_pkcopy hz _) ?_
        show Ev _ _ 51 _ [] _ _
        iterate 2 refine ev_s rfl ?_
        refine ev_pf (hp' := (mk np (up2 M1 11 5 (csum (gCell M 14) 6)) L)) (rd np M1 L (by omega) rfl) rfl rfl (by simp) rfl rfl (mk_setr rfl rfl rfl) ?_
        iterate 2 refine ev_s rfl ?_
        refine ev_pf (hp' := (mk np (up2 (up2 M1 11 5 (csum (gCell M 14) 6)) 11 6 (csum (gWY M 14) 6)) L)) (rd np (up2 M1 11 5 (csum (gCell M 14) 6)) L (by omega) ((congrArg (fun r => cel np 11 r (L 11)) ((up2_s _ _ _ _).trans (congrArg (fun r => upd r 5 (csum (gCell M 14) 6)) rfl))).trans rfl)) rfl rfl (by simp) rfl rfl (mk_setr ((up2_s _ _ _ _).trans (congrArg (fun r => upd r 5 (csum (gCell M 14) 6)) rfl)) rfl rfl) ?_
        refine ev_rv rfl rfl ?_ ?_
        · rfl
        · rw [kbM_t (Or.inr ⟨c2, c3⟩), hM1]
def bgM (M : Nat → Nat → Int32) (np : Nat) : Nat → Nat → Nat → Int32
  | 0 => M
  | i + 1 => if i < np then stM (bgM M np i) (14 + i) (57 + i) else bgM M np i
def bg0 (M : Nat → Nat → Int32) (s : Int32) : Nat → Nat → Int32 := up2 (up2 (emM (up2 (up2 M 11 7 s) 11 8 0) 6) 11 5 0) 11 6 0
set_option maxHeartbeats 4000000 in
theorem lp_bg {np : Nat} {M : Nat → Nat → Int32} {L : Nat → Int64} {s : Int32} (d : Nat) : ∀ k i, i + k = 6 → Ev (d + 1) mX3_begin 29 [some (.ref 11), some (.int s), some (.int (nI i))] [] (mk np (bgM M np i) L) (Qr mX3_begin none (mk np (bgM M np 6) L)) := by
  intro k
  induction k with
  | zero =>
    intro i hik
    obtain rfl : i = 6 := by omega
    iterate 2 refine ev_s rfl ?_
    refine ev_gf (rd np (bgM M np 6) L (by omega) rfl) rfl rfl rfl ?_
    refine ev_al (v := 6) (rd np (bgM M np 6) L (by omega) rfl) rfl rfl rfl ?_
    refine ev_ic rfl rfl ?_
    rw [show zbr .ge (nI 6) 6 83 38 = 83 from zge_t (n := 6) (by decide) (by omega) (by decide)]
    refine ev_rv rfl rfl ?_ ?_
    · rfl
    · rfl
  | succ k ih =>
    intro i hik
    have hi : i < 6 := by omega
    have e9 := ih (i + 1) (by omega)
    by_cases hn : i < np
    · rw [show bgM M np (i + 1) = _ from if_pos hn] at e9
      iterate 2 refine ev_s rfl ?_
      refine ev_gf (rd np (bgM M np i) L (by omega) rfl) rfl rfl rfl ?_
      refine ev_al (v := 6) (rd np (bgM M np i) L (by omega) rfl) rfl rfl rfl ?_
      refine ev_ic rfl rfl ?_
      rw [show zbr .ge (nI i) 6 83 38 = 38 from zge_f (n := 6) (by decide) hi (by decide)]
      iterate 2 refine ev_s rfl ?_
      refine ev_gf (rd np (bgM M np i) L (by omega) rfl) rfl rfl rfl ?_
      refine ev_gf (rd np (bgM M np i) L (by omega) rfl) rfl rfl rfl ?_
      refine ev_al (v := 6) (rd np (bgM M np i) L (by omega) rfl) rfl rfl rfl ?_
      refine ev_ic rfl rfl ?_
      rw [show zbr .ge (nI i) 6 83 50 = 50 from zge_f (n := 6) (by decide) hi (by decide)]
      refine ev_s rfl ?_
      refine ev_gf (rd np (bgM M np i) L (by omega) rfl) rfl rfl rfl ?_
      refine ev_s rfl ?_
      refine ev_aa (v := (.ref (57 + i))) (rd np (bgM M np i) L (by omega) rfl) rfl rfl (zin_nI (by omega) (by decide)) (by rw [if_pos hn]; rfl) ?_
      iterate 2 refine ev_s rfl ?_
      refine ev_gf (rd np (bgM M np i) L (by omega) rfl) rfl rfl rfl ?_
      refine ev_gf (rd np (bgM M np i) L (by omega) rfl) rfl rfl rfl ?_
      refine ev_s rfl ?_
      refine ev_aa (v := (.ref (14 + i))) (rd np (bgM M np i) L (by omega) rfl) rfl rfl (zin_nI (by omega) (by decide)) (by rw [if_pos (by omega)]; rfl) ?_
      refine ev_s rfl ?_
      refine ev_gf (rd np (bgM M np i) L (by omega) rfl) rfl rfl rfl ?_
      refine ev_s rfl ?_
      refine ev_aa (v := (.ref (57 + i))) (rd np (bgM M np i) L (by omega) rfl) rfl rfl (zin_nI (by omega) (by decide)) (by rw [if_pos hn]; rfl) ?_
      refine ev_cv (vs := [(.ref (14 + i)), (.ref (57 + i))]) (rest := []) (rv := none) (hp' := (mk np (stM (bgM M np i) (14 + i) (57 + i)) L)) rfl rfl rfl (rd np (bgM M np i) L (by omega) (cel_trial (by omega) _ _)) rfl rfl rfl rfl (rn_startFor hi hn _) ?_
      show Ev _ _ 77 _ [] _ _
      refine ev_inc (y := 1) (v := nI (i + 1)) (ls' := [some (.ref 11), some (.int s), some (.int (nI (i + 1)))]) rfl rfl (by decide) (nI_1 _) rfl ?_
      refine ev_s rfl ?_
      exact e9
    · rw [show bgM M np (i + 1) = _ from if_neg hn] at e9
      iterate 2 refine ev_s rfl ?_
      refine ev_gf (rd np (bgM M np i) L (by omega) rfl) rfl rfl rfl ?_
      refine ev_al (v := 6) (rd np (bgM M np i) L (by omega) rfl) rfl rfl rfl ?_
      refine ev_ic rfl rfl ?_
      rw [show zbr .ge (nI i) 6 83 38 = 38 from zge_f (n := 6) (by decide) hi (by decide)]
      iterate 2 refine ev_s rfl ?_
      refine ev_gf (rd np (bgM M np i) L (by omega) rfl) rfl rfl rfl ?_
      refine ev_gf (rd np (bgM M np i) L (by omega) rfl) rfl rfl rfl ?_
      refine ev_al (v := 6) (rd np (bgM M np i) L (by omega) rfl) rfl rfl rfl ?_
      refine ev_ic rfl rfl ?_
      rw [show zbr .ge (nI i) 6 83 50 = 50 from zge_f (n := 6) (by decide) hi (by decide)]
      refine ev_s rfl ?_
      refine ev_gf (rd np (bgM M np i) L (by omega) rfl) rfl rfl rfl ?_
      refine ev_s rfl ?_
      refine ev_aa (v := .null) (rd np (bgM M np i) L (by omega) rfl) rfl rfl (zin_nI (by omega) (by decide)) (by rw [if_neg hn]; rfl) ?_
      refine ev_s rfl ?_
      refine ev_inc (y := 1) (v := nI (i + 1)) (ls' := [some (.ref 11), some (.int s), some (.int (nI (i + 1)))]) rfl rfl (by decide) (nI_1 _) rfl ?_
      refine ev_s rfl ?_
      exact e9
set_option maxHeartbeats 4000000 in
theorem rn_begin {np : Nat} {M : Nat → Nat → Int32} {L : Nat → Int64} {s : Int32} (d : Nat) : Rn (d + 1) mX3_begin [.ref 11, .int s] (mk np M L) none (mk np (bgM (bg0 M s) np 6) L) := by
  unfold Rn
  iterate 2 refine ev_s rfl ?_
  refine ev_pf (hp' := (mk np (up2 M 11 7 s) L)) (rd np M L (by omega) rfl) rfl rfl (by simp) rfl rfl (mk_setr rfl rfl rfl) ?_
  refine ev_s rfl ?_
  refine ev_ik (v := 0) rfl (by decide) ?_
  refine ev_pf (hp' := (mk np (up2 (up2 M 11 7 s) 11 8 0) L)) (rd np (up2 M 11 7 s) L (by omega) ((congrArg (fun r => cel np 11 r (L 11)) ((up2_s _ _ _ _).trans (congrArg (fun r => upd r 7 s) rfl))).trans rfl)) rfl rfl (by simp) rfl rfl (mk_setr ((up2_s _ _ _ _).trans (congrArg (fun r => upd r 7 s) rfl)) rfl rfl) ?_
  refine ev_s rfl ?_
  refine ev_gf (rd np (up2 (up2 M 11 7 s) 11 8 0) L (by omega) ((congrArg (fun r => cel np 11 r (L 11)) ((up2_s _ _ _ _).trans (congrArg (fun r => upd r 8 0) ((up2_s _ _ _ _).trans (congrArg (fun r => upd r 7 s) rfl))))).trans rfl)) rfl rfl rfl ?_
  refine ev_cv (vs := [(.ref 3)]) (rest := []) (rv := none) (hp' := (mk np (emM (up2 (up2 M 11 7 s) 11 8 0) 6) L)) rfl rfl rfl (rd np (up2 (up2 M 11 7 s) 11 8 0) L (by omega) ((congrArg (fun r => cel np 3 r (L 3)) ((up2_n (by omega)).trans ((up2_n (by omega)).trans rfl))).trans rfl)) rfl rfl rfl rfl (rn_empty _) ?_
  show Ev _ _ 17 _ [] _ _
  refine ev_s rfl ?_
  refine ev_ik (v := 0) rfl (by decide) ?_
  refine ev_pf (hp' := (mk np (up2 (emM (up2 (up2 M 11 7 s) 11 8 0) 6) 11 5 0) L)) (rd np (emM (up2 (up2 M 11 7 s) 11 8 0) 6) L (by omega) rfl) rfl rfl (by simp) rfl rfl (mk_setr rfl rfl rfl) ?_
  refine ev_s rfl ?_
  refine ev_ik (v := 0) rfl (by decide) ?_
  refine ev_pf (hp' := (mk np (up2 (up2 (emM (up2 (up2 M 11 7 s) 11 8 0) 6) 11 5 0) 11 6 0) L)) (rd np (up2 (emM (up2 (up2 M 11 7 s) 11 8 0) 6) 11 5 0) L (by omega) ((congrArg (fun r => cel np 11 r (L 11)) ((up2_s _ _ _ _).trans (congrArg (fun r => upd r 5 0) rfl))).trans rfl)) rfl rfl (by simp) rfl rfl (mk_setr ((up2_s _ _ _ _).trans (congrArg (fun r => upd r 5 0) rfl)) rfl rfl) ?_
  refine ev_ik (v := 0) rfl (by decide) ?_
  refine ev_s (ls' := [some (.ref 11), some (.int s), some (.int 0)]) rfl ?_
  exact lp_bg (M := bg0 M s) d 6 0 (by omega)
