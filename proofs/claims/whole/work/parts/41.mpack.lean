-- lk: 28 29 30 31 32 33 37 38 39 40
/-! ===== LoadSpaceModel: pack ===== -/
theorem zle_n {x y : Int32} {t f : Nat} (h : ¬ x ≤ y) : zbr .le x y t f = f := if_neg h
theorem zle_p {x y : Int32} {t f : Nat} (h : x ≤ y) : zbr .le x y t f = t := if_pos h
set_option maxHeartbeats 4000000 in
theorem rn_mpack_1 {np : Nat} {M : Nat → Nat → Int32} {L : Nat → Int64} {s : Int32} (hw : ¬ mW s 1 500) (d : Nat) : Rn (d + 1) mX6_pack [(.ref 21), (.int s)] (mk np M L) (some (.int (-102))) (mk np M L) := by
  unfold Rn
  refine ev_s rfl ?_
  refine ev_ik (v := 1) rfl (by decide) ?_
  refine ev_si (v := 500) rfl (by decide) ?_
  refine ev_cs (vs := [(.int s), (.int 1), (.int 500)]) (rest := []) (rv := (some (.int 0))) rfl rfl rfl rfl rfl (by have e9 := rn_within (hp := mk np M L) (x := s) (y := 1) (z := 500) d; rwa [zi_f hw] at e9) ?_
  show Ev _ _ 8 _ [(.int 0)] _ _
  refine ev_if rfl rfl ?_
  show Ev _ _ 11 _ _ _ _
  refine ev_bi (v := (-102)) rfl (by decide) ?_
  refine ev_ri rfl rfl ?_ ?_
  · rfl
  · rfl
set_option maxHeartbeats 4000000 in
theorem rn_mpack_2 {np : Nat} {M : Nat → Nat → Int32} {L : Nat → Int64} {s : Int32} (hw : mW s 1 500) (h3 : M 21 3 = 0) (d : Nat) : Rn (d + 1) mX6_pack [(.ref 21), (.int s)] (mk np M L) (some (.int (-103))) (mk np M L) := by
  unfold Rn
  refine ev_s rfl ?_
  refine ev_ik (v := 1) rfl (by decide) ?_
  refine ev_si (v := 500) rfl (by decide) ?_
  refine ev_cs (vs := [(.int s), (.int 1), (.int 500)]) (rest := []) (rv := (some (.int 1))) rfl rfl rfl rfl rfl (by have e9 := rn_within (hp := mk np M L) (x := s) (y := 1) (z := 500) d; rwa [zi_t hw] at e9) ?_
  show Ev _ _ 8 _ [(.int 1)] _ _
  refine ev_if rfl rfl ?_
  show Ev _ _ 14 _ _ _ _
  refine ev_s rfl ?_
  refine ev_gf (rd np M L (by omega) rfl) rfl rfl rfl ?_
  rw [h3]
  refine ev_if rfl rfl ?_
  show Ev _ _ 21 _ _ _ _
  refine ev_bi (v := (-103)) rfl (by decide) ?_
  refine ev_ri rfl rfl ?_ ?_
  · rfl
  · rfl
set_option maxHeartbeats 4000000 in
theorem rn_mpack_3 {np : Nat} {M : Nat → Nat → Int32} {L : Nat → Int64} {s : Int32} (hw : mW s 1 500) (h3 : ¬ M 21 3 = 0) (hs : ¬ s ≤ 3000 - M 21 4) (d : Nat) : Rn (d + 1) mX6_pack [(.ref 21), (.int s)] (mk np M L) (some (.int (-104))) (mk np M L) := by
  unfold Rn
  refine ev_s rfl ?_
  refine ev_ik (v := 1) rfl (by decide) ?_
  refine ev_si (v := 500) rfl (by decide) ?_
  refine ev_cs (vs := [(.int s), (.int 1), (.int 500)]) (rest := []) (rv := (some (.int 1))) rfl rfl rfl rfl rfl (by have e9 := rn_within (hp := mk np M L) (x := s) (y := 1) (z := 500) d; rwa [zi_t hw] at e9) ?_
  show Ev _ _ 8 _ [(.int 1)] _ _
  refine ev_if rfl rfl ?_
  show Ev _ _ 14 _ _ _ _
  refine ev_s rfl ?_
  refine ev_gf (rd np M L (by omega) rfl) rfl rfl rfl ?_
  refine ev_if rfl rfl ?_
  rw [show zbr .ne (M 21 3) 0 24 21 = 24 from if_neg h3]
  refine ev_s rfl ?_
  refine ev_si (v := 3000) rfl (by decide) ?_
  refine ev_s rfl ?_
  refine ev_gf (rd np M L (by omega) rfl) rfl rfl rfl ?_
  refine ev_s rfl ?_
  refine ev_ic rfl rfl ?_
  rw [show zbr .le s (3000 - (M 21 4)) 39 36 = 36 from zle_n hs]
  refine ev_bi (v := (-104)) rfl (by decide) ?_
  refine ev_ri rfl rfl ?_ ?_
  · rfl
  · rfl
def ziM (M : Nat → Nat → Int32) : Nat → Nat → Nat → Int32
  | 0 => M
  | k + 1 => up2 (ziM M k) 29 k 0
set_option maxHeartbeats 4000000 in
theorem lp_mz {np : Nat} {M : Nat → Nat → Int32} {L : Nat → Int64} {s : Int32} (d : Nat) {Q : zCf → Prop} (hQ : Ev d mX6_pack 70 [some (.ref 21), some (.int s), some (.int (nI 6)), none, none, none, none] [] (mk np (ziM M 6) L) Q) : ∀ j k, k + j = 6 → Ev d mX6_pack 51 [some (.ref 21), some (.int s), some (.int (nI k)), none, none, none, none] [] (mk np (ziM M k) L) Q := by
  intro j
  induction j with
  | zero =>
    intro k hk
    obtain rfl : k = 6 := by omega
    refine ev_s rfl ?_
    refine ev_bi (v := 6) rfl (by decide) ?_
    refine ev_ic rfl rfl ?_
    rw [show zbr .ge (nI 6) 6 70 57 = 70 from zge_t (n := 6) rfl (by omega) (by omega)]
    exact hQ
  | succ j ih =>
    intro k hkj
    have hk : k < 6 := by omega
    have e9 := ih (k + 1) (by omega)
    rw [show ziM M (k + 1) = up2 (ziM M k) 29 k 0 from rfl] at e9
    refine ev_s rfl ?_
    refine ev_bi (v := 6) rfl (by decide) ?_
    refine ev_ic rfl rfl ?_
    rw [show zbr .ge (nI k) 6 70 57 = 57 from zge_f (n := 6) rfl hk (by omega)]
    refine ev_s rfl ?_
    refine ev_gf (rd np (ziM M k) L (by omega) rfl) rfl rfl rfl ?_
    refine ev_s rfl ?_
    refine ev_ik (v := 0) rfl (by decide) ?_
    refine ev_bs (hp' := (mk np (up2 (ziM M k) 29 k 0) L)) (rd np (ziM M k) L (by omega) rfl) rfl (zin_nI (by omega) (by decide)) (by decide) (mk_setr rfl rfl rfl) ?_
    refine ev_inc (y := 1) (v := nI (k + 1)) (ls' := [some (.ref 21), some (.int s), some (.int (nI (k + 1))), none, none, none, none]) rfl rfl (by decide) (nI_1 _) rfl ?_
    refine ev_s rfl ?_
    exact e9
set_option maxHeartbeats 4000000 in
theorem mp_head {np : Nat} {M M5 : Nat → Nat → Int32} {L : Nat → Int64} {s : Int32} (hw : mW s 1 500) (h3 : ¬ M 21 3 = 0) (hs : s ≤ 3000 - M 21 4) (d : Nat) (hB : Rn (d + 4) mX6_begin [.ref 21, .int (nI 0)] (mk np (ziM (up2 (up2 M 21 34 0) 21 5 0) 6) L) none (mk np M5 L)) {Q : zCf → Prop} (hK : Ev (d + 5) mX6_pack 77 [some (.ref 21), some (.int s), some (.int (nI 0)), none, none, none, none] [] (mk np M5 L) Q) : Ev (d + 5) mX6_pack 0 (zent mX6_pack [.ref 21, .int s]) [] (mk np M L) Q := by
  refine ev_s rfl ?_
  refine ev_ik (v := 1) rfl (by decide) ?_
  refine ev_si (v := 500) rfl (by decide) ?_
  refine ev_cs (vs := [(.int s), (.int 1), (.int 500)]) (rest := []) (rv := (some (.int 1))) rfl rfl rfl rfl rfl (by have e9 := rn_within (hp := mk np M L) (x := s) (y := 1) (z := 500) (d + 4); rwa [zi_t hw] at e9) ?_
  show Ev _ _ 8 _ [(.int 1)] _ _
  refine ev_if rfl rfl ?_
  show Ev _ _ 14 _ _ _ _
  refine ev_s rfl ?_
  refine ev_gf (rd np M L (by omega) rfl) rfl rfl rfl ?_
  refine ev_if rfl rfl ?_
  rw [show zbr .ne (M 21 3) 0 24 21 = 24 from if_neg h3]
  refine ev_s rfl ?_
  refine ev_si (v := 3000) rfl (by decide) ?_
  refine ev_s rfl ?_
  refine ev_gf (rd np M L (by omega) rfl) rfl rfl rfl ?_
  refine ev_s rfl ?_
  refine ev_ic rfl rfl ?_
  rw [show zbr .le s (3000 - (M 21 4)) 39 36 = 39 from zle_p hs]
  refine ev_s rfl ?_
  refine ev_ik (v := 0) rfl (by decide) ?_
  refine ev_pf (hp' := (mk np (up2 M 21 34 0) L)) (rd np M L (by omega) rfl) rfl rfl (by simp) rfl rfl (mk_setr rfl rfl rfl) ?_
  refine ev_s rfl ?_
  refine ev_ik (v := 0) rfl (by decide) ?_
  refine ev_pf (hp' := (mk np (up2 (up2 M 21 34 0) 21 5 0) L)) (rd np (up2 M 21 34 0) L (by omega) ((congrArg (fun r => cel np 21 r (L 21)) ((up2_s _ _ _ _).trans (congrArg (fun r => upd r 34 0) rfl))).trans rfl)) rfl rfl (by simp) rfl rfl (mk_setr ((up2_s _ _ _ _).trans (congrArg (fun r => upd r 34 0) rfl)) rfl rfl) ?_
  refine ev_ik (v := 0) rfl (by decide) ?_
  refine ev_s (ls' := [some (.ref 21), some (.int s), some (.int 0), none, none, none, none]) rfl ?_
  refine lp_mz (M := up2 (up2 M 21 34 0) 21 5 0) (d + 5) ?_ 6 0 (by omega)
  refine ev_ik (v := 0) rfl (by decide) ?_
  refine ev_s (ls' := [some (.ref 21), some (.int s), some (.int 0), none, none, none, none]) rfl ?_
  refine ev_s rfl ?_
  refine ev_ik (v := 0) rfl (by decide) ?_
  refine ev_cv (vs := [(.ref 21), (.int 0)]) (rest := []) (rv := none) (hp' := (mk np M5 L)) rfl rfl rfl (rd np (ziM (up2 (up2 M 21 34 0) 21 5 0) 6) L (by omega) rfl) rfl rfl rfl rfl hB ?_
  show Ev _ _ 77 _ [] _ _
  exact hK
set_option maxHeartbeats 4000000 in
theorem mp_tail {np : Nat} {M : Nat → Nat → Int32} {L : Nat → Int64} {s e : Int32} (he : zi (¬ s ≤ M 21 5) = e) {v2 v3 v4 v5 v6 : Option Value} (d : Nat) : Ev d mX6_pack 280 [some (.ref 21), some (.int s), v2, v3, v4, v5, v6] [] (mk np M L) (Qr mX6_pack (some (.int (M 21 32))) (mk np (up2 (up2 M 21 4 (M 21 4 + M 21 5)) 21 6 e) L)) := by
  iterate 2 refine ev_s rfl ?_
  refine ev_gf (rd np M L (by omega) rfl) rfl rfl rfl ?_
  refine ev_s rfl ?_
  refine ev_gf (rd np M L (by omega) rfl) rfl rfl rfl ?_
  refine ev_s rfl ?_
  refine ev_pf (hp' := (mk np (up2 M 21 4 ((M 21 4) + (M 21 5))) L)) (rd np M L (by omega) rfl) rfl rfl (by simp) rfl rfl (mk_setr rfl rfl rfl) ?_
  iterate 2 refine ev_s rfl ?_
  refine ev_gf (rd np (up2 M 21 4 ((M 21 4) + (M 21 5))) L (by omega) ((congrArg (fun r => cel np 21 r (L 21)) ((up2_s _ _ _ _).trans (congrArg (fun r => upd r 4 ((M 21 4) + (M 21 5))) rfl))).trans rfl)) rfl rfl rfl ?_
  rw [upd_n (show (5 : Nat) ≠ 4 by decide)]
  refine ev_s rfl ?_
  refine ev_cut (pc2 := 307) (ls2 := [some (.ref 21), some (.int s), v2, v3, v4, v5, v6]) (st2 := [(.int (zi (¬ s ≤ (M 21 5)))), (.ref 21)]) (hp2 := (mk np (up2 M 21 4 ((M 21 4) + (M 21 5))) L)) ?_ (fun hK1 => ?_)
  · show Ev _ _ 307 _ _ _ _
    refine ev_pf (hp' := (mk np (up2 (up2 M 21 4 ((M 21 4) + (M 21 5))) 21 6 (zi (¬ s ≤ (M 21 5)))) L)) (rd np (up2 M 21 4 ((M 21 4) + (M 21 5))) L (by omega) ((congrArg (fun r => cel np 21 r (L 21)) ((up2_s _ _ _ _).trans (congrArg (fun r => upd r 4 ((M 21 4) + (M 21 5))) rfl))).trans rfl)) rfl rfl (by simp) rfl (zfits_b (zi_01 _)) (mk_setr ((up2_s _ _ _ _).trans (congrArg (fun r => upd r 4 ((M 21 4) + (M 21 5))) rfl)) rfl rfl) ?_
    refine ev_s rfl ?_
    refine ev_gf (rd np (up2 (up2 M 21 4 ((M 21 4) + (M 21 5))) 21 6 (zi (¬ s ≤ (M 21 5)))) L (by omega) ((congrArg (fun r => cel np 21 r (L 21)) ((up2_s _ _ _ _).trans (congrArg (fun r => upd r 6 (zi (¬ s ≤ (M 21 5)))) ((up2_s _ _ _ _).trans (congrArg (fun r => upd r 4 ((M 21 4) + (M 21 5))) rfl))))).trans rfl)) rfl rfl rfl ?_
    rw [upd_n (show (32 : Nat) ≠ 6 by decide), upd_n (show (32 : Nat) ≠ 4 by decide)]
    refine ev_ri rfl rfl ?_ ?_
    · rfl
    · rw [he]
  · show Ev _ _ 299 _ _ _ _
    refine ev_ic rfl rfl (ev_br (zb_ge _ _ _ _) (fun c1 => ?_) (fun c1 => ?_))
    · show Ev _ _ 306 _ _ _ _
      refine ev_ik (v := 0) rfl (by decide) ?_
      rw [zi_f (show ¬ (¬ s ≤ (M 21 5)) from fun h => h c1)] at hK1
      exact hK1
    · show Ev _ _ 302 _ _ _ _
      refine ev_ik (v := 1) rfl (by decide) ?_
      refine ev_s rfl ?_
      rw [zi_t (show ¬ s ≤ (M 21 5) from c1)] at hK1
      exact hK1
set_option maxHeartbeats 4000000 in
theorem mp_out {np : Nat} {M : Nat → Nat → Int32} {L : Nat → Int64} {s : Int32} {v3 v4 v5 v6 : Option Value} (d : Nat) {Q : zCf → Prop} (hK : Ev d mX6_pack 280 [some (.ref 21), some (.int s), some (.int (-1)), v3, v4, v5, v6] [] (mk np M L) Q) : Ev d mX6_pack 77 [some (.ref 21), some (.int s), some (.int (-1)), v3, v4, v5, v6] [] (mk np M L) Q := by
  refine ev_s rfl ?_
  refine ev_if rfl rfl ?_
  show Ev _ _ 280 _ _ _ _
  exact hK
theorem ziM_n {M : Nat → Nat → Int32} {h : Nat} (hh : h ≠ 29) : ∀ k, ziM M k h = M h
  | 0 => rfl
  | k + 1 => by rw [ziM, up2_n hh]; exact ziM_n hh k
theorem ziM_s {M : Nat → Nat → Int32} {i : Nat} : ∀ k, i < k → ziM M k 29 i = 0
  | 0, h => absurd h (by omega)
  | k + 1, h => by
    rw [ziM, up2_s]
    by_cases e : i = k
    · subst e; rw [upd_s]
    · rw [upd_n e]; exact ziM_s k (by omega)
def P0 : Nat → Nat → Nat := fun _ _ => 0
def s0 : Nat × Nat × Nat × (Nat → Nat → Nat) := (0, 0, 0, P0)
theorem P0_good (g : Nat → Nat → Nat) : Good g P0 0 := ⟨fun _ _ => rfl, fun _ h => absurd h (by simp [P0]), fun _ _ _ h => absurd h (by simp [P0]), fun _ _ _ h => absurd h (by simp [P0]), fun _ h => absurd h (by simp [P0])⟩
theorem P0_bn (g : Nat → Nat → Nat) : Bn g P0 := fun _ => ⟨Or.inl rfl, fun h => absurd h (by simp [P0])⟩
theorem clS_P0 : ∀ n, clS P0 n = 0
  | 0 => rfl
  | n + 1 => by rw [clS, clS_P0 n]; rfl
theorem wyS_P0 (g : Nat → Nat → Nat) : ∀ n, wyS g P0 n = 0
  | 0 => rfl
  | n + 1 => by rw [wyS, wyS_P0 g n]; rfl
theorem s0_sn (g : Nat → Nat → Nat) : Sn g s0 := ⟨Nat.zero_le _, (clS_P0 6).symm, (wyS_P0 g 6).symm, P0_bn g⟩
/-- the reference's pack -/
theorem rn_mpack {g : Nat → Nat → Nat} (cg : Cg g) {np : Nat} {M : Nat → Nat → Int32} {L : Nat → Int64} (hs : RMs g M) (hm : nI (g 9 0) ≤ 3000 - M 21 4) (d : Nat) : ∃ M' L', Rn (d + 5) mX6_pack [.ref 21, .int (nI (g 9 0))] (mk np M L) (some (.int (nI (srch g (g 7 0) 0 P0 s0).2.1))) (mk np M' L') ∧ RMk g (srch g (g 7 0) 0 P0 s0) M' L' ∧ M' 21 5 = nI (srch g (g 7 0) 0 P0 s0).1 ∧ M' 21 4 = M 21 4 + nI (srch g (g 7 0) 0 P0 s0).1 ∧ M' 21 6 = zi (¬ nI (g 9 0) ≤ nI (srch g (g 7 0) 0 P0 s0).1) ∧ (∀ k, k ≠ 4 → k ≠ 5 → k ≠ 6 → k ≠ 32 → k ≠ 34 → M' 21 k = M 21 k) ∧ (∀ h, h < 21 ∨ 22 ≤ h ∧ h ≤ 28 ∨ 56 ≤ h → M' h = M h) ∧ ∀ h, h ≠ 21 → L' h = L h := by
  have hn6 := cg.1
  have al := cg.2.2.1
  obtain ⟨r, hr⟩ : ∃ r, g 7 0 = r + 1 := ⟨g 7 0 - 1, by omega⟩
  obtain ⟨M1, hM1⟩ : ∃ M1, M1 = ziM (up2 (up2 M 21 34 0) 21 5 0) 6 := ⟨_, rfl⟩
  have F1 : FR 0 M M1 := by
    rw [hM1]
    intro h k q
    by_cases e : h = 29
    · subst e; exact absurd (Or.inl (by omega)) q
    · rw [ziM_n e]
      exact (((FR.rf 0 M).up (Or.inr (Or.inl (by omega)))).up (Or.inr (Or.inl (by omega)))) h k q
  have s1 := hs.fr F1
  have p1 : RMp 6 P0 M1 := fun i hi _ => ⟨by rw [hM1, ziM_s 6 hi]; rfl, fun w => absurd w (by simp [P0])⟩
  have h34 : M1 21 34 = 0 := by rw [hM1, ziM_n (by omega), up2_s, upd_n (by omega), up2_s, upd_s]
  have h5 : M1 21 5 = nI 0 := by rw [hM1, ziM_n (by omega), up2_s, upd_s]; rfl
  obtain ⟨M5, hR, l5, c5, f5⟩ := mb_lv (np := np) (L := L) (j := 0) cg s1 (P0_bn g) p1 (by omega) (by omega) (d + 3)
  have F5 : FR 0 M1 M5 := (FR.rf _ _).fb (Nat.le_refl _) f5
  have row5 : ∀ h, h < 47 → M5 h = M1 h := fun h hh => f5.row (by omega)
  have hlv : lvF g r 0 P0 0 s0 = srch g (g 7 0) 0 P0 s0 := by rw [lvF_0, hr]
  obtain ⟨sF, hsF⟩ : ∃ sF, sF = srch g (g 7 0) 0 P0 s0 := ⟨_, rfl⟩
  rw [← hsF] at hlv ⊢
  have hfin : ∀ (M' : Nat → Nat → Int32) (L' : Nat → Int64), POST g 0 sF M5 L M' L' → ∃ M'' L'', (mk np M'' L'' = mk np (up2 (up2 M' 21 4 (M' 21 4 + M' 21 5)) 21 6 (zi (¬ nI (g 9 0) ≤ M' 21 5))) L') ∧ nI sF.2.1 = M' 21 32 ∧ RMk g sF M'' L'' ∧ M'' 21 5 = nI sF.1 ∧ M'' 21 4 = M 21 4 + nI sF.1 ∧ M'' 21 6 = zi (¬ nI (g 9 0) ≤ nI sF.1) ∧ (∀ k, k ≠ 4 → k ≠ 5 → k ≠ 6 → k ≠ 32 → k ≠ 34 → M'' 21 k = M 21 k) ∧ (∀ h, h < 21 ∨ 22 ≤ h ∧ h ≤ 28 ∨ 56 ≤ h → M'' h = M h) ∧ ∀ h, h ≠ 21 → L'' h = L h := by
    intro M' L' ⟨q1, q2, q3, q4⟩
    have FF : FR 0 M M' := (F1.tr F5).tr q3
    refine ⟨_, _, rfl, q1.2.1.symm, q1.c rfl (by rw [up2_s, upd_n (by omega), up2_s, upd_n (by omega)]) (by rw [up2_s, upd_n (by omega), up2_s, upd_n (by omega)]) (fun h a b => by rw [up2_n (by omega), up2_n (by omega)]), ?_, ?_, ?_, ?_, ?_, q4⟩
    · rw [up2_s, upd_n (by omega), up2_s, upd_n (by omega), q2]
    · rw [up2_s, upd_n (by omega), up2_s, upd_s, q2, FF.m (by omega)]
    · rw [up2_s, upd_s, q2]
    · intro k a b e f i
      rw [up2_s, upd_n e, up2_s, upd_n a, FF.m ⟨b, f, i⟩]
    · intro h hh
      rw [up2_n (by omega), up2_n (by omega), FF.row (by omega)]
  have main : Ev (d + 5) mX6_pack 0 (zent mX6_pack [.ref 21, .int (nI (g 9 0))]) [] (mk np M L) (fun x => ∃ M' L', POST g 0 sF M5 L M' L' ∧ Qr mX6_pack (some (.int (M' 21 32))) (mk np (up2 (up2 M' 21 4 (M' 21 4 + M' 21 5)) 21 6 (zi (¬ nI (g 9 0) ≤ M' 21 5))) L') x) := by
    refine mp_head (s := nI (g 9 0)) (M5 := M5) ?_ ?_ hm d (by rw [← hM1]; exact hR) ?_
    · exact ⟨(nlt_I (b := 1) (by omega) (by omega)).mpr (by omega), (nlt_I (a := 500) (by omega) (by omega)).mpr (by omega)⟩
    · rw [hs.1.2.2.2]; exact nI_ne0 (by omega) (by omega)
    · refine lv_all cg r 0 P0 (by omega) (P0_good g) (P0_bn g) (cds g P0 0).length 0 (by omega) s0 M5 L _ _ _ _ ⟨s0_sn g, by unfold enA; show ¬ g 9 0 ≤ 0; omega, s1.fr F5, fun i hi _ => ⟨by rw [row5 29 (by omega)]; exact (p1 i hi (by omega)).1, fun w => absurd w (by simp [P0])⟩, Or.inl ⟨by rw [row5 21 (by omega)]; exact h34, rfl, rfl, fun _ => rfl⟩, by rw [row5 21 (by omega)]; exact h5, l5, c5⟩ ?_ ?_
      · intro M' L' v3 v4 v5 v6 ne P' ps
        rw [hlv] at ps
        rw [show nI 0 + (-1) = -1 from by decide]
        refine mp_out (d + 5) ?_
        exact (mp_tail rfl (d + 5)).imp (fun x hx => ⟨M', L', ps, hx⟩)
      · intro M' L' v3 v4 v5 v6 en ps
        rw [hlv] at ps
        exact (mp_tail rfl (d + 5)).imp (fun x hx => ⟨M', L', ps, hx⟩)
  obtain ⟨n, x, h1, M', L', h2, h3⟩ := main
  obtain ⟨M'', L'', q1, q2, q3⟩ := hfin M' L' h2
  exact ⟨M'', L'', ⟨n, x, h1, by rw [q1, q2]; exact h3⟩, q3⟩
