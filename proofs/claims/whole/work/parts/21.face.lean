/-! ===== LoadSpace ===== -/
/-- number n is a piece -/
theorem mW_of {n : Int32} {np : Nat} (hn : np ≤ 6) (h : mW n 1 (nI np)) : ∃ k, k < np ∧ n = nI (k + 1) ∧ n - 1 = nI k := by
  obtain ⟨k, h1, h2, h3, h4⟩ := num_of (k := np) rfl (by omega) h.1 h.2
  exact ⟨k, h1, h2, h3⟩
theorem mW_nI {np k : Nat} (hn : np ≤ 6) (hk : k < np) : mW (nI (k + 1)) 1 (nI np) := by
  refine ⟨?_, ?_⟩
  · rw [show (1 : Int32) = nI 1 from by decide]; exact nI_nlt (by omega) (by omega)
  · exact nI_nlt (by omega) (by omega)

set_option maxHeartbeats 4000000 in
theorem rn_pieceOf_s {np : Nat} {M : Nat → Nat → Int32} {L : Nat → Int64} {k : Nat} (hn : np ≤ 6) (hk : k < np) (d : Nat) : Rn (d) mX5_pieceOf [(.ref 0), (.int (nI (k + 1)))] (mk np M L) (some (.ref (57 + k))) (mk np M L) := by
  unfold Rn
  refine ev_s rfl ?_
  refine ev_ik (v := 1) rfl (by decide) ?_
  refine ev_ic rfl rfl ?_
  rw [show zbr .lt (nI (k + 1)) 1 14 5 = 5 from if_neg (mW_nI hn hk).1]
  iterate 2 refine ev_s rfl ?_
  refine ev_gf (rd np M L (by omega) rfl) rfl rfl rfl ?_
  refine ev_al (v := 6) (rd np M L (by omega) rfl) rfl rfl rfl ?_
  refine ev_ic rfl rfl ?_
  rw [show zbr .le (nI (k + 1)) 6 16 14 = 16 from if_pos (by rw [show (6 : Int32) = nI 6 from by decide]; exact nI_le (by omega) (by omega))]
  refine ev_s rfl ?_
  refine ev_gf (rd np M L (by omega) rfl) rfl rfl rfl ?_
  refine ev_s rfl ?_
  refine ev_ik (v := 1) rfl (by decide) ?_
  refine ev_s rfl ?_
  refine ev_aa (v := (.ref (57 + k))) (rd np M L (by omega) rfl) rfl rfl (by rw [nI_pred]; exact zin_nI (by omega) (by decide)) (by rw [if_pos hk]; rfl) ?_
  refine ev_ra rfl rfl ?_ ?_
  · rfl
  · rfl
set_option maxHeartbeats 4000000 in
theorem rn_pieceOf_n {np : Nat} {M : Nat → Nat → Int32} {L : Nat → Int64} {n : Int32} (hn : np ≤ 6) (hu : ¬ mW n 1 (nI np)) (d : Nat) : Rn (d) mX5_pieceOf [(.ref 0), (.int n)] (mk np M L) (some .null) (mk np M L) := by
  unfold Rn
  refine ev_s rfl ?_
  refine ev_ik (v := 1) rfl (by decide) ?_
  refine ev_ic rfl rfl (ev_br (zb_lt _ _ _ _) (fun c1 => ?_) (fun c1 => ?_))
  · show Ev _ _ 14 _ _ _ _
    refine ev_s rfl ?_
    refine ev_rn rfl rfl ?_ ?_
    · rfl
    · rfl
  · show Ev _ _ 5 _ _ _ _
    iterate 2 refine ev_s rfl ?_
    refine ev_gf (rd np M L (by omega) rfl) rfl rfl rfl ?_
    refine ev_al (v := 6) (rd np M L (by omega) rfl) rfl rfl rfl ?_
    refine ev_ic rfl rfl (ev_br (zb_le _ _ _ _) (fun c2 => ?_) (fun c2 => ?_))
    · show Ev _ _ 16 _ _ _ _
      refine ev_s rfl ?_
      refine ev_gf (rd np M L (by omega) rfl) rfl rfl rfl ?_
      refine ev_s rfl ?_
      refine ev_ik (v := 1) rfl (by decide) ?_
      refine ev_s rfl ?_
      obtain ⟨k, hk1, hk2, hk3, hk4⟩ := num_of (k := 6) (by decide) (by decide) c1 (Int32.not_lt.mpr c2)
      have hkn : ¬ k < np := fun q => hu (by rw [hk2]; exact mW_nI hn q)
      refine ev_aa (v := .null) (rd np M L (by omega) rfl) rfl rfl (by rw [hk3]; exact zin_nI hk1 (by decide)) (by rw [if_neg (fun q => hkn q)]; rfl) ?_
      refine ev_rn rfl rfl ?_ ?_
      · rfl
      · rfl
    · show Ev _ _ 14 _ _ _ _
      refine ev_s rfl ?_
      refine ev_rn rfl rfl ?_ ?_
      · rfl
      · rfl
set_option maxHeartbeats 4000000 in
theorem rn_turn_u {np : Nat} {M : Nat → Nat → Int32} {L : Nat → Int64} {n x : Int32} (hn : np ≤ 6) (hu : ¬ mW n 1 (nI np)) (d : Nat) : Rn (d + 1) mX5_turn [(.ref 0), (.int n), (.int x)] (mk np M L) (some (.int (-101))) (mk np M L) := by
  unfold Rn
  iterate 2 refine ev_s rfl ?_
  refine ev_cv (vs := [(.ref 0), (.int n)]) (rest := []) (rv := (some .null)) rfl rfl rfl (rd np M L (by omega) rfl) rfl rfl rfl rfl (rn_pieceOf_n hn hu _) ?_
  show Ev _ _ 5 _ [.null] _ _
  refine ev_s (ls' := [some (.ref 0), some (.int n), some (.int x), some .null, none]) rfl ?_
  iterate 2 refine ev_s rfl ?_
  refine ev_bi (v := (-101)) rfl (by decide) ?_
  refine ev_ri rfl rfl ?_ ?_
  · rfl
  · rfl
set_option maxHeartbeats 4000000 in
theorem rn_limit_u {np : Nat} {M : Nat → Nat → Int32} {L : Nat → Int64} {n x : Int32} (hn : np ≤ 6) (hu : ¬ mW n 1 (nI np)) (d : Nat) : Rn (d + 1) mX5_limit [(.ref 0), (.int n), (.int x)] (mk np M L) (some (.int (-101))) (mk np M L) := by
  unfold Rn
  iterate 2 refine ev_s rfl ?_
  refine ev_cv (vs := [(.ref 0), (.int n)]) (rest := []) (rv := (some .null)) rfl rfl rfl (rd np M L (by omega) rfl) rfl rfl rfl rfl (rn_pieceOf_n hn hu _) ?_
  show Ev _ _ 5 _ [.null] _ _
  refine ev_s (ls' := [some (.ref 0), some (.int n), some (.int x), some .null]) rfl ?_
  iterate 2 refine ev_s rfl ?_
  refine ev_bi (v := (-101)) rfl (by decide) ?_
  refine ev_ri rfl rfl ?_ ?_
  · rfl
  · rfl
set_option maxHeartbeats 4000000 in
theorem rn_order_u {np : Nat} {M : Nat → Nat → Int32} {L : Nat → Int64} {n x : Int32} (hn : np ≤ 6) (hu : ¬ mW n 1 (nI np)) (d : Nat) : Rn (d + 1) mX5_order [(.ref 0), (.int n), (.int x)] (mk np M L) (some (.int (-101))) (mk np M L) := by
  unfold Rn
  iterate 2 refine ev_s rfl ?_
  refine ev_cv (vs := [(.ref 0), (.int n)]) (rest := []) (rv := (some .null)) rfl rfl rfl (rd np M L (by omega) rfl) rfl rfl rfl rfl (rn_pieceOf_n hn hu _) ?_
  show Ev _ _ 5 _ [.null] _ _
  refine ev_s (ls' := [some (.ref 0), some (.int n), some (.int x), some .null, none]) rfl ?_
  iterate 2 refine ev_s rfl ?_
  refine ev_bi (v := (-101)) rfl (by decide) ?_
  refine ev_ri rfl rfl ?_ ?_
  · rfl
  · rfl
set_option maxHeartbeats 4000000 in
theorem rn_at_u {np : Nat} {M : Nat → Nat → Int32} {L : Nat → Int64} {n x : Int32} (hn : np ≤ 6) (hu : ¬ mW n 1 (nI np)) (d : Nat) : Rn (d + 1) mX5_at [(.ref 0), (.int n), (.int x)] (mk np M L) (some (.int (-101))) (mk np M L) := by
  unfold Rn
  iterate 2 refine ev_s rfl ?_
  refine ev_cv (vs := [(.ref 0), (.int n)]) (rest := []) (rv := (some .null)) rfl rfl rfl (rd np M L (by omega) rfl) rfl rfl rfl rfl (rn_pieceOf_n hn hu _) ?_
  show Ev _ _ 5 _ [.null] _ _
  refine ev_s rfl ?_
  refine ev_bi (v := (-101)) rfl (by decide) ?_
  refine ev_ri rfl rfl ?_ ?_
  · rfl
  · rfl
set_option maxHeartbeats 4000000 in
theorem rn_large_u {np : Nat} {M : Nat → Nat → Int32} {L : Nat → Int64} {n : Int32} (hn : np ≤ 6) (hu : ¬ mW n 1 (nI np)) (d : Nat) : Rn (d + 1) mX5_large [(.ref 0), (.int n)] (mk np M L) (some (.int (-101))) (mk np M L) := by
  unfold Rn
  iterate 2 refine ev_s rfl ?_
  refine ev_cv (vs := [(.ref 0), (.int n)]) (rest := []) (rv := (some .null)) rfl rfl rfl (rd np M L (by omega) rfl) rfl rfl rfl rfl (rn_pieceOf_n hn hu _) ?_
  show Ev _ _ 5 _ [.null] _ _
  refine ev_s (ls' := [some (.ref 0), some (.int n), some .null]) rfl ?_
  iterate 2 refine ev_s rfl ?_
  refine ev_bi (v := (-101)) rfl (by decide) ?_
  refine ev_ri rfl rfl ?_ ?_
  · rfl
  · rfl
set_option maxHeartbeats 4000000 in
theorem rn_turn_k {np : Nat} {M : Nat → Nat → Int32} {L : Nat → Int64} {k : Nat} {x : Int32} (hn : np ≤ 6) (hk : k < np) (d : Nat) : Rn (d + 3) mX5_turn [(.ref 0), (.int (nI (k + 1))), (.int x)] (mk np M L) (some (.int (cIf (cW x 0 2) (M (57 + k) 4) (-102)))) (mk np (cIf (cW x 0 2) (smM M (57 + k) x (tbl (M (57 + k)) (tmo x))) M) L) := by
  unfold Rn
  iterate 2 refine ev_s rfl ?_
  refine ev_cv (vs := [(.ref 0), (.int (nI (k + 1)))]) (rest := []) (rv := (some (.ref (57 + k)))) rfl rfl rfl (rd np M L (by omega) rfl) rfl rfl rfl rfl (rn_pieceOf_s hn hk _) ?_
  show Ev _ _ 5 _ [(.ref (57 + k))] _ _
  refine ev_s (ls' := [some (.ref 0), some (.int (nI (k + 1))), some (.int x), some (.ref (57 + k)), none]) rfl ?_
  iterate 3 refine ev_s rfl ?_
  refine ev_ik (v := 0) rfl (by decide) ?_
  refine ev_ik (v := 2) rfl (by decide) ?_
  refine ev_cs (vs := [(.int x), (.int 0), (.int 2)]) (rest := []) (rv := (some (.int (zi (cW x 0 2))))) rfl rfl rfl rfl rfl (rn_isWithin _) ?_
  show Ev _ _ 19 _ [(.int (zi (cW x 0 2)))] _ _
  refine ev_if rfl rfl (ev_bzn (fun c1 => ?_) (fun c1 => ?_))
  · show Ev _ _ 25 _ _ _ _
    refine ev_s rfl ?_
    refine ev_gf (rd np M L (by omega) (cel_piece _ _)) rfl rfl rfl ?_
    refine ev_s (ls' := [some (.ref 0), some (.int (nI (k + 1))), some (.int x), some (.ref (57 + k)), some (.int (M (57 + k) 4))]) rfl ?_
    iterate 2 refine ev_s rfl ?_
    refine ev_cv (vs := [(.ref (57 + k)), (.int x)]) (rest := []) (rv := none) (hp' := (mk np (smM M (57 + k) x (tbl (M (57 + k)) (tmo x))) L)) rfl rfl rfl (rd np M L (by omega) (cel_piece _ _)) rfl rfl rfl rfl (rn_setMark hk _) ?_
    show Ev _ _ 36 _ [] _ _
    refine ev_s rfl ?_
    refine ev_ri rfl rfl ?_ ?_
    · rw [cIf_t c1]
    · rw [cIf_t c1]
  · show Ev _ _ 22 _ _ _ _
    refine ev_bi (v := (-102)) rfl (by decide) ?_
    refine ev_ri rfl rfl ?_ ?_
    · rw [cIf_f c1]
    · rw [cIf_f c1]
set_option maxHeartbeats 4000000 in
theorem rn_order_k {np : Nat} {M : Nat → Nat → Int32} {L : Nat → Int64} {k : Nat} {x : Int32} (hn : np ≤ 6) (hk : k < np) (d : Nat) : Rn (d + 1) mX5_order [(.ref 0), (.int (nI (k + 1))), (.int x)] (mk np M L) (some (.int (cIf (cW x 0 9) (M (57 + k) 6) (-102)))) (mk np (cIf (cW x 0 9) (up2 M (57 + k) 6 x) M) L) := by
  unfold Rn
  iterate 2 refine ev_s rfl ?_
  refine ev_cv (vs := [(.ref 0), (.int (nI (k + 1)))]) (rest := []) (rv := (some (.ref (57 + k)))) rfl rfl rfl (rd np M L (by omega) rfl) rfl rfl rfl rfl (rn_pieceOf_s hn hk _) ?_
  show Ev _ _ 5 _ [(.ref (57 + k))] _ _
  refine ev_s (ls' := [some (.ref 0), some (.int (nI (k + 1))), some (.int x), some (.ref (57 + k)), none]) rfl ?_
  iterate 3 refine ev_s rfl ?_
  refine ev_ik (v := 0) rfl (by decide) ?_
  refine ev_bi (v := 9) rfl (by decide) ?_
  refine ev_cs (vs := [(.int x), (.int 0), (.int 9)]) (rest := []) (rv := (some (.int (zi (cW x 0 9))))) rfl rfl rfl rfl rfl (rn_isWithin _) ?_
  show Ev _ _ 20 _ [(.int (zi (cW x 0 9)))] _ _
  refine ev_if rfl rfl (ev_bzn (fun c1 => ?_) (fun c1 => ?_))
  · show Ev _ _ 26 _ _ _ _
    refine ev_s rfl ?_
    refine ev_gf (rd np M L (by omega) (cel_piece _ _)) rfl rfl rfl ?_
    refine ev_s (ls' := [some (.ref 0), some (.int (nI (k + 1))), some (.int x), some (.ref (57 + k)), some (.int (M (57 + k) 6))]) rfl ?_
    iterate 2 refine ev_s rfl ?_
    refine ev_pf (hp' := (mk np (up2 M (57 + k) 6 x) L)) (rd np M L (by omega) (cel_piece _ _)) rfl rfl (by simp) rfl rfl (mk_setr rfl (cel_piece _ _) rfl) ?_
    refine ev_s rfl ?_
    refine ev_ri rfl rfl ?_ ?_
    · rw [cIf_t c1]
    · rw [cIf_t c1]
  · show Ev _ _ 23 _ _ _ _
    refine ev_bi (v := (-102)) rfl (by decide) ?_
    refine ev_ri rfl rfl ?_ ?_
    · rw [cIf_f c1]
    · rw [cIf_f c1]
def lmt (x : Int32) : Prop := x = -1 ∨ cW x 0 6000
set_option maxHeartbeats 4000000 in
theorem rn_limit_k {np : Nat} {M : Nat → Nat → Int32} {L : Nat → Int64} {k : Nat} {x : Int32} (hn : np ≤ 6) (hk : k < np) (d : Nat) : Rn (d + 1) mX5_limit [(.ref 0), (.int (nI (k + 1))), (.int x)] (mk np M L) (some (.int (cIf (lmt x) 1 (-102)))) (mk np (cIf (lmt x) (up2 M (57 + k) 5 x) M) L) := by
  unfold Rn
  iterate 2 refine ev_s rfl ?_
  refine ev_cv (vs := [(.ref 0), (.int (nI (k + 1)))]) (rest := []) (rv := (some (.ref (57 + k)))) rfl rfl rfl (rd np M L (by omega) rfl) rfl rfl rfl rfl (rn_pieceOf_s hn hk _) ?_
  show Ev _ _ 5 _ [(.ref (57 + k))] _ _
  refine ev_s (ls' := [some (.ref 0), some (.int (nI (k + 1))), some (.int x), some (.ref (57 + k))]) rfl ?_
  iterate 3 refine ev_s rfl ?_
  refine ev_ik (v := (-1)) rfl (by decide) ?_
  refine ev_ic rfl rfl (ev_br (zb_eq _ _ _ _) (fun c1 => ?_) (fun c1 => ?_))
  · show Ev _ _ 32 _ _ _ _
    iterate 2 refine ev_s rfl ?_
    refine ev_pf (hp' := (mk np (up2 M (57 + k) 5 x) L)) (rd np M L (by omega) (cel_piece _ _)) rfl rfl (by simp) rfl rfl (mk_setr rfl (cel_piece _ _) rfl) ?_
    refine ev_ik (v := 1) rfl (by decide) ?_
    refine ev_ri rfl rfl ?_ ?_
    · rw [cIf_t (show lmt x from Or.inl c1)]
    · rw [cIf_t (show lmt x from Or.inl c1)]
  · show Ev _ _ 18 _ _ _ _
    refine ev_s rfl ?_
    refine ev_ik (v := 0) rfl (by decide) ?_
    refine ev_si (v := 6000) rfl (by decide) ?_
    refine ev_cs (vs := [(.int x), (.int 0), (.int 6000)]) (rest := []) (rv := (some (.int (zi (cW x 0 6000))))) rfl rfl rfl rfl rfl (rn_isWithin _) ?_
    show Ev _ _ 26 _ [(.int (zi (cW x 0 6000)))] _ _
    refine ev_if rfl rfl (ev_bzn (fun c2 => ?_) (fun c2 => ?_))
    · show Ev _ _ 32 _ _ _ _
      iterate 2 refine ev_s rfl ?_
      refine ev_pf (hp' := (mk np (up2 M (57 + k) 5 x) L)) (rd np M L (by omega) (cel_piece _ _)) rfl rfl (by simp) rfl rfl (mk_setr rfl (cel_piece _ _) rfl) ?_
      refine ev_ik (v := 1) rfl (by decide) ?_
      refine ev_ri rfl rfl ?_ ?_
      · rw [cIf_t (show lmt x from Or.inr c2)]
      · rw [cIf_t (show lmt x from Or.inr c2)]
    · show Ev _ _ 29 _ _ _ _
      refine ev_bi (v := (-102)) rfl (by decide) ?_
      refine ev_ri rfl rfl ?_ ?_
      · rw [cIf_f (show ¬ lmt x from fun q => q.elim c1 c2)]
      · rw [cIf_f (show ¬ lmt x from fun q => q.elim c1 c2)]
set_option maxHeartbeats 4000000 in
theorem rn_large_k {np : Nat} {M : Nat → Nat → Int32} {L : Nat → Int64} {k : Nat} (hn : np ≤ 6) (hk : k < np) (d : Nat) : Rn (d + 2) mX5_large [(.ref 0), (.int (nI (k + 1)))] (mk np M L) (some (.int (zi (cLg (M (57 + k)) (M 1))))) (mk np M L) := by
  unfold Rn
  iterate 2 refine ev_s rfl ?_
  refine ev_cv (vs := [(.ref 0), (.int (nI (k + 1)))]) (rest := []) (rv := (some (.ref (57 + k)))) rfl rfl rfl (rd np M L (by omega) rfl) rfl rfl rfl rfl (rn_pieceOf_s hn hk _) ?_
  show Ev _ _ 5 _ [(.ref (57 + k))] _ _
  refine ev_s (ls' := [some (.ref 0), some (.int (nI (k + 1))), some (.ref (57 + k))]) rfl ?_
  iterate 4 refine ev_s rfl ?_
  refine ev_gf (rd np M L (by omega) rfl) rfl rfl rfl ?_
  refine ev_cv (vs := [(.ref (57 + k)), (.ref 1)]) (rest := []) (rv := (some (.int (zi (cLg (M (57 + k)) (M 1)))))) rfl rfl rfl (rd np M L (by omega) (cel_piece _ _)) rfl rfl rfl rfl (rn_lg (f := M (57 + k)) (g := M 1) (rd np M L (by omega) (cel_piece _ _)) (rd np M L (by omega) rfl) _) ?_
  show Ev _ _ 21 _ [(.int (zi (cLg (M (57 + k)) (M 1))))] _ _
  refine ev_if rfl rfl (ev_bze (fun c1 => ?_) (fun c1 => ?_))
  · show Ev _ _ 28 _ _ _ _
    refine ev_ik (v := 0) rfl (by decide) ?_
    refine ev_ri rfl rfl ?_ ?_
    · exact some_i (zi_f c1).symm
    · rfl
  · show Ev _ _ 24 _ _ _ _
    refine ev_ik (v := 1) rfl (by decide) ?_
    refine ev_s rfl ?_
    refine ev_ri rfl rfl ?_ ?_
    · exact some_i (zi_t c1).symm
    · rfl
set_option maxHeartbeats 4000000 in
theorem rn_exact {np : Nat} {M : Nat → Nat → Int32} {L : Nat → Int64}  (d : Nat) : Rn (d) mX5_exact [(.ref 0)] (mk np M L) (some (.int (zi (¬ M 11 7 ≤ M 11 8)))) (mk np M L) := by
  unfold Rn
  refine ev_s rfl ?_
  refine ev_gf (rd np M L (by omega) rfl) rfl rfl rfl ?_
  refine ev_gf (rd np M L (by omega) rfl) rfl rfl rfl ?_
  refine ev_s rfl ?_
  refine ev_gf (rd np M L (by omega) rfl) rfl rfl rfl ?_
  refine ev_gf (rd np M L (by omega) rfl) rfl rfl rfl ?_
  refine ev_ic rfl rfl (ev_br (zb_ge _ _ _ _) (fun c1 => ?_) (fun c1 => ?_))
  · show Ev _ _ 21 _ _ _ _
    refine ev_ik (v := 0) rfl (by decide) ?_
    refine ev_rz rfl rfl (by decide) ?_ ?_
    · exact some_i (zi_f (fun q => q c1)).symm
    · rfl
  · show Ev _ _ 17 _ _ _ _
    refine ev_ik (v := 1) rfl (by decide) ?_
    refine ev_s rfl ?_
    refine ev_rz rfl rfl (by decide) ?_ ?_
    · exact some_i (zi_t c1).symm
    · rfl
set_option maxHeartbeats 4000000 in
theorem rn_steps {np : Nat} {M : Nat → Nat → Int32} {L : Nat → Int64} {x : Int32} (d : Nat) : Rn (d) mX5_steps [(.ref 0), (.int x)] (mk np M L) (some (.int (if x = 0 then M 11 8 else M 0 5))) (mk np M L) := by
  unfold Rn
  refine ev_s rfl ?_
  refine ev_if rfl rfl (ev_br (zb_eq _ _ _ _) (fun c1 => ?_) (fun c1 => ?_))
  · show Ev _ _ 11 _ _ _ _
    refine ev_s rfl ?_
    refine ev_gf (rd np M L (by omega) rfl) rfl rfl rfl ?_
    refine ev_gf (rd np M L (by omega) rfl) rfl rfl rfl ?_
    refine ev_ri rfl rfl ?_ ?_
    · rw [if_pos c1]
    · rfl
  · show Ev _ _ 4 _ _ _ _
    refine ev_s rfl ?_
    refine ev_gf (rd np M L (by omega) rfl) rfl rfl rfl ?_
    refine ev_s rfl ?_
    refine ev_ri rfl rfl ?_ ?_
    · rw [if_neg c1]
    · rfl
set_option maxHeartbeats 4000000 in
theorem rn_free {np : Nat} {M : Nat → Nat → Int32} {L : Nat → Int64}  (d : Nat) : Rn (d + 2) mX5_free [(.ref 0)] (mk np M L) (some (.int (M 1 0 * M 1 1 * M 1 2 - csum (gCell M 5) 6))) (mk np M L) := by
  unfold Rn
  refine ev_s rfl ?_
  refine ev_gf (rd np M L (by omega) rfl) rfl rfl rfl ?_
  refine ev_cv (vs := [(.ref 1)]) (rest := []) (rv := (some (.int (M 1 0 * M 1 1 * M 1 2)))) rfl rfl rfl (rd np M L (by omega) rfl) rfl rfl rfl rfl (rn_scells (f := M 1) (rd np M L (by omega) rfl) _) ?_
  show Ev _ _ 7 _ [(.int (M 1 0 * M 1 1 * M 1 2))] _ _
  refine ev_s rfl ?_
  refine ev_gf (rd np M L (by omega) rfl) rfl rfl rfl ?_
  refine ev_cv (vs := [(.ref 3)]) (rest := [(.int (M 1 0 * M 1 1 * M 1 2))]) (rv := (some (.int (csum (gCell M 5) 6)))) rfl rfl rfl (rd np M L (by omega) rfl) rfl rfl rfl rfl (rn_cells_b _) ?_
  show Ev _ _ 14 _ [(.int (csum (gCell M 5) 6)), (.int (M 1 0 * M 1 1 * M 1 2))] _ _
  refine ev_s rfl ?_
  refine ev_ri rfl rfl ?_ ?_
  · rfl
  · rfl
def inF (M : Nat → Nat → Int32) (x z : Int32) : Prop := cW x 0 (M 1 0 - 1) ∧ cW z 0 (M 1 2 - 1)
set_option maxHeartbeats 4000000 in
theorem rn_above {np : Nat} {M : Nat → Nat → Int32} {L : Nat → Int64} {x z : Int32} (d : Nat) : Rn (d + 2) mX5_above [(.ref 0), (.int x), (.int z)] (mk np M L) (some (.int (cIf (inF M x z) (upS M x z 6).1 (-102)))) (mk np M L) := by
  unfold Rn
  refine ev_s rfl ?_
  refine ev_ik (v := 0) rfl (by decide) ?_
  refine ev_s rfl ?_
  refine ev_gf (rd np M L (by omega) rfl) rfl rfl rfl ?_
  refine ev_gf (rd np M L (by omega) rfl) rfl rfl rfl ?_
  refine ev_ik (v := 1) rfl (by decide) ?_
  refine ev_s rfl ?_
  refine ev_cs (vs := [(.int x), (.int 0), (.int ((M 1 0) - 1))]) (rest := []) (rv := (some (.int (zi (cW x 0 ((M 1 0) - 1)))))) rfl rfl rfl rfl rfl (rn_isWithin _) ?_
  show Ev _ _ 14 _ [(.int (zi (cW x 0 ((M 1 0) - 1))))] _ _
  refine ev_if rfl rfl (ev_bze (fun c1 => ?_) (fun c1 => ?_))
  · show Ev _ _ 34 _ _ _ _
    refine ev_bi (v := (-102)) rfl (by decide) ?_
    refine ev_ri rfl rfl ?_ ?_
    · rw [cIf_f (show ¬ inF M x z from fun q => c1 q.1)]
    · rfl
  · show Ev _ _ 17 _ _ _ _
    refine ev_s rfl ?_
    refine ev_ik (v := 0) rfl (by decide) ?_
    refine ev_s rfl ?_
    refine ev_gf (rd np M L (by omega) rfl) rfl rfl rfl ?_
    refine ev_gf (rd np M L (by omega) rfl) rfl rfl rfl ?_
    refine ev_ik (v := 1) rfl (by decide) ?_
    refine ev_s rfl ?_
    refine ev_cs (vs := [(.int z), (.int 0), (.int ((M 1 2) - 1))]) (rest := []) (rv := (some (.int (zi (cW z 0 ((M 1 2) - 1)))))) rfl rfl rfl rfl rfl (rn_isWithin _) ?_
    show Ev _ _ 31 _ [(.int (zi (cW z 0 ((M 1 2) - 1))))] _ _
    refine ev_if rfl rfl (ev_bzn (fun c2 => ?_) (fun c2 => ?_))
    · show Ev _ _ 37 _ _ _ _
      refine ev_s rfl ?_
      refine ev_gf (rd np M L (by omega) rfl) rfl rfl rfl ?_
      iterate 2 refine ev_s rfl ?_
      refine ev_cv (vs := [(.ref 3), (.int x), (.int z)]) (rest := []) (rv := (some (.int ((upS M x z 6).1)))) rfl rfl rfl (rd np M L (by omega) rfl) rfl rfl rfl rfl (rn_ups _) ?_
      show Ev _ _ 46 _ [(.int ((upS M x z 6).1))] _ _
      refine ev_ri rfl rfl ?_ ?_
      · rw [cIf_t (show inF M x z from ⟨c1, c2⟩)]
      · rfl
    · show Ev _ _ 34 _ _ _ _
      refine ev_bi (v := (-102)) rfl (by decide) ?_
      refine ev_ri rfl rfl ?_ ?_
      · rw [cIf_f (show ¬ inF M x z from fun q => c2 q.2)]
      · rfl
theorem plO_k {M : Nat → Nat → Int32} {k : Nat} (hk : k < 6) : plO M (nI (k + 1)) = if M (5 + k) 0 = 0 then .null else .ref (5 + k) := by
  unfold plO
  rw [if_neg (by rw [show (1 : Int32) = nI 1 from by decide]; exact nI_nlt (by omega) (by omega)), if_neg (by rw [show (6 : Int32) = nI 6 from by decide]; exact nI_nlt (by omega) (by omega)), nI_pred, nI_clamp (by omega)]
theorem rn_placeOf_in {np : Nat} {M : Nat → Nat → Int32} {L : Nat → Int64} {k : Nat} (hk : k < 6) (hi : ¬ M (5 + k) 0 = 0) (d : Nat) : Rn d mX0_placeOf [.ref 3, .int (nI (k + 1))] (mk np M L) (some (.ref (5 + k))) (mk np M L) := by
  have := rn_placeOf (np := np) (M := M) (L := L) (n := nI (k + 1)) d
  rwa [plO_k hk, if_neg hi] at this
theorem rn_placeOf_out {np : Nat} {M : Nat → Nat → Int32} {L : Nat → Int64} {k : Nat} (hk : k < 6) (hi : M (5 + k) 0 = 0) (d : Nat) : Rn d mX0_placeOf [.ref 3, .int (nI (k + 1))] (mk np M L) (some .null) (mk np M L) := by
  have := rn_placeOf (np := np) (M := M) (L := L) (n := nI (k + 1)) d
  rwa [plO_k hk, if_pos hi] at this
theorem cW_of {x m : Int32} {k : Nat} (hm : m = nI k) (hk : k < 2 ^ 30) (h : cW x 0 m) : ∃ j, j ≤ k ∧ x = nI j := by
  subst hm
  obtain ⟨j, hj, rfl⟩ := nI_of h.1
  refine ⟨j, ?_, rfl⟩
  have := h.2
  rcases Nat.lt_or_ge k j with q | q
  · exact absurd (nI_lt q hj) this
  · exact q
set_option maxHeartbeats 4000000 in
theorem rn_at_in {np : Nat} {M : Nat → Nat → Int32} {L : Nat → Int64} {k : Nat} {x : Int32} (hn : np ≤ 6) (hk : k < np) (hi : ¬ M (5 + k) 0 = 0) (d : Nat) : Rn (d + 1) mX5_at [(.ref 0), (.int (nI (k + 1))), (.int x)] (mk np M L) (some (.int (cIf (cW x 0 3) (nOn (M (5 + k)) x.toNatClampNeg) (-102)))) (mk np M L) := by
  unfold Rn
  iterate 2 refine ev_s rfl ?_
  refine ev_cv (vs := [(.ref 0), (.int (nI (k + 1)))]) (rest := []) (rv := (some (.ref (57 + k)))) rfl rfl rfl (rd np M L (by omega) rfl) rfl rfl rfl rfl (rn_pieceOf_s hn hk _) ?_
  show Ev _ _ 5 _ [(.ref (57 + k))] _ _
  iterate 2 refine ev_s rfl ?_
  refine ev_ik (v := 0) rfl (by decide) ?_
  refine ev_ik (v := 3) rfl (by decide) ?_
  refine ev_cs (vs := [(.int x), (.int 0), (.int 3)]) (rest := []) (rv := (some (.int (zi (cW x 0 3))))) rfl rfl rfl rfl rfl (rn_isWithin _) ?_
  show Ev _ _ 17 _ [(.int (zi (cW x 0 3)))] _ _
  refine ev_if rfl rfl (ev_bzn (fun c1 => ?_) (fun c1 => ?_))
  · show Ev _ _ 23 _ _ _ _
    refine ev_s rfl ?_
    refine ev_gf (rd np M L (by omega) rfl) rfl rfl rfl ?_
    refine ev_s rfl ?_
    refine ev_cv (vs := [(.ref 3), (.int (nI (k + 1)))]) (rest := []) (rv := (some (.ref (5 + k)))) rfl rfl rfl (rd np M L (by omega) rfl) rfl rfl rfl rfl (rn_placeOf_in (by omega) hi _) ?_
    show Ev _ _ 31 _ [(.ref (5 + k))] _ _
    refine ev_s (ls' := [some (.ref 0), some (.int (nI (k + 1))), some (.int x), some (.ref (5 + k))]) rfl ?_
    iterate 4 refine ev_s rfl ?_
    obtain ⟨t, ht, hxt⟩ := cW_of (k := 3) (by decide) (by decide) c1
    refine ev_cv (vs := [(.ref (5 + k)), (.int x)]) (rest := []) (rv := (some (.int (nOn (M (5 + k)) t)))) rfl rfl rfl (rd np M L (by omega) (cel_best (by omega) _ _)) rfl rfl rfl rfl (by rw [hxt]; exact rn_numberOn (t := t) (f := M (5 + k)) (rd np M L (by omega) (cel_best (by omega) _ _)) (by omega) _) ?_
    show Ev _ _ 45 _ [(.int (nOn (M (5 + k)) t))] _ _
    refine ev_ri rfl rfl ?_ ?_
    · rw [cIf_t c1, hxt, nI_clamp (by omega)]
    · rfl
  · show Ev _ _ 20 _ _ _ _
    refine ev_bi (v := (-102)) rfl (by decide) ?_
    refine ev_ri rfl rfl ?_ ?_
    · rw [cIf_f c1]
    · rfl
set_option maxHeartbeats 4000000 in
theorem rn_at_out {np : Nat} {M : Nat → Nat → Int32} {L : Nat → Int64} {k : Nat} {x : Int32} (hn : np ≤ 6) (hk : k < np) (hi : M (5 + k) 0 = 0) (d : Nat) : Rn (d + 1) mX5_at [(.ref 0), (.int (nI (k + 1))), (.int x)] (mk np M L) (some (.int (cIf (cW x 0 3) ((-1)) (-102)))) (mk np M L) := by
  unfold Rn
  iterate 2 refine ev_s rfl ?_
  refine ev_cv (vs := [(.ref 0), (.int (nI (k + 1)))]) (rest := []) (rv := (some (.ref (57 + k)))) rfl rfl rfl (rd np M L (by omega) rfl) rfl rfl rfl rfl (rn_pieceOf_s hn hk _) ?_
  show Ev _ _ 5 _ [(.ref (57 + k))] _ _
  iterate 2 refine ev_s rfl ?_
  refine ev_ik (v := 0) rfl (by decide) ?_
  refine ev_ik (v := 3) rfl (by decide) ?_
  refine ev_cs (vs := [(.int x), (.int 0), (.int 3)]) (rest := []) (rv := (some (.int (zi (cW x 0 3))))) rfl rfl rfl rfl rfl (rn_isWithin _) ?_
  show Ev _ _ 17 _ [(.int (zi (cW x 0 3)))] _ _
  refine ev_if rfl rfl (ev_bzn (fun c1 => ?_) (fun c1 => ?_))
  · show Ev _ _ 23 _ _ _ _
    refine ev_s rfl ?_
    refine ev_gf (rd np M L (by omega) rfl) rfl rfl rfl ?_
    refine ev_s rfl ?_
    refine ev_cv (vs := [(.ref 3), (.int (nI (k + 1)))]) (rest := []) (rv := (some .null)) rfl rfl rfl (rd np M L (by omega) rfl) rfl rfl rfl rfl (rn_placeOf_out (by omega) hi _) ?_
    show Ev _ _ 31 _ [.null] _ _
    refine ev_s (ls' := [some (.ref 0), some (.int (nI (k + 1))), some (.int x), some .null]) rfl ?_
    iterate 2 refine ev_s rfl ?_
    refine ev_ik (v := (-1)) rfl (by decide) ?_
    refine ev_s rfl ?_
    refine ev_ri rfl rfl ?_ ?_
    · rw [cIf_t c1]
    · rfl
  · show Ev _ _ 20 _ _ _ _
    refine ev_bi (v := (-102)) rfl (by decide) ?_
    refine ev_ri rfl rfl ?_ ?_
    · rw [cIf_f c1]
    · rfl
set_option maxHeartbeats 4000000 in
theorem rn_ov_nn {np : Nat} {M : Nat → Nat → Int32} {L : Nat → Int64} {a b : Int32} {i k : Nat} (hi : i < 6) (hk : k < 6) (h1 : ∀ d, Rn d mX0_placeOf [.ref 3, .int a] (mk np M L) (some .null) (mk np M L)) (h2 : ∀ d, Rn d mX0_placeOf [.ref 3, .int b] (mk np M L) (some .null) (mk np M L)) (d : Nat) : Rn (d + 1) mX5_overlap [(.ref 0), (.int a), (.int b)] (mk np M L) (some (.int (0))) (mk np M L) := by
  unfold Rn
  refine ev_s rfl ?_
  refine ev_gf (rd np M L (by omega) rfl) rfl rfl rfl ?_
  refine ev_s rfl ?_
  refine ev_cv (vs := [(.ref 3), (.int a)]) (rest := []) (rv := (some .null)) rfl rfl rfl (rd np M L (by omega) rfl) rfl rfl rfl rfl (h1 _) ?_
  show Ev _ _ 8 _ [.null] _ _
  refine ev_s (ls' := [some (.ref 0), some (.int a), some (.int b), some .null, none]) rfl ?_
  refine ev_s rfl ?_
  refine ev_gf (rd np M L (by omega) rfl) rfl rfl rfl ?_
  refine ev_s rfl ?_
  refine ev_cv (vs := [(.ref 3), (.int b)]) (rest := []) (rv := (some .null)) rfl rfl rfl (rd np M L (by omega) rfl) rfl rfl rfl rfl (h2 _) ?_
  show Ev _ _ 17 _ [.null] _ _
  refine ev_s (ls' := [some (.ref 0), some (.int a), some (.int b), some .null, some .null]) rfl ?_
  iterate 2 refine ev_s rfl ?_
  refine ev_ik (v := 0) rfl (by decide) ?_
  refine ev_rz rfl rfl (by decide) ?_ ?_
  · rfl
  · rfl
set_option maxHeartbeats 4000000 in
theorem rn_ov_nr {np : Nat} {M : Nat → Nat → Int32} {L : Nat → Int64} {a b : Int32} {i k : Nat} (hi : i < 6) (hk : k < 6) (h1 : ∀ d, Rn d mX0_placeOf [.ref 3, .int a] (mk np M L) (some .null) (mk np M L)) (h2 : ∀ d, Rn d mX0_placeOf [.ref 3, .int b] (mk np M L) (some (.ref (5 + k))) (mk np M L)) (d : Nat) : Rn (d + 1) mX5_overlap [(.ref 0), (.int a), (.int b)] (mk np M L) (some (.int (0))) (mk np M L) := by
  unfold Rn
  refine ev_s rfl ?_
  refine ev_gf (rd np M L (by omega) rfl) rfl rfl rfl ?_
  refine ev_s rfl ?_
  refine ev_cv (vs := [(.ref 3), (.int a)]) (rest := []) (rv := (some .null)) rfl rfl rfl (rd np M L (by omega) rfl) rfl rfl rfl rfl (h1 _) ?_
  show Ev _ _ 8 _ [.null] _ _
  refine ev_s (ls' := [some (.ref 0), some (.int a), some (.int b), some .null, none]) rfl ?_
  refine ev_s rfl ?_
  refine ev_gf (rd np M L (by omega) rfl) rfl rfl rfl ?_
  refine ev_s rfl ?_
  refine ev_cv (vs := [(.ref 3), (.int b)]) (rest := []) (rv := (some (.ref (5 + k)))) rfl rfl rfl (rd np M L (by omega) rfl) rfl rfl rfl rfl (h2 _) ?_
  show Ev _ _ 17 _ [(.ref (5 + k))] _ _
  refine ev_s (ls' := [some (.ref 0), some (.int a), some (.int b), some .null, some (.ref (5 + k))]) rfl ?_
  iterate 2 refine ev_s rfl ?_
  refine ev_ik (v := 0) rfl (by decide) ?_
  refine ev_rz rfl rfl (by decide) ?_ ?_
  · rfl
  · rfl
set_option maxHeartbeats 4000000 in
theorem rn_ov_rn {np : Nat} {M : Nat → Nat → Int32} {L : Nat → Int64} {a b : Int32} {i k : Nat} (hi : i < 6) (hk : k < 6) (h1 : ∀ d, Rn d mX0_placeOf [.ref 3, .int a] (mk np M L) (some (.ref (5 + i))) (mk np M L)) (h2 : ∀ d, Rn d mX0_placeOf [.ref 3, .int b] (mk np M L) (some .null) (mk np M L)) (d : Nat) : Rn (d + 1) mX5_overlap [(.ref 0), (.int a), (.int b)] (mk np M L) (some (.int (0))) (mk np M L) := by
  unfold Rn
  refine ev_s rfl ?_
  refine ev_gf (rd np M L (by omega) rfl) rfl rfl rfl ?_
  refine ev_s rfl ?_
  refine ev_cv (vs := [(.ref 3), (.int a)]) (rest := []) (rv := (some (.ref (5 + i)))) rfl rfl rfl (rd np M L (by omega) rfl) rfl rfl rfl rfl (h1 _) ?_
  show Ev _ _ 8 _ [(.ref (5 + i))] _ _
  refine ev_s (ls' := [some (.ref 0), some (.int a), some (.int b), some (.ref (5 + i)), none]) rfl ?_
  refine ev_s rfl ?_
  refine ev_gf (rd np M L (by omega) rfl) rfl rfl rfl ?_
  refine ev_s rfl ?_
  refine ev_cv (vs := [(.ref 3), (.int b)]) (rest := []) (rv := (some .null)) rfl rfl rfl (rd np M L (by omega) rfl) rfl rfl rfl rfl (h2 _) ?_
  show Ev _ _ 17 _ [.null] _ _
  refine ev_s (ls' := [some (.ref 0), some (.int a), some (.int b), some (.ref (5 + i)), some .null]) rfl ?_
  iterate 4 refine ev_s rfl ?_
  refine ev_ik (v := 0) rfl (by decide) ?_
  refine ev_rz rfl rfl (by decide) ?_ ?_
  · rfl
  · rfl
set_option maxHeartbeats 4000000 in
theorem rn_ov_rr {np : Nat} {M : Nat → Nat → Int32} {L : Nat → Int64} {a b : Int32} {i k : Nat} (hi : i < 6) (hk : k < 6) (h1 : ∀ d, Rn d mX0_placeOf [.ref 3, .int a] (mk np M L) (some (.ref (5 + i))) (mk np M L)) (h2 : ∀ d, Rn d mX0_placeOf [.ref 3, .int b] (mk np M L) (some (.ref (5 + k))) (mk np M L)) (d : Nat) : Rn (d + 1) mX5_overlap [(.ref 0), (.int a), (.int b)] (mk np M L) (some (.int (zi (cOv (M (5 + i)) (M (5 + k)))))) (mk np M L) := by
  unfold Rn
  refine ev_s rfl ?_
  refine ev_gf (rd np M L (by omega) rfl) rfl rfl rfl ?_
  refine ev_s rfl ?_
  refine ev_cv (vs := [(.ref 3), (.int a)]) (rest := []) (rv := (some (.ref (5 + i)))) rfl rfl rfl (rd np M L (by omega) rfl) rfl rfl rfl rfl (h1 _) ?_
  show Ev _ _ 8 _ [(.ref (5 + i))] _ _
  refine ev_s (ls' := [some (.ref 0), some (.int a), some (.int b), some (.ref (5 + i)), none]) rfl ?_
  refine ev_s rfl ?_
  refine ev_gf (rd np M L (by omega) rfl) rfl rfl rfl ?_
  refine ev_s rfl ?_
  refine ev_cv (vs := [(.ref 3), (.int b)]) (rest := []) (rv := (some (.ref (5 + k)))) rfl rfl rfl (rd np M L (by omega) rfl) rfl rfl rfl rfl (h2 _) ?_
  show Ev _ _ 17 _ [(.ref (5 + k))] _ _
  refine ev_s (ls' := [some (.ref 0), some (.int a), some (.int b), some (.ref (5 + i)), some (.ref (5 + k))]) rfl ?_
  iterate 6 refine ev_s rfl ?_
  refine ev_cv (vs := [(.ref (5 + i)), (.ref (5 + k))]) (rest := []) (rv := (some (.int (zi (cOv (M (5 + i)) (M (5 + k))))))) rfl rfl rfl (rd np M L (by omega) (cel_best (by omega) _ _)) rfl rfl rfl rfl (rn_overlaps (f := M (5 + i)) (g := M (5 + k)) (rd np M L (by omega) (cel_best (by omega) _ _)) (rd np M L (by omega) (cel_best (by omega) _ _)) _) ?_
  show Ev _ _ 34 _ [(.int (zi (cOv (M (5 + i)) (M (5 + k)))))] _ _
  refine ev_if rfl rfl (ev_bze (fun c1 => ?_) (fun c1 => ?_))
  · show Ev _ _ 41 _ _ _ _
    refine ev_ik (v := 0) rfl (by decide) ?_
    refine ev_rz rfl rfl (by decide) ?_ ?_
    · exact some_i (zi_f c1).symm
    · rfl
  · show Ev _ _ 37 _ _ _ _
    refine ev_ik (v := 1) rfl (by decide) ?_
    refine ev_s rfl ?_
    refine ev_rz rfl rfl (by decide) ?_ ?_
    · exact some_i (zi_t c1).symm
    · rfl
noncomputable def bdS (M : Nat → Nat → Int32) (np : Nat) : Nat → Int32
  | 0 => 0
  | i + 1 => cIf (i < np ∧ ¬ cLg (M (57 + i)) (M 1)) (bdS M np i + M (57 + i) 0 * M (57 + i) 1 * M (57 + i) 2) (bdS M np i)
set_option maxHeartbeats 4000000 in
theorem lp_bd {np : Nat} {M : Nat → Nat → Int32} {L : Nat → Int64} (d : Nat) : ∀ k i, i + k = 6 → ∀ v3, Ev (d + 2) mX5_bound 4 [some (.ref 0), some (.int (bdS M np i)), some (.int (nI i)), v3] [] (mk np M L) (Qr mX5_bound (some (.int (if M 1 0 * M 1 1 * M 1 2 < bdS M np 6 then M 1 0 * M 1 1 * M 1 2 else bdS M np 6))) (mk np M L)) := by
  intro k
  induction k with
  | zero =>
    intro i hik v3
    obtain rfl : i = 6 := by omega
    iterate 2 refine ev_s rfl ?_
    refine ev_gf (rd np M L (by omega) rfl) rfl rfl rfl ?_
    refine ev_al (v := 6) (rd np M L (by omega) rfl) rfl rfl rfl ?_
    refine ev_ic rfl rfl ?_
    rw [show zbr .ge (nI 6) 6 48 13 = 48 from zge_t (n := 6) (by decide) (by omega) (by decide)]
    iterate 2 refine ev_s rfl ?_
    refine ev_gf (rd np M L (by omega) rfl) rfl rfl rfl ?_
    refine ev_cv (vs := [(.ref 1)]) (rest := [(.int (bdS M np 6))]) (rv := (some (.int (M 1 0 * M 1 1 * M 1 2)))) rfl rfl rfl (rd np M L (by omega) rfl) rfl rfl rfl rfl (rn_scells (f := M 1) (rd np M L (by omega) rfl) _) ?_
    show Ev _ _ 56 _ [(.int (M 1 0 * M 1 1 * M 1 2)), (.int (bdS M np 6))] _ _
    refine ev_s rfl ?_
    refine ev_ri rfl rfl ?_ ?_
    · rfl
    · rfl
  | succ k ih =>
    intro i hik v3
    have hi : i < 6 := by omega
    have hun : bdS M np (i + 1) = cIf (i < np ∧ ¬ cLg (M (57 + i)) (M 1)) (bdS M np i + M (57 + i) 0 * M (57 + i) 1 * M (57 + i) 2) (bdS M np i) := rfl
    by_cases hn : i < np
    · have hh := hn
      iterate 2 refine ev_s rfl ?_
      refine ev_gf (rd np M L (by omega) rfl) rfl rfl rfl ?_
      refine ev_al (v := 6) (rd np M L (by omega) rfl) rfl rfl rfl ?_
      refine ev_ic rfl rfl ?_
      rw [show zbr .ge (nI i) 6 48 13 = 13 from zge_f (n := 6) (by decide) hi (by decide)]
      refine ev_s rfl ?_
      refine ev_gf (rd np M L (by omega) rfl) rfl rfl rfl ?_
      refine ev_s rfl ?_
      refine ev_aa (v := (.ref (57 + i))) (rd np M L (by omega) rfl) rfl rfl (zin_nI (by omega) (by decide)) (by rw [if_pos hn]; rfl) ?_
      refine ev_s (ls' := [some (.ref 0), some (.int (bdS M np i)), some (.int (nI i)), some (.ref (57 + i))]) rfl ?_
      iterate 4 refine ev_s rfl ?_
      refine ev_gf (rd np M L (by omega) rfl) rfl rfl rfl ?_
      refine ev_cv (vs := [(.ref (57 + i)), (.ref 1)]) (rest := []) (rv := (some (.int (zi (cLg (M (57 + i)) (M 1)))))) rfl rfl rfl (rd np M L (by omega) (cel_piece _ _)) rfl rfl rfl rfl (rn_lg (f := M (57 + i)) (g := M 1) (rd np M L (by omega) (cel_piece _ _)) (rd np M L (by omega) rfl) _) ?_
      show Ev _ _ 32 _ [(.int (zi (cLg (M (57 + i)) (M 1))))] _ _
      refine ev_if rfl rfl (ev_bzn (fun c1 => ?_) (fun c1 => ?_))
      · show Ev _ _ 42 _ _ _ _
        refine ev_inc (y := 1) (v := nI (i + 1)) (ls' := [some (.ref 0), some (.int (bdS M np i)), some (.int (nI (i + 1))), some (.ref (57 + i))]) rfl rfl (by decide) (nI_1 _) rfl ?_
        refine ev_s rfl ?_
        have e9 := ih (i + 1) (by omega) (some (.ref (57 + i)))
        rw [hun, cIf_f (fun q => q.2 c1)] at e9
        exact e9
      · show Ev _ _ 35 _ _ _ _
        iterate 2 refine ev_s rfl ?_
        refine ev_cv (vs := [(.ref (57 + i))]) (rest := [(.int (bdS M np i))]) (rv := (some (.int (M (57 + i) 0 * M (57 + i) 1 * M (57 + i) 2)))) rfl rfl rfl (rd np M L (by omega) (cel_piece _ _)) rfl rfl rfl rfl (rn_kcells (f := M (57 + i)) (rd np M L (by omega) (cel_piece _ _)) _) ?_
        show Ev _ _ 40 _ [(.int (M (57 + i) 0 * M (57 + i) 1 * M (57 + i) 2)), (.int (bdS M np i))] _ _
        refine ev_s rfl ?_
        refine ev_s (ls' := [some (.ref 0), some (.int ((bdS M np i) + (M (57 + i) 0 * M (57 + i) 1 * M (57 + i) 2))), some (.int (nI i)), some (.ref (57 + i))]) rfl ?_
        refine ev_inc (y := 1) (v := nI (i + 1)) (ls' := [some (.ref 0), some (.int ((bdS M np i) + (M (57 + i) 0 * M (57 + i) 1 * M (57 + i) 2))), some (.int (nI (i + 1))), some (.ref (57 + i))]) rfl rfl (by decide) (nI_1 _) rfl ?_
        refine ev_s rfl ?_
        have e9 := ih (i + 1) (by omega) (some (.ref (57 + i)))
        rw [hun, cIf_t ⟨hn, c1⟩] at e9
        exact e9
    · have hh := hn
      iterate 2 refine ev_s rfl ?_
      refine ev_gf (rd np M L (by omega) rfl) rfl rfl rfl ?_
      refine ev_al (v := 6) (rd np M L (by omega) rfl) rfl rfl rfl ?_
      refine ev_ic rfl rfl ?_
      rw [show zbr .ge (nI i) 6 48 13 = 13 from zge_f (n := 6) (by decide) hi (by decide)]
      refine ev_s rfl ?_
      refine ev_gf (rd np M L (by omega) rfl) rfl rfl rfl ?_
      refine ev_s rfl ?_
      refine ev_aa (v := .null) (rd np M L (by omega) rfl) rfl rfl (zin_nI (by omega) (by decide)) (by rw [if_neg hn]; rfl) ?_
      refine ev_s (ls' := [some (.ref 0), some (.int (bdS M np i)), some (.int (nI i)), some .null]) rfl ?_
      iterate 2 refine ev_s rfl ?_
      refine ev_inc (y := 1) (v := nI (i + 1)) (ls' := [some (.ref 0), some (.int (bdS M np i)), some (.int (nI (i + 1))), some .null]) rfl rfl (by decide) (nI_1 _) rfl ?_
      refine ev_s rfl ?_
      have e9 := ih (i + 1) (by omega) (some .null)
      rw [hun, cIf_f (fun q => hn q.1)] at e9
      exact e9
set_option maxHeartbeats 4000000 in
theorem rn_bound {np : Nat} {M : Nat → Nat → Int32} {L : Nat → Int64}  (d : Nat) : Rn (d + 2) mX5_bound [(.ref 0)] (mk np M L) (some (.int (if M 1 0 * M 1 1 * M 1 2 < bdS M np 6 then M 1 0 * M 1 1 * M 1 2 else bdS M np 6))) (mk np M L) := by
  unfold Rn
  refine ev_ik (v := 0) rfl (by decide) ?_
  refine ev_s (ls' := [some (.ref 0), some (.int 0), none, none]) rfl ?_
  refine ev_ik (v := 0) rfl (by decide) ?_
  refine ev_s (ls' := [some (.ref 0), some (.int 0), some (.int 0), none]) rfl ?_
  exact lp_bd d 6 0 (by omega) none
noncomputable def ulS (s : Int32) : Nat → Int32 → (Nat → Nat → Int32) → Int32 × (Nat → Nat → Int32)
  | 0, c, M => (c, M)
  | n + 1, c, M => if (tkS M s 6).1 = 0 then (c, (tkS M s 6).2) else ulS s n (c + (tkS M s 6).1) (tkS M s 6).2
theorem zgti_t {i n t f : Nat} {y : Int32} (hy : y = nI n) (h : n < i) (hn : i < 2 ^ 31) : zbr .gt (nI i) y t f = t := by
  subst hy; exact if_pos (nI_lt h hn)
theorem zgti_f {i n t f : Nat} {y : Int32} (hy : y = nI n) (h : i ≤ n) (hn : n < 2 ^ 31) : zbr .gt (nI i) y t f = f := by
  subst hy; exact if_neg (nI_nlt h hn)
set_option maxHeartbeats 4000000 in
theorem lp_ul {np : Nat} {L : Nat → Int64} {s : Int32} (d : Nat) : ∀ n i c M v4, i + n = 7 → Ev (d + 3) mX5_unload 17 [some (.ref 0), some (.int s), some (.int c), some (.int (nI i)), v4] [] (mk np M L) (Qr mX5_unload (some (.int (ulS s n c M).1)) (mk np (ulS s n c M).2 L)) := by
  intro n
  induction n with
  | zero =>
    intro i c M v4 hik
    obtain rfl : i = 7 := by omega
    refine ev_s rfl ?_
    refine ev_bi (v := 6) rfl (by decide) ?_
    refine ev_ic rfl rfl ?_
    rw [show zbr .gt (nI 7) 6 52 23 = 52 from zgti_t (n := 6) (by decide) (by omega) (by decide)]
    refine ev_s rfl ?_
    refine ev_ri rfl rfl ?_ ?_
    · rfl
    · rfl
  | succ n ih =>
    intro i c M v4 hik
    have hi : i ≤ 6 := by omega
    have hun : ulS s (n + 1) c M = if (tkS M s 6).1 = 0 then (c, (tkS M s 6).2) else ulS s n (c + (tkS M s 6).1) (tkS M s 6).2 := rfl
    refine ev_s rfl ?_
    refine ev_bi (v := 6) rfl (by decide) ?_
    refine ev_ic rfl rfl ?_
    rw [show zbr .gt (nI i) 6 52 23 = 23 from zgti_f (n := 6) (by decide) hi (by decide)]
    refine ev_s rfl ?_
    refine ev_gf (rd np M L (by omega) rfl) rfl rfl rfl ?_
    refine ev_s rfl ?_
    refine ev_cv (vs := [(.ref 3), (.int s)]) (rest := []) (rv := (some (.int ((tkS M s 6).1)))) (hp' := (mk np ((tkS M s 6).2) L)) rfl rfl rfl (rd np M L (by omega) rfl) rfl rfl rfl rfl (rn_tk _) ?_
    show Ev _ _ 31 _ [(.int ((tkS M s 6).1))] _ _
    refine ev_s (ls' := [some (.ref 0), some (.int s), some (.int c), some (.int (nI i)), some (.int ((tkS M s 6).1))]) rfl ?_
    refine ev_s rfl ?_
    refine ev_if rfl rfl (ev_bn (fun c1 => ?_) (fun c1 => ?_))
    · show Ev _ _ 41 _ _ _ _
      iterate 3 refine ev_s rfl ?_
      refine ev_s (ls' := [some (.ref 0), some (.int s), some (.int (c + ((tkS M s 6).1))), some (.int (nI i)), some (.int ((tkS M s 6).1))]) rfl ?_
      refine ev_inc (y := 1) (v := nI (i + 1)) (ls' := [some (.ref 0), some (.int s), some (.int (c + ((tkS M s 6).1))), some (.int (nI (i + 1))), some (.int ((tkS M s 6).1))]) rfl rfl (by decide) (nI_1 _) rfl ?_
      refine ev_s rfl ?_
      rw [hun, if_neg c1]
      exact ih (i + 1) _ _ _ (by omega)
    · show Ev _ _ 38 _ _ _ _
      iterate 2 refine ev_s rfl ?_
      refine ev_ri rfl rfl ?_ ?_
      · rw [hun, if_pos c1]
      · rw [hun, if_pos c1]
set_option maxHeartbeats 4000000 in
theorem rn_unload {np : Nat} {M : Nat → Nat → Int32} {L : Nat → Int64} {s : Int32} (d : Nat) : Rn (d + 3) mX5_unload [(.ref 0), (.int s)] (mk np M L) (some (.int (cIf (cW s 0 9) (ulS s 7 0 M).1 (-102)))) (mk np (cIf (cW s 0 9) (ulS s 7 0 M).2 M) L) := by
  unfold Rn
  refine ev_s rfl ?_
  refine ev_ik (v := 0) rfl (by decide) ?_
  refine ev_bi (v := 9) rfl (by decide) ?_
  refine ev_cs (vs := [(.int s), (.int 0), (.int 9)]) (rest := []) (rv := (some (.int (zi (cW s 0 9))))) rfl rfl rfl rfl rfl (rn_isWithin _) ?_
  show Ev _ _ 7 _ [(.int (zi (cW s 0 9)))] _ _
  refine ev_if rfl rfl (ev_bzn (fun c1 => ?_) (fun c1 => ?_))
  · show Ev _ _ 13 _ _ _ _
    refine ev_ik (v := 0) rfl (by decide) ?_
    refine ev_s (ls' := [some (.ref 0), some (.int s), some (.int 0), none, none]) rfl ?_
    refine ev_ik (v := 0) rfl (by decide) ?_
    refine ev_s (ls' := [some (.ref 0), some (.int s), some (.int 0), some (.int 0), none]) rfl ?_
    rw [cIf_t c1, cIf_t c1]
    exact lp_ul d 7 0 0 M none (by omega)
  · show Ev _ _ 10 _ _ _ _
    refine ev_bi (v := (-102)) rfl (by decide) ?_
    refine ev_ri rfl rfl ?_ ?_
    · rw [cIf_f c1]
    · rw [cIf_f c1]
noncomputable def pk1 (w h dd np : Nat) (s : Int32) (M : Nat → Nat → Int32) : Nat → Nat → Int32 := skM w h dd np 0 (bgM (bg0 M s) np 6)
noncomputable def pkM (w h dd np : Nat) (s : Int32) (M : Nat → Nat → Int32) : Nat → Nat → Int32 := up2 (pk1 w h dd np s M) 0 5 (pk1 w h dd np s M 0 5 - pk1 w h dd np s M 11 8)
noncomputable def pkR (w h dd np : Nat) (s : Int32) (M : Nat → Nat → Int32) : Int32 := cIf (cW s 1 500) (if M 0 2 = 0 then -103 else if s ≤ M 0 5 then csum (gCell (pkM w h dd np s M) 5) 6 else -104) (-102)
noncomputable def pkH (w h dd np : Nat) (s : Int32) (M : Nat → Nat → Int32) : Nat → Nat → Int32 := cIf (cW s 1 500) (if M 0 2 = 0 then M else if s ≤ M 0 5 then pkM w h dd np s M else M) M
set_option maxHeartbeats 4000000 in
theorem rn_pack {np : Nat} {M : Nat → Nat → Int32} {L : Nat → Int64} {w h dd : Nat} {s : Int32} (ok : OKc np w h dd (bgM (bg0 M s) np 6)) (d : Nat) : Rn (d + 40) mX5_pack [(.ref 0), (.int s)] (mk np M L) (some (.int (pkR w h dd np s M))) (mk np (pkH w h dd np s M) L) := by
  obtain ⟨M1, hM1⟩ : ∃ M1, M1 = pk1 w h dd np s M := ⟨_, rfl⟩
  unfold Rn
  refine ev_s rfl ?_
  refine ev_ik (v := 1) rfl (by decide) ?_
  refine ev_si (v := 500) rfl (by decide) ?_
  refine ev_cs (vs := [(.int s), (.int 1), (.int 500)]) (rest := []) (rv := (some (.int (zi (cW s 1 500))))) rfl rfl rfl rfl rfl (rn_isWithin _) ?_
  show Ev _ _ 8 _ [(.int (zi (cW s 1 500)))] _ _
  refine ev_if rfl rfl (ev_bzn (fun c1 => ?_) (fun c1 => ?_))
  · show Ev _ _ 14 _ _ _ _
    refine ev_s rfl ?_
    refine ev_gf (rd np M L (by omega) rfl) rfl rfl rfl ?_
    refine ev_if rfl rfl (ev_bn (fun c2 => ?_) (fun c2 => ?_))
    · show Ev _ _ 24 _ _ _ _
      iterate 2 refine ev_s rfl ?_
      refine ev_gf (rd np M L (by omega) rfl) rfl rfl rfl ?_
      refine ev_ic rfl rfl (ev_br (zb_le _ _ _ _) (fun c3 => ?_) (fun c3 => ?_))
      · show Ev _ _ 35 _ _ _ _
        refine ev_s rfl ?_
        refine ev_gf (rd np M L (by omega) rfl) rfl rfl rfl ?_
        refine ev_s rfl ?_
        refine ev_cv (vs := [(.ref 11), (.int s)]) (rest := []) (rv := none) (hp' := (mk np (bgM (bg0 M s) np 6) L)) rfl rfl rfl (rd np M L (by omega) rfl) rfl rfl rfl rfl (rn_begin _) ?_
        show Ev _ _ 43 _ [] _ _
        refine ev_s rfl ?_
        refine ev_gf (rd np (bgM (bg0 M s) np 6) L (by omega) rfl) rfl rfl rfl ?_
        refine ev_ik (v := 0) rfl (by decide) ?_
        refine ev_cv (vs := [(.ref 11), (.int 0)]) (rest := []) (rv := none) (hp' := (mk np M1 L)) rfl rfl rfl (rd np (bgM (bg0 M s) np 6) L (by omega) rfl) rfl rfl rfl rfl (by rw [hM1]; exact Rn_le (rn_seek np 0 _ (by omega) ok) (by have := ok.1; omega)) ?_
        show Ev _ _ 51 _ [] _ _
        iterate 2 refine ev_s rfl ?_
        refine ev_gf (rd np M1 L (by omega) rfl) rfl rfl rfl ?_
        refine ev_s rfl ?_
        refine ev_gf (rd np M1 L (by omega) rfl) rfl rfl rfl ?_
        refine ev_gf (rd np M1 L (by omega) rfl) rfl rfl rfl ?_
        refine ev_s rfl ?_
        refine ev_pf (hp' := (mk np (up2 M1 0 5 ((M1 0 5) - (M1 11 8))) L)) (rd np M1 L (by omega) rfl) rfl rfl (by simp) rfl rfl (mk_setr rfl rfl rfl) ?_
        refine ev_s rfl ?_
        refine ev_gf (rd np (up2 M1 0 5 ((M1 0 5) - (M1 11 8))) L (by omega) ((congrArg (fun r => cel np 0 r (L 0)) ((up2_s _ _ _ _).trans (congrArg (fun r => upd r 5 ((M1 0 5) - (M1 11 8))) rfl))).trans rfl)) rfl rfl rfl ?_
        refine ev_cv (vs := [(.ref 3)]) (rest := []) (rv := (some (.int (csum (gCell (up2 M1 0 5 ((M1 0 5) - (M1 11 8))) 5) 6)))) rfl rfl rfl (rd np (up2 M1 0 5 ((M1 0 5) - (M1 11 8))) L (by omega) ((congrArg (fun r => cel np 3 r (L 3)) ((up2_n (by omega)).trans rfl)).trans rfl)) rfl rfl rfl rfl (rn_cells_b (M := (up2 M1 0 5 ((M1 0 5) - (M1 11 8)))) _) ?_
        show Ev _ _ 74 _ [(.int (csum (gCell (up2 M1 0 5 ((M1 0 5) - (M1 11 8))) 5) 6))] _ _
        refine ev_ri rfl rfl ?_ ?_
        · unfold pkR; rw [cIf_t c1, if_neg c2, if_pos c3]; unfold pkM; rw [← hM1]
        · unfold pkH; rw [cIf_t c1, if_neg c2, if_pos c3]; unfold pkM; rw [← hM1]
      · show Ev _ _ 32 _ _ _ _
        refine ev_bi (v := (-104)) rfl (by decide) ?_
        refine ev_ri rfl rfl ?_ ?_
        · unfold pkR; rw [cIf_t c1, if_neg c2, if_neg c3]
        · unfold pkH; rw [cIf_t c1, if_neg c2, if_neg c3]
    · show Ev _ _ 21 _ _ _ _
      refine ev_bi (v := (-103)) rfl (by decide) ?_
      refine ev_ri rfl rfl ?_ ?_
      · unfold pkR; rw [cIf_t c1, if_pos c2]
      · unfold pkH; rw [cIf_t c1, if_pos c2]
  · show Ev _ _ 11 _ _ _ _
    refine ev_bi (v := (-102)) rfl (by decide) ?_
    refine ev_ri rfl rfl ?_ ?_
    · unfold pkR; rw [cIf_f c1]
    · unfold pkH; rw [cIf_f c1]
