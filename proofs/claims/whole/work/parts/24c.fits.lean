set_option maxHeartbeats 4000000 in
theorem lp_ft {np : Nat} {M : Nat → Nat → Int32} {L : Nat → Int64} {p : Nat} (hp : p < 6) (ho : outM M p) (d : Nat) : ∀ k q, q + k = p → ∀ v4 v5 v6, (∀ j, j < q → okQ M p j) → Ev (d + 3) mX6_fits 66 [some (.ref 21), some (.int (nI p)), some (.int (unS M p q)), some (.int (nI q)), v4, v5, v6] [] (mk np M L) (Qr mX6_fits (some (.int (zi (ftM M p)))) (mk np M L)) := by
  intro k
  induction k with
  | zero =>
    intro q hqk v4 v5 v6 hI
    obtain rfl : q = p := by omega
    iterate 2 refine ev_s rfl ?_
    refine ev_ic rfl rfl ?_
    rw [show zbr .ge (nI q) (nI q) 265 71 = 265 from zge_t (n := q) rfl (by omega) (by omega)]
    refine ev_s rfl ?_
    refine ev_gf (rd np M L (by omega) rfl) rfl rfl rfl ?_
    refine ev_s rfl ?_
    refine ev_ia (rd np M L (by omega) rfl) rfl (zin_nI (by omega) (by decide)) ?_
    refine ev_if rfl rfl (ev_br (zb_eq _ _ _ _) (fun c1 => ?_) (fun c1 => ?_))
    · show Ev _ _ 291 _ _ _ _
      iterate 2 refine ev_s rfl ?_
      refine ev_cv (vs := [(.ref 21), (.int (nI q))]) (rest := []) (rv := (some (.int (zi (brn M q))))) rfl rfl rfl (rd np M L (by omega) rfl) rfl rfl rfl rfl (rn_borne hp _) ?_
      show Ev _ _ 296 _ [(.int (zi (brn M q)))] _ _
      refine ev_if rfl rfl (ev_bze (fun c2 => ?_) (fun c2 => ?_))
      · show Ev _ _ 303 _ _ _ _
        refine ev_ik (v := 0) rfl (by decide) ?_
        refine ev_rz rfl rfl (by decide) ?_ ?_
        · exact some_i (zi_f (show ¬ ftM M q from fun h => c2 h.2.2.2)).symm
        · rfl
      · show Ev _ _ 299 _ _ _ _
        refine ev_ik (v := 1) rfl (by decide) ?_
        refine ev_s rfl ?_
        refine ev_rz rfl rfl (by decide) ?_ ?_
        · exact some_i (zi_t (show ftM M q from ⟨ho, hI, Or.inl c1, c2⟩)).symm
        · rfl
    · show Ev _ _ 274 _ _ _ _
      iterate 2 refine ev_s rfl ?_
      refine ev_gf (rd np M L (by omega) rfl) rfl rfl rfl ?_
      refine ev_s rfl ?_
      refine ev_ia (rd np M L (by omega) rfl) rfl (zin_nI (by omega) (by decide)) ?_
      refine ev_s rfl ?_
      refine ev_gf (rd np M L (by omega) rfl) rfl rfl rfl ?_
      refine ev_s rfl ?_
      refine ev_ia (rd np M L (by omega) rfl) rfl (zin_nI (by omega) (by decide)) ?_
      refine ev_s rfl ?_
      refine ev_ic rfl rfl (ev_bn (fun c3 => ?_) (fun c3 => ?_))
      · show Ev _ _ 303 _ _ _ _
        refine ev_ik (v := 0) rfl (by decide) ?_
        refine ev_rz rfl rfl (by decide) ?_ ?_
        · exact some_i (zi_f (show ¬ ftM M q from fun h => h.2.2.1.elim c1 c3)).symm
        · rfl
      · show Ev _ _ 291 _ _ _ _
        iterate 2 refine ev_s rfl ?_
        refine ev_cv (vs := [(.ref 21), (.int (nI q))]) (rest := []) (rv := (some (.int (zi (brn M q))))) rfl rfl rfl (rd np M L (by omega) rfl) rfl rfl rfl rfl (rn_borne hp _) ?_
        show Ev _ _ 296 _ [(.int (zi (brn M q)))] _ _
        refine ev_if rfl rfl (ev_bze (fun c4 => ?_) (fun c4 => ?_))
        · show Ev _ _ 303 _ _ _ _
          refine ev_ik (v := 0) rfl (by decide) ?_
          refine ev_rz rfl rfl (by decide) ?_ ?_
          · exact some_i (zi_f (show ¬ ftM M q from fun h => c4 h.2.2.2)).symm
          · rfl
        · show Ev _ _ 299 _ _ _ _
          refine ev_ik (v := 1) rfl (by decide) ?_
          refine ev_s rfl ?_
          refine ev_rz rfl rfl (by decide) ?_ ?_
          · exact some_i (zi_t (show ftM M q from ⟨ho, hI, Or.inr c3, c4⟩)).symm
          · rfl
  | succ k ih =>
    intro q hqk v4 v5 v6 hI
    have hq : q < p := by omega
    iterate 2 refine ev_s rfl ?_
    refine ev_ic rfl rfl ?_
    rw [show zbr .ge (nI q) (nI p) 265 71 = 71 from zge_f (n := p) rfl hq (by omega)]
    refine ev_s rfl ?_
    refine ev_gf (rd np M L (by omega) rfl) rfl rfl rfl ?_
    refine ev_s rfl ?_
    refine ev_ba (rd np M L (by omega) rfl) rfl (zin_nI (by omega) (by decide)) ?_
    refine ev_if rfl rfl (ev_br (zb_eq _ _ _ _) (fun c1 => ?_) (fun c1 => ?_))
    · show Ev _ _ 259 _ _ _ _
      refine ev_inc (y := 1) (v := nI (q + 1)) (ls' := [some (.ref 21), some (.int (nI p)), some (.int (unS M p q)), some (.int (nI (q + 1))), v4, v5, v6]) rfl rfl (by decide) (nI_1 _) rfl ?_
      refine ev_s rfl ?_
      have e9 := ih (q + 1) (by omega) (v4) (v5) (v6) (fun j hj => by
        rcases Nat.lt_or_ge j q with h | h
        · exact hI j h
        · obtain rfl : j = q := by omega
          exact Or.inl c1)
      rw [show unS M p (q + 1) = unS M p q from if_pos c1] at e9
      exact e9
    · show Ev _ _ 80 _ _ _ _
      refine ev_s rfl ?_
      refine ev_gf (rd np M L (by omega) rfl) rfl rfl rfl ?_
      refine ev_s rfl ?_
      refine ev_ia (rd np M L (by omega) rfl) rfl (zin_nI (by omega) (by decide)) ?_
      refine ev_s rfl ?_
      refine ev_gf (rd np M L (by omega) rfl) rfl rfl rfl ?_
      refine ev_s rfl ?_
      refine ev_ia (rd np M L (by omega) rfl) rfl (zin_nI (by omega) (by decide)) ?_
      refine ev_s rfl ?_
      refine ev_gf (rd np M L (by omega) rfl) rfl rfl rfl ?_
      refine ev_s rfl ?_
      refine ev_ia (rd np M L (by omega) rfl) rfl (zin_nI (by omega) (by decide)) ?_
      refine ev_s rfl ?_
      refine ev_gf (rd np M L (by omega) rfl) rfl rfl rfl ?_
      refine ev_s rfl ?_
      refine ev_ia (rd np M L (by omega) rfl) rfl (zin_nI (by omega) (by decide)) ?_
      refine ev_cs (vs := [(.int (M 30 p)), (.int (M 33 p)), (.int (M 30 q)), (.int (M 33 q))]) (rest := []) (rv := (some (.int (cmn (M 30 p) (M 33 p) (M 30 q) (M 33 q))))) rfl rfl rfl rfl rfl (rn_common _) ?_
      show Ev _ _ 107 _ [(.int (cmn (M 30 p) (M 33 p) (M 30 q) (M 33 q)))] _ _
      refine ev_s (ls' := [some (.ref 21), some (.int (nI p)), some (.int (unS M p q)), some (.int (nI q)), some (.int (cmn (M 30 p) (M 33 p) (M 30 q) (M 33 q))), v5, v6]) rfl ?_
      refine ev_s rfl ?_
      refine ev_gf (rd np M L (by omega) rfl) rfl rfl rfl ?_
      refine ev_s rfl ?_
      refine ev_ia (rd np M L (by omega) rfl) rfl (zin_nI (by omega) (by decide)) ?_
      refine ev_s rfl ?_
      refine ev_gf (rd np M L (by omega) rfl) rfl rfl rfl ?_
      refine ev_s rfl ?_
      refine ev_ia (rd np M L (by omega) rfl) rfl (zin_nI (by omega) (by decide)) ?_
      refine ev_s rfl ?_
      refine ev_gf (rd np M L (by omega) rfl) rfl rfl rfl ?_
      refine ev_s rfl ?_
      refine ev_ia (rd np M L (by omega) rfl) rfl (zin_nI (by omega) (by decide)) ?_
      refine ev_s rfl ?_
      refine ev_gf (rd np M L (by omega) rfl) rfl rfl rfl ?_
      refine ev_s rfl ?_
      refine ev_ia (rd np M L (by omega) rfl) rfl (zin_nI (by omega) (by decide)) ?_
      refine ev_cs (vs := [(.int (M 32 p)), (.int (M 35 p)), (.int (M 32 q)), (.int (M 35 q))]) (rest := []) (rv := (some (.int (cmn (M 32 p) (M 35 p) (M 32 q) (M 35 q))))) rfl rfl rfl rfl rfl (rn_common _) ?_
      show Ev _ _ 136 _ [(.int (cmn (M 32 p) (M 35 p) (M 32 q) (M 35 q)))] _ _
      refine ev_s (ls' := [some (.ref 21), some (.int (nI p)), some (.int (unS M p q)), some (.int (nI q)), some (.int (cmn (M 30 p) (M 33 p) (M 30 q) (M 33 q))), some (.int (cmn (M 32 p) (M 35 p) (M 32 q) (M 35 q))), v6]) rfl ?_
      refine ev_s rfl ?_
      refine ev_if rfl rfl (ev_br (zb_le _ _ _ _) (fun c2 => ?_) (fun c2 => ?_))
      · show Ev _ _ 180 _ _ _ _
        iterate 2 refine ev_s rfl ?_
        refine ev_gf (rd np M L (by omega) rfl) rfl rfl rfl ?_
        refine ev_s rfl ?_
        refine ev_ia (rd np M L (by omega) rfl) rfl (zin_nI (by omega) (by decide)) ?_
        refine ev_s rfl ?_
        refine ev_gf (rd np M L (by omega) rfl) rfl rfl rfl ?_
        refine ev_s rfl ?_
        refine ev_ia (rd np M L (by omega) rfl) rfl (zin_nI (by omega) (by decide)) ?_
        iterate 2 refine ev_s rfl ?_
        refine ev_gf (rd np M L (by omega) rfl) rfl rfl rfl ?_
        refine ev_s rfl ?_
        refine ev_ia (rd np M L (by omega) rfl) rfl (zin_nI (by omega) (by decide)) ?_
        refine ev_ic rfl rfl (ev_bn (fun c3 => ?_) (fun c3 => ?_))
        · show Ev _ _ 211 _ _ _ _
          refine ev_ik (v := 0) rfl (by decide) ?_
          refine ev_s rfl ?_
          refine ev_s (ls' := [some (.ref 21), some (.int (nI p)), some (.int ((unS M p q) + 0)), some (.int (nI q)), some (.int (cmn (M 30 p) (M 33 p) (M 30 q) (M 33 q))), some (.int (cmn (M 32 p) (M 35 p) (M 32 q) (M 35 q))), v6]) rfl ?_
          refine ev_s rfl ?_
          refine ev_gf (rd np M L (by omega) rfl) rfl rfl rfl ?_
          refine ev_s rfl ?_
          refine ev_ia (rd np M L (by omega) rfl) rfl (zin_nI (by omega) (by decide)) ?_
          refine ev_s rfl ?_
          refine ev_gf (rd np M L (by omega) rfl) rfl rfl rfl ?_
          refine ev_s rfl ?_
          refine ev_ia (rd np M L (by omega) rfl) rfl (zin_nI (by omega) (by decide)) ?_
          refine ev_s rfl ?_
          refine ev_s (ls' := [some (.ref 21), some (.int (nI p)), some (.int ((unS M p q) + 0)), some (.int (nI q)), some (.int (cmn (M 30 p) (M 33 p) (M 30 q) (M 33 q))), some (.int (cmn (M 32 p) (M 35 p) (M 32 q) (M 35 q))), some (.int ((M 28 p) - (M 28 q)))]) rfl ?_
          refine ev_s rfl ?_
          refine ev_if rfl rfl (ev_br (zb_le _ _ _ _) (fun c4 => ?_) (fun c4 => ?_))
          · show Ev _ _ 243 _ _ _ _
            refine ev_s rfl ?_
            refine ev_if rfl rfl (ev_br (zb_ge _ _ _ _) (fun c5 => ?_) (fun c5 => ?_))
            · show Ev _ _ 259 _ _ _ _
              refine ev_inc (y := 1) (v := nI (q + 1)) (ls' := [some (.ref 21), some (.int (nI p)), some (.int ((unS M p q) + 0)), some (.int (nI (q + 1))), some (.int (cmn (M 30 p) (M 33 p) (M 30 q) (M 33 q))), some (.int (cmn (M 32 p) (M 35 p) (M 32 q) (M 35 q))), some (.int ((M 28 p) - (M 28 q)))]) rfl rfl (by decide) (nI_1 _) rfl ?_
              refine ev_s rfl ?_
              have e9 := ih (q + 1) (by omega) (some (.int (cmn (M 30 p) (M 33 p) (M 30 q) (M 33 q)))) (some (.int (cmn (M 32 p) (M 35 p) (M 32 q) (M 35 q)))) (some (.int ((M 28 p) - (M 28 q)))) (fun j hj => by
                rcases Nat.lt_or_ge j q with h | h
                · exact hI j h
                · obtain rfl : j = q := by omega
                  exact Or.inr ⟨fun h => h.1 c2, fun h => h.elim (fun h => h.1 c4) (fun h => h.1 c5)⟩)
              rw [show unS M p (q + 1) = unS M p q + 0 from (if_neg c1).trans (if_neg c3)] at e9
              exact e9
            · show Ev _ _ 248 _ _ _ _
              iterate 3 refine ev_s rfl ?_
              refine ev_cv (vs := [(.ref 21), (.int (nI q)), (.int (nI p))]) (rest := []) (rv := (some (.int (zi (mBf M q p))))) rfl rfl rfl (rd np M L (by omega) rfl) rfl rfl rfl rfl (rn_isBefore (a := q) (b := p) (by omega) (by omega) _) ?_
              show Ev _ _ 254 _ [(.int (zi (mBf M q p)))] _ _
              refine ev_if rfl rfl (ev_bze (fun c6 => ?_) (fun c6 => ?_))
              · show Ev _ _ 259 _ _ _ _
                refine ev_inc (y := 1) (v := nI (q + 1)) (ls' := [some (.ref 21), some (.int (nI p)), some (.int ((unS M p q) + 0)), some (.int (nI (q + 1))), some (.int (cmn (M 30 p) (M 33 p) (M 30 q) (M 33 q))), some (.int (cmn (M 32 p) (M 35 p) (M 32 q) (M 35 q))), some (.int ((M 28 p) - (M 28 q)))]) rfl rfl (by decide) (nI_1 _) rfl ?_
                refine ev_s rfl ?_
                have e9 := ih (q + 1) (by omega) (some (.int (cmn (M 30 p) (M 33 p) (M 30 q) (M 33 q)))) (some (.int (cmn (M 32 p) (M 35 p) (M 32 q) (M 35 q)))) (some (.int ((M 28 p) - (M 28 q)))) (fun j hj => by
                  rcases Nat.lt_or_ge j q with h | h
                  · exact hI j h
                  · obtain rfl : j = q := by omega
                    exact Or.inr ⟨fun h => h.1 c2, fun h => h.elim (fun h => h.1 c4) (fun h => c6 h.2)⟩)
                rw [show unS M p (q + 1) = unS M p q + 0 from (if_neg c1).trans (if_neg c3)] at e9
                exact e9
              · show Ev _ _ 257 _ _ _ _
                refine ev_ik (v := 0) rfl (by decide) ?_
                refine ev_rz rfl rfl (by decide) ?_ ?_
                · exact some_i (zi_f (show ¬ ftM M p from fun h => (h.2.1 q hq).elim c1 (fun h3 => h3.2 (Or.inr ⟨c5, c6⟩)))).symm
                · rfl
          · show Ev _ _ 234 _ _ _ _
            iterate 3 refine ev_s rfl ?_
            refine ev_cv (vs := [(.ref 21), (.int (nI p)), (.int (nI q))]) (rest := []) (rv := (some (.int (zi (mBf M p q))))) rfl rfl rfl (rd np M L (by omega) rfl) rfl rfl rfl rfl (rn_isBefore (a := p) (b := q) (by omega) (by omega) _) ?_
            show Ev _ _ 240 _ [(.int (zi (mBf M p q)))] _ _
            refine ev_if rfl rfl (ev_bzn (fun c7 => ?_) (fun c7 => ?_))
            · show Ev _ _ 257 _ _ _ _
              refine ev_ik (v := 0) rfl (by decide) ?_
              refine ev_rz rfl rfl (by decide) ?_ ?_
              · exact some_i (zi_f (show ¬ ftM M p from fun h => (h.2.1 q hq).elim c1 (fun h3 => h3.2 (Or.inl ⟨c4, c7⟩)))).symm
              · rfl
            · show Ev _ _ 243 _ _ _ _
              refine ev_s rfl ?_
              refine ev_if rfl rfl (ev_br (zb_ge _ _ _ _) (fun c8 => ?_) (fun c8 => ?_))
              · show Ev _ _ 259 _ _ _ _
                refine ev_inc (y := 1) (v := nI (q + 1)) (ls' := [some (.ref 21), some (.int (nI p)), some (.int ((unS M p q) + 0)), some (.int (nI (q + 1))), some (.int (cmn (M 30 p) (M 33 p) (M 30 q) (M 33 q))), some (.int (cmn (M 32 p) (M 35 p) (M 32 q) (M 35 q))), some (.int ((M 28 p) - (M 28 q)))]) rfl rfl (by decide) (nI_1 _) rfl ?_
                refine ev_s rfl ?_
                have e9 := ih (q + 1) (by omega) (some (.int (cmn (M 30 p) (M 33 p) (M 30 q) (M 33 q)))) (some (.int (cmn (M 32 p) (M 35 p) (M 32 q) (M 35 q)))) (some (.int ((M 28 p) - (M 28 q)))) (fun j hj => by
                  rcases Nat.lt_or_ge j q with h | h
                  · exact hI j h
                  · obtain rfl : j = q := by omega
                    exact Or.inr ⟨fun h => h.1 c2, fun h => h.elim (fun h => c7 h.2) (fun h => h.1 c8)⟩)
                rw [show unS M p (q + 1) = unS M p q + 0 from (if_neg c1).trans (if_neg c3)] at e9
                exact e9
              · show Ev _ _ 248 _ _ _ _
                iterate 3 refine ev_s rfl ?_
                refine ev_cv (vs := [(.ref 21), (.int (nI q)), (.int (nI p))]) (rest := []) (rv := (some (.int (zi (mBf M q p))))) rfl rfl rfl (rd np M L (by omega) rfl) rfl rfl rfl rfl (rn_isBefore (a := q) (b := p) (by omega) (by omega) _) ?_
                show Ev _ _ 254 _ [(.int (zi (mBf M q p)))] _ _
                refine ev_if rfl rfl (ev_bze (fun c9 => ?_) (fun c9 => ?_))
                · show Ev _ _ 259 _ _ _ _
                  refine ev_inc (y := 1) (v := nI (q + 1)) (ls' := [some (.ref 21), some (.int (nI p)), some (.int ((unS M p q) + 0)), some (.int (nI (q + 1))), some (.int (cmn (M 30 p) (M 33 p) (M 30 q) (M 33 q))), some (.int (cmn (M 32 p) (M 35 p) (M 32 q) (M 35 q))), some (.int ((M 28 p) - (M 28 q)))]) rfl rfl (by decide) (nI_1 _) rfl ?_
                  refine ev_s rfl ?_
                  have e9 := ih (q + 1) (by omega) (some (.int (cmn (M 30 p) (M 33 p) (M 30 q) (M 33 q)))) (some (.int (cmn (M 32 p) (M 35 p) (M 32 q) (M 35 q)))) (some (.int ((M 28 p) - (M 28 q)))) (fun j hj => by
                    rcases Nat.lt_or_ge j q with h | h
                    · exact hI j h
                    · obtain rfl : j = q := by omega
                      exact Or.inr ⟨fun h => h.1 c2, fun h => h.elim (fun h => c7 h.2) (fun h => c9 h.2)⟩)
                  rw [show unS M p (q + 1) = unS M p q + 0 from (if_neg c1).trans (if_neg c3)] at e9
                  exact e9
                · show Ev _ _ 257 _ _ _ _
                  refine ev_ik (v := 0) rfl (by decide) ?_
                  refine ev_rz rfl rfl (by decide) ?_ ?_
                  · exact some_i (zi_f (show ¬ ftM M p from fun h => (h.2.1 q hq).elim c1 (fun h3 => h3.2 (Or.inr ⟨c8, c9⟩)))).symm
                  · rfl
        · show Ev _ _ 203 _ _ _ _
          iterate 5 refine ev_s rfl ?_
          refine ev_s (ls' := [some (.ref 21), some (.int (nI p)), some (.int ((unS M p q) + ((cmn (M 30 p) (M 33 p) (M 30 q) (M 33 q)) * (cmn (M 32 p) (M 35 p) (M 32 q) (M 35 q))))), some (.int (nI q)), some (.int (cmn (M 30 p) (M 33 p) (M 30 q) (M 33 q))), some (.int (cmn (M 32 p) (M 35 p) (M 32 q) (M 35 q))), v6]) rfl ?_
          refine ev_s rfl ?_
          refine ev_gf (rd np M L (by omega) rfl) rfl rfl rfl ?_
          refine ev_s rfl ?_
          refine ev_ia (rd np M L (by omega) rfl) rfl (zin_nI (by omega) (by decide)) ?_
          refine ev_s rfl ?_
          refine ev_gf (rd np M L (by omega) rfl) rfl rfl rfl ?_
          refine ev_s rfl ?_
          refine ev_ia (rd np M L (by omega) rfl) rfl (zin_nI (by omega) (by decide)) ?_
          refine ev_s rfl ?_
          refine ev_s (ls' := [some (.ref 21), some (.int (nI p)), some (.int ((unS M p q) + ((cmn (M 30 p) (M 33 p) (M 30 q) (M 33 q)) * (cmn (M 32 p) (M 35 p) (M 32 q) (M 35 q))))), some (.int (nI q)), some (.int (cmn (M 30 p) (M 33 p) (M 30 q) (M 33 q))), some (.int (cmn (M 32 p) (M 35 p) (M 32 q) (M 35 q))), some (.int ((M 28 p) - (M 28 q)))]) rfl ?_
          refine ev_s rfl ?_
          refine ev_if rfl rfl (ev_br (zb_le _ _ _ _) (fun c10 => ?_) (fun c10 => ?_))
          · show Ev _ _ 243 _ _ _ _
            refine ev_s rfl ?_
            refine ev_if rfl rfl (ev_br (zb_ge _ _ _ _) (fun c11 => ?_) (fun c11 => ?_))
            · show Ev _ _ 259 _ _ _ _
              refine ev_inc (y := 1) (v := nI (q + 1)) (ls' := [some (.ref 21), some (.int (nI p)), some (.int ((unS M p q) + ((cmn (M 30 p) (M 33 p) (M 30 q) (M 33 q)) * (cmn (M 32 p) (M 35 p) (M 32 q) (M 35 q))))), some (.int (nI (q + 1))), some (.int (cmn (M 30 p) (M 33 p) (M 30 q) (M 33 q))), some (.int (cmn (M 32 p) (M 35 p) (M 32 q) (M 35 q))), some (.int ((M 28 p) - (M 28 q)))]) rfl rfl (by decide) (nI_1 _) rfl ?_
              refine ev_s rfl ?_
              have e9 := ih (q + 1) (by omega) (some (.int (cmn (M 30 p) (M 33 p) (M 30 q) (M 33 q)))) (some (.int (cmn (M 32 p) (M 35 p) (M 32 q) (M 35 q)))) (some (.int ((M 28 p) - (M 28 q)))) (fun j hj => by
                rcases Nat.lt_or_ge j q with h | h
                · exact hI j h
                · obtain rfl : j = q := by omega
                  exact Or.inr ⟨fun h => h.1 c2, fun h => h.elim (fun h => h.1 c10) (fun h => h.1 c11)⟩)
              rw [show unS M p (q + 1) = unS M p q + cmX M p q * cmZ M p q from (if_neg c1).trans (if_pos c3)] at e9
              exact e9
            · show Ev _ _ 248 _ _ _ _
              iterate 3 refine ev_s rfl ?_
              refine ev_cv (vs := [(.ref 21), (.int (nI q)), (.int (nI p))]) (rest := []) (rv := (some (.int (zi (mBf M q p))))) rfl rfl rfl (rd np M L (by omega) rfl) rfl rfl rfl rfl (rn_isBefore (a := q) (b := p) (by omega) (by omega) _) ?_
              show Ev _ _ 254 _ [(.int (zi (mBf M q p)))] _ _
              refine ev_if rfl rfl (ev_bze (fun c12 => ?_) (fun c12 => ?_))
              · show Ev _ _ 259 _ _ _ _
                refine ev_inc (y := 1) (v := nI (q + 1)) (ls' := [some (.ref 21), some (.int (nI p)), some (.int ((unS M p q) + ((cmn (M 30 p) (M 33 p) (M 30 q) (M 33 q)) * (cmn (M 32 p) (M 35 p) (M 32 q) (M 35 q))))), some (.int (nI (q + 1))), some (.int (cmn (M 30 p) (M 33 p) (M 30 q) (M 33 q))), some (.int (cmn (M 32 p) (M 35 p) (M 32 q) (M 35 q))), some (.int ((M 28 p) - (M 28 q)))]) rfl rfl (by decide) (nI_1 _) rfl ?_
                refine ev_s rfl ?_
                have e9 := ih (q + 1) (by omega) (some (.int (cmn (M 30 p) (M 33 p) (M 30 q) (M 33 q)))) (some (.int (cmn (M 32 p) (M 35 p) (M 32 q) (M 35 q)))) (some (.int ((M 28 p) - (M 28 q)))) (fun j hj => by
                  rcases Nat.lt_or_ge j q with h | h
                  · exact hI j h
                  · obtain rfl : j = q := by omega
                    exact Or.inr ⟨fun h => h.1 c2, fun h => h.elim (fun h => h.1 c10) (fun h => c12 h.2)⟩)
                rw [show unS M p (q + 1) = unS M p q + cmX M p q * cmZ M p q from (if_neg c1).trans (if_pos c3)] at e9
                exact e9
              · show Ev _ _ 257 _ _ _ _
                refine ev_ik (v := 0) rfl (by decide) ?_
                refine ev_rz rfl rfl (by decide) ?_ ?_
                · exact some_i (zi_f (show ¬ ftM M p from fun h => (h.2.1 q hq).elim c1 (fun h3 => h3.2 (Or.inr ⟨c11, c12⟩)))).symm
                · rfl
          · show Ev _ _ 234 _ _ _ _
            iterate 3 refine ev_s rfl ?_
            refine ev_cv (vs := [(.ref 21), (.int (nI p)), (.int (nI q))]) (rest := []) (rv := (some (.int (zi (mBf M p q))))) rfl rfl rfl (rd np M L (by omega) rfl) rfl rfl rfl rfl (rn_isBefore (a := p) (b := q) (by omega) (by omega) _) ?_
            show Ev _ _ 240 _ [(.int (zi (mBf M p q)))] _ _
            refine ev_if rfl rfl (ev_bzn (fun c13 => ?_) (fun c13 => ?_))
            · show Ev _ _ 257 _ _ _ _
              refine ev_ik (v := 0) rfl (by decide) ?_
              refine ev_rz rfl rfl (by decide) ?_ ?_
              · exact some_i (zi_f (show ¬ ftM M p from fun h => (h.2.1 q hq).elim c1 (fun h3 => h3.2 (Or.inl ⟨c10, c13⟩)))).symm
              · rfl
            · show Ev _ _ 243 _ _ _ _
              refine ev_s rfl ?_
              refine ev_if rfl rfl (ev_br (zb_ge _ _ _ _) (fun c14 => ?_) (fun c14 => ?_))
              · show Ev _ _ 259 _ _ _ _
                refine ev_inc (y := 1) (v := nI (q + 1)) (ls' := [some (.ref 21), some (.int (nI p)), some (.int ((unS M p q) + ((cmn (M 30 p) (M 33 p) (M 30 q) (M 33 q)) * (cmn (M 32 p) (M 35 p) (M 32 q) (M 35 q))))), some (.int (nI (q + 1))), some (.int (cmn (M 30 p) (M 33 p) (M 30 q) (M 33 q))), some (.int (cmn (M 32 p) (M 35 p) (M 32 q) (M 35 q))), some (.int ((M 28 p) - (M 28 q)))]) rfl rfl (by decide) (nI_1 _) rfl ?_
                refine ev_s rfl ?_
                have e9 := ih (q + 1) (by omega) (some (.int (cmn (M 30 p) (M 33 p) (M 30 q) (M 33 q)))) (some (.int (cmn (M 32 p) (M 35 p) (M 32 q) (M 35 q)))) (some (.int ((M 28 p) - (M 28 q)))) (fun j hj => by
                  rcases Nat.lt_or_ge j q with h | h
                  · exact hI j h
                  · obtain rfl : j = q := by omega
                    exact Or.inr ⟨fun h => h.1 c2, fun h => h.elim (fun h => c13 h.2) (fun h => h.1 c14)⟩)
                rw [show unS M p (q + 1) = unS M p q + cmX M p q * cmZ M p q from (if_neg c1).trans (if_pos c3)] at e9
                exact e9
              · show Ev _ _ 248 _ _ _ _
                iterate 3 refine ev_s rfl ?_
                refine ev_cv (vs := [(.ref 21), (.int (nI q)), (.int (nI p))]) (rest := []) (rv := (some (.int (zi (mBf M q p))))) rfl rfl rfl (rd np M L (by omega) rfl) rfl rfl rfl rfl (rn_isBefore (a := q) (b := p) (by omega) (by omega) _) ?_
                show Ev _ _ 254 _ [(.int (zi (mBf M q p)))] _ _
                refine ev_if rfl rfl (ev_bze (fun c15 => ?_) (fun c15 => ?_))
                · show Ev _ _ 259 _ _ _ _
                  refine ev_inc (y := 1) (v := nI (q + 1)) (ls' := [some (.ref 21), some (.int (nI p)), some (.int ((unS M p q) + ((cmn (M 30 p) (M 33 p) (M 30 q) (M 33 q)) * (cmn (M 32 p) (M 35 p) (M 32 q) (M 35 q))))), some (.int (nI (q + 1))), some (.int (cmn (M 30 p) (M 33 p) (M 30 q) (M 33 q))), some (.int (cmn (M 32 p) (M 35 p) (M 32 q) (M 35 q))), some (.int ((M 28 p) - (M 28 q)))]) rfl rfl (by decide) (nI_1 _) rfl ?_
                  refine ev_s rfl ?_
                  have e9 := ih (q + 1) (by omega) (some (.int (cmn (M 30 p) (M 33 p) (M 30 q) (M 33 q)))) (some (.int (cmn (M 32 p) (M 35 p) (M 32 q) (M 35 q)))) (some (.int ((M 28 p) - (M 28 q)))) (fun j hj => by
                    rcases Nat.lt_or_ge j q with h | h
                    · exact hI j h
                    · obtain rfl : j = q := by omega
                      exact Or.inr ⟨fun h => h.1 c2, fun h => h.elim (fun h => c13 h.2) (fun h => c15 h.2)⟩)
                  rw [show unS M p (q + 1) = unS M p q + cmX M p q * cmZ M p q from (if_neg c1).trans (if_pos c3)] at e9
                  exact e9
                · show Ev _ _ 257 _ _ _ _
                  refine ev_ik (v := 0) rfl (by decide) ?_
                  refine ev_rz rfl rfl (by decide) ?_ ?_
                  · exact some_i (zi_f (show ¬ ftM M p from fun h => (h.2.1 q hq).elim c1 (fun h3 => h3.2 (Or.inr ⟨c14, c15⟩)))).symm
                  · rfl
      · show Ev _ _ 143 _ _ _ _
        refine ev_s rfl ?_
        refine ev_if rfl rfl (ev_br (zb_le _ _ _ _) (fun c16 => ?_) (fun c16 => ?_))
        · show Ev _ _ 180 _ _ _ _
          iterate 2 refine ev_s rfl ?_
          refine ev_gf (rd np M L (by omega) rfl) rfl rfl rfl ?_
          refine ev_s rfl ?_
          refine ev_ia (rd np M L (by omega) rfl) rfl (zin_nI (by omega) (by decide)) ?_
          refine ev_s rfl ?_
          refine ev_gf (rd np M L (by omega) rfl) rfl rfl rfl ?_
          refine ev_s rfl ?_
          refine ev_ia (rd np M L (by omega) rfl) rfl (zin_nI (by omega) (by decide)) ?_
          iterate 2 refine ev_s rfl ?_
          refine ev_gf (rd np M L (by omega) rfl) rfl rfl rfl ?_
          refine ev_s rfl ?_
          refine ev_ia (rd np M L (by omega) rfl) rfl (zin_nI (by omega) (by decide)) ?_
          refine ev_ic rfl rfl (ev_bn (fun c17 => ?_) (fun c17 => ?_))
          · show Ev _ _ 211 _ _ _ _
            refine ev_ik (v := 0) rfl (by decide) ?_
            refine ev_s rfl ?_
            refine ev_s (ls' := [some (.ref 21), some (.int (nI p)), some (.int ((unS M p q) + 0)), some (.int (nI q)), some (.int (cmn (M 30 p) (M 33 p) (M 30 q) (M 33 q))), some (.int (cmn (M 32 p) (M 35 p) (M 32 q) (M 35 q))), v6]) rfl ?_
            refine ev_s rfl ?_
            refine ev_gf (rd np M L (by omega) rfl) rfl rfl rfl ?_
            refine ev_s rfl ?_
            refine ev_ia (rd np M L (by omega) rfl) rfl (zin_nI (by omega) (by decide)) ?_
            refine ev_s rfl ?_
            refine ev_gf (rd np M L (by omega) rfl) rfl rfl rfl ?_
            refine ev_s rfl ?_
            refine ev_ia (rd np M L (by omega) rfl) rfl (zin_nI (by omega) (by decide)) ?_
            refine ev_s rfl ?_
            refine ev_s (ls' := [some (.ref 21), some (.int (nI p)), some (.int ((unS M p q) + 0)), some (.int (nI q)), some (.int (cmn (M 30 p) (M 33 p) (M 30 q) (M 33 q))), some (.int (cmn (M 32 p) (M 35 p) (M 32 q) (M 35 q))), some (.int ((M 28 p) - (M 28 q)))]) rfl ?_
            refine ev_s rfl ?_
            refine ev_if rfl rfl (ev_br (zb_le _ _ _ _) (fun c18 => ?_) (fun c18 => ?_))
            · show Ev _ _ 243 _ _ _ _
              refine ev_s rfl ?_
              refine ev_if rfl rfl (ev_br (zb_ge _ _ _ _) (fun c19 => ?_) (fun c19 => ?_))
              · show Ev _ _ 259 _ _ _ _
                refine ev_inc (y := 1) (v := nI (q + 1)) (ls' := [some (.ref 21), some (.int (nI p)), some (.int ((unS M p q) + 0)), some (.int (nI (q + 1))), some (.int (cmn (M 30 p) (M 33 p) (M 30 q) (M 33 q))), some (.int (cmn (M 32 p) (M 35 p) (M 32 q) (M 35 q))), some (.int ((M 28 p) - (M 28 q)))]) rfl rfl (by decide) (nI_1 _) rfl ?_
                refine ev_s rfl ?_
                have e9 := ih (q + 1) (by omega) (some (.int (cmn (M 30 p) (M 33 p) (M 30 q) (M 33 q)))) (some (.int (cmn (M 32 p) (M 35 p) (M 32 q) (M 35 q)))) (some (.int ((M 28 p) - (M 28 q)))) (fun j hj => by
                  rcases Nat.lt_or_ge j q with h | h
                  · exact hI j h
                  · obtain rfl : j = q := by omega
                    exact Or.inr ⟨fun h => h.2.1 c16, fun h => h.elim (fun h => h.1 c18) (fun h => h.1 c19)⟩)
                rw [show unS M p (q + 1) = unS M p q + 0 from (if_neg c1).trans (if_neg c17)] at e9
                exact e9
              · show Ev _ _ 248 _ _ _ _
                iterate 3 refine ev_s rfl ?_
                refine ev_cv (vs := [(.ref 21), (.int (nI q)), (.int (nI p))]) (rest := []) (rv := (some (.int (zi (mBf M q p))))) rfl rfl rfl (rd np M L (by omega) rfl) rfl rfl rfl rfl (rn_isBefore (a := q) (b := p) (by omega) (by omega) _) ?_
                show Ev _ _ 254 _ [(.int (zi (mBf M q p)))] _ _
                refine ev_if rfl rfl (ev_bze (fun c20 => ?_) (fun c20 => ?_))
                · show Ev _ _ 259 _ _ _ _
                  refine ev_inc (y := 1) (v := nI (q + 1)) (ls' := [some (.ref 21), some (.int (nI p)), some (.int ((unS M p q) + 0)), some (.int (nI (q + 1))), some (.int (cmn (M 30 p) (M 33 p) (M 30 q) (M 33 q))), some (.int (cmn (M 32 p) (M 35 p) (M 32 q) (M 35 q))), some (.int ((M 28 p) - (M 28 q)))]) rfl rfl (by decide) (nI_1 _) rfl ?_
                  refine ev_s rfl ?_
                  have e9 := ih (q + 1) (by omega) (some (.int (cmn (M 30 p) (M 33 p) (M 30 q) (M 33 q)))) (some (.int (cmn (M 32 p) (M 35 p) (M 32 q) (M 35 q)))) (some (.int ((M 28 p) - (M 28 q)))) (fun j hj => by
                    rcases Nat.lt_or_ge j q with h | h
                    · exact hI j h
                    · obtain rfl : j = q := by omega
                      exact Or.inr ⟨fun h => h.2.1 c16, fun h => h.elim (fun h => h.1 c18) (fun h => c20 h.2)⟩)
                  rw [show unS M p (q + 1) = unS M p q + 0 from (if_neg c1).trans (if_neg c17)] at e9
                  exact e9
                · show Ev _ _ 257 _ _ _ _
                  refine ev_ik (v := 0) rfl (by decide) ?_
                  refine ev_rz rfl rfl (by decide) ?_ ?_
                  · exact some_i (zi_f (show ¬ ftM M p from fun h => (h.2.1 q hq).elim c1 (fun h3 => h3.2 (Or.inr ⟨c19, c20⟩)))).symm
                  · rfl
            · show Ev _ _ 234 _ _ _ _
              iterate 3 refine ev_s rfl ?_
              refine ev_cv (vs := [(.ref 21), (.int (nI p)), (.int (nI q))]) (rest := []) (rv := (some (.int (zi (mBf M p q))))) rfl rfl rfl (rd np M L (by omega) rfl) rfl rfl rfl rfl (rn_isBefore (a := p) (b := q) (by omega) (by omega) _) ?_
              show Ev _ _ 240 _ [(.int (zi (mBf M p q)))] _ _
              refine ev_if rfl rfl (ev_bzn (fun c21 => ?_) (fun c21 => ?_))
              · show Ev _ _ 257 _ _ _ _
                refine ev_ik (v := 0) rfl (by decide) ?_
                refine ev_rz rfl rfl (by decide) ?_ ?_
                · exact some_i (zi_f (show ¬ ftM M p from fun h => (h.2.1 q hq).elim c1 (fun h3 => h3.2 (Or.inl ⟨c18, c21⟩)))).symm
                · rfl
              · show Ev _ _ 243 _ _ _ _
                refine ev_s rfl ?_
                refine ev_if rfl rfl (ev_br (zb_ge _ _ _ _) (fun c22 => ?_) (fun c22 => ?_))
                · show Ev _ _ 259 _ _ _ _
                  refine ev_inc (y := 1) (v := nI (q + 1)) (ls' := [some (.ref 21), some (.int (nI p)), some (.int ((unS M p q) + 0)), some (.int (nI (q + 1))), some (.int (cmn (M 30 p) (M 33 p) (M 30 q) (M 33 q))), some (.int (cmn (M 32 p) (M 35 p) (M 32 q) (M 35 q))), some (.int ((M 28 p) - (M 28 q)))]) rfl rfl (by decide) (nI_1 _) rfl ?_
                  refine ev_s rfl ?_
                  have e9 := ih (q + 1) (by omega) (some (.int (cmn (M 30 p) (M 33 p) (M 30 q) (M 33 q)))) (some (.int (cmn (M 32 p) (M 35 p) (M 32 q) (M 35 q)))) (some (.int ((M 28 p) - (M 28 q)))) (fun j hj => by
                    rcases Nat.lt_or_ge j q with h | h
                    · exact hI j h
                    · obtain rfl : j = q := by omega
                      exact Or.inr ⟨fun h => h.2.1 c16, fun h => h.elim (fun h => c21 h.2) (fun h => h.1 c22)⟩)
                  rw [show unS M p (q + 1) = unS M p q + 0 from (if_neg c1).trans (if_neg c17)] at e9
                  exact e9
                · show Ev _ _ 248 _ _ _ _
                  iterate 3 refine ev_s rfl ?_
                  refine ev_cv (vs := [(.ref 21), (.int (nI q)), (.int (nI p))]) (rest := []) (rv := (some (.int (zi (mBf M q p))))) rfl rfl rfl (rd np M L (by omega) rfl) rfl rfl rfl rfl (rn_isBefore (a := q) (b := p) (by omega) (by omega) _) ?_
                  show Ev _ _ 254 _ [(.int (zi (mBf M q p)))] _ _
                  refine ev_if rfl rfl (ev_bze (fun c23 => ?_) (fun c23 => ?_))
                  · show Ev _ _ 259 _ _ _ _
                    refine ev_inc (y := 1) (v := nI (q + 1)) (ls' := [some (.ref 21), some (.int (nI p)), some (.int ((unS M p q) + 0)), some (.int (nI (q + 1))), some (.int (cmn (M 30 p) (M 33 p) (M 30 q) (M 33 q))), some (.int (cmn (M 32 p) (M 35 p) (M 32 q) (M 35 q))), some (.int ((M 28 p) - (M 28 q)))]) rfl rfl (by decide) (nI_1 _) rfl ?_
                    refine ev_s rfl ?_
                    have e9 := ih (q + 1) (by omega) (some (.int (cmn (M 30 p) (M 33 p) (M 30 q) (M 33 q)))) (some (.int (cmn (M 32 p) (M 35 p) (M 32 q) (M 35 q)))) (some (.int ((M 28 p) - (M 28 q)))) (fun j hj => by
                      rcases Nat.lt_or_ge j q with h | h
                      · exact hI j h
                      · obtain rfl : j = q := by omega
                        exact Or.inr ⟨fun h => h.2.1 c16, fun h => h.elim (fun h => c21 h.2) (fun h => c23 h.2)⟩)
                    rw [show unS M p (q + 1) = unS M p q + 0 from (if_neg c1).trans (if_neg c17)] at e9
                    exact e9
                  · show Ev _ _ 257 _ _ _ _
                    refine ev_ik (v := 0) rfl (by decide) ?_
                    refine ev_rz rfl rfl (by decide) ?_ ?_
                    · exact some_i (zi_f (show ¬ ftM M p from fun h => (h.2.1 q hq).elim c1 (fun h3 => h3.2 (Or.inr ⟨c22, c23⟩)))).symm
                    · rfl
          · show Ev _ _ 203 _ _ _ _
            iterate 5 refine ev_s rfl ?_
            refine ev_s (ls' := [some (.ref 21), some (.int (nI p)), some (.int ((unS M p q) + ((cmn (M 30 p) (M 33 p) (M 30 q) (M 33 q)) * (cmn (M 32 p) (M 35 p) (M 32 q) (M 35 q))))), some (.int (nI q)), some (.int (cmn (M 30 p) (M 33 p) (M 30 q) (M 33 q))), some (.int (cmn (M 32 p) (M 35 p) (M 32 q) (M 35 q))), v6]) rfl ?_
            refine ev_s rfl ?_
            refine ev_gf (rd np M L (by omega) rfl) rfl rfl rfl ?_
            refine ev_s rfl ?_
            refine ev_ia (rd np M L (by omega) rfl) rfl (zin_nI (by omega) (by decide)) ?_
            refine ev_s rfl ?_
            refine ev_gf (rd np M L (by omega) rfl) rfl rfl rfl ?_
            refine ev_s rfl ?_
            refine ev_ia (rd np M L (by omega) rfl) rfl (zin_nI (by omega) (by decide)) ?_
            refine ev_s rfl ?_
            refine ev_s (ls' := [some (.ref 21), some (.int (nI p)), some (.int ((unS M p q) + ((cmn (M 30 p) (M 33 p) (M 30 q) (M 33 q)) * (cmn (M 32 p) (M 35 p) (M 32 q) (M 35 q))))), some (.int (nI q)), some (.int (cmn (M 30 p) (M 33 p) (M 30 q) (M 33 q))), some (.int (cmn (M 32 p) (M 35 p) (M 32 q) (M 35 q))), some (.int ((M 28 p) - (M 28 q)))]) rfl ?_
            refine ev_s rfl ?_
            refine ev_if rfl rfl (ev_br (zb_le _ _ _ _) (fun c24 => ?_) (fun c24 => ?_))
            · show Ev _ _ 243 _ _ _ _
              refine ev_s rfl ?_
              refine ev_if rfl rfl (ev_br (zb_ge _ _ _ _) (fun c25 => ?_) (fun c25 => ?_))
              · show Ev _ _ 259 _ _ _ _
                refine ev_inc (y := 1) (v := nI (q + 1)) (ls' := [some (.ref 21), some (.int (nI p)), some (.int ((unS M p q) + ((cmn (M 30 p) (M 33 p) (M 30 q) (M 33 q)) * (cmn (M 32 p) (M 35 p) (M 32 q) (M 35 q))))), some (.int (nI (q + 1))), some (.int (cmn (M 30 p) (M 33 p) (M 30 q) (M 33 q))), some (.int (cmn (M 32 p) (M 35 p) (M 32 q) (M 35 q))), some (.int ((M 28 p) - (M 28 q)))]) rfl rfl (by decide) (nI_1 _) rfl ?_
                refine ev_s rfl ?_
                have e9 := ih (q + 1) (by omega) (some (.int (cmn (M 30 p) (M 33 p) (M 30 q) (M 33 q)))) (some (.int (cmn (M 32 p) (M 35 p) (M 32 q) (M 35 q)))) (some (.int ((M 28 p) - (M 28 q)))) (fun j hj => by
                  rcases Nat.lt_or_ge j q with h | h
                  · exact hI j h
                  · obtain rfl : j = q := by omega
                    exact Or.inr ⟨fun h => h.2.1 c16, fun h => h.elim (fun h => h.1 c24) (fun h => h.1 c25)⟩)
                rw [show unS M p (q + 1) = unS M p q + cmX M p q * cmZ M p q from (if_neg c1).trans (if_pos c17)] at e9
                exact e9
              · show Ev _ _ 248 _ _ _ _
                iterate 3 refine ev_s rfl ?_
                refine ev_cv (vs := [(.ref 21), (.int (nI q)), (.int (nI p))]) (rest := []) (rv := (some (.int (zi (mBf M q p))))) rfl rfl rfl (rd np M L (by omega) rfl) rfl rfl rfl rfl (rn_isBefore (a := q) (b := p) (by omega) (by omega) _) ?_
                show Ev _ _ 254 _ [(.int (zi (mBf M q p)))] _ _
                refine ev_if rfl rfl (ev_bze (fun c26 => ?_) (fun c26 => ?_))
                · show Ev _ _ 259 _ _ _ _
                  refine ev_inc (y := 1) (v := nI (q + 1)) (ls' := [some (.ref 21), some (.int (nI p)), some (.int ((unS M p q) + ((cmn (M 30 p) (M 33 p) (M 30 q) (M 33 q)) * (cmn (M 32 p) (M 35 p) (M 32 q) (M 35 q))))), some (.int (nI (q + 1))), some (.int (cmn (M 30 p) (M 33 p) (M 30 q) (M 33 q))), some (.int (cmn (M 32 p) (M 35 p) (M 32 q) (M 35 q))), some (.int ((M 28 p) - (M 28 q)))]) rfl rfl (by decide) (nI_1 _) rfl ?_
                  refine ev_s rfl ?_
                  have e9 := ih (q + 1) (by omega) (some (.int (cmn (M 30 p) (M 33 p) (M 30 q) (M 33 q)))) (some (.int (cmn (M 32 p) (M 35 p) (M 32 q) (M 35 q)))) (some (.int ((M 28 p) - (M 28 q)))) (fun j hj => by
                    rcases Nat.lt_or_ge j q with h | h
                    · exact hI j h
                    · obtain rfl : j = q := by omega
                      exact Or.inr ⟨fun h => h.2.1 c16, fun h => h.elim (fun h => h.1 c24) (fun h => c26 h.2)⟩)
                  rw [show unS M p (q + 1) = unS M p q + cmX M p q * cmZ M p q from (if_neg c1).trans (if_pos c17)] at e9
                  exact e9
                · show Ev _ _ 257 _ _ _ _
                  refine ev_ik (v := 0) rfl (by decide) ?_
                  refine ev_rz rfl rfl (by decide) ?_ ?_
                  · exact some_i (zi_f (show ¬ ftM M p from fun h => (h.2.1 q hq).elim c1 (fun h3 => h3.2 (Or.inr ⟨c25, c26⟩)))).symm
                  · rfl
            · show Ev _ _ 234 _ _ _ _
              iterate 3 refine ev_s rfl ?_
              refine ev_cv (vs := [(.ref 21), (.int (nI p)), (.int (nI q))]) (rest := []) (rv := (some (.int (zi (mBf M p q))))) rfl rfl rfl (rd np M L (by omega) rfl) rfl rfl rfl rfl (rn_isBefore (a := p) (b := q) (by omega) (by omega) _) ?_
              show Ev _ _ 240 _ [(.int (zi (mBf M p q)))] _ _
              refine ev_if rfl rfl (ev_bzn (fun c27 => ?_) (fun c27 => ?_))
              · show Ev _ _ 257 _ _ _ _
                refine ev_ik (v := 0) rfl (by decide) ?_
                refine ev_rz rfl rfl (by decide) ?_ ?_
                · exact some_i (zi_f (show ¬ ftM M p from fun h => (h.2.1 q hq).elim c1 (fun h3 => h3.2 (Or.inl ⟨c24, c27⟩)))).symm
                · rfl
              · show Ev _ _ 243 _ _ _ _
                refine ev_s rfl ?_
                refine ev_if rfl rfl (ev_br (zb_ge _ _ _ _) (fun c28 => ?_) (fun c28 => ?_))
                · show Ev _ _ 259 _ _ _ _
                  refine ev_inc (y := 1) (v := nI (q + 1)) (ls' := [some (.ref 21), some (.int (nI p)), some (.int ((unS M p q) + ((cmn (M 30 p) (M 33 p) (M 30 q) (M 33 q)) * (cmn (M 32 p) (M 35 p) (M 32 q) (M 35 q))))), some (.int (nI (q + 1))), some (.int (cmn (M 30 p) (M 33 p) (M 30 q) (M 33 q))), some (.int (cmn (M 32 p) (M 35 p) (M 32 q) (M 35 q))), some (.int ((M 28 p) - (M 28 q)))]) rfl rfl (by decide) (nI_1 _) rfl ?_
                  refine ev_s rfl ?_
                  have e9 := ih (q + 1) (by omega) (some (.int (cmn (M 30 p) (M 33 p) (M 30 q) (M 33 q)))) (some (.int (cmn (M 32 p) (M 35 p) (M 32 q) (M 35 q)))) (some (.int ((M 28 p) - (M 28 q)))) (fun j hj => by
                    rcases Nat.lt_or_ge j q with h | h
                    · exact hI j h
                    · obtain rfl : j = q := by omega
                      exact Or.inr ⟨fun h => h.2.1 c16, fun h => h.elim (fun h => c27 h.2) (fun h => h.1 c28)⟩)
                  rw [show unS M p (q + 1) = unS M p q + cmX M p q * cmZ M p q from (if_neg c1).trans (if_pos c17)] at e9
                  exact e9
                · show Ev _ _ 248 _ _ _ _
                  iterate 3 refine ev_s rfl ?_
                  refine ev_cv (vs := [(.ref 21), (.int (nI q)), (.int (nI p))]) (rest := []) (rv := (some (.int (zi (mBf M q p))))) rfl rfl rfl (rd np M L (by omega) rfl) rfl rfl rfl rfl (rn_isBefore (a := q) (b := p) (by omega) (by omega) _) ?_
                  show Ev _ _ 254 _ [(.int (zi (mBf M q p)))] _ _
                  refine ev_if rfl rfl (ev_bze (fun c29 => ?_) (fun c29 => ?_))
                  · show Ev _ _ 259 _ _ _ _
                    refine ev_inc (y := 1) (v := nI (q + 1)) (ls' := [some (.ref 21), some (.int (nI p)), some (.int ((unS M p q) + ((cmn (M 30 p) (M 33 p) (M 30 q) (M 33 q)) * (cmn (M 32 p) (M 35 p) (M 32 q) (M 35 q))))), some (.int (nI (q + 1))), some (.int (cmn (M 30 p) (M 33 p) (M 30 q) (M 33 q))), some (.int (cmn (M 32 p) (M 35 p) (M 32 q) (M 35 q))), some (.int ((M 28 p) - (M 28 q)))]) rfl rfl (by decide) (nI_1 _) rfl ?_
                    refine ev_s rfl ?_
                    have e9 := ih (q + 1) (by omega) (some (.int (cmn (M 30 p) (M 33 p) (M 30 q) (M 33 q)))) (some (.int (cmn (M 32 p) (M 35 p) (M 32 q) (M 35 q)))) (some (.int ((M 28 p) - (M 28 q)))) (fun j hj => by
                      rcases Nat.lt_or_ge j q with h | h
                      · exact hI j h
                      · obtain rfl : j = q := by omega
                        exact Or.inr ⟨fun h => h.2.1 c16, fun h => h.elim (fun h => c27 h.2) (fun h => c29 h.2)⟩)
                    rw [show unS M p (q + 1) = unS M p q + cmX M p q * cmZ M p q from (if_neg c1).trans (if_pos c17)] at e9
                    exact e9
                  · show Ev _ _ 257 _ _ _ _
                    refine ev_ik (v := 0) rfl (by decide) ?_
                    refine ev_rz rfl rfl (by decide) ?_ ?_
                    · exact some_i (zi_f (show ¬ ftM M p from fun h => (h.2.1 q hq).elim c1 (fun h3 => h3.2 (Or.inr ⟨c28, c29⟩)))).symm
                    · rfl
        · show Ev _ _ 148 _ _ _ _
          refine ev_s rfl ?_
          refine ev_gf (rd np M L (by omega) rfl) rfl rfl rfl ?_
          refine ev_s rfl ?_
          refine ev_ia (rd np M L (by omega) rfl) rfl (zin_nI (by omega) (by decide)) ?_
          refine ev_s rfl ?_
          refine ev_gf (rd np M L (by omega) rfl) rfl rfl rfl ?_
          refine ev_s rfl ?_
          refine ev_ia (rd np M L (by omega) rfl) rfl (zin_nI (by omega) (by decide)) ?_
          refine ev_s rfl ?_
          refine ev_gf (rd np M L (by omega) rfl) rfl rfl rfl ?_
          refine ev_s rfl ?_
          refine ev_ia (rd np M L (by omega) rfl) rfl (zin_nI (by omega) (by decide)) ?_
          refine ev_s rfl ?_
          refine ev_gf (rd np M L (by omega) rfl) rfl rfl rfl ?_
          refine ev_s rfl ?_
          refine ev_ia (rd np M L (by omega) rfl) rfl (zin_nI (by omega) (by decide)) ?_
          refine ev_cs (vs := [(.int (M 31 p)), (.int (M 34 p)), (.int (M 31 q)), (.int (M 34 q))]) (rest := []) (rv := (some (.int (cmn (M 31 p) (M 34 p) (M 31 q) (M 34 q))))) rfl rfl rfl rfl rfl (rn_common _) ?_
          show Ev _ _ 175 _ [(.int (cmn (M 31 p) (M 34 p) (M 31 q) (M 34 q)))] _ _
          refine ev_if rfl rfl (ev_br (zb_le _ _ _ _) (fun c30 => ?_) (fun c30 => ?_))
          · show Ev _ _ 180 _ _ _ _
            iterate 2 refine ev_s rfl ?_
            refine ev_gf (rd np M L (by omega) rfl) rfl rfl rfl ?_
            refine ev_s rfl ?_
            refine ev_ia (rd np M L (by omega) rfl) rfl (zin_nI (by omega) (by decide)) ?_
            refine ev_s rfl ?_
            refine ev_gf (rd np M L (by omega) rfl) rfl rfl rfl ?_
            refine ev_s rfl ?_
            refine ev_ia (rd np M L (by omega) rfl) rfl (zin_nI (by omega) (by decide)) ?_
            iterate 2 refine ev_s rfl ?_
            refine ev_gf (rd np M L (by omega) rfl) rfl rfl rfl ?_
            refine ev_s rfl ?_
            refine ev_ia (rd np M L (by omega) rfl) rfl (zin_nI (by omega) (by decide)) ?_
            refine ev_ic rfl rfl (ev_bn (fun c31 => ?_) (fun c31 => ?_))
            · show Ev _ _ 211 _ _ _ _
              refine ev_ik (v := 0) rfl (by decide) ?_
              refine ev_s rfl ?_
              refine ev_s (ls' := [some (.ref 21), some (.int (nI p)), some (.int ((unS M p q) + 0)), some (.int (nI q)), some (.int (cmn (M 30 p) (M 33 p) (M 30 q) (M 33 q))), some (.int (cmn (M 32 p) (M 35 p) (M 32 q) (M 35 q))), v6]) rfl ?_
              refine ev_s rfl ?_
              refine ev_gf (rd np M L (by omega) rfl) rfl rfl rfl ?_
              refine ev_s rfl ?_
              refine ev_ia (rd np M L (by omega) rfl) rfl (zin_nI (by omega) (by decide)) ?_
              refine ev_s rfl ?_
              refine ev_gf (rd np M L (by omega) rfl) rfl rfl rfl ?_
              refine ev_s rfl ?_
              refine ev_ia (rd np M L (by omega) rfl) rfl (zin_nI (by omega) (by decide)) ?_
              refine ev_s rfl ?_
              refine ev_s (ls' := [some (.ref 21), some (.int (nI p)), some (.int ((unS M p q) + 0)), some (.int (nI q)), some (.int (cmn (M 30 p) (M 33 p) (M 30 q) (M 33 q))), some (.int (cmn (M 32 p) (M 35 p) (M 32 q) (M 35 q))), some (.int ((M 28 p) - (M 28 q)))]) rfl ?_
              refine ev_s rfl ?_
              refine ev_if rfl rfl (ev_br (zb_le _ _ _ _) (fun c32 => ?_) (fun c32 => ?_))
              · show Ev _ _ 243 _ _ _ _
                refine ev_s rfl ?_
                refine ev_if rfl rfl (ev_br (zb_ge _ _ _ _) (fun c33 => ?_) (fun c33 => ?_))
                · show Ev _ _ 259 _ _ _ _
                  refine ev_inc (y := 1) (v := nI (q + 1)) (ls' := [some (.ref 21), some (.int (nI p)), some (.int ((unS M p q) + 0)), some (.int (nI (q + 1))), some (.int (cmn (M 30 p) (M 33 p) (M 30 q) (M 33 q))), some (.int (cmn (M 32 p) (M 35 p) (M 32 q) (M 35 q))), some (.int ((M 28 p) - (M 28 q)))]) rfl rfl (by decide) (nI_1 _) rfl ?_
                  refine ev_s rfl ?_
                  have e9 := ih (q + 1) (by omega) (some (.int (cmn (M 30 p) (M 33 p) (M 30 q) (M 33 q)))) (some (.int (cmn (M 32 p) (M 35 p) (M 32 q) (M 35 q)))) (some (.int ((M 28 p) - (M 28 q)))) (fun j hj => by
                    rcases Nat.lt_or_ge j q with h | h
                    · exact hI j h
                    · obtain rfl : j = q := by omega
                      exact Or.inr ⟨fun h => h.2.2 c30, fun h => h.elim (fun h => h.1 c32) (fun h => h.1 c33)⟩)
                  rw [show unS M p (q + 1) = unS M p q + 0 from (if_neg c1).trans (if_neg c31)] at e9
                  exact e9
                · show Ev _ _ 248 _ _ _ _
                  iterate 3 refine ev_s rfl ?_
                  refine ev_cv (vs := [(.ref 21), (.int (nI q)), (.int (nI p))]) (rest := []) (rv := (some (.int (zi (mBf M q p))))) rfl rfl rfl (rd np M L (by omega) rfl) rfl rfl rfl rfl (rn_isBefore (a := q) (b := p) (by omega) (by omega) _) ?_
                  show Ev _ _ 254 _ [(.int (zi (mBf M q p)))] _ _
                  refine ev_if rfl rfl (ev_bze (fun c34 => ?_) (fun c34 => ?_))
                  · show Ev _ _ 259 _ _ _ _
                    refine ev_inc (y := 1) (v := nI (q + 1)) (ls' := [some (.ref 21), some (.int (nI p)), some (.int ((unS M p q) + 0)), some (.int (nI (q + 1))), some (.int (cmn (M 30 p) (M 33 p) (M 30 q) (M 33 q))), some (.int (cmn (M 32 p) (M 35 p) (M 32 q) (M 35 q))), some (.int ((M 28 p) - (M 28 q)))]) rfl rfl (by decide) (nI_1 _) rfl ?_
                    refine ev_s rfl ?_
                    have e9 := ih (q + 1) (by omega) (some (.int (cmn (M 30 p) (M 33 p) (M 30 q) (M 33 q)))) (some (.int (cmn (M 32 p) (M 35 p) (M 32 q) (M 35 q)))) (some (.int ((M 28 p) - (M 28 q)))) (fun j hj => by
                      rcases Nat.lt_or_ge j q with h | h
                      · exact hI j h
                      · obtain rfl : j = q := by omega
                        exact Or.inr ⟨fun h => h.2.2 c30, fun h => h.elim (fun h => h.1 c32) (fun h => c34 h.2)⟩)
                    rw [show unS M p (q + 1) = unS M p q + 0 from (if_neg c1).trans (if_neg c31)] at e9
                    exact e9
                  · show Ev _ _ 257 _ _ _ _
                    refine ev_ik (v := 0) rfl (by decide) ?_
                    refine ev_rz rfl rfl (by decide) ?_ ?_
                    · exact some_i (zi_f (show ¬ ftM M p from fun h => (h.2.1 q hq).elim c1 (fun h3 => h3.2 (Or.inr ⟨c33, c34⟩)))).symm
                    · rfl
              · show Ev _ _ 234 _ _ _ _
                iterate 3 refine ev_s rfl ?_
                refine ev_cv (vs := [(.ref 21), (.int (nI p)), (.int (nI q))]) (rest := []) (rv := (some (.int (zi (mBf M p q))))) rfl rfl rfl (rd np M L (by omega) rfl) rfl rfl rfl rfl (rn_isBefore (a := p) (b := q) (by omega) (by omega) _) ?_
                show Ev _ _ 240 _ [(.int (zi (mBf M p q)))] _ _
                refine ev_if rfl rfl (ev_bzn (fun c35 => ?_) (fun c35 => ?_))
                · show Ev _ _ 257 _ _ _ _
                  refine ev_ik (v := 0) rfl (by decide) ?_
                  refine ev_rz rfl rfl (by decide) ?_ ?_
                  · exact some_i (zi_f (show ¬ ftM M p from fun h => (h.2.1 q hq).elim c1 (fun h3 => h3.2 (Or.inl ⟨c32, c35⟩)))).symm
                  · rfl
                · show Ev _ _ 243 _ _ _ _
                  refine ev_s rfl ?_
                  refine ev_if rfl rfl (ev_br (zb_ge _ _ _ _) (fun c36 => ?_) (fun c36 => ?_))
                  · show Ev _ _ 259 _ _ _ _
                    refine ev_inc (y := 1) (v := nI (q + 1)) (ls' := [some (.ref 21), some (.int (nI p)), some (.int ((unS M p q) + 0)), some (.int (nI (q + 1))), some (.int (cmn (M 30 p) (M 33 p) (M 30 q) (M 33 q))), some (.int (cmn (M 32 p) (M 35 p) (M 32 q) (M 35 q))), some (.int ((M 28 p) - (M 28 q)))]) rfl rfl (by decide) (nI_1 _) rfl ?_
                    refine ev_s rfl ?_
                    have e9 := ih (q + 1) (by omega) (some (.int (cmn (M 30 p) (M 33 p) (M 30 q) (M 33 q)))) (some (.int (cmn (M 32 p) (M 35 p) (M 32 q) (M 35 q)))) (some (.int ((M 28 p) - (M 28 q)))) (fun j hj => by
                      rcases Nat.lt_or_ge j q with h | h
                      · exact hI j h
                      · obtain rfl : j = q := by omega
                        exact Or.inr ⟨fun h => h.2.2 c30, fun h => h.elim (fun h => c35 h.2) (fun h => h.1 c36)⟩)
                    rw [show unS M p (q + 1) = unS M p q + 0 from (if_neg c1).trans (if_neg c31)] at e9
                    exact e9
                  · show Ev _ _ 248 _ _ _ _
                    iterate 3 refine ev_s rfl ?_
                    refine ev_cv (vs := [(.ref 21), (.int (nI q)), (.int (nI p))]) (rest := []) (rv := (some (.int (zi (mBf M q p))))) rfl rfl rfl (rd np M L (by omega) rfl) rfl rfl rfl rfl (rn_isBefore (a := q) (b := p) (by omega) (by omega) _) ?_
                    show Ev _ _ 254 _ [(.int (zi (mBf M q p)))] _ _
                    refine ev_if rfl rfl (ev_bze (fun c37 => ?_) (fun c37 => ?_))
                    · show Ev _ _ 259 _ _ _ _
                      refine ev_inc (y := 1) (v := nI (q + 1)) (ls' := [some (.ref 21), some (.int (nI p)), some (.int ((unS M p q) + 0)), some (.int (nI (q + 1))), some (.int (cmn (M 30 p) (M 33 p) (M 30 q) (M 33 q))), some (.int (cmn (M 32 p) (M 35 p) (M 32 q) (M 35 q))), some (.int ((M 28 p) - (M 28 q)))]) rfl rfl (by decide) (nI_1 _) rfl ?_
                      refine ev_s rfl ?_
                      have e9 := ih (q + 1) (by omega) (some (.int (cmn (M 30 p) (M 33 p) (M 30 q) (M 33 q)))) (some (.int (cmn (M 32 p) (M 35 p) (M 32 q) (M 35 q)))) (some (.int ((M 28 p) - (M 28 q)))) (fun j hj => by
                        rcases Nat.lt_or_ge j q with h | h
                        · exact hI j h
                        · obtain rfl : j = q := by omega
                          exact Or.inr ⟨fun h => h.2.2 c30, fun h => h.elim (fun h => c35 h.2) (fun h => c37 h.2)⟩)
                      rw [show unS M p (q + 1) = unS M p q + 0 from (if_neg c1).trans (if_neg c31)] at e9
                      exact e9
                    · show Ev _ _ 257 _ _ _ _
                      refine ev_ik (v := 0) rfl (by decide) ?_
                      refine ev_rz rfl rfl (by decide) ?_ ?_
                      · exact some_i (zi_f (show ¬ ftM M p from fun h => (h.2.1 q hq).elim c1 (fun h3 => h3.2 (Or.inr ⟨c36, c37⟩)))).symm
                      · rfl
            · show Ev _ _ 203 _ _ _ _
              iterate 5 refine ev_s rfl ?_
              refine ev_s (ls' := [some (.ref 21), some (.int (nI p)), some (.int ((unS M p q) + ((cmn (M 30 p) (M 33 p) (M 30 q) (M 33 q)) * (cmn (M 32 p) (M 35 p) (M 32 q) (M 35 q))))), some (.int (nI q)), some (.int (cmn (M 30 p) (M 33 p) (M 30 q) (M 33 q))), some (.int (cmn (M 32 p) (M 35 p) (M 32 q) (M 35 q))), v6]) rfl ?_
              refine ev_s rfl ?_
              refine ev_gf (rd np M L (by omega) rfl) rfl rfl rfl ?_
              refine ev_s rfl ?_
              refine ev_ia (rd np M L (by omega) rfl) rfl (zin_nI (by omega) (by decide)) ?_
              refine ev_s rfl ?_
              refine ev_gf (rd np M L (by omega) rfl) rfl rfl rfl ?_
              refine ev_s rfl ?_
              refine ev_ia (rd np M L (by omega) rfl) rfl (zin_nI (by omega) (by decide)) ?_
              refine ev_s rfl ?_
              refine ev_s (ls' := [some (.ref 21), some (.int (nI p)), some (.int ((unS M p q) + ((cmn (M 30 p) (M 33 p) (M 30 q) (M 33 q)) * (cmn (M 32 p) (M 35 p) (M 32 q) (M 35 q))))), some (.int (nI q)), some (.int (cmn (M 30 p) (M 33 p) (M 30 q) (M 33 q))), some (.int (cmn (M 32 p) (M 35 p) (M 32 q) (M 35 q))), some (.int ((M 28 p) - (M 28 q)))]) rfl ?_
              refine ev_s rfl ?_
              refine ev_if rfl rfl (ev_br (zb_le _ _ _ _) (fun c38 => ?_) (fun c38 => ?_))
              · show Ev _ _ 243 _ _ _ _
                refine ev_s rfl ?_
                refine ev_if rfl rfl (ev_br (zb_ge _ _ _ _) (fun c39 => ?_) (fun c39 => ?_))
                · show Ev _ _ 259 _ _ _ _
                  refine ev_inc (y := 1) (v := nI (q + 1)) (ls' := [some (.ref 21), some (.int (nI p)), some (.int ((unS M p q) + ((cmn (M 30 p) (M 33 p) (M 30 q) (M 33 q)) * (cmn (M 32 p) (M 35 p) (M 32 q) (M 35 q))))), some (.int (nI (q + 1))), some (.int (cmn (M 30 p) (M 33 p) (M 30 q) (M 33 q))), some (.int (cmn (M 32 p) (M 35 p) (M 32 q) (M 35 q))), some (.int ((M 28 p) - (M 28 q)))]) rfl rfl (by decide) (nI_1 _) rfl ?_
                  refine ev_s rfl ?_
                  have e9 := ih (q + 1) (by omega) (some (.int (cmn (M 30 p) (M 33 p) (M 30 q) (M 33 q)))) (some (.int (cmn (M 32 p) (M 35 p) (M 32 q) (M 35 q)))) (some (.int ((M 28 p) - (M 28 q)))) (fun j hj => by
                    rcases Nat.lt_or_ge j q with h | h
                    · exact hI j h
                    · obtain rfl : j = q := by omega
                      exact Or.inr ⟨fun h => h.2.2 c30, fun h => h.elim (fun h => h.1 c38) (fun h => h.1 c39)⟩)
                  rw [show unS M p (q + 1) = unS M p q + cmX M p q * cmZ M p q from (if_neg c1).trans (if_pos c31)] at e9
                  exact e9
                · show Ev _ _ 248 _ _ _ _
                  iterate 3 refine ev_s rfl ?_
                  refine ev_cv (vs := [(.ref 21), (.int (nI q)), (.int (nI p))]) (rest := []) (rv := (some (.int (zi (mBf M q p))))) rfl rfl rfl (rd np M L (by omega) rfl) rfl rfl rfl rfl (rn_isBefore (a := q) (b := p) (by omega) (by omega) _) ?_
                  show Ev _ _ 254 _ [(.int (zi (mBf M q p)))] _ _
                  refine ev_if rfl rfl (ev_bze (fun c40 => ?_) (fun c40 => ?_))
                  · show Ev _ _ 259 _ _ _ _
                    refine ev_inc (y := 1) (v := nI (q + 1)) (ls' := [some (.ref 21), some (.int (nI p)), some (.int ((unS M p q) + ((cmn (M 30 p) (M 33 p) (M 30 q) (M 33 q)) * (cmn (M 32 p) (M 35 p) (M 32 q) (M 35 q))))), some (.int (nI (q + 1))), some (.int (cmn (M 30 p) (M 33 p) (M 30 q) (M 33 q))), some (.int (cmn (M 32 p) (M 35 p) (M 32 q) (M 35 q))), some (.int ((M 28 p) - (M 28 q)))]) rfl rfl (by decide) (nI_1 _) rfl ?_
                    refine ev_s rfl ?_
                    have e9 := ih (q + 1) (by omega) (some (.int (cmn (M 30 p) (M 33 p) (M 30 q) (M 33 q)))) (some (.int (cmn (M 32 p) (M 35 p) (M 32 q) (M 35 q)))) (some (.int ((M 28 p) - (M 28 q)))) (fun j hj => by
                      rcases Nat.lt_or_ge j q with h | h
                      · exact hI j h
                      · obtain rfl : j = q := by omega
                        exact Or.inr ⟨fun h => h.2.2 c30, fun h => h.elim (fun h => h.1 c38) (fun h => c40 h.2)⟩)
                    rw [show unS M p (q + 1) = unS M p q + cmX M p q * cmZ M p q from (if_neg c1).trans (if_pos c31)] at e9
                    exact e9
                  · show Ev _ _ 257 _ _ _ _
                    refine ev_ik (v := 0) rfl (by decide) ?_
                    refine ev_rz rfl rfl (by decide) ?_ ?_
                    · exact some_i (zi_f (show ¬ ftM M p from fun h => (h.2.1 q hq).elim c1 (fun h3 => h3.2 (Or.inr ⟨c39, c40⟩)))).symm
                    · rfl
              · show Ev _ _ 234 _ _ _ _
                iterate 3 refine ev_s rfl ?_
                refine ev_cv (vs := [(.ref 21), (.int (nI p)), (.int (nI q))]) (rest := []) (rv := (some (.int (zi (mBf M p q))))) rfl rfl rfl (rd np M L (by omega) rfl) rfl rfl rfl rfl (rn_isBefore (a := p) (b := q) (by omega) (by omega) _) ?_
                show Ev _ _ 240 _ [(.int (zi (mBf M p q)))] _ _
                refine ev_if rfl rfl (ev_bzn (fun c41 => ?_) (fun c41 => ?_))
                · show Ev _ _ 257 _ _ _ _
                  refine ev_ik (v := 0) rfl (by decide) ?_
                  refine ev_rz rfl rfl (by decide) ?_ ?_
                  · exact some_i (zi_f (show ¬ ftM M p from fun h => (h.2.1 q hq).elim c1 (fun h3 => h3.2 (Or.inl ⟨c38, c41⟩)))).symm
                  · rfl
                · show Ev _ _ 243 _ _ _ _
                  refine ev_s rfl ?_
                  refine ev_if rfl rfl (ev_br (zb_ge _ _ _ _) (fun c42 => ?_) (fun c42 => ?_))
                  · show Ev _ _ 259 _ _ _ _
                    refine ev_inc (y := 1) (v := nI (q + 1)) (ls' := [some (.ref 21), some (.int (nI p)), some (.int ((unS M p q) + ((cmn (M 30 p) (M 33 p) (M 30 q) (M 33 q)) * (cmn (M 32 p) (M 35 p) (M 32 q) (M 35 q))))), some (.int (nI (q + 1))), some (.int (cmn (M 30 p) (M 33 p) (M 30 q) (M 33 q))), some (.int (cmn (M 32 p) (M 35 p) (M 32 q) (M 35 q))), some (.int ((M 28 p) - (M 28 q)))]) rfl rfl (by decide) (nI_1 _) rfl ?_
                    refine ev_s rfl ?_
                    have e9 := ih (q + 1) (by omega) (some (.int (cmn (M 30 p) (M 33 p) (M 30 q) (M 33 q)))) (some (.int (cmn (M 32 p) (M 35 p) (M 32 q) (M 35 q)))) (some (.int ((M 28 p) - (M 28 q)))) (fun j hj => by
                      rcases Nat.lt_or_ge j q with h | h
                      · exact hI j h
                      · obtain rfl : j = q := by omega
                        exact Or.inr ⟨fun h => h.2.2 c30, fun h => h.elim (fun h => c41 h.2) (fun h => h.1 c42)⟩)
                    rw [show unS M p (q + 1) = unS M p q + cmX M p q * cmZ M p q from (if_neg c1).trans (if_pos c31)] at e9
                    exact e9
                  · show Ev _ _ 248 _ _ _ _
                    iterate 3 refine ev_s rfl ?_
                    refine ev_cv (vs := [(.ref 21), (.int (nI q)), (.int (nI p))]) (rest := []) (rv := (some (.int (zi (mBf M q p))))) rfl rfl rfl (rd np M L (by omega) rfl) rfl rfl rfl rfl (rn_isBefore (a := q) (b := p) (by omega) (by omega) _) ?_
                    show Ev _ _ 254 _ [(.int (zi (mBf M q p)))] _ _
                    refine ev_if rfl rfl (ev_bze (fun c43 => ?_) (fun c43 => ?_))
                    · show Ev _ _ 259 _ _ _ _
                      refine ev_inc (y := 1) (v := nI (q + 1)) (ls' := [some (.ref 21), some (.int (nI p)), some (.int ((unS M p q) + ((cmn (M 30 p) (M 33 p) (M 30 q) (M 33 q)) * (cmn (M 32 p) (M 35 p) (M 32 q) (M 35 q))))), some (.int (nI (q + 1))), some (.int (cmn (M 30 p) (M 33 p) (M 30 q) (M 33 q))), some (.int (cmn (M 32 p) (M 35 p) (M 32 q) (M 35 q))), some (.int ((M 28 p) - (M 28 q)))]) rfl rfl (by decide) (nI_1 _) rfl ?_
                      refine ev_s rfl ?_
                      have e9 := ih (q + 1) (by omega) (some (.int (cmn (M 30 p) (M 33 p) (M 30 q) (M 33 q)))) (some (.int (cmn (M 32 p) (M 35 p) (M 32 q) (M 35 q)))) (some (.int ((M 28 p) - (M 28 q)))) (fun j hj => by
                        rcases Nat.lt_or_ge j q with h | h
                        · exact hI j h
                        · obtain rfl : j = q := by omega
                          exact Or.inr ⟨fun h => h.2.2 c30, fun h => h.elim (fun h => c41 h.2) (fun h => c43 h.2)⟩)
                      rw [show unS M p (q + 1) = unS M p q + cmX M p q * cmZ M p q from (if_neg c1).trans (if_pos c31)] at e9
                      exact e9
                    · show Ev _ _ 257 _ _ _ _
                      refine ev_ik (v := 0) rfl (by decide) ?_
                      refine ev_rz rfl rfl (by decide) ?_ ?_
                      · exact some_i (zi_f (show ¬ ftM M p from fun h => (h.2.1 q hq).elim c1 (fun h3 => h3.2 (Or.inr ⟨c42, c43⟩)))).symm
                      · rfl
          · show Ev _ _ 178 _ _ _ _
            refine ev_ik (v := 0) rfl (by decide) ?_
            refine ev_rz rfl rfl (by decide) ?_ ?_
            · exact some_i (zi_f (show ¬ ftM M p from fun h => (h.2.1 q hq).elim c1 (fun h3 => h3.1 ⟨c2, c16, c30⟩))).symm
            · rfl
set_option maxHeartbeats 4000000 in
theorem rn_fits {np : Nat} {M : Nat → Nat → Int32} {L : Nat → Int64} {p : Nat} (hp : p < 6) (d : Nat) : Rn (d + 3) mX6_fits [(.ref 21), (.int (nI p))] (mk np M L) (some (.int (zi (ftM M p)))) (mk np M L) := by
  unfold Rn
  refine ev_s rfl ?_
  refine ev_gf (rd np M L (by omega) rfl) rfl rfl rfl ?_
  refine ev_s rfl ?_
  refine ev_ia (rd np M L (by omega) rfl) rfl (zin_nI (by omega) (by decide)) ?_
  refine ev_s rfl ?_
  refine ev_gf (rd np M L (by omega) rfl) rfl rfl rfl ?_
  refine ev_s rfl ?_
  refine ev_ia (rd np M L (by omega) rfl) rfl (zin_nI (by omega) (by decide)) ?_
  iterate 2 refine ev_s rfl ?_
  refine ev_gf (rd np M L (by omega) rfl) rfl rfl rfl ?_
  refine ev_ic rfl rfl (ev_br (zb_gt _ _ _ _) (fun c1 => ?_) (fun c1 => ?_))
  · show Ev _ _ 60 _ _ _ _
    refine ev_ik (v := 0) rfl (by decide) ?_
    refine ev_rz rfl rfl (by decide) ?_ ?_
    · exact some_i (zi_f (show ¬ ftM M p from fun h => h.1.1 c1)).symm
    · rfl
  · show Ev _ _ 20 _ _ _ _
    refine ev_s rfl ?_
    refine ev_gf (rd np M L (by omega) rfl) rfl rfl rfl ?_
    refine ev_s rfl ?_
    refine ev_ia (rd np M L (by omega) rfl) rfl (zin_nI (by omega) (by decide)) ?_
    refine ev_s rfl ?_
    refine ev_gf (rd np M L (by omega) rfl) rfl rfl rfl ?_
    refine ev_s rfl ?_
    refine ev_ia (rd np M L (by omega) rfl) rfl (zin_nI (by omega) (by decide)) ?_
    iterate 2 refine ev_s rfl ?_
    refine ev_gf (rd np M L (by omega) rfl) rfl rfl rfl ?_
    refine ev_ic rfl rfl (ev_br (zb_gt _ _ _ _) (fun c2 => ?_) (fun c2 => ?_))
    · show Ev _ _ 60 _ _ _ _
      refine ev_ik (v := 0) rfl (by decide) ?_
      refine ev_rz rfl rfl (by decide) ?_ ?_
      · exact some_i (zi_f (show ¬ ftM M p from fun h => h.1.2.1 c2)).symm
      · rfl
    · show Ev _ _ 40 _ _ _ _
      refine ev_s rfl ?_
      refine ev_gf (rd np M L (by omega) rfl) rfl rfl rfl ?_
      refine ev_s rfl ?_
      refine ev_ia (rd np M L (by omega) rfl) rfl (zin_nI (by omega) (by decide)) ?_
      refine ev_s rfl ?_
      refine ev_gf (rd np M L (by omega) rfl) rfl rfl rfl ?_
      refine ev_s rfl ?_
      refine ev_ia (rd np M L (by omega) rfl) rfl (zin_nI (by omega) (by decide)) ?_
      iterate 2 refine ev_s rfl ?_
      refine ev_gf (rd np M L (by omega) rfl) rfl rfl rfl ?_
      refine ev_ic rfl rfl (ev_br (zb_le _ _ _ _) (fun c3 => ?_) (fun c3 => ?_))
      · show Ev _ _ 62 _ _ _ _
        refine ev_ik (v := 0) rfl (by decide) ?_
        refine ev_s (ls' := [some (.ref 21), some (.int (nI p)), some (.int 0), none, none, none, none]) rfl ?_
        refine ev_ik (v := 0) rfl (by decide) ?_
        refine ev_s (ls' := [some (.ref 21), some (.int (nI p)), some (.int 0), some (.int 0), none, none, none]) rfl ?_
        exact lp_ft hp ⟨c1, c2, c3⟩ d p 0 (by omega) none none none (fun j hj => absurd hj (by omega))
      · show Ev _ _ 60 _ _ _ _
        refine ev_ik (v := 0) rfl (by decide) ?_
        refine ev_rz rfl rfl (by decide) ?_ ?_
        · exact some_i (zi_f (show ¬ ftM M p from fun h => c3 h.1.2.2)).symm
        · rfl
