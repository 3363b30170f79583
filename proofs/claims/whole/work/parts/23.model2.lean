/-! ===== LoadSpaceModel: isClear, unload, piece, fits ===== -/
theorem ev_cut {d mi pc pc2 : Nat} {ls ls2 : zLs} {st st2 : List Value} {hp hp2 : zHp} {Q : zCf → Prop} (K : Ev d mi pc2 ls2 st2 hp2 Q) (h : Ev d mi pc2 ls2 st2 hp2 Q → Ev d mi pc ls st hp Q) : Ev d mi pc ls st hp Q := h K

def ovX (M : Nat → Nat → Int32) (p q : Nat) : Prop := ¬ cmn (M 38 p) (M 41 p) (M 38 q) (M 41 q) ≤ 0
def ovY (M : Nat → Nat → Int32) (p q : Nat) : Prop := ¬ cmn (M 39 p) (M 42 p) (M 39 q) (M 42 q) ≤ 0
def ovZ (M : Nat → Nat → Int32) (p q : Nat) : Prop := ¬ cmn (M 40 p) (M 43 p) (M 40 q) (M 43 q) ≤ 0
def mBad (M : Nat → Nat → Int32) (p q : Nat) : Prop := ¬ nI q = nI p ∧ ¬ M 37 q = 0 ∧ (ovX M p q ∧ ovZ M p q ∧ M 39 p + M 42 p ≤ M 39 q ∨ ovX M p q ∧ ovY M p q ∧ M 40 p + M 43 p ≤ M 40 q)
def mCl (M : Nat → Nat → Int32) (p : Nat) : Prop := ∀ q, q < 6 → ¬ mBad M p q
set_option maxHeartbeats 4000000 in
theorem lp_mclear {np : Nat} {M : Nat → Nat → Int32} {L : Nat → Int64} {p : Nat} (hp : p < 6) (d : Nat) : ∀ k i, i + k = 6 → ∀ v4 : Option Value, ∀ v5 : Option Value, ∀ v6 : Option Value, Ev (d + 1) mX6_isClear 4 [some (.ref 21), some (.int (nI p)), some (.int (zi (∀ q, q < i → ¬ mBad M p q))), some (.int (nI i)), v4, v5, v6] [] (mk np M L) (Qr mX6_isClear (some (.int (zi (mCl M p)))) (mk np M L)) := by
  intro k
  induction k with
  | zero =>
    intro i hik v4 v5 v6
    obtain rfl : i = 6 := by omega
    refine ev_s rfl ?_
    refine ev_bi (v := 6) rfl (by decide) ?_
    refine ev_ic rfl rfl ?_
    rw [show zbr .ge (nI 6) 6 215 10 = 215 from zge_t (n := 6) (by decide) (by omega) (by decide)]
    refine ev_s rfl ?_
    refine ev_rz rfl rfl (zi_01 _) ?_ ?_
    · rfl
    · rfl
  | succ k ih =>
    intro i hik v4 v5 v6
    have hi : i < 6 := by omega
    refine ev_s rfl ?_
    refine ev_bi (v := 6) rfl (by decide) ?_
    refine ev_ic rfl rfl ?_
    rw [show zbr .ge (nI i) 6 215 10 = 10 from zge_f (n := 6) (by decide) hi (by decide)]
    iterate 2 refine ev_s rfl ?_
    refine ev_ic rfl rfl (ev_br (zb_eq _ _ _ _) (fun c1 => ?_) (fun c1 => ?_))
    · show Ev _ _ 209 _ _ _ _
      refine ev_inc (y := 1) (v := nI (i + 1)) (ls' := [some (.ref 21), some (.int (nI p)), some (.int (zi (∀ q, q < i → ¬ mBad M p q))), some (.int (nI (i + 1))), v4, v5, v6]) rfl rfl (by decide) (nI_1 _) rfl ?_
      refine ev_s rfl ?_
      have e9 := ih (i + 1) (by omega) (v4) (v5) (v6)
      rw [show (∀ q, q < i + 1 → ¬ mBad M p q) = (∀ q, q < i → ¬ mBad M p q) from propext ⟨fun hA q hq => hA q (by omega), fun hA => (show ∀ q, q < i + 1 → ¬ mBad M p q from fun q hq hb => by
        rcases Nat.lt_or_ge q i with z | z
        · exact hA q z hb
        · obtain rfl : q = i := by omega
          exact hb.1 c1)⟩] at e9
      exact e9
    · show Ev _ _ 15 _ _ _ _
      refine ev_s rfl ?_
      refine ev_gf (rd np M L (by omega) rfl) rfl rfl rfl ?_
      refine ev_s rfl ?_
      refine ev_ba (rd np M L (by omega) rfl) rfl (zin_nI (by omega) (by decide)) ?_
      refine ev_if rfl rfl (ev_br (zb_eq _ _ _ _) (fun c2 => ?_) (fun c2 => ?_))
      · show Ev _ _ 209 _ _ _ _
        refine ev_inc (y := 1) (v := nI (i + 1)) (ls' := [some (.ref 21), some (.int (nI p)), some (.int (zi (∀ q, q < i → ¬ mBad M p q))), some (.int (nI (i + 1))), v4, v5, v6]) rfl rfl (by decide) (nI_1 _) rfl ?_
        refine ev_s rfl ?_
        have e9 := ih (i + 1) (by omega) (v4) (v5) (v6)
        rw [show (∀ q, q < i + 1 → ¬ mBad M p q) = (∀ q, q < i → ¬ mBad M p q) from propext ⟨fun hA q hq => hA q (by omega), fun hA => (show ∀ q, q < i + 1 → ¬ mBad M p q from fun q hq hb => by
          rcases Nat.lt_or_ge q i with z | z
          · exact hA q z hb
          · obtain rfl : q = i := by omega
            exact hb.2.1 c2)⟩] at e9
        exact e9
      · show Ev _ _ 24 _ _ _ _
        refine ev_s rfl ?_
        refine ev_gf (rd np M L (by omega) rfl) rfl rfl rfl ?_
        refine ev_s rfl ?_
        refine ev_ia (rd np M L (by omega) rfl) rfl (zin_nI (by omega) (by decide)) ?_
        refine ev_s rfl ?_
        refine ev_gf (rd np M L (by omega) rfl) rfl rfl rfl ?_
        refine ev_s rfl ?_
        refine ev_ia (rd np M L (by omega) rfl) rfl (zin_nI (by omega) (by decide)) ?_
        refine ev_s rfl ?_
        refine ev_gf (rd np M L (by omega) rfl) rfl rfl rfl ?_
        refine ev_s rfl ?_
        refine ev_ia (rd np M L (by omega) rfl) rfl (zin_nI (by omega) (by decide)) ?_
        refine ev_s rfl ?_
        refine ev_gf (rd np M L (by omega) rfl) rfl rfl rfl ?_
        refine ev_s rfl ?_
        refine ev_ia (rd np M L (by omega) rfl) rfl (zin_nI (by omega) (by decide)) ?_
        refine ev_cs (vs := [(.int (M 38 p)), (.int (M 41 p)), (.int (M 38 i)), (.int (M 41 i))]) (rest := []) (rv := (some (.int (cmn (M 38 p) (M 41 p) (M 38 i) (M 41 i))))) rfl rfl rfl rfl rfl (rn_common _) ?_
        show Ev _ _ 51 _ [(.int (cmn (M 38 p) (M 41 p) (M 38 i) (M 41 i)))] _ _
        refine ev_cut (pc2 := 59) (ls2 := [some (.ref 21), some (.int (nI p)), some (.int (zi (∀ q, q < i → ¬ mBad M p q))), some (.int (nI i)), v4, v5, v6]) (st2 := [(.int (zi (ovX M p i)))]) (hp2 := (mk np M L)) ?_ (fun hK1 => ?_)
        · show Ev _ _ 59 _ _ _ _
          refine ev_s (ls' := [some (.ref 21), some (.int (nI p)), some (.int (zi (∀ q, q < i → ¬ mBad M p q))), some (.int (nI i)), some (.int (zi (ovX M p i))), v5, v6]) rfl ?_
          refine ev_s rfl ?_
          refine ev_gf (rd np M L (by omega) rfl) rfl rfl rfl ?_
          refine ev_s rfl ?_
          refine ev_ia (rd np M L (by omega) rfl) rfl (zin_nI (by omega) (by decide)) ?_
          refine ev_s rfl ?_
          refine ev_gf (rd np M L (by omega) rfl) rfl rfl rfl ?_
          refine ev_s rfl ?_
          refine ev_ia (rd np M L (by omega) rfl) rfl (zin_nI (by omega) (by decide)) ?_
          refine ev_s rfl ?_
          refine ev_gf (rd np M L (by omega) rfl) rfl rfl rfl ?_
          refine ev_s rfl ?_
          refine ev_ia (rd np M L (by omega) rfl) rfl (zin_nI (by omega) (by decide)) ?_
          refine ev_s rfl ?_
          refine ev_gf (rd np M L (by omega) rfl) rfl rfl rfl ?_
          refine ev_s rfl ?_
          refine ev_ia (rd np M L (by omega) rfl) rfl (zin_nI (by omega) (by decide)) ?_
          refine ev_cs (vs := [(.int (M 39 p)), (.int (M 42 p)), (.int (M 39 i)), (.int (M 42 i))]) (rest := []) (rv := (some (.int (cmn (M 39 p) (M 42 p) (M 39 i) (M 42 i))))) rfl rfl rfl rfl rfl (rn_common _) ?_
          show Ev _ _ 88 _ [(.int (cmn (M 39 p) (M 42 p) (M 39 i) (M 42 i)))] _ _
          refine ev_cut (pc2 := 96) (ls2 := [some (.ref 21), some (.int (nI p)), some (.int (zi (∀ q, q < i → ¬ mBad M p q))), some (.int (nI i)), some (.int (zi (ovX M p i))), v5, v6]) (st2 := [(.int (zi (ovY M p i)))]) (hp2 := (mk np M L)) ?_ (fun hK2 => ?_)
          · show Ev _ _ 96 _ _ _ _
            refine ev_s (ls' := [some (.ref 21), some (.int (nI p)), some (.int (zi (∀ q, q < i → ¬ mBad M p q))), some (.int (nI i)), some (.int (zi (ovX M p i))), some (.int (zi (ovY M p i))), v6]) rfl ?_
            refine ev_s rfl ?_
            refine ev_gf (rd np M L (by omega) rfl) rfl rfl rfl ?_
            refine ev_s rfl ?_
            refine ev_ia (rd np M L (by omega) rfl) rfl (zin_nI (by omega) (by decide)) ?_
            refine ev_s rfl ?_
            refine ev_gf (rd np M L (by omega) rfl) rfl rfl rfl ?_
            refine ev_s rfl ?_
            refine ev_ia (rd np M L (by omega) rfl) rfl (zin_nI (by omega) (by decide)) ?_
            refine ev_s rfl ?_
            refine ev_gf (rd np M L (by omega) rfl) rfl rfl rfl ?_
            refine ev_s rfl ?_
            refine ev_ia (rd np M L (by omega) rfl) rfl (zin_nI (by omega) (by decide)) ?_
            refine ev_s rfl ?_
            refine ev_gf (rd np M L (by omega) rfl) rfl rfl rfl ?_
            refine ev_s rfl ?_
            refine ev_ia (rd np M L (by omega) rfl) rfl (zin_nI (by omega) (by decide)) ?_
            refine ev_cs (vs := [(.int (M 40 p)), (.int (M 43 p)), (.int (M 40 i)), (.int (M 43 i))]) (rest := []) (rv := (some (.int (cmn (M 40 p) (M 43 p) (M 40 i) (M 43 i))))) rfl rfl rfl rfl rfl (rn_common _) ?_
            show Ev _ _ 125 _ [(.int (cmn (M 40 p) (M 43 p) (M 40 i) (M 43 i)))] _ _
            refine ev_cut (pc2 := 133) (ls2 := [some (.ref 21), some (.int (nI p)), some (.int (zi (∀ q, q < i → ¬ mBad M p q))), some (.int (nI i)), some (.int (zi (ovX M p i))), some (.int (zi (ovY M p i))), v6]) (st2 := [(.int (zi (ovZ M p i)))]) (hp2 := (mk np M L)) ?_ (fun hK3 => ?_)
            · show Ev _ _ 133 _ _ _ _
              refine ev_s (ls' := [some (.ref 21), some (.int (nI p)), some (.int (zi (∀ q, q < i → ¬ mBad M p q))), some (.int (nI i)), some (.int (zi (ovX M p i))), some (.int (zi (ovY M p i))), some (.int (zi (ovZ M p i)))]) rfl ?_
              refine ev_s rfl ?_
              refine ev_cut (pc2 := 208) (ls2 := [some (.ref 21), some (.int (nI p)), some (.int (zi (∀ q, q < i → ¬ mBad M p q))), some (.int (nI i)), some (.int (zi (ovX M p i))), some (.int (zi (ovY M p i))), some (.int (zi (ovZ M p i)))]) (st2 := [(.int (zi ((∀ q, q < i → ¬ mBad M p q) ∧ ¬ mBad M p i)))]) (hp2 := (mk np M L)) ?_ (fun hK4 => ?_)
              · show Ev _ _ 208 _ _ _ _
                refine ev_s (ls' := [some (.ref 21), some (.int (nI p)), some (.int (zi ((∀ q, q < i → ¬ mBad M p q) ∧ ¬ mBad M p i))), some (.int (nI i)), some (.int (zi (ovX M p i))), some (.int (zi (ovY M p i))), some (.int (zi (ovZ M p i)))]) rfl ?_
                refine ev_inc (y := 1) (v := nI (i + 1)) (ls' := [some (.ref 21), some (.int (nI p)), some (.int (zi ((∀ q, q < i → ¬ mBad M p q) ∧ ¬ mBad M p i))), some (.int (nI (i + 1))), some (.int (zi (ovX M p i))), some (.int (zi (ovY M p i))), some (.int (zi (ovZ M p i)))]) rfl rfl (by decide) (nI_1 _) rfl ?_
                refine ev_s rfl ?_
                have e9 := ih (i + 1) (by omega) (some (.int (zi (ovX M p i)))) (some (.int (zi (ovY M p i)))) (some (.int (zi (ovZ M p i))))
                rw [show (∀ q, q < i + 1 → ¬ mBad M p q) = ((∀ q, q < i → ¬ mBad M p q) ∧ ¬ mBad M p i) from propext ⟨fun hA => ⟨fun q hq => hA q (by omega), hA i (by omega)⟩, fun hA2 => by
                  obtain ⟨hA, hB⟩ := hA2
                  exact (show ∀ q, q < i + 1 → ¬ mBad M p q from fun q hq hb => by
                  rcases Nat.lt_or_ge q i with z | z
                  · exact hA q z hb
                  · obtain rfl : q = i := by omega
                    exact hB hb)⟩] at e9
                exact e9
              · show Ev _ _ 136 _ _ _ _
                refine ev_if rfl rfl (ev_bze (fun c3 => ?_) (fun c3 => ?_))
                · show Ev _ _ 207 _ _ _ _
                  refine ev_ik (v := 0) rfl (by decide) ?_
                  rw [zi_f (show ¬ ((∀ q, q < i → ¬ mBad M p q) ∧ ¬ mBad M p i) from (by first | exact fun h => absurd h.1 (by assumption) | simp_all [mBad]))] at hK4
                  exact hK4
                · show Ev _ _ 139 _ _ _ _
                  refine ev_s rfl ?_
                  refine ev_if rfl rfl (ev_bze (fun c4 => ?_) (fun c4 => ?_))
                  · show Ev _ _ 171 _ _ _ _
                    refine ev_s rfl ?_
                    refine ev_if rfl rfl (ev_bze (fun c5 => ?_) (fun c5 => ?_))
                    · show Ev _ _ 203 _ _ _ _
                      refine ev_ik (v := 1) rfl (by decide) ?_
                      refine ev_s rfl ?_
                      rw [zi_t (show (∀ q, q < i → ¬ mBad M p q) ∧ ¬ mBad M p i from (by first | exact fun h => absurd h.1 (by assumption) | simp_all [mBad]))] at hK4
                      exact hK4
                    · show Ev _ _ 176 _ _ _ _
                      refine ev_s rfl ?_
                      refine ev_if rfl rfl (ev_bze (fun c6 => ?_) (fun c6 => ?_))
                      · show Ev _ _ 203 _ _ _ _
                        refine ev_ik (v := 1) rfl (by decide) ?_
                        refine ev_s rfl ?_
                        rw [zi_t (show (∀ q, q < i → ¬ mBad M p q) ∧ ¬ mBad M p i from (by first | exact fun h => absurd h.1 (by assumption) | simp_all [mBad]))] at hK4
                        exact hK4
                      · show Ev _ _ 181 _ _ _ _
                        refine ev_s rfl ?_
                        refine ev_gf (rd np M L (by omega) rfl) rfl rfl rfl ?_
                        refine ev_s rfl ?_
                        refine ev_ia (rd np M L (by omega) rfl) rfl (zin_nI (by omega) (by decide)) ?_
                        refine ev_s rfl ?_
                        refine ev_gf (rd np M L (by omega) rfl) rfl rfl rfl ?_
                        refine ev_s rfl ?_
                        refine ev_ia (rd np M L (by omega) rfl) rfl (zin_nI (by omega) (by decide)) ?_
                        refine ev_s rfl ?_
                        refine ev_gf (rd np M L (by omega) rfl) rfl rfl rfl ?_
                        refine ev_s rfl ?_
                        refine ev_ia (rd np M L (by omega) rfl) rfl (zin_nI (by omega) (by decide)) ?_
                        refine ev_s rfl ?_
                        refine ev_ic rfl rfl (ev_br (zb_ge _ _ _ _) (fun c7 => ?_) (fun c7 => ?_))
                        · show Ev _ _ 207 _ _ _ _
                          refine ev_ik (v := 0) rfl (by decide) ?_
                          rw [zi_f (show ¬ ((∀ q, q < i → ¬ mBad M p q) ∧ ¬ mBad M p i) from (by first | exact fun h => absurd h.1 (by assumption) | simp_all [mBad]))] at hK4
                          exact hK4
                        · show Ev _ _ 203 _ _ _ _
                          refine ev_ik (v := 1) rfl (by decide) ?_
                          refine ev_s rfl ?_
                          rw [zi_t (show (∀ q, q < i → ¬ mBad M p q) ∧ ¬ mBad M p i from (by first | exact fun h => absurd h.1 (by assumption) | simp_all [mBad]))] at hK4
                          exact hK4
                  · show Ev _ _ 144 _ _ _ _
                    refine ev_s rfl ?_
                    refine ev_if rfl rfl (ev_bze (fun c8 => ?_) (fun c8 => ?_))
                    · show Ev _ _ 171 _ _ _ _
                      refine ev_s rfl ?_
                      refine ev_if rfl rfl (ev_bze (fun c9 => ?_) (fun c9 => ?_))
                      · show Ev _ _ 203 _ _ _ _
                        refine ev_ik (v := 1) rfl (by decide) ?_
                        refine ev_s rfl ?_
                        rw [zi_t (show (∀ q, q < i → ¬ mBad M p q) ∧ ¬ mBad M p i from (by first | exact fun h => absurd h.1 (by assumption) | simp_all [mBad]))] at hK4
                        exact hK4
                      · show Ev _ _ 176 _ _ _ _
                        refine ev_s rfl ?_
                        refine ev_if rfl rfl (ev_bze (fun c10 => ?_) (fun c10 => ?_))
                        · show Ev _ _ 203 _ _ _ _
                          refine ev_ik (v := 1) rfl (by decide) ?_
                          refine ev_s rfl ?_
                          rw [zi_t (show (∀ q, q < i → ¬ mBad M p q) ∧ ¬ mBad M p i from (by first | exact fun h => absurd h.1 (by assumption) | simp_all [mBad]))] at hK4
                          exact hK4
                        · show Ev _ _ 181 _ _ _ _
                          refine ev_s rfl ?_
                          refine ev_gf (rd np M L (by omega) rfl) rfl rfl rfl ?_
                          refine ev_s rfl ?_
                          refine ev_ia (rd np M L (by omega) rfl) rfl (zin_nI (by omega) (by decide)) ?_
                          refine ev_s rfl ?_
                          refine ev_gf (rd np M L (by omega) rfl) rfl rfl rfl ?_
                          refine ev_s rfl ?_
                          refine ev_ia (rd np M L (by omega) rfl) rfl (zin_nI (by omega) (by decide)) ?_
                          refine ev_s rfl ?_
                          refine ev_gf (rd np M L (by omega) rfl) rfl rfl rfl ?_
                          refine ev_s rfl ?_
                          refine ev_ia (rd np M L (by omega) rfl) rfl (zin_nI (by omega) (by decide)) ?_
                          refine ev_s rfl ?_
                          refine ev_ic rfl rfl (ev_br (zb_ge _ _ _ _) (fun c11 => ?_) (fun c11 => ?_))
                          · show Ev _ _ 207 _ _ _ _
                            refine ev_ik (v := 0) rfl (by decide) ?_
                            rw [zi_f (show ¬ ((∀ q, q < i → ¬ mBad M p q) ∧ ¬ mBad M p i) from (by first | exact fun h => absurd h.1 (by assumption) | simp_all [mBad]))] at hK4
                            exact hK4
                          · show Ev _ _ 203 _ _ _ _
                            refine ev_ik (v := 1) rfl (by decide) ?_
                            refine ev_s rfl ?_
                            rw [zi_t (show (∀ q, q < i → ¬ mBad M p q) ∧ ¬ mBad M p i from (by first | exact fun h => absurd h.1 (by assumption) | simp_all [mBad]))] at hK4
                            exact hK4
                    · show Ev _ _ 149 _ _ _ _
                      refine ev_s rfl ?_
                      refine ev_gf (rd np M L (by omega) rfl) rfl rfl rfl ?_
                      refine ev_s rfl ?_
                      refine ev_ia (rd np M L (by omega) rfl) rfl (zin_nI (by omega) (by decide)) ?_
                      refine ev_s rfl ?_
                      refine ev_gf (rd np M L (by omega) rfl) rfl rfl rfl ?_
                      refine ev_s rfl ?_
                      refine ev_ia (rd np M L (by omega) rfl) rfl (zin_nI (by omega) (by decide)) ?_
                      refine ev_s rfl ?_
                      refine ev_gf (rd np M L (by omega) rfl) rfl rfl rfl ?_
                      refine ev_s rfl ?_
                      refine ev_ia (rd np M L (by omega) rfl) rfl (zin_nI (by omega) (by decide)) ?_
                      refine ev_s rfl ?_
                      refine ev_ic rfl rfl (ev_br (zb_ge _ _ _ _) (fun c12 => ?_) (fun c12 => ?_))
                      · show Ev _ _ 207 _ _ _ _
                        refine ev_ik (v := 0) rfl (by decide) ?_
                        rw [zi_f (show ¬ ((∀ q, q < i → ¬ mBad M p q) ∧ ¬ mBad M p i) from (by first | exact fun h => absurd h.1 (by assumption) | simp_all [mBad]))] at hK4
                        exact hK4
                      · show Ev _ _ 171 _ _ _ _
                        refine ev_s rfl ?_
                        refine ev_if rfl rfl (ev_bze (fun c13 => ?_) (fun c13 => ?_))
                        · show Ev _ _ 203 _ _ _ _
                          refine ev_ik (v := 1) rfl (by decide) ?_
                          refine ev_s rfl ?_
                          rw [zi_t (show (∀ q, q < i → ¬ mBad M p q) ∧ ¬ mBad M p i from (by first | exact fun h => absurd h.1 (by assumption) | simp_all [mBad]))] at hK4
                          exact hK4
                        · show Ev _ _ 176 _ _ _ _
                          refine ev_s rfl ?_
                          refine ev_if rfl rfl (ev_bze (fun c14 => ?_) (fun c14 => ?_))
                          · show Ev _ _ 203 _ _ _ _
                            refine ev_ik (v := 1) rfl (by decide) ?_
                            refine ev_s rfl ?_
                            rw [zi_t (show (∀ q, q < i → ¬ mBad M p q) ∧ ¬ mBad M p i from (by first | exact fun h => absurd h.1 (by assumption) | simp_all [mBad]))] at hK4
                            exact hK4
                          · show Ev _ _ 181 _ _ _ _
                            refine ev_s rfl ?_
                            refine ev_gf (rd np M L (by omega) rfl) rfl rfl rfl ?_
                            refine ev_s rfl ?_
                            refine ev_ia (rd np M L (by omega) rfl) rfl (zin_nI (by omega) (by decide)) ?_
                            refine ev_s rfl ?_
                            refine ev_gf (rd np M L (by omega) rfl) rfl rfl rfl ?_
                            refine ev_s rfl ?_
                            refine ev_ia (rd np M L (by omega) rfl) rfl (zin_nI (by omega) (by decide)) ?_
                            refine ev_s rfl ?_
                            refine ev_gf (rd np M L (by omega) rfl) rfl rfl rfl ?_
                            refine ev_s rfl ?_
                            refine ev_ia (rd np M L (by omega) rfl) rfl (zin_nI (by omega) (by decide)) ?_
                            refine ev_s rfl ?_
                            refine ev_ic rfl rfl (ev_br (zb_ge _ _ _ _) (fun c15 => ?_) (fun c15 => ?_))
                            · show Ev _ _ 207 _ _ _ _
                              refine ev_ik (v := 0) rfl (by decide) ?_
                              rw [zi_f (show ¬ ((∀ q, q < i → ¬ mBad M p q) ∧ ¬ mBad M p i) from (by first | exact fun h => absurd h.1 (by assumption) | simp_all [mBad]))] at hK4
                              exact hK4
                            · show Ev _ _ 203 _ _ _ _
                              refine ev_ik (v := 1) rfl (by decide) ?_
                              refine ev_s rfl ?_
                              rw [zi_t (show (∀ q, q < i → ¬ mBad M p q) ∧ ¬ mBad M p i from (by first | exact fun h => absurd h.1 (by assumption) | simp_all [mBad]))] at hK4
                              exact hK4
            · show Ev _ _ 125 _ _ _ _
              refine ev_if rfl rfl (ev_br (zb_le _ _ _ _) (fun c16 => ?_) (fun c16 => ?_))
              · show Ev _ _ 132 _ _ _ _
                refine ev_ik (v := 0) rfl (by decide) ?_
                rw [zi_f (show ¬ (ovZ M p i) from (by first | assumption | (intro h; exact h (by assumption))))] at hK3
                exact hK3
              · show Ev _ _ 128 _ _ _ _
                refine ev_ik (v := 1) rfl (by decide) ?_
                refine ev_s rfl ?_
                rw [zi_t (show ovZ M p i from (by first | assumption | (intro h; exact h (by assumption))))] at hK3
                exact hK3
          · show Ev _ _ 88 _ _ _ _
            refine ev_if rfl rfl (ev_br (zb_le _ _ _ _) (fun c17 => ?_) (fun c17 => ?_))
            · show Ev _ _ 95 _ _ _ _
              refine ev_ik (v := 0) rfl (by decide) ?_
              rw [zi_f (show ¬ (ovY M p i) from (by first | assumption | (intro h; exact h (by assumption))))] at hK2
              exact hK2
            · show Ev _ _ 91 _ _ _ _
              refine ev_ik (v := 1) rfl (by decide) ?_
              refine ev_s rfl ?_
              rw [zi_t (show ovY M p i from (by first | assumption | (intro h; exact h (by assumption))))] at hK2
              exact hK2
        · show Ev _ _ 51 _ _ _ _
          refine ev_if rfl rfl (ev_br (zb_le _ _ _ _) (fun c18 => ?_) (fun c18 => ?_))
          · show Ev _ _ 58 _ _ _ _
            refine ev_ik (v := 0) rfl (by decide) ?_
            rw [zi_f (show ¬ (ovX M p i) from (by first | assumption | (intro h; exact h (by assumption))))] at hK1
            exact hK1
          · show Ev _ _ 54 _ _ _ _
            refine ev_ik (v := 1) rfl (by decide) ?_
            refine ev_s rfl ?_
            rw [zi_t (show ovX M p i from (by first | assumption | (intro h; exact h (by assumption))))] at hK1
            exact hK1
set_option maxHeartbeats 4000000 in
theorem rn_mclear {np : Nat} {M : Nat → Nat → Int32} {L : Nat → Int64} {p : Nat} (hp : p < 6) (d : Nat) : Rn (d + 1) mX6_isClear [(.ref 21), (.int (nI p))] (mk np M L) (some (.int (zi (mCl M p)))) (mk np M L) := by
  unfold Rn
  refine ev_ik (v := 1) rfl (by decide) ?_
  refine ev_s (ls' := [some (.ref 21), some (.int (nI p)), some (.int 1), none, none, none, none]) rfl ?_
  refine ev_ik (v := 0) rfl (by decide) ?_
  refine ev_s (ls' := [some (.ref 21), some (.int (nI p)), some (.int 1), some (.int 0), none, none, none]) rfl ?_
  have e9 := lp_mclear (np := np) (M := M) (L := L) hp d 6 0 (by omega) none none none
  rw [zi_t (show ∀ q, q < 0 → ¬ mBad M p q from fun q h => absurd h (by omega))] at e9
  exact e9
/-- a round: how many so far, whether one was taken in it, the numbers -/
noncomputable def mrS (s : Int32) (c : Int32) (M : Nat → Nat → Int32) : Nat → Int32 × Int32 × (Nat → Nat → Int32)
  | 0 => (c, 0, M)
  | i + 1 => cIf (¬ (mrS s c M i).2.2 37 i = 0 ∧ (mrS s c M i).2.2 46 i = s ∧ mCl (mrS s c M i).2.2 i) ((mrS s c M i).1 + 1, 1, up2 (mrS s c M i).2.2 37 i 0) (mrS s c M i)
noncomputable def muL (s : Int32) : Nat → Int32 → (Nat → Nat → Int32) → Option (Int32 × (Nat → Nat → Int32))
  | 0, _, _ => none
  | n + 1, c, M => if (mrS s c M 6).2.1 = 0 then some ((mrS s c M 6).1, (mrS s c M 6).2.2) else muL s n (mrS s c M 6).1 (mrS s c M 6).2.2
set_option maxHeartbeats 4000000 in
theorem lp_mr {np : Nat} {M : Nat → Nat → Int32} {L : Nat → Int64} {s c : Int32} {Q : zCf → Prop} (d : Nat) : ∀ k i, i + k = 6 → Ev (d + 2) mX6_unload 17 [some (.ref 21), some (.int s), some (.int (mrS s c M 6).1), some (.int (mrS s c M 6).2.1), some (.int (nI 6))] [] (mk np (mrS s c M 6).2.2 L) Q → Ev (d + 2) mX6_unload 26 [some (.ref 21), some (.int s), some (.int (mrS s c M i).1), some (.int (mrS s c M i).2.1), some (.int (nI i))] [] (mk np (mrS s c M i).2.2 L) Q := by
  intro k
  induction k with
  | zero =>
    intro i hik hK
    obtain rfl : i = 6 := by omega
    refine ev_s rfl ?_
    refine ev_bi (v := 6) rfl (by decide) ?_
    refine ev_ic rfl rfl ?_
    rw [show zbr .ge (nI 6) 6 82 33 = 82 from zge_t (n := 6) (by decide) (by omega) (by decide)]
    refine ev_s rfl ?_
    exact hK
  | succ k ih =>
    intro i hik hK
    have hi : i < 6 := by omega
    refine ev_s rfl ?_
    refine ev_bi (v := 6) rfl (by decide) ?_
    refine ev_ic rfl rfl ?_
    rw [show zbr .ge (nI i) 6 82 33 = 33 from zge_f (n := 6) (by decide) hi (by decide)]
    refine ev_s rfl ?_
    refine ev_gf (rd np ((mrS s c M i).2.2) L (by omega) rfl) rfl rfl rfl ?_
    refine ev_s rfl ?_
    refine ev_ba (rd np ((mrS s c M i).2.2) L (by omega) rfl) rfl (zin_nI (by omega) (by decide)) ?_
    refine ev_if rfl rfl (ev_br (zb_eq _ _ _ _) (fun c1 => ?_) (fun c1 => ?_))
    · show Ev _ _ 76 _ _ _ _
      refine ev_inc (y := 1) (v := nI (i + 1)) (ls' := [some (.ref 21), some (.int s), some (.int ((mrS s c M i).1)), some (.int ((mrS s c M i).2.1)), some (.int (nI (i + 1)))]) rfl rfl (by decide) (nI_1 _) rfl ?_
      refine ev_s rfl ?_
      have e9 := ih (i + 1) (by omega)
      rw [show mrS s c M (i + 1) = mrS s c M i from cIf_f (fun h => h.1 c1) _ _] at e9
      exact e9 hK
    · show Ev _ _ 43 _ _ _ _
      refine ev_s rfl ?_
      refine ev_gf (rd np ((mrS s c M i).2.2) L (by omega) rfl) rfl rfl rfl ?_
      refine ev_s rfl ?_
      refine ev_ia (rd np ((mrS s c M i).2.2) L (by omega) rfl) rfl (zin_nI (by omega) (by decide)) ?_
      refine ev_s rfl ?_
      refine ev_ic rfl rfl (ev_bn (fun c2 => ?_) (fun c2 => ?_))
      · show Ev _ _ 76 _ _ _ _
        refine ev_inc (y := 1) (v := nI (i + 1)) (ls' := [some (.ref 21), some (.int s), some (.int ((mrS s c M i).1)), some (.int ((mrS s c M i).2.1)), some (.int (nI (i + 1)))]) rfl rfl (by decide) (nI_1 _) rfl ?_
        refine ev_s rfl ?_
        have e9 := ih (i + 1) (by omega)
        rw [show mrS s c M (i + 1) = mrS s c M i from cIf_f (fun h => c2 h.2.1) _ _] at e9
        exact e9 hK
      · show Ev _ _ 54 _ _ _ _
        iterate 2 refine ev_s rfl ?_
        refine ev_cv (vs := [(.ref 21), (.int (nI i))]) (rest := []) (rv := (some (.int (zi (mCl (mrS s c M i).2.2 i))))) rfl rfl rfl (rd np ((mrS s c M i).2.2) L (by omega) rfl) rfl rfl rfl rfl (rn_mclear (M := (mrS s c M i).2.2) (by omega) _) ?_
        show Ev _ _ 60 _ [(.int (zi (mCl (mrS s c M i).2.2 i)))] _ _
        refine ev_if rfl rfl (ev_bze (fun c3 => ?_) (fun c3 => ?_))
        · show Ev _ _ 76 _ _ _ _
          refine ev_inc (y := 1) (v := nI (i + 1)) (ls' := [some (.ref 21), some (.int s), some (.int ((mrS s c M i).1)), some (.int ((mrS s c M i).2.1)), some (.int (nI (i + 1)))]) rfl rfl (by decide) (nI_1 _) rfl ?_
          refine ev_s rfl ?_
          have e9 := ih (i + 1) (by omega)
          rw [show mrS s c M (i + 1) = mrS s c M i from cIf_f (fun h => c3 h.2.2) _ _] at e9
          exact e9 hK
        · show Ev _ _ 63 _ _ _ _
          refine ev_s rfl ?_
          refine ev_gf (rd np ((mrS s c M i).2.2) L (by omega) rfl) rfl rfl rfl ?_
          refine ev_s rfl ?_
          refine ev_ik (v := 0) rfl (by decide) ?_
          refine ev_bs (hp' := (mk np (up2 ((mrS s c M i).2.2) 37 i 0) L)) (rd np ((mrS s c M i).2.2) L (by omega) rfl) rfl (zin_nI (by omega) (by decide)) (Or.inl rfl) (mk_setr rfl rfl rfl) ?_
          refine ev_inc (y := 1) (v := ((mrS s c M i).1) + 1) (ls' := [some (.ref 21), some (.int s), some (.int (((mrS s c M i).1) + 1)), some (.int ((mrS s c M i).2.1)), some (.int (nI i))]) rfl rfl (by decide) rfl rfl ?_
          refine ev_ik (v := 1) rfl (by decide) ?_
          refine ev_s (ls' := [some (.ref 21), some (.int s), some (.int (((mrS s c M i).1) + 1)), some (.int 1), some (.int (nI i))]) rfl ?_
          refine ev_inc (y := 1) (v := nI (i + 1)) (ls' := [some (.ref 21), some (.int s), some (.int (((mrS s c M i).1) + 1)), some (.int 1), some (.int (nI (i + 1)))]) rfl rfl (by decide) (nI_1 _) rfl ?_
          refine ev_s rfl ?_
          have e9 := ih (i + 1) (by omega)
          rw [show mrS s c M (i + 1) = ((mrS s c M i).1 + 1, 1, up2 (mrS s c M i).2.2 37 i 0) from cIf_t ⟨c1, c2, c3⟩ _ _] at e9
          exact e9 hK
theorem mrS_b {s c : Int32} {M : Nat → Nat → Int32} : ∀ i, (mrS s c M i).2.1 = 0 ∨ (mrS s c M i).2.1 = 1
  | 0 => Or.inl rfl
  | i + 1 => by
    unfold mrS
    exact cIf_ind (R := fun q : Int32 × Int32 × (Nat → Nat → Int32) => q.2.1 = 0 ∨ q.2.1 = 1) (fun _ => Or.inr rfl) (fun _ => mrS_b i)
theorem mrS_b6 {s c : Int32} {M : Nat → Nat → Int32} (h : ¬ (mrS s c M 6).2.1 = 0) : (mrS s c M 6).2.1 = 1 := (mrS_b 6).resolve_left h
set_option maxHeartbeats 4000000 in
theorem lp_mu {np : Nat} {L : Nat → Int64} {s : Int32} {r : Int32 × (Nat → Nat → Int32)} (d : Nat) : ∀ n c M b v4, b = 1 → muL s n c M = some r → Ev (d + 2) mX6_unload 17 [some (.ref 21), some (.int s), some (.int c), some (.int b), v4] [] (mk np M L) (Qr mX6_unload (some (.int r.1)) (mk np r.2 L)) := by
  intro n
  induction n with
  | zero => intro c M b v4 hb h; cases h
  | succ n ih =>
    intro c M b v4 hb h
    subst hb
    rw [show muL s (n + 1) c M = if (mrS s c M 6).2.1 = 0 then some ((mrS s c M 6).1, (mrS s c M 6).2.2) else muL s n (mrS s c M 6).1 (mrS s c M 6).2.2 from rfl] at h
    refine ev_s rfl ?_
    refine ev_if rfl rfl ?_
    show Ev _ _ 21 _ _ _ _
    refine ev_ik (v := 0) rfl (by decide) ?_
    refine ev_s (ls' := [some (.ref 21), some (.int s), some (.int c), some (.int 0), v4]) rfl ?_
    refine ev_ik (v := 0) rfl (by decide) ?_
    refine ev_s (ls' := [some (.ref 21), some (.int s), some (.int c), some (.int 0), some (.int 0)]) rfl ?_
    refine lp_mr (c := c) (M := M) d 6 0 (by omega) ?_
    by_cases hb : (mrS s c M 6).2.1 = 0
    · rw [if_pos hb] at h
      cases h
      refine ev_s rfl ?_
      refine ev_if rfl rfl ?_
      rw [show zbr .eq ((mrS s c M 6).2.1) 0 85 21 = 85 from if_pos hb]
      refine ev_s rfl ?_
      refine ev_ri rfl rfl ?_ ?_
      · rfl
      · rfl
    · rw [if_neg hb] at h
      exact ih _ _ _ _ (mrS_b6 hb) h
set_option maxHeartbeats 4000000 in
theorem rn_munload_o {np : Nat} {M : Nat → Nat → Int32} {L : Nat → Int64} {s : Int32} (hs : ¬ mW s 0 9) (d : Nat) : Rn (d + 2) mX6_unload [(.ref 21), (.int s)] (mk np M L) (some (.int (-102))) (mk np M L) := by
  unfold Rn
  refine ev_s rfl ?_
  refine ev_ik (v := 0) rfl (by decide) ?_
  refine ev_bi (v := 9) rfl (by decide) ?_
  refine ev_cs (vs := [(.int s), (.int 0), (.int 9)]) (rest := []) (rv := (some (.int 0))) rfl rfl rfl rfl rfl (by have e9 := rn_within (hp := mk np M L) (x := s) (y := 0) (z := 9) (d + 1); rwa [zi_f hs] at e9) ?_
  show Ev _ _ 7 _ [(.int 0)] _ _
  refine ev_if rfl rfl ?_
  show Ev _ _ 10 _ _ _ _
  refine ev_bi (v := (-102)) rfl (by decide) ?_
  refine ev_ri rfl rfl ?_ ?_
  · rfl
  · rfl
set_option maxHeartbeats 4000000 in
theorem rn_munload {np : Nat} {M : Nat → Nat → Int32} {L : Nat → Int64} {s : Int32} {r : Int32 × (Nat → Nat → Int32)} (hs : mW s 0 9) {n : Nat} (hr : muL s n 0 M = some r) (d : Nat) : Rn (d + 2) mX6_unload [(.ref 21), (.int s)] (mk np M L) (some (.int r.1)) (mk np r.2 L) := by
  unfold Rn
  refine ev_s rfl ?_
  refine ev_ik (v := 0) rfl (by decide) ?_
  refine ev_bi (v := 9) rfl (by decide) ?_
  refine ev_cs (vs := [(.int s), (.int 0), (.int 9)]) (rest := []) (rv := (some (.int 1))) rfl rfl rfl rfl rfl (by have e9 := rn_within (hp := mk np M L) (x := s) (y := 0) (z := 9) (d + 1); rwa [zi_t hs] at e9) ?_
  show Ev _ _ 7 _ [(.int 1)] _ _
  refine ev_if rfl rfl ?_
  show Ev _ _ 13 _ _ _ _
  refine ev_ik (v := 0) rfl (by decide) ?_
  refine ev_s (ls' := [some (.ref 21), some (.int s), some (.int 0), none, none]) rfl ?_
  refine ev_ik (v := 1) rfl (by decide) ?_
  refine ev_s (ls' := [some (.ref 21), some (.int s), some (.int 0), some (.int 1), none]) rfl ?_
  exact lp_mu d n 0 M 1 none rfl hr
def okP (w h dd g : Int32) : Prop := mW w 1 12 ∧ mW h 1 12 ∧ mW dd 1 12 ∧ mW g 1 1000
def mpM (M : Nat → Nat → Int32) (k : Nat) (w h dd g : Int32) : Nat → Nat → Int32 := up2 (up2 (up2 (up2 (up2 (up2 (up2 (up2 M 22 k w) 23 k h) 24 k dd) 25 k g) 26 k 0) 27 k (-1)) 28 k 0) 21 3 (nI (k + 1))
set_option maxHeartbeats 4000000 in
theorem rn_mpiece_6 {np : Nat} {M : Nat → Nat → Int32} {L : Nat → Int64} {w h dd g : Int32} (hn : np ≤ 6) (hc : M 21 3 = nI np) (h6 : np = 6) (d : Nat) : Rn (d + 1) mX6_piece [(.ref 21), (.int w), (.int h), (.int dd), (.int g)] (mk np M L) (some (.int (cIf (okP w h dd g) (if np = 6 then -104 else nI (np + 1)) (-102)))) (mk np (cIf (okP w h dd g) (if np = 6 then M else mpM M np w h dd g) M) L) := by
  unfold Rn
  refine ev_s rfl ?_
  refine ev_ik (v := 1) rfl (by decide) ?_
  refine ev_bi (v := 12) rfl (by decide) ?_
  refine ev_cs (vs := [(.int w), (.int 1), (.int 12)]) (rest := []) (rv := (some (.int (zi (mW w 1 12))))) rfl rfl rfl rfl rfl (rn_within _) ?_
  show Ev _ _ 7 _ [(.int (zi (mW w 1 12)))] _ _
  refine ev_if rfl rfl (ev_bze (fun c1 => ?_) (fun c1 => ?_))
  · show Ev _ _ 42 _ _ _ _
    refine ev_bi (v := (-102)) rfl (by decide) ?_
    refine ev_ri rfl rfl ?_ ?_
    · rw [cIf_f (show ¬ okP w h dd g from fun q => c1 q.1)]
    · rw [cIf_f (show ¬ okP w h dd g from fun q => c1 q.1)]
  · show Ev _ _ 10 _ _ _ _
    refine ev_s rfl ?_
    refine ev_ik (v := 1) rfl (by decide) ?_
    refine ev_bi (v := 12) rfl (by decide) ?_
    refine ev_cs (vs := [(.int h), (.int 1), (.int 12)]) (rest := []) (rv := (some (.int (zi (mW h 1 12))))) rfl rfl rfl rfl rfl (rn_within _) ?_
    show Ev _ _ 17 _ [(.int (zi (mW h 1 12)))] _ _
    refine ev_if rfl rfl (ev_bze (fun c2 => ?_) (fun c2 => ?_))
    · show Ev _ _ 42 _ _ _ _
      refine ev_bi (v := (-102)) rfl (by decide) ?_
      refine ev_ri rfl rfl ?_ ?_
      · rw [cIf_f (show ¬ okP w h dd g from fun q => c2 q.2.1)]
      · rw [cIf_f (show ¬ okP w h dd g from fun q => c2 q.2.1)]
    · show Ev _ _ 20 _ _ _ _
      refine ev_s rfl ?_
      refine ev_ik (v := 1) rfl (by decide) ?_
      refine ev_bi (v := 12) rfl (by decide) ?_
      refine ev_cs (vs := [(.int dd), (.int 1), (.int 12)]) (rest := []) (rv := (some (.int (zi (mW dd 1 12))))) rfl rfl rfl rfl rfl (rn_within _) ?_
      show Ev _ _ 27 _ [(.int (zi (mW dd 1 12)))] _ _
      refine ev_if rfl rfl (ev_bze (fun c3 => ?_) (fun c3 => ?_))
      · show Ev _ _ 42 _ _ _ _
        refine ev_bi (v := (-102)) rfl (by decide) ?_
        refine ev_ri rfl rfl ?_ ?_
        · rw [cIf_f (show ¬ okP w h dd g from fun q => c3 q.2.2.1)]
        · rw [cIf_f (show ¬ okP w h dd g from fun q => c3 q.2.2.1)]
      · show Ev _ _ 30 _ _ _ _
        refine ev_s rfl ?_
        refine ev_ik (v := 1) rfl (by decide) ?_
        refine ev_si (v := 1000) rfl (by decide) ?_
        refine ev_cs (vs := [(.int g), (.int 1), (.int 1000)]) (rest := []) (rv := (some (.int (zi (mW g 1 1000))))) rfl rfl rfl rfl rfl (rn_within _) ?_
        show Ev _ _ 39 _ [(.int (zi (mW g 1 1000)))] _ _
        refine ev_if rfl rfl (ev_bzn (fun c4 => ?_) (fun c4 => ?_))
        · show Ev _ _ 45 _ _ _ _
          refine ev_s rfl ?_
          refine ev_gf (rd np M L (by omega) rfl) rfl rfl rfl ?_
          rw [hc]
          refine ev_bi (v := 6) rfl (by decide) ?_
          refine ev_ic rfl rfl ?_
          rw [show zbr .ne (nI np) 6 57 54 = 54 from if_pos (by rw [h6]; rfl)]
          refine ev_bi (v := (-104)) rfl (by decide) ?_
          refine ev_ri rfl rfl ?_ ?_
          · rw [cIf_t (show okP w h dd g from ⟨c1, c2, c3, c4⟩), if_pos h6]
          · rw [cIf_t (show okP w h dd g from ⟨c1, c2, c3, c4⟩), if_pos h6]
        · show Ev _ _ 42 _ _ _ _
          refine ev_bi (v := (-102)) rfl (by decide) ?_
          refine ev_ri rfl rfl ?_ ?_
          · rw [cIf_f (show ¬ okP w h dd g from fun q => c4 q.2.2.2)]
          · rw [cIf_f (show ¬ okP w h dd g from fun q => c4 q.2.2.2)]
set_option maxHeartbeats 4000000 in
theorem rn_mpiece_k {np : Nat} {M : Nat → Nat → Int32} {L : Nat → Int64} {w h dd g : Int32} (hn : np ≤ 6) (hc : M 21 3 = nI np) (h6 : ¬ np = 6) (d : Nat) : Rn (d + 1) mX6_piece [(.ref 21), (.int w), (.int h), (.int dd), (.int g)] (mk np M L) (some (.int (cIf (okP w h dd g) (if np = 6 then -104 else nI (np + 1)) (-102)))) (mk np (cIf (okP w h dd g) (if np = 6 then M else mpM M np w h dd g) M) L) := by
  unfold Rn
  refine ev_s rfl ?_
  refine ev_ik (v := 1) rfl (by decide) ?_
  refine ev_bi (v := 12) rfl (by decide) ?_
  refine ev_cs (vs := [(.int w), (.int 1), (.int 12)]) (rest := []) (rv := (some (.int (zi (mW w 1 12))))) rfl rfl rfl rfl rfl (rn_within _) ?_
  show Ev _ _ 7 _ [(.int (zi (mW w 1 12)))] _ _
  refine ev_if rfl rfl (ev_bze (fun c1 => ?_) (fun c1 => ?_))
  · show Ev _ _ 42 _ _ _ _
    refine ev_bi (v := (-102)) rfl (by decide) ?_
    refine ev_ri rfl rfl ?_ ?_
    · rw [cIf_f (show ¬ okP w h dd g from fun q => c1 q.1)]
    · rw [cIf_f (show ¬ okP w h dd g from fun q => c1 q.1)]
  · show Ev _ _ 10 _ _ _ _
    refine ev_s rfl ?_
    refine ev_ik (v := 1) rfl (by decide) ?_
    refine ev_bi (v := 12) rfl (by decide) ?_
    refine ev_cs (vs := [(.int h), (.int 1), (.int 12)]) (rest := []) (rv := (some (.int (zi (mW h 1 12))))) rfl rfl rfl rfl rfl (rn_within _) ?_
    show Ev _ _ 17 _ [(.int (zi (mW h 1 12)))] _ _
    refine ev_if rfl rfl (ev_bze (fun c2 => ?_) (fun c2 => ?_))
    · show Ev _ _ 42 _ _ _ _
      refine ev_bi (v := (-102)) rfl (by decide) ?_
      refine ev_ri rfl rfl ?_ ?_
      · rw [cIf_f (show ¬ okP w h dd g from fun q => c2 q.2.1)]
      · rw [cIf_f (show ¬ okP w h dd g from fun q => c2 q.2.1)]
    · show Ev _ _ 20 _ _ _ _
      refine ev_s rfl ?_
      refine ev_ik (v := 1) rfl (by decide) ?_
      refine ev_bi (v := 12) rfl (by decide) ?_
      refine ev_cs (vs := [(.int dd), (.int 1), (.int 12)]) (rest := []) (rv := (some (.int (zi (mW dd 1 12))))) rfl rfl rfl rfl rfl (rn_within _) ?_
      show Ev _ _ 27 _ [(.int (zi (mW dd 1 12)))] _ _
      refine ev_if rfl rfl (ev_bze (fun c3 => ?_) (fun c3 => ?_))
      · show Ev _ _ 42 _ _ _ _
        refine ev_bi (v := (-102)) rfl (by decide) ?_
        refine ev_ri rfl rfl ?_ ?_
        · rw [cIf_f (show ¬ okP w h dd g from fun q => c3 q.2.2.1)]
        · rw [cIf_f (show ¬ okP w h dd g from fun q => c3 q.2.2.1)]
      · show Ev _ _ 30 _ _ _ _
        refine ev_s rfl ?_
        refine ev_ik (v := 1) rfl (by decide) ?_
        refine ev_si (v := 1000) rfl (by decide) ?_
        refine ev_cs (vs := [(.int g), (.int 1), (.int 1000)]) (rest := []) (rv := (some (.int (zi (mW g 1 1000))))) rfl rfl rfl rfl rfl (rn_within _) ?_
        show Ev _ _ 39 _ [(.int (zi (mW g 1 1000)))] _ _
        refine ev_if rfl rfl (ev_bzn (fun c4 => ?_) (fun c4 => ?_))
        · show Ev _ _ 45 _ _ _ _
          refine ev_s rfl ?_
          refine ev_gf (rd np M L (by omega) rfl) rfl rfl rfl ?_
          rw [hc]
          refine ev_bi (v := 6) rfl (by decide) ?_
          refine ev_ic rfl rfl ?_
          rw [show zbr .ne (nI np) 6 57 54 = 57 from if_neg (by rw [show (6 : Int32) = nI 6 from by decide, nI_eq (by omega) (by omega)]; exact h6)]
          refine ev_s rfl ?_
          refine ev_gf (rd np M L (by omega) rfl) rfl rfl rfl ?_
          refine ev_s rfl ?_
          refine ev_gf (rd np M L (by omega) rfl) rfl rfl rfl ?_
          rw [hc]
          refine ev_s rfl ?_
          refine ev_is (hp' := (mk np (up2 M 22 np w) L)) (rd np M L (by omega) rfl) rfl (zin_nI (by omega) (by decide)) (mk_setr rfl rfl rfl) ?_
          refine ev_s rfl ?_
          refine ev_gf (rd np (up2 M 22 np w) L (by omega) ((congrArg (fun r => cel np 21 r (L 21)) ((up2_n (by omega)).trans rfl)).trans rfl)) rfl rfl rfl ?_
          refine ev_s rfl ?_
          refine ev_gf (rd np (up2 M 22 np w) L (by omega) ((congrArg (fun r => cel np 21 r (L 21)) ((up2_n (by omega)).trans rfl)).trans rfl)) rfl rfl rfl ?_
          rw [hc]
          refine ev_s rfl ?_
          refine ev_is (hp' := (mk np (up2 (up2 M 22 np w) 23 np h) L)) (rd np (up2 M 22 np w) L (by omega) ((congrArg (fun r => cel np 23 r (L 23)) ((up2_n (by omega)).trans rfl)).trans rfl)) rfl (zin_nI (by omega) (by decide)) (mk_setr ((up2_n (by omega)).trans rfl) rfl rfl) ?_
          refine ev_s rfl ?_
          refine ev_gf (rd np (up2 (up2 M 22 np w) 23 np h) L (by omega) ((congrArg (fun r => cel np 21 r (L 21)) ((up2_n (by omega)).trans ((up2_n (by omega)).trans rfl))).trans rfl)) rfl rfl rfl ?_
          refine ev_s rfl ?_
          refine ev_gf (rd np (up2 (up2 M 22 np w) 23 np h) L (by omega) ((congrArg (fun r => cel np 21 r (L 21)) ((up2_n (by omega)).trans ((up2_n (by omega)).trans rfl))).trans rfl)) rfl rfl rfl ?_
          rw [hc]
          refine ev_s rfl ?_
          refine ev_is (hp' := (mk np (up2 (up2 (up2 M 22 np w) 23 np h) 24 np dd) L)) (rd np (up2 (up2 M 22 np w) 23 np h) L (by omega) ((congrArg (fun r => cel np 24 r (L 24)) ((up2_n (by omega)).trans ((up2_n (by omega)).trans rfl))).trans rfl)) rfl (zin_nI (by omega) (by decide)) (mk_setr ((up2_n (by omega)).trans ((up2_n (by omega)).trans rfl)) rfl rfl) ?_
          refine ev_s rfl ?_
          refine ev_gf (rd np (up2 (up2 (up2 M 22 np w) 23 np h) 24 np dd) L (by omega) ((congrArg (fun r => cel np 21 r (L 21)) ((up2_n (by omega)).trans ((up2_n (by omega)).trans ((up2_n (by omega)).trans rfl)))).trans rfl)) rfl rfl rfl ?_
          refine ev_s rfl ?_
          refine ev_gf (rd np (up2 (up2 (up2 M 22 np w) 23 np h) 24 np dd) L (by omega) ((congrArg (fun r => cel np 21 r (L 21)) ((up2_n (by omega)).trans ((up2_n (by omega)).trans ((up2_n (by omega)).trans rfl)))).trans rfl)) rfl rfl rfl ?_
          rw [hc]
          refine ev_s rfl ?_
          refine ev_is (hp' := (mk np (up2 (up2 (up2 (up2 M 22 np w) 23 np h) 24 np dd) 25 np g) L)) (rd np (up2 (up2 (up2 M 22 np w) 23 np h) 24 np dd) L (by omega) ((congrArg (fun r => cel np 25 r (L 25)) ((up2_n (by omega)).trans ((up2_n (by omega)).trans ((up2_n (by omega)).trans rfl)))).trans rfl)) rfl (zin_nI (by omega) (by decide)) (mk_setr ((up2_n (by omega)).trans ((up2_n (by omega)).trans ((up2_n (by omega)).trans rfl))) rfl rfl) ?_
          refine ev_s rfl ?_
          refine ev_gf (rd np (up2 (up2 (up2 (up2 M 22 np w) 23 np h) 24 np dd) 25 np g) L (by omega) ((congrArg (fun r => cel np 21 r (L 21)) ((up2_n (by omega)).trans ((up2_n (by omega)).trans ((up2_n (by omega)).trans ((up2_n (by omega)).trans rfl))))).trans rfl)) rfl rfl rfl ?_
          refine ev_s rfl ?_
          refine ev_gf (rd np (up2 (up2 (up2 (up2 M 22 np w) 23 np h) 24 np dd) 25 np g) L (by omega) ((congrArg (fun r => cel np 21 r (L 21)) ((up2_n (by omega)).trans ((up2_n (by omega)).trans ((up2_n (by omega)).trans ((up2_n (by omega)).trans rfl))))).trans rfl)) rfl rfl rfl ?_
          rw [hc]
          refine ev_ik (v := 0) rfl (by decide) ?_
          refine ev_is (hp' := (mk np (up2 (up2 (up2 (up2 (up2 M 22 np w) 23 np h) 24 np dd) 25 np g) 26 np 0) L)) (rd np (up2 (up2 (up2 (up2 M 22 np w) 23 np h) 24 np dd) 25 np g) L (by omega) ((congrArg (fun r => cel np 26 r (L 26)) ((up2_n (by omega)).trans ((up2_n (by omega)).trans ((up2_n (by omega)).trans ((up2_n (by omega)).trans rfl))))).trans rfl)) rfl (zin_nI (by omega) (by decide)) (mk_setr ((up2_n (by omega)).trans ((up2_n (by omega)).trans ((up2_n (by omega)).trans ((up2_n (by omega)).trans rfl)))) rfl rfl) ?_
          refine ev_s rfl ?_
          refine ev_gf (rd np (up2 (up2 (up2 (up2 (up2 M 22 np w) 23 np h) 24 np dd) 25 np g) 26 np 0) L (by omega) ((congrArg (fun r => cel np 21 r (L 21)) ((up2_n (by omega)).trans ((up2_n (by omega)).trans ((up2_n (by omega)).trans ((up2_n (by omega)).trans ((up2_n (by omega)).trans rfl)))))).trans rfl)) rfl rfl rfl ?_
          refine ev_s rfl ?_
          refine ev_gf (rd np (up2 (up2 (up2 (up2 (up2 M 22 np w) 23 np h) 24 np dd) 25 np g) 26 np 0) L (by omega) ((congrArg (fun r => cel np 21 r (L 21)) ((up2_n (by omega)).trans ((up2_n (by omega)).trans ((up2_n (by omega)).trans ((up2_n (by omega)).trans ((up2_n (by omega)).trans rfl)))))).trans rfl)) rfl rfl rfl ?_
          rw [hc]
          refine ev_ik (v := (-1)) rfl (by decide) ?_
          refine ev_is (hp' := (mk np (up2 (up2 (up2 (up2 (up2 (up2 M 22 np w) 23 np h) 24 np dd) 25 np g) 26 np 0) 27 np (-1)) L)) (rd np (up2 (up2 (up2 (up2 (up2 M 22 np w) 23 np h) 24 np dd) 25 np g) 26 np 0) L (by omega) ((congrArg (fun r => cel np 27 r (L 27)) ((up2_n (by omega)).trans ((up2_n (by omega)).trans ((up2_n (by omega)).trans ((up2_n (by omega)).trans ((up2_n (by omega)).trans rfl)))))).trans rfl)) rfl (zin_nI (by omega) (by decide)) (mk_setr ((up2_n (by omega)).trans ((up2_n (by omega)).trans ((up2_n (by omega)).trans ((up2_n (by omega)).trans ((up2_n (by omega)).trans rfl))))) rfl rfl) ?_
          refine ev_s rfl ?_
          refine ev_gf (rd np (up2 (up2 (up2 (up2 (up2 (up2 M 22 np w) 23 np h) 24 np dd) 25 np g) 26 np 0) 27 np (-1)) L (by omega) ((congrArg (fun r => cel np 21 r (L 21)) ((up2_n (by omega)).trans ((up2_n (by omega)).trans ((up2_n (by omega)).trans ((up2_n (by omega)).trans ((up2_n (by omega)).trans ((up2_n (by omega)).trans rfl))))))).trans rfl)) rfl rfl rfl ?_
          refine ev_s rfl ?_
          refine ev_gf (rd np (up2 (up2 (up2 (up2 (up2 (up2 M 22 np w) 23 np h) 24 np dd) 25 np g) 26 np 0) 27 np (-1)) L (by omega) ((congrArg (fun r => cel np 21 r (L 21)) ((up2_n (by omega)).trans ((up2_n (by omega)).trans ((up2_n (by omega)).trans ((up2_n (by omega)).trans ((up2_n (by omega)).trans ((up2_n (by omega)).trans rfl))))))).trans rfl)) rfl rfl rfl ?_
          rw [hc]
          refine ev_ik (v := 0) rfl (by decide) ?_
          refine ev_is (hp' := (mk np (up2 (up2 (up2 (up2 (up2 (up2 (up2 M 22 np w) 23 np h) 24 np dd) 25 np g) 26 np 0) 27 np (-1)) 28 np 0) L)) (rd np (up2 (up2 (up2 (up2 (up2 (up2 M 22 np w) 23 np h) 24 np dd) 25 np g) 26 np 0) 27 np (-1)) L (by omega) ((congrArg (fun r => cel np 28 r (L 28)) ((up2_n (by omega)).trans ((up2_n (by omega)).trans ((up2_n (by omega)).trans ((up2_n (by omega)).trans ((up2_n (by omega)).trans ((up2_n (by omega)).trans rfl))))))).trans rfl)) rfl (zin_nI (by omega) (by decide)) (mk_setr ((up2_n (by omega)).trans ((up2_n (by omega)).trans ((up2_n (by omega)).trans ((up2_n (by omega)).trans ((up2_n (by omega)).trans ((up2_n (by omega)).trans rfl)))))) rfl rfl) ?_
          iterate 2 refine ev_s rfl ?_
          refine ev_gf (rd np (up2 (up2 (up2 (up2 (up2 (up2 (up2 M 22 np w) 23 np h) 24 np dd) 25 np g) 26 np 0) 27 np (-1)) 28 np 0) L (by omega) ((congrArg (fun r => cel np 21 r (L 21)) ((up2_n (by omega)).trans ((up2_n (by omega)).trans ((up2_n (by omega)).trans ((up2_n (by omega)).trans ((up2_n (by omega)).trans ((up2_n (by omega)).trans ((up2_n (by omega)).trans rfl)))))))).trans rfl)) rfl rfl rfl ?_
          rw [hc]
          refine ev_ik (v := 1) rfl (by decide) ?_
          refine ev_s rfl ?_
          rw [nI_1 np]
          refine ev_pf (hp' := (mk np (up2 (up2 (up2 (up2 (up2 (up2 (up2 (up2 M 22 np w) 23 np h) 24 np dd) 25 np g) 26 np 0) 27 np (-1)) 28 np 0) 21 3 (nI (np + 1))) L)) (rd np (up2 (up2 (up2 (up2 (up2 (up2 (up2 M 22 np w) 23 np h) 24 np dd) 25 np g) 26 np 0) 27 np (-1)) 28 np 0) L (by omega) ((congrArg (fun r => cel np 21 r (L 21)) ((up2_n (by omega)).trans ((up2_n (by omega)).trans ((up2_n (by omega)).trans ((up2_n (by omega)).trans ((up2_n (by omega)).trans ((up2_n (by omega)).trans ((up2_n (by omega)).trans rfl)))))))).trans rfl)) rfl rfl (by simp) rfl rfl (mk_setr ((up2_n (by omega)).trans ((up2_n (by omega)).trans ((up2_n (by omega)).trans ((up2_n (by omega)).trans ((up2_n (by omega)).trans ((up2_n (by omega)).trans ((up2_n (by omega)).trans rfl))))))) rfl rfl) ?_
          refine ev_s rfl ?_
          refine ev_gf (rd np (up2 (up2 (up2 (up2 (up2 (up2 (up2 (up2 M 22 np w) 23 np h) 24 np dd) 25 np g) 26 np 0) 27 np (-1)) 28 np 0) 21 3 (nI (np + 1))) L (by omega) ((congrArg (fun r => cel np 21 r (L 21)) ((up2_s _ _ _ _).trans (congrArg (fun r => upd r 3 (nI (np + 1))) ((up2_n (by omega)).trans ((up2_n (by omega)).trans ((up2_n (by omega)).trans ((up2_n (by omega)).trans ((up2_n (by omega)).trans ((up2_n (by omega)).trans ((up2_n (by omega)).trans rfl)))))))))).trans rfl)) rfl rfl rfl ?_
          refine ev_ri rfl rfl ?_ ?_
          · rw [cIf_t (show okP w h dd g from ⟨c1, c2, c3, c4⟩), if_neg h6]; rfl
          · rw [cIf_t (show okP w h dd g from ⟨c1, c2, c3, c4⟩), if_neg h6]; rfl
        · show Ev _ _ 42 _ _ _ _
          refine ev_bi (v := (-102)) rfl (by decide) ?_
          refine ev_ri rfl rfl ?_ ?_
          · rw [cIf_f (show ¬ okP w h dd g from fun q => c4 q.2.2.2)]
          · rw [cIf_f (show ¬ okP w h dd g from fun q => c4 q.2.2.2)]
