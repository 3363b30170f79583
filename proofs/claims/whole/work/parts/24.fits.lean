/-! ===== LoadSpaceModel: areBorne, fits ===== -/
def cnB (M : Nat → Nat → Int32) (p a b : Nat) : Prop := ¬ nI a = nI b ∧ (nI a = nI p ∨ ¬ M 29 a = 0) ∧ (nI b = nI p ∨ ¬ M 29 b = 0) ∧ mAb M b a
noncomputable def bsS (M : Nat → Nat → Int32) (p a : Nat) : Nat → Int32
  | 0 => 0
  | b + 1 => bsS M p a b + cIf (cnB M p a b) (M 25 b) 0
def brA (M : Nat → Nat → Int32) (p a : Nat) : Prop := M 27 a = -1 ∨ ¬ M 27 a < bsS M p a (p + 1)
def brn (M : Nat → Nat → Int32) (p : Nat) : Prop := ∀ a, a < p + 1 → brA M p a
def outM (M : Nat → Nat → Int32) (p : Nat) : Prop := ¬ M 21 0 < M 30 p + M 33 p ∧ ¬ M 21 1 < M 31 p + M 34 p ∧ M 32 p + M 35 p ≤ M 21 2
def cmX (M : Nat → Nat → Int32) (p q : Nat) : Int32 := cmn (M 30 p) (M 33 p) (M 30 q) (M 33 q)
def cmY (M : Nat → Nat → Int32) (p q : Nat) : Int32 := cmn (M 31 p) (M 34 p) (M 31 q) (M 34 q)
def cmZ (M : Nat → Nat → Int32) (p q : Nat) : Int32 := cmn (M 32 p) (M 35 p) (M 32 q) (M 35 q)
def colM (M : Nat → Nat → Int32) (p q : Nat) : Prop := ¬ cmX M p q ≤ 0 ∧ ¬ cmZ M p q ≤ 0 ∧ ¬ cmY M p q ≤ 0
def ordM (M : Nat → Nat → Int32) (p q : Nat) : Prop := ¬ M 28 p - M 28 q ≤ 0 ∧ mBf M p q ∨ ¬ 0 ≤ M 28 p - M 28 q ∧ mBf M q p
def unS (M : Nat → Nat → Int32) (p : Nat) : Nat → Int32
  | 0 => 0
  | q + 1 => if M 29 q = 0 then unS M p q else if M 31 q + M 34 q = M 31 p then unS M p q + cmX M p q * cmZ M p q else unS M p q + 0
def okQ (M : Nat → Nat → Int32) (p q : Nat) : Prop := M 29 q = 0 ∨ ¬ colM M p q ∧ ¬ ordM M p q
def ftM (M : Nat → Nat → Int32) (p : Nat) : Prop := outM M p ∧ (∀ q, q < p → okQ M p q) ∧ (M 31 p = 0 ∨ unS M p p = M 33 p * M 35 p) ∧ brn M p

set_option maxHeartbeats 4000000 in
theorem lp_bb {np : Nat} {M : Nat → Nat → Int32} {L : Nat → Int64} {p a : Nat} (hp : p < 6) (ha : a ≤ p) (d : Nat) {g : Int32} {Q : zCf → Prop} : ∀ k b, b + k = p + 1 → ∀ v6, (∀ v6, Ev (d + 2) mX6_areBorne 101 [some (.ref 21), some (.int (nI p)), some (.int g), some (.int (nI a)), some (.int (bsS M p a (p + 1))), some (.int (nI (p + 1))), v6] [] (mk np M L) Q) → Ev (d + 2) mX6_areBorne 15 [some (.ref 21), some (.int (nI p)), some (.int g), some (.int (nI a)), some (.int (bsS M p a b)), some (.int (nI b)), v6] [] (mk np M L) Q := by
  intro k
  induction k with
  | zero =>
    intro b hbk v6 hK
    obtain rfl : b = p + 1 := by omega
    iterate 2 refine ev_s rfl ?_
    refine ev_ic rfl rfl ?_
    rw [show zbr .gt (nI (p + 1)) (nI p) 101 21 = 101 from zgti_t (n := p) rfl (by omega) (by omega)]
    exact hK _
  | succ k ih =>
    intro b hbk v6 hK
    have hb : b < p + 1 := by omega
    have hun : bsS M p a (b + 1) = bsS M p a b + cIf (cnB M p a b) (M 25 b) 0 := rfl
    iterate 2 refine ev_s rfl ?_
    refine ev_ic rfl rfl ?_
    rw [show zbr .gt (nI b) (nI p) 101 21 = 21 from zgti_f (n := p) rfl (by omega) (by omega)]
    iterate 2 refine ev_s rfl ?_
    refine ev_cut (pc2 := 72) (ls2 := [some (.ref 21), some (.int (nI p)), some (.int g), some (.int (nI a)), some (.int (bsS M p a b)), some (.int (nI b)), v6]) (st2 := [(.int (zi (cnB M p a b)))]) (hp2 := (mk np M L)) ?_ (fun hK1 => ?_)
    · show Ev _ _ 72 _ _ _ _
      refine ev_s (ls' := [some (.ref 21), some (.int (nI p)), some (.int g), some (.int (nI a)), some (.int (bsS M p a b)), some (.int (nI b)), some (.int (zi (cnB M p a b)))]) rfl ?_
      iterate 2 refine ev_s rfl ?_
      refine ev_if rfl rfl (ev_bze (fun c1 => ?_) (fun c1 => ?_))
      · show Ev _ _ 91 _ _ _ _
        refine ev_ik (v := 0) rfl (by decide) ?_
        refine ev_s rfl ?_
        refine ev_s (ls' := [some (.ref 21), some (.int (nI p)), some (.int g), some (.int (nI a)), some (.int ((bsS M p a b) + 0)), some (.int (nI b)), some (.int (zi (cnB M p a b)))]) rfl ?_
        refine ev_inc (y := 1) (v := nI (b + 1)) (ls' := [some (.ref 21), some (.int (nI p)), some (.int g), some (.int (nI a)), some (.int ((bsS M p a b) + 0)), some (.int (nI (b + 1))), some (.int (zi (cnB M p a b)))]) rfl rfl (by decide) (nI_1 _) rfl ?_
        refine ev_s rfl ?_
        have e9 := ih (b + 1) (by omega) (some (.int (zi (cnB M p a b)))) hK
        rw [hun, cIf_f c1] at e9
        exact e9
      · show Ev _ _ 81 _ _ _ _
        refine ev_s rfl ?_
        refine ev_gf (rd np M L (by omega) rfl) rfl rfl rfl ?_
        refine ev_s rfl ?_
        refine ev_ia (rd np M L (by omega) rfl) rfl (zin_nI (by omega) (by decide)) ?_
        iterate 2 refine ev_s rfl ?_
        refine ev_s (ls' := [some (.ref 21), some (.int (nI p)), some (.int g), some (.int (nI a)), some (.int ((bsS M p a b) + (M 25 b))), some (.int (nI b)), some (.int (zi (cnB M p a b)))]) rfl ?_
        refine ev_inc (y := 1) (v := nI (b + 1)) (ls' := [some (.ref 21), some (.int (nI p)), some (.int g), some (.int (nI a)), some (.int ((bsS M p a b) + (M 25 b))), some (.int (nI (b + 1))), some (.int (zi (cnB M p a b)))]) rfl rfl (by decide) (nI_1 _) rfl ?_
        refine ev_s rfl ?_
        have e9 := ih (b + 1) (by omega) (some (.int (zi (cnB M p a b)))) hK
        rw [hun, cIf_t c1] at e9
        exact e9
    · show Ev _ _ 24 _ _ _ _
      refine ev_ic rfl rfl (ev_br (zb_eq _ _ _ _) (fun c2 => ?_) (fun c2 => ?_))
      · show Ev _ _ 71 _ _ _ _
        refine ev_ik (v := 0) rfl (by decide) ?_
        rw [zi_f (show ¬ (cnB M p a b) from (by simp_all [cnB]))] at hK1
        exact hK1
      · show Ev _ _ 27 _ _ _ _
        iterate 2 refine ev_s rfl ?_
        refine ev_ic rfl rfl (ev_br (zb_eq _ _ _ _) (fun c3 => ?_) (fun c3 => ?_))
        · show Ev _ _ 41 _ _ _ _
          iterate 2 refine ev_s rfl ?_
          refine ev_ic rfl rfl (ev_br (zb_eq _ _ _ _) (fun c4 => ?_) (fun c4 => ?_))
          · show Ev _ _ 57 _ _ _ _
            iterate 3 refine ev_s rfl ?_
            refine ev_cv (vs := [(.ref 21), (.int (nI b)), (.int (nI a))]) (rest := []) (rv := (some (.int (zi (mAb M b a))))) rfl rfl rfl (rd np M L (by omega) rfl) rfl rfl rfl rfl (rn_isAbove (a := b) (b := a) (by omega) (by omega) _) ?_
            show Ev _ _ 64 _ [(.int (zi (mAb M b a)))] _ _
            refine ev_if rfl rfl (ev_bze (fun c5 => ?_) (fun c5 => ?_))
            · show Ev _ _ 71 _ _ _ _
              refine ev_ik (v := 0) rfl (by decide) ?_
              rw [zi_f (show ¬ (cnB M p a b) from (by simp_all [cnB]))] at hK1
              exact hK1
            · show Ev _ _ 67 _ _ _ _
              refine ev_ik (v := 1) rfl (by decide) ?_
              refine ev_s rfl ?_
              rw [zi_t (show cnB M p a b from (by simp_all [cnB]))] at hK1
              exact hK1
          · show Ev _ _ 47 _ _ _ _
            refine ev_s rfl ?_
            refine ev_gf (rd np M L (by omega) rfl) rfl rfl rfl ?_
            refine ev_s rfl ?_
            refine ev_ba (rd np M L (by omega) rfl) rfl (zin_nI (by omega) (by decide)) ?_
            refine ev_if rfl rfl (ev_br (zb_eq _ _ _ _) (fun c6 => ?_) (fun c6 => ?_))
            · show Ev _ _ 71 _ _ _ _
              refine ev_ik (v := 0) rfl (by decide) ?_
              rw [zi_f (show ¬ (cnB M p a b) from (by simp_all [cnB]))] at hK1
              exact hK1
            · show Ev _ _ 57 _ _ _ _
              iterate 3 refine ev_s rfl ?_
              refine ev_cv (vs := [(.ref 21), (.int (nI b)), (.int (nI a))]) (rest := []) (rv := (some (.int (zi (mAb M b a))))) rfl rfl rfl (rd np M L (by omega) rfl) rfl rfl rfl rfl (rn_isAbove (a := b) (b := a) (by omega) (by omega) _) ?_
              show Ev _ _ 64 _ [(.int (zi (mAb M b a)))] _ _
              refine ev_if rfl rfl (ev_bze (fun c7 => ?_) (fun c7 => ?_))
              · show Ev _ _ 71 _ _ _ _
                refine ev_ik (v := 0) rfl (by decide) ?_
                rw [zi_f (show ¬ (cnB M p a b) from (by simp_all [cnB]))] at hK1
                exact hK1
              · show Ev _ _ 67 _ _ _ _
                refine ev_ik (v := 1) rfl (by decide) ?_
                refine ev_s rfl ?_
                rw [zi_t (show cnB M p a b from (by simp_all [cnB]))] at hK1
                exact hK1
        · show Ev _ _ 32 _ _ _ _
          refine ev_s rfl ?_
          refine ev_gf (rd np M L (by omega) rfl) rfl rfl rfl ?_
          refine ev_s rfl ?_
          refine ev_ba (rd np M L (by omega) rfl) rfl (zin_nI (by omega) (by decide)) ?_
          refine ev_if rfl rfl (ev_br (zb_eq _ _ _ _) (fun c8 => ?_) (fun c8 => ?_))
          · show Ev _ _ 71 _ _ _ _
            refine ev_ik (v := 0) rfl (by decide) ?_
            rw [zi_f (show ¬ (cnB M p a b) from (by simp_all [cnB]))] at hK1
            exact hK1
          · show Ev _ _ 41 _ _ _ _
            iterate 2 refine ev_s rfl ?_
            refine ev_ic rfl rfl (ev_br (zb_eq _ _ _ _) (fun c9 => ?_) (fun c9 => ?_))
            · show Ev _ _ 57 _ _ _ _
              iterate 3 refine ev_s rfl ?_
              refine ev_cv (vs := [(.ref 21), (.int (nI b)), (.int (nI a))]) (rest := []) (rv := (some (.int (zi (mAb M b a))))) rfl rfl rfl (rd np M L (by omega) rfl) rfl rfl rfl rfl (rn_isAbove (a := b) (b := a) (by omega) (by omega) _) ?_
              show Ev _ _ 64 _ [(.int (zi (mAb M b a)))] _ _
              refine ev_if rfl rfl (ev_bze (fun c10 => ?_) (fun c10 => ?_))
              · show Ev _ _ 71 _ _ _ _
                refine ev_ik (v := 0) rfl (by decide) ?_
                rw [zi_f (show ¬ (cnB M p a b) from (by simp_all [cnB]))] at hK1
                exact hK1
              · show Ev _ _ 67 _ _ _ _
                refine ev_ik (v := 1) rfl (by decide) ?_
                refine ev_s rfl ?_
                rw [zi_t (show cnB M p a b from (by simp_all [cnB]))] at hK1
                exact hK1
            · show Ev _ _ 47 _ _ _ _
              refine ev_s rfl ?_
              refine ev_gf (rd np M L (by omega) rfl) rfl rfl rfl ?_
              refine ev_s rfl ?_
              refine ev_ba (rd np M L (by omega) rfl) rfl (zin_nI (by omega) (by decide)) ?_
              refine ev_if rfl rfl (ev_br (zb_eq _ _ _ _) (fun c11 => ?_) (fun c11 => ?_))
              · show Ev _ _ 71 _ _ _ _
                refine ev_ik (v := 0) rfl (by decide) ?_
                rw [zi_f (show ¬ (cnB M p a b) from (by simp_all [cnB]))] at hK1
                exact hK1
              · show Ev _ _ 57 _ _ _ _
                iterate 3 refine ev_s rfl ?_
                refine ev_cv (vs := [(.ref 21), (.int (nI b)), (.int (nI a))]) (rest := []) (rv := (some (.int (zi (mAb M b a))))) rfl rfl rfl (rd np M L (by omega) rfl) rfl rfl rfl rfl (rn_isAbove (a := b) (b := a) (by omega) (by omega) _) ?_
                show Ev _ _ 64 _ [(.int (zi (mAb M b a)))] _ _
                refine ev_if rfl rfl (ev_bze (fun c12 => ?_) (fun c12 => ?_))
                · show Ev _ _ 71 _ _ _ _
                  refine ev_ik (v := 0) rfl (by decide) ?_
                  rw [zi_f (show ¬ (cnB M p a b) from (by simp_all [cnB]))] at hK1
                  exact hK1
                · show Ev _ _ 67 _ _ _ _
                  refine ev_ik (v := 1) rfl (by decide) ?_
                  refine ev_s rfl ?_
                  rw [zi_t (show cnB M p a b from (by simp_all [cnB]))] at hK1
                  exact hK1
