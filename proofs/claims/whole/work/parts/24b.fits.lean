set_option maxHeartbeats 4000000 in
theorem lp_ba {np : Nat} {M : Nat → Nat → Int32} {L : Nat → Int64} {p : Nat} (hp : p < 6) (d : Nat) : ∀ k a, a + k = p + 1 → ∀ v4 v5 v6, Ev (d + 2) mX6_areBorne 4 [some (.ref 21), some (.int (nI p)), some (.int (zi (∀ q, q < a → brA M p q))), some (.int (nI a)), v4, v5, v6] [] (mk np M L) (Qr mX6_areBorne (some (.int (zi (brn M p)))) (mk np M L)) := by
  intro k
  induction k with
  | zero =>
    intro a hak v4 v5 v6
    obtain rfl : a = p + 1 := by omega
    iterate 2 refine ev_s rfl ?_
    refine ev_ic rfl rfl ?_
    rw [show zbr .gt (nI (p + 1)) (nI p) 138 9 = 138 from zgti_t (n := p) rfl (by omega) (by omega)]
    refine ev_s rfl ?_
    refine ev_rz rfl rfl (zi_01 _) ?_ ?_
    · rfl
    · rfl
  | succ k ih =>
    intro a hak v4 v5 v6
    have ha : a < p + 1 := by omega
    iterate 2 refine ev_s rfl ?_
    refine ev_ic rfl rfl ?_
    rw [show zbr .gt (nI a) (nI p) 138 9 = 9 from zgti_f (n := p) rfl (by omega) (by omega)]
    refine ev_ik (v := 0) rfl (by decide) ?_
    refine ev_s (ls' := [some (.ref 21), some (.int (nI p)), some (.int (zi (∀ q, q < a → brA M p q))), some (.int (nI a)), some (.int 0), v5, v6]) rfl ?_
    refine ev_ik (v := 0) rfl (by decide) ?_
    refine ev_s (ls' := [some (.ref 21), some (.int (nI p)), some (.int (zi (∀ q, q < a → brA M p q))), some (.int (nI a)), some (.int 0), some (.int 0), v6]) rfl ?_
    refine lp_bb (a := a) hp (by omega) d (p + 1) 0 (by omega) v6 (fun v7 => ?_)
    refine ev_s rfl ?_
    refine ev_cut (pc2 := 131) (ls2 := [some (.ref 21), some (.int (nI p)), some (.int (zi (∀ q, q < a → brA M p q))), some (.int (nI a)), some (.int (bsS M p a (p + 1))), some (.int (nI (p + 1))), v7]) (st2 := [(.int (zi ((∀ q, q < a → brA M p q) ∧ brA M p a)))]) (hp2 := (mk np M L)) ?_ (fun hK1 => ?_)
    · show Ev _ _ 131 _ _ _ _
      refine ev_s (ls' := [some (.ref 21), some (.int (nI p)), some (.int (zi ((∀ q, q < a → brA M p q) ∧ brA M p a))), some (.int (nI a)), some (.int (bsS M p a (p + 1))), some (.int (nI (p + 1))), v7]) rfl ?_
      refine ev_inc (y := 1) (v := nI (a + 1)) (ls' := [some (.ref 21), some (.int (nI p)), some (.int (zi ((∀ q, q < a → brA M p q) ∧ brA M p a))), some (.int (nI (a + 1))), some (.int (bsS M p a (p + 1))), some (.int (nI (p + 1))), v7]) rfl rfl (by decide) (nI_1 _) rfl ?_
      refine ev_s rfl ?_
      have e9 := ih (a + 1) (by omega) (some (.int (bsS M p a (p + 1)))) (some (.int (nI (p + 1)))) (v7)
      rw [show (∀ q, q < a + 1 → brA M p q) = ((∀ q, q < a → brA M p q) ∧ brA M p a) from propext ⟨fun h => ⟨fun q hq => h q (by omega), h a (by omega)⟩, fun h q hq => by
        rcases Nat.lt_or_ge q a with z | z
        · exact h.1 q z
        · obtain rfl : q = a := by omega
          exact h.2⟩] at e9
      exact e9
    · show Ev _ _ 102 _ _ _ _
      refine ev_if rfl rfl (ev_bze (fun c1 => ?_) (fun c1 => ?_))
      · show Ev _ _ 130 _ _ _ _
        refine ev_ik (v := 0) rfl (by decide) ?_
        rw [zi_f (show ¬ ((∀ q, q < a → brA M p q) ∧ brA M p a) from (by first | exact fun h => absurd h.1 (by assumption) | simp_all [brA]))] at hK1
        exact hK1
      · show Ev _ _ 105 _ _ _ _
        refine ev_s rfl ?_
        refine ev_gf (rd np M L (by omega) rfl) rfl rfl rfl ?_
        refine ev_s rfl ?_
        refine ev_ia (rd np M L (by omega) rfl) rfl (zin_nI (by omega) (by decide)) ?_
        refine ev_ik (v := (-1)) rfl (by decide) ?_
        refine ev_ic rfl rfl (ev_br (zb_eq _ _ _ _) (fun c2 => ?_) (fun c2 => ?_))
        · show Ev _ _ 126 _ _ _ _
          refine ev_ik (v := 1) rfl (by decide) ?_
          refine ev_s rfl ?_
          rw [zi_t (show (∀ q, q < a → brA M p q) ∧ brA M p a from (by first | exact fun h => absurd h.1 (by assumption) | simp_all [brA]))] at hK1
          exact hK1
        · show Ev _ _ 115 _ _ _ _
          iterate 2 refine ev_s rfl ?_
          refine ev_gf (rd np M L (by omega) rfl) rfl rfl rfl ?_
          refine ev_s rfl ?_
          refine ev_ia (rd np M L (by omega) rfl) rfl (zin_nI (by omega) (by decide)) ?_
          refine ev_ic rfl rfl (ev_br (zb_gt _ _ _ _) (fun c3 => ?_) (fun c3 => ?_))
          · show Ev _ _ 130 _ _ _ _
            refine ev_ik (v := 0) rfl (by decide) ?_
            rw [zi_f (show ¬ ((∀ q, q < a → brA M p q) ∧ brA M p a) from (by first | exact fun h => absurd h.1 (by assumption) | simp_all [brA]))] at hK1
            exact hK1
          · show Ev _ _ 126 _ _ _ _
            refine ev_ik (v := 1) rfl (by decide) ?_
            refine ev_s rfl ?_
            rw [zi_t (show (∀ q, q < a → brA M p q) ∧ brA M p a from (by first | exact fun h => absurd h.1 (by assumption) | simp_all [brA]))] at hK1
            exact hK1
set_option maxHeartbeats 4000000 in
theorem rn_borne {np : Nat} {M : Nat → Nat → Int32} {L : Nat → Int64} {p : Nat} (hp : p < 6) (d : Nat) : Rn (d + 2) mX6_areBorne [(.ref 21), (.int (nI p))] (mk np M L) (some (.int (zi (brn M p)))) (mk np M L) := by
  unfold Rn
  refine ev_ik (v := 1) rfl (by decide) ?_
  refine ev_s (ls' := [some (.ref 21), some (.int (nI p)), some (.int 1), none, none, none, none]) rfl ?_
  refine ev_ik (v := 0) rfl (by decide) ?_
  refine ev_s (ls' := [some (.ref 21), some (.int (nI p)), some (.int 1), some (.int 0), none, none, none]) rfl ?_
  have e9 := lp_ba (np := np) (M := M) (L := L) hp d (p + 1) 0 (by omega) none none none
  rw [zi_t (show ∀ q, q < 0 → brA M p q from fun q h => absurd h (by omega))] at e9
  exact e9
