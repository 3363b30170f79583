-- lk: 36 40 41 44
/-! ===== what holds between two calls ===== -/
def iD (np : Nat) (g : Nat → Nat → Nat) : Prop := np ≤ 6 ∧ g 7 0 = np ∧ (∀ k, k < 3 → 1 ≤ g 8 k ∧ g 8 k ≤ 12) ∧ ∀ i, i < np → (∀ k, k < 3 → 1 ≤ g k i ∧ g k i ≤ 12) ∧ (1 ≤ g 3 i ∧ g 3 i ≤ 1000) ∧ g 4 i ≤ 2 ∧ g 5 i ≤ 6001 ∧ g 6 i ≤ 9
def pcR (g : Nat → Nat → Nat) (i : Nat) (r : Nat → Int32) : Prop := (∀ k, k < 5 → r k = nI (g k i)) ∧ r 5 = lmI (g 5 i) ∧ r 6 = nI (g 6 i) ∧ ∀ t, t < 6 → (cHt (r 7) (nI t) ↔ t ∈ Tl g i)
def iC (np : Nat) (g : Nat → Nat → Nat) (M : Nat → Nat → Int32) : Prop := M 0 2 = nI np ∧ (∀ k, k < 3 → M 1 k = nI (g 8 k)) ∧ ∀ i, i < np → pcR g i (M (57 + i))
def iS (mt : Nat) (M : Nat → Nat → Int32) : Prop := mt ≤ 3000 ∧ M 21 4 = nI mt ∧ M 0 5 = nI (3000 - mt) ∧ M 11 8 = M 21 5 ∧ M 21 6 = zi (¬ M 11 7 ≤ M 11 8)
def iT (M : Nat → Nat → Int32) : Prop := (∀ i, i < 6 → M (14 + i) 0 = 0) ∧ ∀ x z, x < 12 → z < 12 → M 20 (z * 12 + x) = 0
def iB (np : Nat) (g B : Nat → Nat → Nat) (wq sq : Nat → Nat) : Prop := (∀ i, (B i 0 = 0 ∨ B i 0 = 1) ∧ (B i 0 = 1 → i < np ∧ B i 1 < 6 ∧ psv (B i) ∧ outA g (B i) ∧ (1 ≤ wq i ∧ wq i ≤ 1000) ∧ sq i ≤ 9)) ∧ ∀ a b, a ≠ b → B a 0 = 1 → B b 0 = 1 → ¬ (ovx (B a) (B b) ∧ ovy (B a) (B b) ∧ ovz (B a) (B b))
def qRow (wq sq : Nat → Nat) (M : Nat → Nat → Int32) (i : Nat) (b : Nat → Nat) : Prop := M 38 i = nI (b 2) ∧ M 39 i = nI (b 3) ∧ M 40 i = nI (b 4) ∧ M 41 i = nI (b 5) ∧ M 42 i = nI (b 6) ∧ M 43 i = nI (b 7) ∧ M 44 i = nI (b 1) ∧ M 45 i = nI (wq i) ∧ M 46 i = nI (sq i)
def iP (B : Nat → Nat → Nat) (wq sq : Nat → Nat) (M : Nat → Nat → Int32) : Prop := ∀ i, i < 6 → M (5 + i) 0 = nI (B i 0) ∧ M 37 i = nI (B i 0) ∧ (B i 0 = 1 → (bRow (M (5 + i)) (B i) ∧ M (5 + i) 1 = nI (wq i) ∧ M (5 + i) 3 = nI (sq i)) ∧ qRow wq sq M i (B i))
def IV (np : Nat) (g B : Nat → Nat → Nat) (wq sq : Nat → Nat) (mt : Nat) (M : Nat → Nat → Int32) : Prop := iD np g ∧ iC np g M ∧ RMs g M ∧ iS mt M ∧ iT M ∧ iB np g B wq sq ∧ iP B wq sq M
def IVx (np : Nat) (M : Nat → Nat → Int32) : Prop := ∃ g B wq sq mt, IV np g B wq sq mt M
/-- class and reference answer the same, and what holds between calls goes on -/
def SM (mc mm : Nat) (vs : List Value) (np : Nat) (M : Nat → Nat → Int32) (L : Nat → Int64) : Prop := ∃ r np' M1 M2 L2, Rn 60 mc (.ref 0 :: vs) (mk np M L) (some (.int r)) (mk np' M1 L) ∧ Rn 60 mm (.ref 21 :: vs) (mk np' M1 L) (some (.int r)) (mk np' M2 L2) ∧ IVx np' M2 ∧ np ≤ np'
theorem SM_0 {mc mm : Nat} {vs : List Value} {np : Nat} {M : Nat → Nat → Int32} {L : Nat → Int64} {r : Int32} {d e : Nat} (h1 : Rn d mc (.ref 0 :: vs) (mk np M L) (some (.int r)) (mk np M L)) (h2 : Rn e mm (.ref 21 :: vs) (mk np M L) (some (.int r)) (mk np M L)) (hd : d ≤ 60) (he : e ≤ 60) (h : IVx np M) : SM mc mm vs np M L :=
  ⟨r, np, M, M, L, Rn_le h1 hd, Rn_le h2 he, h, Nat.le_refl _⟩
section INV
variable {np : Nat} {g B : Nat → Nat → Nat} {wq sq : Nat → Nat} {mt : Nat} {M : Nat → Nat → Int32} {L : Nat → Int64}
theorem IV.x (h : IV np g B wq sq mt M) : IVx np M := ⟨g, B, wq, sq, mt, h⟩
theorem IV.n6 (h : IV np g B wq sq mt M) : np ≤ 6 := h.1.1
theorem IV.m3 (h : IV np g B wq sq mt M) : M 21 3 = nI np := by rw [h.2.2.1.1.2.2.2, h.1.2.1]
/-- a piece that isn't told -/
theorem IV.nu (h : IV np g B wq sq mt M) {n : Int32} (hu : ¬ mW n 1 (nI np)) : ¬ mW n 1 (M 21 3) := by rw [h.m3]; exact hu
/-- what is told of piece k changes -/
def gs (g : Nat → Nat → Nat) (r k v : Nat) : Nat → Nat → Nat := fun r' k' => if r' = r ∧ k' = k then v else g r' k'
theorem gs_s (g : Nat → Nat → Nat) (r k v : Nat) : gs g r k v r k = v := if_pos ⟨rfl, rfl⟩
theorem gs_r {r k v r' k' : Nat} (h : r' ≠ r) : gs g r k v r' k' = g r' k' := if_neg (fun w => h w.1)
theorem gs_k {r k v r' k' : Nat} (h : k' ≠ k) : gs g r k v r' k' = g r' k' := if_neg (fun w => h w.2)
theorem Tl_cg {g g' : Nat → Nat → Nat} {i : Nat} (h0 : g' 0 i = g 0 i) (h1 : g' 1 i = g 1 i) (h2 : g' 2 i = g 2 i) (h4 : g' 4 i = g 4 i) : Tl g' i = Tl g i := by
  unfold Tl
  rw [h4]
  exact tls_cg (by show nI _ = nI _; rw [h0]) (by show nI _ = nI _; rw [h1]) (by show nI _ = nI _; rw [h2]) _
/-- the packing stays where other rows change -/
theorem iP.cg {M' : Nat → Nat → Int32} (h : iP B wq sq M) (hc : ∀ i, i < 6 → M' (5 + i) = M (5 + i)) (hm : ∀ k, 37 ≤ k → k ≤ 46 → M' k = M k) : iP B wq sq M' := by
  intro i hi
  obtain ⟨a, b, c⟩ := h i hi
  unfold qRow at c ⊢
  rw [hc i hi, hm 37 (by omega) (by omega), hm 38 (by omega) (by omega), hm 39 (by omega) (by omega), hm 40 (by omega) (by omega), hm 41 (by omega) (by omega), hm 42 (by omega) (by omega), hm 43 (by omega) (by omega), hm 44 (by omega) (by omega), hm 45 (by omega) (by omega), hm 46 (by omega) (by omega)]
  exact ⟨a, b, c⟩
theorem iT.cg {M' : Nat → Nat → Int32} (h : iT M) (hc : ∀ k, 14 ≤ k → k ≤ 20 → M' k = M k) : iT M' := ⟨fun i hi => by rw [hc (14 + i) (by omega) (by omega)]; exact h.1 i hi, fun x z hx hz => by rw [hc 20 (by omega) (by omega)]; exact h.2 x z hx hz⟩
theorem iS.cg {M' : Nat → Nat → Int32} (h : iS mt M) (a : M' 21 4 = M 21 4) (b : M' 0 5 = M 0 5) (c : M' 11 = M 11) (d : M' 21 5 = M 21 5) (e : M' 21 6 = M 21 6) : iS mt M' := by
  unfold iS
  rw [a, b, c, d, e]
  exact h
theorem iB.cg {g' : Nat → Nat → Nat} (h : iB np g B wq sq) (h8 : ∀ k, k < 3 → g' 8 k = g 8 k) : iB np g' B wq sq := by
  refine ⟨fun i => ⟨(h.1 i).1, fun e => ?_⟩, h.2⟩
  obtain ⟨a, b, c, d, f⟩ := (h.1 i).2 e
  refine ⟨a, b, c, ?_, f⟩
  unfold outA
  rw [h8 0 (by omega), h8 1 (by omega), h8 2 (by omega)]
  exact d
/-- marks -/
theorem sm_turn (h : IV np g B wq sq mt M) (a x : Int32) : SM mX5_turn mX6_turn [.int a, .int x] np M L := by
  by_cases hu : mW a 1 (nI np)
  · obtain ⟨k, hk, rfl, -⟩ := mW_of h.n6 hu
    have hk6 : k < 6 := by have := h.n6; omega
    have r1 := rn_turn_k (L := L) (M := M) (x := x) h.n6 hk 0
    by_cases hx : cW x 0 2
    · obtain ⟨v, hv, rfl⟩ := cW_of (m := 2) (k := 2) rfl (by decide) hx
      rw [cIf_t hx, cIf_t hx] at r1
      obtain ⟨M1, hM1⟩ : ∃ M1, M1 = smM M (57 + k) (nI v) (tbl (M (57 + k)) (tmo (nI v))) := ⟨_, rfl⟩
      rw [← hM1] at r1
      have e1 : ∀ q, q ≠ 57 + k → M1 q = M q := fun q hq => by rw [hM1]; unfold smM; rw [up2_n hq, up2_n hq]
      have r2 := rn_mturn_k (L := L) (M := M1) (x := nI v) h.n6 hk (by rw [e1 21 (by omega)]; exact h.m3) 0
      rw [cIf_t (show mW (nI v) 0 2 from hx), cIf_t (show mW (nI v) 0 2 from hx)] at r2
      obtain ⟨hD, hC, hM, hS, hT, hB, hP⟩ := h
      have hpc := hC.2.2 k hk
      have hmk := hM.2 k (by rw [hD.2.1]; exact hk)
      have eq : M1 26 k = M (57 + k) 4 := by rw [e1 26 (by omega), hmk.2.2.1, hpc.1 4 (by omega)]
      rw [eq] at r2
      refine ⟨_, np, M1, _, L, Rn_le r1 (by omega), Rn_le r2 (by omega), ⟨gs g 4 k v, B, wq, sq, mt, ?_, ?_, ?_, ?_, ?_, ?_, ?_⟩, Nat.le_refl _⟩
      · refine ⟨hD.1, by rw [gs_r (by omega)]; exact hD.2.1, fun j hj => by rw [gs_r (by omega)]; exact hD.2.2.1 j hj, fun i hi => ?_⟩
        obtain ⟨d1, d2, d3, d4, d5⟩ := hD.2.2.2 i hi
        refine ⟨fun j hj => by rw [gs_r (by omega)]; exact d1 j hj, by rw [gs_r (by omega)]; exact d2, ?_, by rw [gs_r (by omega)]; exact d4, by rw [gs_r (by omega)]; exact d5⟩
        by_cases e : i = k
        · subst e; rw [gs_s]; exact hv
        · rw [gs_k e]; exact d3
      · refine ⟨by rw [up2_n (by omega), e1 0 (by omega)]; exact hC.1, fun j hj => by rw [up2_n (by omega), e1 1 (by omega), gs_r (by omega)]; exact hC.2.1 j hj, fun i hi => ?_⟩
        obtain ⟨c1, c2, c3, c4⟩ := hC.2.2 i hi
        rw [up2_n (by omega)]
        by_cases e : i = k
        · subst e
          have row : M1 (57 + i) = upd (upd (M (57 + i)) 4 (nI v)) 7 (tbl (M (57 + i)) (tmo (nI v))) := by rw [hM1, smM_s]
          rw [row]
          refine ⟨fun j hj => ?_, by rw [upd_n (by omega), upd_n (by omega), gs_r (by omega)]; exact c2, by rw [upd_n (by omega), upd_n (by omega), gs_r (by omega)]; exact c3, fun t ht => ?_⟩
          · rw [upd_n (by omega)]
            by_cases e4 : j = 4
            · subst e4; rw [upd_s, gs_s]
            · rw [upd_n e4, gs_r e4]; exact c1 j hj
          · rw [upd_s, tbl_mem (by omega) _ (by have := tmo_le (nI v); omega)]
            unfold Tl
            rw [gs_s, tls_cg (f := M (57 + i)) (f' := fg (gs g 4 i v) i) (by rw [c1 0 (by omega)]; show _ = nI _; rw [gs_r (by omega)]) (by rw [c1 1 (by omega)]; show _ = nI _; rw [gs_r (by omega)]) (by rw [c1 2 (by omega)]; show _ = nI _; rw [gs_r (by omega)])]
        · rw [e1 _ (by omega)]
          refine ⟨fun j hj => by rw [gs_k e]; exact c1 j hj, by rw [gs_k e]; exact c2, by rw [gs_k e]; exact c3, fun t ht => ?_⟩
          rw [Tl_cg (g := g) (g' := gs g 4 k v) (gs_k e) (gs_k e) (gs_k e) (gs_k e)]
          exact c4 t ht
      · refine ⟨?_, fun i hi => ?_⟩
        · rw [up2_n (by omega), e1 21 (by omega), gs_r (by omega), gs_r (by omega), gs_r (by omega), gs_r (by omega)]
          exact hM.1
        · rw [gs_r (by omega)] at hi
          obtain ⟨m1, m2, m3, m4, m5⟩ := hM.2 i hi
          refine ⟨fun j hj => by rw [up2_n (by omega), e1 _ (by omega), gs_r (by omega)]; exact m1 j hj, by rw [up2_n (by omega), e1 _ (by omega), gs_r (by omega)]; exact m2, ?_, by rw [up2_n (by omega), e1 _ (by omega), gs_r (by omega)]; exact m4, by rw [up2_n (by omega), e1 _ (by omega), gs_r (by omega)]; exact m5⟩
          rw [up2_s]
          by_cases e : i = k
          · subst e; rw [upd_s, gs_s]
          · rw [upd_n e, e1 _ (by omega), gs_k e]; exact m3
      · exact hS.cg (by rw [up2_n (by omega), e1 _ (by omega)]) (by rw [up2_n (by omega), e1 _ (by omega)]) (by rw [up2_n (by omega), e1 _ (by omega)]) (by rw [up2_n (by omega), e1 _ (by omega)]) (by rw [up2_n (by omega), e1 _ (by omega)])
      · exact hT.cg (fun q a b => by rw [up2_n (by omega), e1 _ (by omega)])
      · exact hB.cg (fun q a => gs_r (by omega))
      · exact hP.cg (fun q a => by rw [up2_n (by omega), e1 _ (by omega)]) (fun q a b => by rw [up2_n (by omega), e1 _ (by omega)])
    · rw [cIf_f hx, cIf_f hx] at r1
      have r2 := rn_mturn_k (L := L) (M := M) (x := x) h.n6 hk h.m3 0
      rw [cIf_f (show ¬ mW x 0 2 from hx), cIf_f (show ¬ mW x 0 2 from hx)] at r2
      exact SM_0 r1 r2 (by omega) (by omega) h.x
  · exact SM_0 (rn_turn_u h.n6 hu 0) (rn_mturn_u (h.nu hu) 0) (by omega) (by omega) h.x
end INV
