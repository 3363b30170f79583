-- lk: 45
/-! ===== limits, stops, what is large ===== -/
theorem lmt_iff {x : Int32} : lmt x ↔ mW x (-1) 6000 := by
  unfold lmt mW cW
  simp only [Int32.lt_iff_toInt_lt, ← Int32.toInt_inj]
  have e1 : (-1 : Int32).toInt = -1 := by decide
  have e2 : (6000 : Int32).toInt = 6000 := by decide
  have e3 : (0 : Int32).toInt = 0 := by decide
  rw [e1, e2, e3]
  omega
theorem lm_of {x : Int32} (h : lmt x) : ∃ v, v ≤ 6001 ∧ x = lmI v := by
  rcases h with h | h
  · exact ⟨0, by omega, by rw [h]; decide⟩
  · obtain ⟨j, hj, e⟩ := cW_of (m := 6000) (k := 6000) rfl (by decide) h
    exact ⟨j + 1, by omega, by rw [e]; unfold lmI; rw [nI_pred]⟩
section INV
variable {np : Nat} {g B : Nat → Nat → Nat} {wq sq : Nat → Nat} {mt : Nat} {M : Nat → Nat → Int32} {L : Nat → Int64}
theorem sm_limit (h : IV np g B wq sq mt M) (a x : Int32) : SM mX5_limit mX6_limit [.int a, .int x] np M L := by
  by_cases hu : mW a 1 (nI np)
  · obtain ⟨k, hk, rfl, -⟩ := mW_of h.n6 hu
    have hk6 : k < 6 := by have := h.n6; omega
    have r1 := rn_limit_k (L := L) (M := M) (x := x) h.n6 hk 0
    by_cases hx : lmt x
    · rw [cIf_t hx, cIf_t hx] at r1
      obtain ⟨M1, hM1⟩ : ∃ M1, M1 = up2 M (57 + k) 5 x := ⟨_, rfl⟩
      rw [← hM1] at r1
      have e1 : ∀ q, q ≠ 57 + k → M1 q = M q := fun q hq => by rw [hM1, up2_n hq]
      have r2 := rn_mlimit_k (L := L) (M := M1) (x := x) h.n6 hk (by rw [e1 21 (by omega)]; exact h.m3) 0
      rw [cIf_t (lmt_iff.mp hx), cIf_t (lmt_iff.mp hx)] at r2
      obtain ⟨v, hv, ev⟩ := lm_of hx
      obtain ⟨hD, hC, hM, hS, hT, hB, hP⟩ := h
      refine ⟨_, np, M1, _, L, Rn_le r1 (by omega), Rn_le r2 (by omega), ⟨gs g 5 k v, B, wq, sq, mt, ?_, ?_, ?_, ?_, ?_, ?_, ?_⟩, Nat.le_refl _⟩
      · refine ⟨hD.1, by rw [gs_r (by omega)]; exact hD.2.1, fun j hj => by rw [gs_r (by omega)]; exact hD.2.2.1 j hj, fun i hi => ?_⟩
        obtain ⟨d1, d2, d3, d4, d5⟩ := hD.2.2.2 i hi
        refine ⟨fun j hj => by rw [gs_r (by omega)]; exact d1 j hj, by rw [gs_r (by omega)]; exact d2, by rw [gs_r (by omega)]; exact d3, ?_, by rw [gs_r (by omega)]; exact d5⟩
        by_cases e : i = k
        · subst e; rw [gs_s]; exact hv
        · rw [gs_k e]; exact d4
      · refine ⟨by rw [up2_n (by omega), e1 0 (by omega)]; exact hC.1, fun j hj => by rw [up2_n (by omega), e1 1 (by omega), gs_r (by omega)]; exact hC.2.1 j hj, fun i hi => ?_⟩
        obtain ⟨c1, c2, c3, c4⟩ := hC.2.2 i hi
        rw [up2_n (by omega)]
        by_cases e : i = k
        · subst e
          rw [hM1, up2_s]
          refine ⟨fun j hj => by rw [upd_n (by omega), gs_r (by omega)]; exact c1 j hj, by rw [upd_s, gs_s]; exact ev, by rw [upd_n (by omega), gs_r (by omega)]; exact c3, fun t ht => ?_⟩
          rw [upd_n (by omega), Tl_cg (g := g) (g' := gs g 5 i v) (gs_r (by omega)) (gs_r (by omega)) (gs_r (by omega)) (gs_r (by omega))]
          exact c4 t ht
        · rw [e1 _ (by omega)]
          refine ⟨fun j hj => by rw [gs_k e]; exact c1 j hj, by rw [gs_k e]; exact c2, by rw [gs_k e]; exact c3, fun t ht => ?_⟩
          rw [Tl_cg (g := g) (g' := gs g 5 k v) (gs_k e) (gs_k e) (gs_k e) (gs_k e)]
          exact c4 t ht
      · refine ⟨?_, fun i hi => ?_⟩
        · rw [up2_n (by omega), e1 21 (by omega), gs_r (by omega), gs_r (by omega), gs_r (by omega), gs_r (by omega)]
          exact hM.1
        · rw [gs_r (by omega)] at hi
          obtain ⟨m1, m2, m3, m4, m5⟩ := hM.2 i hi
          refine ⟨fun j hj => by rw [up2_n (by omega), e1 _ (by omega), gs_r (by omega)]; exact m1 j hj, by rw [up2_n (by omega), e1 _ (by omega), gs_r (by omega)]; exact m2, by rw [up2_n (by omega), e1 _ (by omega), gs_r (by omega)]; exact m3, ?_, by rw [up2_n (by omega), e1 _ (by omega), gs_r (by omega)]; exact m5⟩
          rw [up2_s]
          by_cases e : i = k
          · subst e; rw [upd_s, gs_s]; exact ev
          · rw [upd_n e, e1 _ (by omega), gs_k e]; exact m4
      · exact hS.cg (by rw [up2_n (by omega), e1 _ (by omega)]) (by rw [up2_n (by omega), e1 _ (by omega)]) (by rw [up2_n (by omega), e1 _ (by omega)]) (by rw [up2_n (by omega), e1 _ (by omega)]) (by rw [up2_n (by omega), e1 _ (by omega)])
      · exact hT.cg (fun q a b => by rw [up2_n (by omega), e1 _ (by omega)])
      · exact hB.cg (fun q a => gs_r (by omega))
      · exact hP.cg (fun q a => by rw [up2_n (by omega), e1 _ (by omega)]) (fun q a b => by rw [up2_n (by omega), e1 _ (by omega)])
    · rw [cIf_f hx, cIf_f hx] at r1
      have r2 := rn_mlimit_k (L := L) (M := M) (x := x) h.n6 hk h.m3 0
      rw [cIf_f (fun q => hx (lmt_iff.mpr q)), cIf_f (fun q => hx (lmt_iff.mpr q))] at r2
      exact SM_0 r1 r2 (by omega) (by omega) h.x
  · exact SM_0 (rn_limit_u h.n6 hu 0) (rn_mlimit_u (h.nu hu) 0) (by omega) (by omega) h.x
theorem sm_order (h : IV np g B wq sq mt M) (a x : Int32) : SM mX5_order mX6_order [.int a, .int x] np M L := by
  by_cases hu : mW a 1 (nI np)
  · obtain ⟨k, hk, rfl, -⟩ := mW_of h.n6 hu
    have hk6 : k < 6 := by have := h.n6; omega
    have r1 := rn_order_k (L := L) (M := M) (x := x) h.n6 hk 0
    by_cases hx : cW x 0 9
    · obtain ⟨v, hv, rfl⟩ := cW_of (m := 9) (k := 9) rfl (by decide) hx
      rw [cIf_t hx, cIf_t hx] at r1
      obtain ⟨M1, hM1⟩ : ∃ M1, M1 = up2 M (57 + k) 6 (nI v) := ⟨_, rfl⟩
      rw [← hM1] at r1
      have e1 : ∀ q, q ≠ 57 + k → M1 q = M q := fun q hq => by rw [hM1, up2_n hq]
      have r2 := rn_morder_k (L := L) (M := M1) (x := nI v) h.n6 hk (by rw [e1 21 (by omega)]; exact h.m3) 0
      rw [cIf_t (show mW (nI v) 0 9 from hx), cIf_t (show mW (nI v) 0 9 from hx)] at r2
      obtain ⟨hD, hC, hM, hS, hT, hB, hP⟩ := h
      have hpc := hC.2.2 k hk
      have hmk := hM.2 k (by rw [hD.2.1]; exact hk)
      have eq : M1 28 k = M (57 + k) 6 := by rw [e1 28 (by omega), hmk.2.2.2.2, hpc.2.2.1]
      rw [eq] at r2
      refine ⟨_, np, M1, _, L, Rn_le r1 (by omega), Rn_le r2 (by omega), ⟨gs g 6 k v, B, wq, sq, mt, ?_, ?_, ?_, ?_, ?_, ?_, ?_⟩, Nat.le_refl _⟩
      · refine ⟨hD.1, by rw [gs_r (by omega)]; exact hD.2.1, fun j hj => by rw [gs_r (by omega)]; exact hD.2.2.1 j hj, fun i hi => ?_⟩
        obtain ⟨d1, d2, d3, d4, d5⟩ := hD.2.2.2 i hi
        refine ⟨fun j hj => by rw [gs_r (by omega)]; exact d1 j hj, by rw [gs_r (by omega)]; exact d2, by rw [gs_r (by omega)]; exact d3, by rw [gs_r (by omega)]; exact d4, ?_⟩
        by_cases e : i = k
        · subst e; rw [gs_s]; exact hv
        · rw [gs_k e]; exact d5
      · refine ⟨by rw [up2_n (by omega), e1 0 (by omega)]; exact hC.1, fun j hj => by rw [up2_n (by omega), e1 1 (by omega), gs_r (by omega)]; exact hC.2.1 j hj, fun i hi => ?_⟩
        obtain ⟨c1, c2, c3, c4⟩ := hC.2.2 i hi
        rw [up2_n (by omega)]
        by_cases e : i = k
        · subst e
          rw [hM1, up2_s]
          refine ⟨fun j hj => by rw [upd_n (by omega), gs_r (by omega)]; exact c1 j hj, by rw [upd_n (by omega), gs_r (by omega)]; exact c2, by rw [upd_s, gs_s], fun t ht => ?_⟩
          rw [upd_n (by omega), Tl_cg (g := g) (g' := gs g 6 i v) (gs_r (by omega)) (gs_r (by omega)) (gs_r (by omega)) (gs_r (by omega))]
          exact c4 t ht
        · rw [e1 _ (by omega)]
          refine ⟨fun j hj => by rw [gs_k e]; exact c1 j hj, by rw [gs_k e]; exact c2, by rw [gs_k e]; exact c3, fun t ht => ?_⟩
          rw [Tl_cg (g := g) (g' := gs g 6 k v) (gs_k e) (gs_k e) (gs_k e) (gs_k e)]
          exact c4 t ht
      · refine ⟨?_, fun i hi => ?_⟩
        · rw [up2_n (by omega), e1 21 (by omega), gs_r (by omega), gs_r (by omega), gs_r (by omega), gs_r (by omega)]
          exact hM.1
        · rw [gs_r (by omega)] at hi
          obtain ⟨m1, m2, m3, m4, m5⟩ := hM.2 i hi
          refine ⟨fun j hj => by rw [up2_n (by omega), e1 _ (by omega), gs_r (by omega)]; exact m1 j hj, by rw [up2_n (by omega), e1 _ (by omega), gs_r (by omega)]; exact m2, by rw [up2_n (by omega), e1 _ (by omega), gs_r (by omega)]; exact m3, by rw [up2_n (by omega), e1 _ (by omega), gs_r (by omega)]; exact m4, ?_⟩
          rw [up2_s]
          by_cases e : i = k
          · subst e; rw [upd_s, gs_s]
          · rw [upd_n e, e1 _ (by omega), gs_k e]; exact m5
      · exact hS.cg (by rw [up2_n (by omega), e1 _ (by omega)]) (by rw [up2_n (by omega), e1 _ (by omega)]) (by rw [up2_n (by omega), e1 _ (by omega)]) (by rw [up2_n (by omega), e1 _ (by omega)]) (by rw [up2_n (by omega), e1 _ (by omega)])
      · exact hT.cg (fun q a b => by rw [up2_n (by omega), e1 _ (by omega)])
      · exact hB.cg (fun q a => gs_r (by omega))
      · exact hP.cg (fun q a => by rw [up2_n (by omega), e1 _ (by omega)]) (fun q a b => by rw [up2_n (by omega), e1 _ (by omega)])
    · rw [cIf_f hx, cIf_f hx] at r1
      have r2 := rn_morder_k (L := L) (M := M) (x := x) h.n6 hk h.m3 0
      rw [cIf_f (show ¬ mW x 0 9 from hx), cIf_f (show ¬ mW x 0 9 from hx)] at r2
      exact SM_0 r1 r2 (by omega) (by omega) h.x
  · exact SM_0 (rn_order_u h.n6 hu 0) (rn_morder_u (h.nu hu) 0) (by omega) (by omega) h.x
/-- large -/
theorem lg_iff (h : IV np g B wq sq mt M) {k : Nat} (hk : k < np) : cLg (M (57 + k)) (M 1) ↔ mLg M k := by
  obtain ⟨hD, hC, hM, hS, hT, hB, hP⟩ := h
  obtain ⟨c1, c2, c3, c4⟩ := hC.2.2 k hk
  obtain ⟨m1, m2, m3, m4, m5⟩ := hM.2 k (by rw [hD.2.1]; exact hk)
  have t1 := tW_c (f := M (57 + k)) (g := fg g k) (c1 0 (by omega)) (c1 1 (by omega)) (c1 2 (by omega))
  have t2 := tW_c (f := pf M k) (g := fg g k) (m1 0 (by omega)) (m1 1 (by omega)) (m1 2 (by omega))
  have s0 : M 1 0 = M 21 0 := by rw [hC.2.1 0 (by omega), hM.1.1]
  have s1 : M 1 1 = M 21 1 := by rw [hC.2.1 1 (by omega), hM.1.2.1]
  have s2 : M 1 2 = M 21 2 := by rw [hC.2.1 2 (by omega), hM.1.2.2.1]
  have key : ∀ t, fitM M k t ↔ ¬ M 1 0 < tW (M (57 + k)) t ∧ ¬ M 1 1 < tH (M (57 + k)) t ∧ ¬ M 1 2 < tD (M (57 + k)) t := by
    intro t
    unfold fitM
    rw [(t2 t).1, (t2 t).2.1, (t2 t).2.2, (t1 t).1, (t1 t).2.1, (t1 t).2.2, s0, s1, s2]
  unfold cLg mLg
  constructor
  · rintro h ⟨t, ht, hf⟩
    rw [m3] at ht
    obtain ⟨o, ho, hs⟩ := tls_in (f := fg g k) ht
    have ho6 : o < 6 := Tl_lt (g := g) (j := k) ho
    refine h o ho6 ⟨(c4 o ho6).mpr ho, ?_⟩
    have := (key t).mp hf
    rw [(t1 t).1, (t1 t).2.1, (t1 t).2.2, ← hs.1, ← hs.2.1, ← hs.2.2, ← (t1 o).1, ← (t1 o).2.1, ← (t1 o).2.2] at this
    exact this
  · intro h t ht hf
    refine h ⟨t, ?_, (key t).mpr hf.2⟩
    rw [m3]
    exact tls_lt ((c4 t ht).mp hf.1)
theorem sm_large (h : IV np g B wq sq mt M) (a : Int32) : SM mX5_large mX6_large [.int a] np M L := by
  by_cases hu : mW a 1 (nI np)
  · obtain ⟨k, hk, rfl, -⟩ := mW_of h.n6 hu
    have r1 := rn_large_k (L := L) (M := M) h.n6 hk 0
    have r2 := rn_mlarge_k (L := L) (M := M) h.n6 hk h.m3 0
    rw [show zi (cLg (M (57 + k)) (M 1)) = zi (mLg M k) from congrArg zi (propext (lg_iff h hk))] at r1
    exact SM_0 r1 r2 (by omega) (by omega) h.x
  · exact SM_0 (rn_large_u h.n6 hu 0) (rn_mlarge_u (h.nu hu) 0) (by omega) (by omega) h.x
theorem sm_exact (h : IV np g B wq sq mt M) : SM mX5_exact mX6_exact [] np M L := by
  have r1 := rn_exact (np := np) (L := L) (M := M) 0
  have e : M 21 6 = zi (¬ M 11 7 ≤ M 11 8) := h.2.2.2.1.2.2.2.2
  have r2 := rn_mexact (np := np) (L := L) (M := M) (by rw [e]; exact zi_01 _) 0
  rw [e] at r2
  exact SM_0 r1 r2 (by omega) (by omega) h.x
theorem sm_steps (h : IV np g B wq sq mt M) (x : Int32) : SM mX5_steps mX6_steps [.int x] np M L := by
  have r1 := rn_steps (np := np) (L := L) (M := M) (x := x) 0
  have r2 := rn_msteps (np := np) (L := L) (M := M) (x := x) 0
  obtain ⟨s1, s2, s3, s4, s5⟩ := h.2.2.2.1
  rw [s4, s3] at r1
  rw [s2, show (3000 : Int32) = nI 3000 from by decide, pk_sub (by omega)] at r2
  exact SM_0 r1 r2 (by omega) (by omega) h.x
theorem in_b {B : Nat → Nat → Nat} {v : Int32} {i : Nat} (hb : B i 0 = 0 ∨ B i 0 = 1) (h : v = nI (B i 0)) : v = 0 ↔ ¬ B i 0 = 1 := by
  rw [h]
  rcases hb with e | e <;> rw [e] <;> simp [nI]
theorem sm_at (h : IV np g B wq sq mt M) (a x : Int32) : SM mX5_at mX6_at [.int a, .int x] np M L := by
  by_cases hu : mW a 1 (nI np)
  · obtain ⟨k, hk, rfl, -⟩ := mW_of h.n6 hu
    have hk6 : k < 6 := by have := h.n6; omega
    have r2 := rn_mat_k (L := L) (M := M) (x := x) h.n6 hk h.m3 0
    obtain ⟨p1, p2, p3⟩ := h.2.2.2.2.2.2 k hk6
    have b1 := (h.2.2.2.2.2.1.1 k).1
    by_cases hi : B k 0 = 1
    · have r1 := rn_at_in (L := L) (M := M) (x := x) h.n6 hk (fun q => (in_b b1 p1).mp q hi) 0
      by_cases hx : cW x 0 3
      · rw [cIf_t hx] at r1
        rw [cIf_t (show mW x 0 3 from hx)] at r2
        obtain ⟨v, hv, rfl⟩ := cW_of (m := 3) (k := 3) rfl (by decide) hx
        have eq : nOn (M (5 + k)) (nI v).toNatClampNeg = mOn M k (nI v) := by
          obtain ⟨⟨⟨f4, f5, f6, f7, f8, f9, f10⟩, _⟩, ⟨q2, q3, q4, q5, q6, q7, q1, _⟩⟩ := p3 hi
          unfold mOn
          rw [if_neg (fun q => (in_b b1 p2).mp q hi), nI_clamp (by omega)]
          match v, hv with
          | 0, _ => rw [if_pos (by decide)]; show M (5 + k) 8 = _; rw [f8, q2]
          | 1, _ => rw [if_neg (by decide), if_pos (by decide)]; show M (5 + k) 9 = _; rw [f9, q3]
          | 2, _ => rw [if_neg (by decide), if_neg (by decide), if_pos (by decide)]; show M (5 + k) 10 = _; rw [f10, q4]
          | 3, _ => rw [if_neg (by decide), if_neg (by decide), if_neg (by decide)]; show M (5 + k) 4 = _; rw [f4, q1]
        rw [eq] at r1
        exact SM_0 r1 r2 (by omega) (by omega) h.x
      · rw [cIf_f hx] at r1
        rw [cIf_f (show ¬ mW x 0 3 from hx)] at r2
        exact SM_0 r1 r2 (by omega) (by omega) h.x
    · have r1 := rn_at_out (L := L) (M := M) (x := x) h.n6 hk ((in_b b1 p1).mpr hi) 0
      rw [show mOn M k x = -1 from if_pos ((in_b b1 p2).mpr hi)] at r2
      exact SM_0 r1 r2 (by omega) (by omega) h.x
  · exact SM_0 (rn_at_u h.n6 hu 0) (rn_mat_u (h.nu hu) 0) (by omega) (by omega) h.x
end INV
