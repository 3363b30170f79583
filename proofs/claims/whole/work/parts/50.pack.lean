-- lk: 49
/-! ===== pack: both ===== -/
def NO (P : Nat → Nat → Nat) : Prop := ∀ a b, a ≠ b → P a 0 = 1 → P b 0 = 1 → ¬ (ovx (P a) (P b) ∧ ovy (P a) (P b) ∧ ovz (P a) (P b))
theorem jdg_NO {g P : Nat → Nat → Nat} {s : Nat × Nat × Nat × (Nat → Nat → Nat)} (h : NO s.2.2.2) (hp : NO P) : NO (jdg g P s).2.2.2 := by
  unfold jdg
  exact cIf_ind (R := fun q : Nat × Nat × Nat × (Nat → Nat → Nat) => NO q.2.2.2) (fun _ => hp) (fun _ => h)
theorem Good.up {g P : Nat → Nat → Nat} {j : Nat} (h : Good g P j) : Good g P (j + 1) := ⟨fun i hi => h.1 i (by omega), h.2⟩
theorem fold_NO {K : (Nat → Nat → Nat) → (Nat × Nat × Nat × (Nat → Nat → Nat)) → (Nat × Nat × Nat × (Nat → Nat → Nat))} {g : Nat → Nat → Nat} {j : Nat} {P : Nat → Nat → Nat} (c : Cg g) (hj : j < g 7 0) (G : Good g P j) (hK : ∀ P s, Good g P (j + 1) → NO s.2.2.2 → NO (K P s).2.2.2) : ∀ (l : List (Nat → Nat)) (s : Nat × Nat × Nat × (Nat → Nat → Nat)), (∀ b, b ∈ l → ∃ t x y z, b = bx g j t x y z) → NO s.2.2.2 → NO (l.foldl (stp K g j P) s).2.2.2
  | [], s, _, h => h
  | b :: l, s, hl, h => by
    rw [List.foldl_cons]
    refine fold_NO c hj G hK l _ (fun b hb => hl b (List.mem_cons_of_mem _ hb)) ?_
    obtain ⟨t, x, y, z, rfl⟩ := hl b List.mem_cons_self
    unfold stp
    have h6 := c.1.2
    refine cIf_ind (R := fun q : Nat × Nat × Nat × (Nat → Nat → Nat) => NO q.2.2.2) (fun _ => h) (fun _ => cIf_ind (R := fun q : Nat × Nat × Nat × (Nat → Nat → Nat) => NO q.2.2.2) (fun hf => ?_) (fun _ => h))
    have G' := good_set G (by omega) (b := bx g j t x y z) rfl (bx_ps c hj t x y z).1 hf
    exact cIf_ind (R := fun q : Nat × Nat × Nat × (Nat → Nat → Nat) => NO q.2.2.2) (fun _ => jdg_NO (s := (s.1 + 1, s.2)) h G'.2.2.1) (fun _ => hK _ _ G' h)
theorem srch_NO {g : Nat → Nat → Nat} (c : Cg g) : ∀ (r j : Nat) (P : Nat → Nat → Nat) (s : Nat × Nat × Nat × (Nat → Nat → Nat)), j + r = g 7 0 → Good g P j → NO s.2.2.2 → NO (srch g r j P s).2.2.2
  | 0, j, P, s, _, G, h => jdg_NO h G.2.2.1
  | r + 1, j, P, s, hr, G, h => by
    have hK : ∀ P s, Good g P (j + 1) → NO s.2.2.2 → NO (srch g r (j + 1) P s).2.2.2 := fun P s h1 h2 => srch_NO c r (j + 1) P s (by omega) h1 h2
    have h2 := fold_NO c (j := j) (by omega) G hK (cds g P j) s (fun b hb => by obtain ⟨t, x, y, z, h1, h2⟩ := cds_mem hb; exact ⟨t, x, y, z, h2⟩) h
    unfold srch
    exact cIf_ind (R := fun q : Nat × Nat × Nat × (Nat → Nat → Nat) => NO q.2.2.2) (fun _ => h2) (fun _ => hK _ _ G.up h2)
theorem emM_n {M : Nat → Nat → Int32} {h : Nat} (hh : h < 5 ∨ 11 ≤ h) : ∀ n, n ≤ 6 → emM M n h = M h
  | 0, _ => rfl
  | n + 1, hn => by rw [emM, up2_n (by omega)]; exact emM_n hh n (by omega)
theorem emM_s {M : Nat → Nat → Int32} {i : Nat} : ∀ n, i < n → n ≤ 6 → emM M n (5 + i) 0 = 0
  | 0, h, _ => absurd h (by omega)
  | n + 1, h, hn => by
    rw [emM]
    by_cases e : i = n
    · subst e; rw [up2_s, upd_s]
    · rw [up2_n (by omega)]; exact emM_s n (by omega) (by omega)
theorem stM_n {M : Nat → Nat → Int32} {h q j : Nat} (hj : j ≠ h) : stM M h q j = M j := by
  unfold stM
  rw [up2_n hj, up2_n hj, up2_n hj, up2_n hj]
theorem bgM_n {M : Nat → Nat → Int32} {np h : Nat} (hh : h < 14 ∨ 20 ≤ h) : ∀ n, n ≤ 6 → bgM M np n h = M h
  | 0, _ => rfl
  | n + 1, hn => by
    rw [bgM]
    split
    · rw [stM_n (by omega)]; exact bgM_n hh n (by omega)
    · exact bgM_n hh n (by omega)
theorem bgM_s {M : Nat → Nat → Int32} {np i : Nat} (h0 : M (14 + i) 0 = 0) : ∀ n, n ≤ 6 → bgM M np n (14 + i) 0 = 0 ∧ (i < n → i < np → bgM M np n (14 + i) 1 = M (57 + i) 3 ∧ bgM M np n (14 + i) 2 = M (57 + i) 5 ∧ bgM M np n (14 + i) 3 = M (57 + i) 6)
  | 0, _ => ⟨h0, fun h => absurd h (by omega)⟩
  | n + 1, hn => by
    obtain ⟨a, b⟩ := bgM_s h0 (np := np) n (by omega)
    rw [bgM]
    by_cases e : i = n
    · subst e
      by_cases w : i < np
      · rw [if_pos w]
        have r : stM (bgM M np i) (14 + i) (57 + i) (14 + i) = upd (upd (upd (upd (bgM M np i (14 + i)) 0 0) 1 (M (57 + i) 3)) 2 (M (57 + i) 5)) 3 (M (57 + i) 6) := by
          unfold stM
          rw [up2_s, up2_s, up2_s, up2_s, bgM_n (h := 57 + i) (by omega) i (by omega)]
        rw [r]
        exact ⟨rfl, fun _ _ => ⟨rfl, rfl, rfl⟩⟩
      · rw [if_neg w]
        exact ⟨a, fun _ q => absurd q w⟩
    · by_cases w : n < np
      · rw [if_pos w, stM_n (by omega)]
        exact ⟨a, fun q => b (by omega)⟩
      · rw [if_neg w]
        exact ⟨a, fun q => b (by omega)⟩
theorem hgt_P0 (x z : Nat) : ∀ n, hgt P0 x z n = 0
  | 0 => rfl
  | n + 1 => by
    rw [hgt, hgt_P0 x z n]
    first | rfl | (exact cIf_ind (R := fun v : Nat => v = 0) (fun q => by simp [P0] at q) (fun _ => rfl)) | (split <;> simp_all [P0]) | simp [P0]
def g9 (g : Nat → Nat → Nat) (v : Nat) : Nat → Nat → Nat := fun r i => if r = 9 then v else g r i
theorem g9_9 {g : Nat → Nat → Nat} {v i : Nat} : g9 g v 9 i = v := if_pos rfl
theorem g9_n {g : Nat → Nat → Nat} {v r i : Nat} (h : r ≠ 9) : g9 g v r i = g r i := if_neg h
section INV
variable {np : Nat} {g B : Nat → Nat → Nat} {wq sq : Nat → Nat} {mt : Nat} {M : Nat → Nat → Int32} {L : Nat → Int64}
theorem csum_b {gg P : Nat → Nat → Nat} {s : Nat × Nat × Nat × (Nat → Nat → Nat)} {M : Nat → Nat → Int32} (hb : Bn gg s.2.2.2) (h : ∀ i, i < 6 → M (5 + i) 0 = nI (s.2.2.2 i 0) ∧ (s.2.2.2 i 0 = 1 → bRow (M (5 + i)) (s.2.2.2 i))) : ∀ n, n ≤ 6 → csum (gCell M 5) n = nI (clS s.2.2.2 n)
  | 0, _ => rfl
  | n + 1, hn => by
    obtain ⟨e1, e2⟩ := h n (by omega)
    rw [csum, clS, csum_b (gg := gg) (P := P) hb h n (by omega)]
    unfold gCell
    have e3 := in_b (hb n).1 e1
    by_cases e : s.2.2.2 n 0 = 1
    · rw [if_neg (fun w => e3.mp w e), if_pos e]
      obtain ⟨_, f5, f6, f7, _⟩ := e2 e
      rw [f5, f6, f7, pk_mul, pk_mul, nI_add]
    · rw [if_pos (e3.mpr e), if_neg e, Int32.add_zero]
      rfl
theorem sm_pack (h : IV np g B wq sq mt M) (s : Int32) : SM mX5_pack mX6_pack [.int s] np M L := by
  have n6 := h.n6
  obtain ⟨hD, hC, hM, hS, hT, hB, hP⟩ := id h
  have hc1 := hC.2.1
  -- the class can begin
  have row : ∀ q, q < 5 ∨ 20 ≤ q → bgM (bg0 M s) np 6 q = M q := by
    intro q hq
    rw [bgM_n (by omega) 6 (by omega)]
    unfold bg0
    rw [up2_n (by omega), up2_n (by omega), emM_n (by omega) 6 (by omega), up2_n (by omega), up2_n (by omega)]
  have tr : ∀ i, i < 6 → bg0 M s (14 + i) = M (14 + i) := by
    intro i hi
    unfold bg0
    rw [up2_n (by omega), up2_n (by omega), emM_n (by omega) 6 (by omega), up2_n (by omega), up2_n (by omega)]
  have pc : ∀ i, bg0 M s (57 + i) = M (57 + i) := by
    intro i
    unfold bg0
    rw [up2_n (by omega), up2_n (by omega), emM_n (by omega) 6 (by omega), up2_n (by omega), up2_n (by omega)]
  have ok : OKc np (g 8 0) (g 8 1) (g 8 2) (bgM (bg0 M s) np 6) := by
    refine ⟨n6, fun q hq => Or.inl (bgM_s (by rw [tr q hq]; exact hT.1 q hq) 6 (by omega)).1, by rw [row 1 (by omega)]; exact hc1 0 (by omega), by rw [row 1 (by omega)]; exact hc1 1 (by omega), by rw [row 1 (by omega)]; exact hc1 2 (by omega), (hD.2.2.1 0 (by omega)).2, (hD.2.2.1 1 (by omega)).2, (hD.2.2.1 2 (by omega)).2, fun p hp k hk => ?_⟩
    have := (hD.2.2.2 p hp).1 k hk
    exact ⟨g k p, this.1, this.2, by rw [row (57 + p) (by omega)]; exact (hC.2.2 p hp).1 k (by omega)⟩
  have r1 := rn_pack (L := L) (s := s) ok 0
  unfold pkR pkH at r1
  have e32 : (M 0 2 = 0 ↔ np = 0) := by
    rw [hC.1]
    constructor
    · intro q
      rcases Nat.eq_zero_or_pos np with w | w
      · exact w
      · exact absurd q (nI_ne0 w (by omega))
    · intro q; rw [q]; rfl
  have e21 : (M 21 3 = 0 ↔ np = 0) := by rw [h.m3, ← hC.1]; exact e32
  have e05 : (3000 : Int32) - M 21 4 = M 0 5 := by rw [hS.2.1, hS.2.2.1, show (3000 : Int32) = nI 3000 from by decide, pk_sub (by have := hS.1; omega)]
  by_cases hw : cW s 1 500
  · rw [cIf_t hw, cIf_t hw] at r1
    by_cases hn : np = 0
    · rw [if_pos (e32.mpr hn), if_pos (e32.mpr hn)] at r1
      exact SM_0 r1 (rn_mpack_2 (show mW s 1 500 from hw) (e21.mpr hn) 0) (by omega) (by omega) h.x
    · rw [if_neg (fun q => hn (e32.mp q)), if_neg (fun q => hn (e32.mp q))] at r1
      by_cases hl : s ≤ M 0 5
      · rw [if_pos hl, if_pos hl] at r1
        obtain ⟨j, hj, es, -, -⟩ := num_of (n := s) (m := 500) (k := 500) rfl (by decide) hw.1 hw.2
        obtain ⟨v, hv, rfl⟩ : ∃ v, (1 ≤ v ∧ v ≤ 500) ∧ s = nI v := ⟨j + 1, ⟨by omega, by omega⟩, es⟩
        obtain ⟨gg, hgg⟩ : ∃ gg, gg = g9 g v := ⟨_, rfl⟩
        have g9e : gg 9 0 = v := by rw [hgg]; exact g9_9
        have gne : ∀ r i, r ≠ 9 → gg r i = g r i := fun r i q => by rw [hgg]; exact g9_n q
        have g7 : gg 7 0 = np := by rw [gne 7 0 (by omega)]; exact hD.2.1
        have tl : ∀ i, Tl gg i = Tl g i := fun i => Tl_cg (gne 0 i (by omega)) (gne 1 i (by omega)) (gne 2 i (by omega)) (gne 4 i (by omega))
        have cg : Cg gg := by
          refine ⟨by rw [g7]; omega, fun k hk => by rw [gne 8 k (by omega)]; exact hD.2.2.1 k hk, by rw [g9e]; exact hv, fun i hi => ?_⟩
          rw [g7] at hi
          obtain ⟨d1, d2, d3, d4, d5⟩ := hD.2.2.2 i hi
          exact ⟨fun k hk => by rw [gne k i (by omega)]; exact d1 k hk, by rw [gne 3 i (by omega)]; exact d2, by rw [gne 4 i (by omega)]; exact d3, by rw [gne 5 i (by omega)]; exact d4, by rw [gne 6 i (by omega)]; exact d5⟩
        have g80 : gg 8 0 = g 8 0 := gne 8 0 (by omega)
        have g81 : gg 8 1 = g 8 1 := gne 8 1 (by omega)
        have g82 : gg 8 2 = g 8 2 := gne 8 2 (by omega)
        -- the class's search
        have rc0 : RC gg P0 s0 (bgM (bg0 M (nI v)) np 6) := by
          refine ⟨fun x z hx hz => ?_, fun i hi => ⟨?_, fun q => absurd q (by simp [P0])⟩, fun i hi => ?_, ?_, fun i hi => ⟨?_, fun q => absurd q (by simp [s0, P0])⟩, fun i hi => ?_⟩
          · rw [row 20 (by omega), hgt_P0, hT.2 x z hx hz]; rfl
          · rw [(bgM_s (by rw [tr i hi]; exact hT.1 i hi) 6 (by omega)).1]; rfl
          · rw [g7] at hi
            obtain ⟨a1, a2, a3⟩ := (bgM_s (M := bg0 M (nI v)) (np := np) (i := i) (by rw [tr i (by omega)]; exact hT.1 i (by omega)) 6 (by omega)).2 (by omega) hi
            obtain ⟨c1, c2, c3, c4⟩ := hC.2.2 i hi
            refine ⟨by rw [a1, pc, c1 3 (by omega), gne 3 i (by omega)], by rw [a2, pc, c2, gne 5 i (by omega)], by rw [a3, pc, c3, gne 6 i (by omega)]⟩
          · rw [bgM_n (by omega) 6 (by omega), g9e]
            have r11 : bg0 M (nI v) 11 = upd (upd (upd (upd (M 11) 7 (nI v)) 8 0) 5 0) 6 0 := by
              unfold bg0
              rw [up2_s, up2_s, emM_n (by omega) 6 (by omega), up2_s, up2_s]
            rw [r11]
            exact ⟨rfl, rfl, rfl, rfl⟩
          · rw [bgM_n (by omega) 6 (by omega)]
            unfold bg0
            rw [up2_n (by omega), up2_n (by omega), emM_s 6 hi (by omega)]
            rfl
          · rw [g7] at hi
            obtain ⟨c1, c2, c3, c4⟩ := hC.2.2 i hi
            rw [row (57 + i) (by omega)]
            exact ⟨fun k hk => by rw [gne k i (by omega)]; exact c1 k (by omega), fun t ht => by rw [tl]; exact c4 t ht⟩
        obtain ⟨sF, hsF⟩ : ∃ sF, sF = srch gg np 0 P0 s0 := ⟨_, rfl⟩
        have rc1 := sk_rc cg np 0 P0 s0 _ (by rw [g7]; omega) (P0_good gg) (P0_bn gg) (s0_sn gg) rc0
        have sn1 := srch_Sn cg np 0 P0 s0 (by rw [g7]; omega) (P0_bn gg) (s0_sn gg)
        have no1 := srch_NO cg np 0 P0 s0 (by rw [g7]; omega) (P0_good gg) (fun a b _ q => absurd q (by simp [s0, P0]))
        rw [← hsF] at rc1 sn1 no1
        rw [g80, g81, g82] at rc1
        have fr := (skM_St (g 8 0) (g 8 1) (g 8 2) np 0 (bgM (bg0 M (nI v)) np 6) (by omega)).1
        obtain ⟨MS, hMS⟩ : ∃ MS, MS = skM (g 8 0) (g 8 1) (g 8 2) np 0 (bgM (bg0 M (nI v)) np 6) := ⟨_, rfl⟩
        have hpk : pkM (g 8 0) (g 8 1) (g 8 2) np (nI v) M = up2 MS 0 5 (MS 0 5 - MS 11 8) := by unfold pkM pk1; rw [← hMS]
        rw [← hMS] at rc1 fr
        rw [hpk] at r1
        obtain ⟨M1, hM1⟩ : ∃ M1, M1 = up2 MS 0 5 (MS 0 5 - MS 11 8) := ⟨_, rfl⟩
        rw [← hM1] at r1
        have e1 : ∀ q, q < 5 ∨ 20 < q → q ≠ 0 → M1 q = M q := by
          intro q hq h0
          rw [hM1, up2_n h0, fr q (by unfold tch; omega), row q (by omega)]
        have e1s : ∀ q, q ≠ 0 → M1 q = MS q := fun q hq => by rw [hM1, up2_n hq]
        have e10 : M1 0 = upd (M 0) 5 (M 0 5 - MS 11 8) := by rw [hM1, up2_s, fr 0 (by unfold tch; omega), row 0 (by omega)]
        obtain ⟨_, rcT, _, ⟨rc7, rc8, _, _⟩, rcB, _⟩ := id rc1
        have hcs : csum (gCell M1 5) 6 = nI sF.2.1 := by
          rw [sn1.2.1]
          exact csum_b (gg := gg) (P := P0) sn1.2.2.2 (fun i hi => by rw [e1s (5 + i) (by omega)]; exact ⟨(rcB i hi).1, fun q => ((rcB i hi).2 q).1⟩) 6 (by omega)
        rw [hcs] at r1
        -- the reference's search
        have hm1 : RMs gg M1 := by
          refine ⟨?_, fun i hi => ?_⟩
          · rw [e1 21 (by omega) (by omega), g80, g81, g82, gne 7 0 (by omega)]; exact hM.1
          · rw [gne 7 0 (by omega)] at hi
            obtain ⟨m1, m2, m3, m4, m5⟩ := hM.2 i hi
            rw [e1 25 (by omega) (by omega), e1 26 (by omega) (by omega), e1 27 (by omega) (by omega), e1 28 (by omega) (by omega), gne 3 i (by omega), gne 4 i (by omega), gne 5 i (by omega), gne 6 i (by omega)]
            exact ⟨fun k hk => by rw [e1 (22 + k) (by omega) (by omega), gne k i (by omega)]; exact m1 k hk, m2, m3, m4, m5⟩
        obtain ⟨M2, L2, r2, k1, k2, k3, k4, k5, k6, k7⟩ := rn_mpack (np := np) (L := L) cg hm1 (by rw [g9e, e1 21 (by omega) (by omega), e05]; exact hl) 0
        rw [g7, ← hsF] at r2 k1 k2 k3 k4
        rw [g9e] at r2 k4
        have f2 : ∀ q, q < 21 ∨ 22 ≤ q ∧ q ≤ 28 ∨ 56 ≤ q → M2 q = M1 q := k6
        have sle : sF.1 ≤ v := by have := sn1.1; rw [g9e] at this; exact this
        have hvl : v ≤ 3000 - mt := by
          rw [hS.2.2.1] at hl
          have := (nI_leI (a := v) (b := 3000 - mt) (by omega) (by omega)).mp hl
          exact this
        have hmt := hS.1
        refine ⟨_, np, M1, M2, L2, Rn_le r1 (by omega), Rn_le r2 (by omega), ⟨gg, sF.2.2.2, fun i => gg 3 i, fun i => gg 6 i, mt + sF.1, ?_, ?_, ?_, ?_, ?_, ?_, ?_⟩, Nat.le_refl _⟩
        · refine ⟨hD.1, g7, cg.2.1, fun i hi => cg.2.2.2 i (by rw [g7]; exact hi)⟩
        · refine ⟨by rw [f2 0 (by omega), e10, upd_n (by omega)]; exact hC.1, fun k hk => by rw [f2 1 (by omega), e1 1 (by omega) (by omega), gne 8 k (by omega)]; exact hc1 k hk, fun i hi => ?_⟩
          obtain ⟨c1, c2, c3, c4⟩ := hC.2.2 i hi
          rw [f2 (57 + i) (by omega), e1 (57 + i) (by omega) (by omega)]
          exact ⟨fun k hk => by rw [gne k i (by omega)]; exact c1 k hk, by rw [gne 5 i (by omega)]; exact c2, by rw [gne 6 i (by omega)]; exact c3, fun t ht => by rw [tl]; exact c4 t ht⟩
        · refine ⟨?_, fun i hi => ?_⟩
          · rw [k5 0 (by omega) (by omega) (by omega) (by omega) (by omega), k5 1 (by omega) (by omega) (by omega) (by omega) (by omega), k5 2 (by omega) (by omega) (by omega) (by omega) (by omega), k5 3 (by omega) (by omega) (by omega) (by omega) (by omega)]
            exact hm1.1
          · obtain ⟨m1, m2, m3, m4, m5⟩ := hm1.2 i hi
            rw [f2 25 (by omega), f2 26 (by omega), f2 27 (by omega), f2 28 (by omega)]
            exact ⟨fun k hk => by rw [f2 (22 + k) (by omega)]; exact m1 k hk, m2, m3, m4, m5⟩
        · refine ⟨by omega, by rw [k3, e1 21 (by omega) (by omega), hS.2.1, nI_add], ?_, ?_, ?_⟩
          · rw [f2 0 (by omega), e10, upd_s, rc8, hS.2.2.1, pk_sub (by omega)]
            congr 1
            omega
          · rw [f2 11 (by omega), e1s 11 (by omega), rc8, k2]
          · rw [k4, f2 11 (by omega), e1s 11 (by omega), rc7, rc8, g9e]
        · obtain ⟨rh, rt, _⟩ := id rc1
          refine ⟨fun i hi => ?_, fun x z hx hz => ?_⟩
          · rw [f2 (14 + i) (by omega), e1s (14 + i) (by omega), (rt i hi).1]; rfl
          · rw [f2 20 (by omega), e1s 20 (by omega), rh x z hx hz, hgt_P0]; rfl
        · refine ⟨fun i => ⟨(sn1.2.2.2 i).1, fun e => ?_⟩, no1⟩
          obtain ⟨b1, b2, b3, b4⟩ := (sn1.2.2.2 i).2 e
          have := cg.2.2.2 i b1
          exact ⟨by rw [← g7]; exact b1, b2, b3, b4, this.2.1, this.2.2.2.2⟩
        · intro i hi
          obtain ⟨_, _, _, km⟩ := k1
          obtain ⟨q1, q2⟩ := km i hi
          obtain ⟨u1, u2⟩ := rcB i hi
          rw [f2 (5 + i) (by omega), e1s (5 + i) (by omega)]
          exact ⟨u1, q1, fun e => ⟨⟨(u2 e).1, (u2 e).2.1, (u2 e).2.2.2⟩, q2 e⟩⟩
      · rw [if_neg hl, if_neg hl] at r1
        exact SM_0 r1 (rn_mpack_3 (show mW s 1 500 from hw) (fun q => hn (e21.mp q)) (by rw [e05]; exact hl) 0) (by omega) (by omega) h.x
  · rw [cIf_f hw, cIf_f hw] at r1
    exact SM_0 r1 (rn_mpack_1 (show ¬ mW s 1 500 from hw) 0) (by omega) (by omega) h.x
end INV
