/-! ===== the class's search as a function of the numbers ===== -/
def tch (i h : Nat) : Prop := (5 ≤ h ∧ h < 12) ∨ (14 + i ≤ h ∧ h < 21)
def Bz (M : Nat → Nat → Int32) : Prop := ∀ q, q < 6 → M (14 + q) 0 = 0 ∨ M (14 + q) 0 = 1
/-- from M to M' only what place i and those behind it, the best, the heights and the search's own numbers hold has changed -/
def St (i : Nat) (M M' : Nat → Nat → Int32) : Prop := (∀ h, ¬ tch i h → M' h = M h) ∧ (Bz M → Bz M')
theorem St.rf (i : Nat) (M : Nat → Nat → Int32) : St i M M := ⟨fun _ _ => rfl, id⟩
theorem St.tr {i : Nat} {M M1 M2 : Nat → Nat → Int32} (a : St i M M1) (b : St i M1 M2) : St i M M2 := ⟨fun h hh => (b.1 h hh).trans (a.1 h hh), fun h => b.2 (a.2 h)⟩
theorem St.lo {i k : Nat} {M M1 : Nat → Nat → Int32} (a : St k M M1) (h : i ≤ k) : St i M M1 := ⟨fun q hq => a.1 q (fun z => hq (by unfold tch at *; omega)), a.2⟩
theorem St_11 {i k : Nat} {M : Nat → Nat → Int32} {v : Int32} : St i M (up2 M 11 k v) := ⟨fun h hh => up2_n (fun e => hh (by unfold tch; omega)), fun hb q hq => by rw [up2_n (by omega)]; exact hb q hq⟩
theorem St_pl {i j k : Nat} {M : Nat → Nat → Int32} {v : Int32} (hij : i ≤ j) (hj : j < 6) (hk : k = 0 → v = 0 ∨ v = 1) : St i M (up2 M (14 + j) k v) := by
  refine ⟨fun h hh => up2_n (fun e => hh (by unfold tch; omega)), fun hb q hq => ?_⟩
  by_cases e : q = j
  · subst e
    rw [up2_s]
    by_cases hk0 : k = 0
    · subst hk0; rw [upd_s]; exact hk rfl
    · rw [upd_n (Ne.symm hk0)]; exact hb q hq
  · rw [up2_n (by omega)]; exact hb q hq
theorem St_h {i : Nat} {M : Nat → Nat → Int32} {P : Nat → Prop} {v : Int32} (hi : i ≤ 6) : St i M (hst M P v) := ⟨fun h hh => hst_n (fun e => hh (by unfold tch; omega)), fun hb q hq => by rw [hst_n (by omega)]; exact hb q hq⟩
theorem cyM_in {M : Nat → Nat → Int32} {j : Nat} (hj : j < 5 ∨ 11 ≤ j) : cyM M 6 j = M j := cyM_n hj 6 (by omega)
theorem St_kb {i : Nat} {M : Nat → Nat → Int32} : St i M (kbM M) := by
  by_cases h : btr M
  · rw [kbM_t h]
    refine St.tr (M1 := cyM M 6) ⟨fun q hq => cyM_in (by unfold tch at hq; omega), fun hb q hq => by rw [cyM_in (by omega)]; exact hb q hq⟩ (St.tr St_11 St_11)
  · rw [kbM_f h]; exact St.rf _ _
theorem St_yz {i j : Nat} {M : Nat → Nat → Int32} {y z : Int32} (hij : i ≤ j) (hj : j < 6) : St i M (yzM M (14 + j) y z) := by
  unfold yzM
  exact St.tr (St_pl hij hj (by omega)) (St_pl hij hj (by omega))
theorem St_to {i j q t : Nat} {M : Nat → Nat → Int32} (hij : i ≤ j) (hj : j < 6) : St i M (toM M (14 + j) q t) := by
  unfold toM
  exact St.tr (St_pl hij hj (by omega)) (St.tr (St_pl hij hj (by omega)) (St.tr (St_pl hij hj (by omega)) (St_pl hij hj (by omega))))
def nF (M : Nat → Nat → Int32) (j k : Nat) : Nat := (M (14 + j) k).toNatClampNeg
/-- the cells of the floor under place j -/
def rect (M : Nat → Nat → Int32) (j : Nat) : Nat → Prop := rc (nF M j 8) (nF M j 10) (nF M j 5) (nF M j 10 + nF M j 7) (nF M j 8)
noncomputable def cIf {α : Type} (P : Prop) (a b : α) : α := @ite _ P (Classical.propDecidable P) a b
theorem cIf_t {α : Type} {P : Prop} (h : P) (a b : α) : cIf P a b = a := by unfold cIf; exact if_pos h
theorem cIf_f {α : Type} {P : Prop} (h : ¬ P) (a b : α) : cIf P a b = b := by unfold cIf; exact if_neg h
theorem cIf_ind {α : Type} {P : Prop} {R : α → Prop} {a b : α} (ha : P → R a) (hb : ¬ P → R b) : R (cIf P a b) := by
  by_cases h : P
  · rw [cIf_t h]; exact ha h
  · rw [cIf_f h]; exact hb h
/-- before and behind the search below a step -/
noncomputable def ms3 (j : Nat) (M : Nat → Nat → Int32) : Nat → Nat → Int32 := hst (up2 (up2 M 11 8 (M 11 8 + 1)) (14 + j) 0 1) (rect M j) (M (14 + j) 9 + M (14 + j) 6)
noncomputable def mkS (K : (Nat → Nat → Int32) → (Nat → Nat → Int32)) (j : Nat) (M : Nat → Nat → Int32) : Nat → Nat → Int32 := up2 (hst (cIf (endd (ms3 j M)) (kbM (ms3 j M)) (K (ms3 j M))) (rect M j) (M (14 + j) 9)) (14 + j) 0 0
def fitC (M : Nat → Nat → Int32) (j : Nat) : Prop := frb M j (nF M j 8) (nF M j 10) (nF M j 5) (nF M j 7) ∧ (∀ i, i < 6 → ¬ badL M 14 j i) ∧ (∀ i, i < 6 → ¬ badO M 14 j i)
noncomputable def rowM (K : (Nat → Nat → Int32) → (Nat → Nat → Int32)) (j : Nat) (sx : Int32) : Nat → Nat → (Nat → Nat → Int32) → Nat → Nat → Int32
  | 0, _, M => M
  | n + 1, x, M => cIf (cHt sx (nI x)) (cIf (fitC (up2 M (14 + j) 8 (nI x)) j) (cIf (endd (mkS K j (up2 M (14 + j) 8 (nI x)))) (mkS K j (up2 M (14 + j) 8 (nI x))) (rowM K j sx n (x + 1) (mkS K j (up2 M (14 + j) 8 (nI x))))) (rowM K j sx n (x + 1) (up2 M (14 + j) 8 (nI x)))) (rowM K j sx n (x + 1) M)
noncomputable def zlM (K : (Nat → Nat → Int32) → (Nat → Nat → Int32)) (j : Nat) (sx sz : Int32) (nx y : Nat) : Nat → Nat → (Nat → Nat → Int32) → Nat → Nat → Int32
  | 0, _, M => M
  | n + 1, z, M => cIf (endd M) M (cIf (cHt sz (nI z)) (zlM K j sx sz nx y n (z + 1) (rowM K j sx nx 0 (yzM M (14 + j) (nI y) (nI z)))) (zlM K j sx sz nx y n (z + 1) M))
noncomputable def ylM (K : (Nat → Nat → Int32) → (Nat → Nat → Int32)) (j : Nat) (sx sy sz : Int32) (nx nz : Nat) : Nat → Nat → (Nat → Nat → Int32) → Nat → Nat → Int32
  | 0, _, M => M
  | n + 1, y, M => cIf (cHt sy (nI y)) (ylM K j sx sy sz nx nz n (y + 1) (zlM K j sx sz nx y nz 0 M)) (ylM K j sx sy sz nx nz n (y + 1) M)
/-- how many places there are for place j in a direction of length n (its own is field k) -/
def cnt (M : Nat → Nat → Int32) (j k n : Nat) : Nat := n + 1 - nF M j k
noncomputable def trM (K : (Nat → Nat → Int32) → (Nat → Nat → Int32)) (w h d j : Nat) (sx sy sz : Int32) (M : Nat → Nat → Int32) : Nat → Nat → Int32 := ylM K j sx sy sz (cnt M j 5 w) (cnt M j 7 d) (cnt M j 6 h) 0 M
noncomputable def tlM (K : (Nat → Nat → Int32) → (Nat → Nat → Int32)) (w h d j : Nat) (sx sy sz : Int32) : Nat → Nat → (Nat → Nat → Int32) → Nat → Nat → Int32
  | 0, _, M => M
  | n + 1, t, M => cIf (endd M) M (cIf (cHt (M (57 + j) 7) (nI t)) (tlM K w h d j sx sy sz n (t + 1) (trM K w h d j sx sy sz (toM M (14 + j) (57 + j) t))) (tlM K w h d j sx sy sz n (t + 1) M))
noncomputable def seM (K : (Nat → Nat → Int32) → (Nat → Nat → Int32)) (w h d j : Nat) (M : Nat → Nat → Int32) : Nat → Nat → Int32 :=
  cIf (endd (tlM K w h d j (stS M 0 6) (stS M 1 6) (stS M 2 6) 6 0 M)) (tlM K w h d j (stS M 0 6) (stS M 1 6) (stS M 2 6) 6 0 M) (K (tlM K w h d j (stS M 0 6) (stS M 1 6) (stS M 2 6) 6 0 M))
noncomputable def skM (w h d : Nat) : Nat → Nat → (Nat → Nat → Int32) → Nat → Nat → Int32
  | 0, _, M => kbM M
  | r + 1, j, M => seM (skM w h d r (j + 1)) w h d j M
section PS
variable {K : (Nat → Nat → Int32) → (Nat → Nat → Int32)} {j : Nat}
theorem ms3_St (hj : j < 6) (M : Nat → Nat → Int32) : St j M (ms3 j M) := St.tr St_11 (St.tr (St_pl (Nat.le_refl _) hj (fun _ => Or.inr rfl)) (St_h (by omega)))
theorem ms3_row (hj : j < 6) (M : Nat → Nat → Int32) : ms3 j M (14 + j) = upd (M (14 + j)) 0 1 := by
  unfold ms3
  rw [hst_n (by omega), up2_s, up2_n (by omega)]
theorem mk_K (hK : ∀ M, St (j + 1) M (K M)) (hj : j < 6) (M : Nat → Nat → Int32) : St (j + 1) M (cIf (endd M) (kbM M) (K M)) := cIf_ind (fun _ => St_kb) (fun _ => hK M)
theorem mkS_St (hK : ∀ M, St (j + 1) M (K M)) (hj : j < 6) (M : Nat → Nat → Int32) : St j M (mkS K j M) := St.tr (ms3_St hj M) (St.tr (St.lo (mk_K hK hj (ms3 j M)) (by omega)) (St.tr (St_h (by omega)) (St_pl (Nat.le_refl _) hj (fun _ => Or.inl rfl))))
/-- a step leaves its place as it was, out again -/
theorem mkS_row (hK : ∀ M, St (j + 1) M (K M)) (hj : j < 6) (M : Nat → Nat → Int32) : mkS K j M (14 + j) = upd (M (14 + j)) 0 0 := by
  unfold mkS
  rw [up2_s, hst_n (by omega), (mk_K hK hj (ms3 j M)).1 (14 + j) (by unfold tch; omega), ms3_row hj, upd_upd]
/-- what a walk below place j keeps: the frame, and place j's own numbers but where it is out (0), its x (8) -/
def Sj (j : Nat) (M M' : Nat → Nat → Int32) : Prop := St j M M' ∧ ∀ k, k ≠ 0 → k ≠ 8 → M' (14 + j) k = M (14 + j) k
theorem Sj.rf (M : Nat → Nat → Int32) : Sj j M M := ⟨St.rf _ _, fun _ _ _ => rfl⟩
theorem Sj.tr {M M1 M2 : Nat → Nat → Int32} (a : Sj j M M1) (b : Sj j M1 M2) : Sj j M M2 := ⟨a.1.tr b.1, fun k h0 h8 => (b.2 k h0 h8).trans (a.2 k h0 h8)⟩
theorem Sj_x (hj : j < 6) (M : Nat → Nat → Int32) (v : Int32) : Sj j M (up2 M (14 + j) 8 v) := ⟨St_pl (Nat.le_refl _) hj (by omega), fun k _ h8 => by rw [up2_s, upd_n h8]⟩
theorem mkS_Sj (hK : ∀ M, St (j + 1) M (K M)) (hj : j < 6) (M : Nat → Nat → Int32) : Sj j M (mkS K j M) := ⟨mkS_St hK hj M, fun k h0 _ => by rw [mkS_row hK hj, upd_n h0]⟩
theorem rowM_Sj (hK : ∀ M, St (j + 1) M (K M)) (hj : j < 6) (sx : Int32) : ∀ (n x : Nat) (M : Nat → Nat → Int32), Sj j M (rowM K j sx n x M)
  | 0, x, M => Sj.rf M
  | n + 1, x, M => by
    unfold rowM
    refine cIf_ind (fun _ => cIf_ind (fun _ => cIf_ind (fun _ => ?_) (fun _ => ?_)) (fun _ => ?_)) (fun _ => rowM_Sj hK hj sx n (x + 1) M)
    · exact (Sj_x hj M _).tr (mkS_Sj hK hj _)
    · exact (Sj_x hj M _).tr ((mkS_Sj hK hj _).tr (rowM_Sj hK hj sx n (x + 1) _))
    · exact (Sj_x hj M _).tr (rowM_Sj hK hj sx n (x + 1) _)
/-- what a walk through the places of a turn keeps: the frame, turn and lengths of place j -/
def Sl (j : Nat) (M M' : Nat → Nat → Int32) : Prop := St j M M' ∧ ∀ k, k = 5 ∨ k = 6 ∨ k = 7 → M' (14 + j) k = M (14 + j) k
theorem Sl.rf (M : Nat → Nat → Int32) : Sl j M M := ⟨St.rf _ _, fun _ _ => rfl⟩
theorem Sl.tr {M M1 M2 : Nat → Nat → Int32} (a : Sl j M M1) (b : Sl j M1 M2) : Sl j M M2 := ⟨a.1.tr b.1, fun k h => (b.2 k h).trans (a.2 k h)⟩
theorem Sj.sl {M M1 : Nat → Nat → Int32} (a : Sj j M M1) : Sl j M M1 := ⟨a.1, fun k h => a.2 k (by omega) (by omega)⟩
theorem Sl_yz (hj : j < 6) (M : Nat → Nat → Int32) (y z : Int32) : Sl j M (yzM M (14 + j) y z) := ⟨St_yz (Nat.le_refl _) hj, fun k h => by unfold yzM; rw [up2_s, upd_n (by omega), up2_s, upd_n (by omega)]⟩
theorem zlM_Sl (hK : ∀ M, St (j + 1) M (K M)) (hj : j < 6) (sx sz : Int32) (nx y : Nat) : ∀ (n z : Nat) (M : Nat → Nat → Int32), Sl j M (zlM K j sx sz nx y n z M)
  | 0, z, M => Sl.rf M
  | n + 1, z, M => by
    unfold zlM
    refine cIf_ind (fun _ => Sl.rf M) (fun _ => cIf_ind (fun _ => ?_) (fun _ => zlM_Sl hK hj sx sz nx y n (z + 1) M))
    exact (Sl_yz hj M _ _).tr ((rowM_Sj hK hj sx nx 0 _).sl.tr (zlM_Sl hK hj sx sz nx y n (z + 1) _))
theorem ylM_Sl (hK : ∀ M, St (j + 1) M (K M)) (hj : j < 6) (sx sy sz : Int32) (nx nz : Nat) : ∀ (n y : Nat) (M : Nat → Nat → Int32), Sl j M (ylM K j sx sy sz nx nz n y M)
  | 0, y, M => Sl.rf M
  | n + 1, y, M => by
    unfold ylM
    refine cIf_ind (fun _ => ?_) (fun _ => ylM_Sl hK hj sx sy sz nx nz n (y + 1) M)
    exact (zlM_Sl hK hj sx sz nx y nz 0 M).tr (ylM_Sl hK hj sx sy sz nx nz n (y + 1) _)
theorem trM_St (hK : ∀ M, St (j + 1) M (K M)) (hj : j < 6) (w h d : Nat) (sx sy sz : Int32) (M : Nat → Nat → Int32) : St j M (trM K w h d j sx sy sz M) := (ylM_Sl hK hj sx sy sz _ _ _ 0 M).1
theorem tlM_St (hK : ∀ M, St (j + 1) M (K M)) (hj : j < 6) (w h d : Nat) (sx sy sz : Int32) : ∀ (n t : Nat) (M : Nat → Nat → Int32), St j M (tlM K w h d j sx sy sz n t M)
  | 0, t, M => St.rf _ M
  | n + 1, t, M => by
    unfold tlM
    refine cIf_ind (fun _ => St.rf _ M) (fun _ => cIf_ind (fun _ => ?_) (fun _ => tlM_St hK hj w h d sx sy sz n (t + 1) M))
    exact (St_to (Nat.le_refl _) hj).tr ((trM_St hK hj w h d sx sy sz _).tr (tlM_St hK hj w h d sx sy sz n (t + 1) _))
theorem seM_St (hK : ∀ M, St (j + 1) M (K M)) (hj : j < 6) (w h d : Nat) (M : Nat → Nat → Int32) : St j M (seM K w h d j M) := by
  unfold seM
  exact cIf_ind (fun _ => tlM_St hK hj w h d _ _ _ 6 0 M) (fun _ => (tlM_St hK hj w h d _ _ _ 6 0 M).tr (St.lo (hK _) (by omega)))
end PS
theorem skM_St (w h d : Nat) : ∀ (r j : Nat) (M : Nat → Nat → Int32), j + r ≤ 6 → St j M (skM w h d r j M)
  | 0, j, M, _ => St_kb
  | r + 1, j, M, hr => by
    unfold skM
    exact seM_St (fun M => skM_St w h d r (j + 1) M (by omega)) (by omega) w h d M
