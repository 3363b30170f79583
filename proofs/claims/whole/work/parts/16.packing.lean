/-! ===== Packing ===== -/
def csum (g : Nat → Int32) : Nat → Int32
  | 0 => 0
  | n + 1 => csum g n + g n
def gCell (M : Nat → Nat → Int32) (b i : Nat) : Int32 := if M (b + i) 0 = 0 then 0 else M (b + i) 5 * M (b + i) 6 * M (b + i) 7
def gWeight (M : Nat → Nat → Int32) (b i : Nat) : Int32 := if M (b + i) 0 = 0 then 0 else M (b + i) 1
def gWY (M : Nat → Nat → Int32) (b i : Nat) : Int32 := if M (b + i) 0 = 0 then 0 else M (b + i) 1 * M (b + i) 9
def gFar (M : Nat → Nat → Int32) (b i : Nat) : Int32 := if M (b + i) 0 = 0 then 0 else M (b + i) 1 * (2 * M (b + i) 10 + M (b + i) 7)
noncomputable def gAb (M : Nat → Nat → Int32) (b j i : Nat) : Int32 := if M (b + i) 0 = 0 then 0 else @ite _ (cAb (M (b + j)) (M (b + i))) (Classical.propDecidable _) (M (b + i) 1) 0
noncomputable def wAb (M : Nat → Nat → Int32) (b j : Nat) : Int32 := csum (gAb M b j) 6
def badL (M : Nat → Nat → Int32) (b j i : Nat) : Prop := ¬ M (b + i) 0 = 0 ∧ ¬ M (b + i) 2 = -1 ∧ cAb (M (b + i)) (M (b + j)) ∧ ¬ wAb M b i + M (b + j) 1 ≤ M (b + i) 2
def badO (M : Nat → Nat → Int32) (b j i : Nat) : Prop := ¬ M (b + i) 0 = 0 ∧ (¬ M (b + j) 3 ≤ M (b + i) 3 ∧ cFr (M (b + i)) (M (b + j)) ∨ ¬ M (b + i) 3 ≤ M (b + j) 3 ∧ cFr (M (b + j)) (M (b + i)))
def badP (M : Nat → Nat → Int32) (b j i : Nat) : Prop := ¬ M (b + i) 0 = 0 ∧ (cAb (M (b + j)) (M (b + i)) ∨ cFr (M (b + j)) (M (b + i)))
def opn (M : Nat → Nat → Int32) (b j : Nat) : Prop := ∀ i, i < 6 → ¬ badP M b j i
noncomputable def upS (M : Nat → Nat → Int32) (x z : Int32) : Nat → Int32 × Int32
  | 0 => (0, -1)
  | i + 1 => @ite _ (¬ M (5 + i) 0 = 0 ∧ cOver (M (5 + i)) x z ∧ ¬ M (5 + i) 9 ≤ (upS M x z i).2) (Classical.propDecidable _) (nI i + 1, M (5 + i) 9) (upS M x z i)
noncomputable def tkS (M : Nat → Nat → Int32) (s : Int32) : Nat → Int32 × (Nat → Nat → Int32)
  | 0 => (0, M)
  | i + 1 => @ite _ (¬ (tkS M s i).2 (5 + i) 0 = 0 ∧ (tkS M s i).2 (5 + i) 3 = s ∧ opn (tkS M s i).2 5 i) (Classical.propDecidable _) ((tkS M s i).1 + 1, up2 (tkS M s i).2 (5 + i) 0 0) (tkS M s i)
def emM (M : Nat → Nat → Int32) : Nat → Nat → Nat → Int32
  | 0 => M
  | i + 1 => up2 (emM M i) (5 + i) 0 0
def cyM (M : Nat → Nat → Int32) : Nat → Nat → Nat → Int32
  | 0 => M
  | i + 1 => cpM (cyM M i) (5 + i) (14 + i)
theorem cpM_n {M : Nat → Nat → Int32} {h q j : Nat} (hn : j ≠ h) : cpM M h q j = M j := by
  unfold cpM mvM
  simp only [up2_n hn]
theorem cyM_n {M : Nat → Nat → Int32} {j : Nat} (hj : j < 5 ∨ 11 ≤ j) : ∀ i, i ≤ 6 → cyM M i j = M j
  | 0, _ => rfl
  | i + 1, h => by
    unfold cyM
    rw [cpM_n (by omega)]
    exact cyM_n hj i (by omega)

set_option maxHeartbeats 4000000 in
theorem lp_cells_b {np : Nat} {M : Nat → Nat → Int32} {L : Nat → Int64}  (d : Nat) : ∀ k i, i + k = 6 → Ev (d + 1) mX0_cells 4 [some (.ref 3), some (.int (csum (gCell M 5) i)), some (.int (nI i))] [] (mk np M L) (Qr mX0_cells (some (.int (csum (gCell M 5) 6))) (mk np M L)) := by
  intro k
  induction k with
  | zero =>
    intro i hik 
    obtain rfl : i = 6 := by omega
    iterate 2 refine ev_s rfl ?_
    refine ev_gf (rd np M L (by omega) rfl) rfl rfl rfl ?_
    refine ev_al (v := 6) (rd np M L (by omega) rfl) rfl rfl (by decide) ?_
    refine ev_ic rfl rfl ?_
    rw [show zbr .ge (nI 6) 6 47 13 = 47 from zge_t (n := 6) (by decide) (by omega) (by decide)]
    refine ev_s rfl ?_
    refine ev_ri rfl rfl ?_ ?_
    · rfl
    · rfl
  | succ k ih =>
    intro i hik 
    have hi : i < 6 := by omega
    iterate 2 refine ev_s rfl ?_
    refine ev_gf (rd np M L (by omega) rfl) rfl rfl rfl ?_
    refine ev_al (v := 6) (rd np M L (by omega) rfl) rfl rfl (by decide) ?_
    refine ev_ic rfl rfl ?_
    rw [show zbr .ge (nI i) 6 47 13 = 13 from zge_f (n := 6) (by decide) hi (by decide)]
    iterate 2 refine ev_s rfl ?_
    refine ev_gf (rd np M L (by omega) rfl) rfl rfl rfl ?_
    refine ev_s rfl ?_
    refine ev_aa (v := (.ref (5 + i))) (rd np M L (by omega) rfl) rfl rfl (zin_nI (by omega) (by decide)) (by rw [if_pos (by omega)]; rfl) ?_
    refine ev_gf (rd np M L (by omega) (cel_best (by omega) _ _)) rfl rfl rfl ?_
    refine ev_if rfl rfl (ev_br (zb_eq _ _ _ _) (fun c1 => ?_) (fun c1 => ?_))
    · show Ev _ _ 38 _ _ _ _
      refine ev_ik (v := 0) rfl (by decide) ?_
      refine ev_s rfl ?_
      refine ev_s (ls' := [some (.ref 3), some (.int ((csum (gCell M 5) i) + 0)), some (.int (nI i))]) rfl ?_
      refine ev_inc (y := 1) (v := nI (i + 1)) (ls' := [some (.ref 3), some (.int ((csum (gCell M 5) i) + 0)), some (.int (nI (i + 1)))]) rfl rfl (by decide) (nI_1 _) rfl ?_
      refine ev_s rfl ?_
      have e9 := ih (i + 1) (by omega)
      simp only [csum, gCell, if_pos c1] at e9
      exact e9
    · show Ev _ _ 26 _ _ _ _
      refine ev_s rfl ?_
      refine ev_gf (rd np M L (by omega) rfl) rfl rfl rfl ?_
      refine ev_s rfl ?_
      refine ev_aa (v := (.ref (5 + i))) (rd np M L (by omega) rfl) rfl rfl (zin_nI (by omega) (by decide)) (by rw [if_pos (by omega)]; rfl) ?_
      refine ev_cv (vs := [(.ref (5 + i))]) (rest := [(.int (csum (gCell M 5) i))]) (rv := (some (.int (M (5 + i) 5 * M (5 + i) 6 * M (5 + i) 7)))) rfl rfl rfl (rd np M L (by omega) (cel_best (by omega) _ _)) rfl rfl rfl rfl (rn_pcells (f := M (5 + i)) (rd np M L (by omega) (cel_best (by omega) _ _)) _) ?_
      show Ev _ _ 35 _ [(.int (M (5 + i) 5 * M (5 + i) 6 * M (5 + i) 7)), (.int (csum (gCell M 5) i))] _ _
      iterate 2 refine ev_s rfl ?_
      refine ev_s (ls' := [some (.ref 3), some (.int ((csum (gCell M 5) i) + (M (5 + i) 5 * M (5 + i) 6 * M (5 + i) 7))), some (.int (nI i))]) rfl ?_
      refine ev_inc (y := 1) (v := nI (i + 1)) (ls' := [some (.ref 3), some (.int ((csum (gCell M 5) i) + (M (5 + i) 5 * M (5 + i) 6 * M (5 + i) 7))), some (.int (nI (i + 1)))]) rfl rfl (by decide) (nI_1 _) rfl ?_
      refine ev_s rfl ?_
      have e9 := ih (i + 1) (by omega)
      simp only [csum, gCell, if_neg c1] at e9
      exact e9
set_option maxHeartbeats 4000000 in
theorem rn_cells_b {np : Nat} {M : Nat → Nat → Int32} {L : Nat → Int64}  (d : Nat) : Rn (d + 1) mX0_cells [(.ref 3)] (mk np M L) (some (.int (csum (gCell M 5) 6))) (mk np M L) := by
  unfold Rn
  refine ev_ik (v := 0) rfl (by decide) ?_
  refine ev_s (ls' := [some (.ref 3), some (.int 0), none]) rfl ?_
  refine ev_ik (v := 0) rfl (by decide) ?_
  refine ev_s (ls' := [some (.ref 3), some (.int 0), some (.int 0)]) rfl ?_
  exact lp_cells_b d 6 0 (by omega)
set_option maxHeartbeats 4000000 in
theorem lp_cells_t {np : Nat} {M : Nat → Nat → Int32} {L : Nat → Int64}  (d : Nat) : ∀ k i, i + k = 6 → Ev (d + 1) mX0_cells 4 [some (.ref 12), some (.int (csum (gCell M 14) i)), some (.int (nI i))] [] (mk np M L) (Qr mX0_cells (some (.int (csum (gCell M 14) 6))) (mk np M L)) := by
  intro k
  induction k with
  | zero =>
    intro i hik 
    obtain rfl : i = 6 := by omega
    iterate 2 refine ev_s rfl ?_
    refine ev_gf (rd np M L (by omega) rfl) rfl rfl rfl ?_
    refine ev_al (v := 6) (rd np M L (by omega) rfl) rfl rfl (by decide) ?_
    refine ev_ic rfl rfl ?_
    rw [show zbr .ge (nI 6) 6 47 13 = 47 from zge_t (n := 6) (by decide) (by omega) (by decide)]
    refine ev_s rfl ?_
    refine ev_ri rfl rfl ?_ ?_
    · rfl
    · rfl
  | succ k ih =>
    intro i hik 
    have hi : i < 6 := by omega
    iterate 2 refine ev_s rfl ?_
    refine ev_gf (rd np M L (by omega) rfl) rfl rfl rfl ?_
    refine ev_al (v := 6) (rd np M L (by omega) rfl) rfl rfl (by decide) ?_
    refine ev_ic rfl rfl ?_
    rw [show zbr .ge (nI i) 6 47 13 = 13 from zge_f (n := 6) (by decide) hi (by decide)]
    iterate 2 refine ev_s rfl ?_
    refine ev_gf (rd np M L (by omega) rfl) rfl rfl rfl ?_
    refine ev_s rfl ?_
    refine ev_aa (v := (.ref (14 + i))) (rd np M L (by omega) rfl) rfl rfl (zin_nI (by omega) (by decide)) (by rw [if_pos (by omega)]; rfl) ?_
    refine ev_gf (rd np M L (by omega) (cel_trial (by omega) _ _)) rfl rfl rfl ?_
    refine ev_if rfl rfl (ev_br (zb_eq _ _ _ _) (fun c1 => ?_) (fun c1 => ?_))
    · show Ev _ _ 38 _ _ _ _
      refine ev_ik (v := 0) rfl (by decide) ?_
      refine ev_s rfl ?_
      refine ev_s (ls' := [some (.ref 12), some (.int ((csum (gCell M 14) i) + 0)), some (.int (nI i))]) rfl ?_
      refine ev_inc (y := 1) (v := nI (i + 1)) (ls' := [some (.ref 12), some (.int ((csum (gCell M 14) i) + 0)), some (.int (nI (i + 1)))]) rfl rfl (by decide) (nI_1 _) rfl ?_
      refine ev_s rfl ?_
      have e9 := ih (i + 1) (by omega)
      simp only [csum, gCell, if_pos c1] at e9
      exact e9
    · show Ev _ _ 26 _ _ _ _
      refine ev_s rfl ?_
      refine ev_gf (rd np M L (by omega) rfl) rfl rfl rfl ?_
      refine ev_s rfl ?_
      refine ev_aa (v := (.ref (14 + i))) (rd np M L (by omega) rfl) rfl rfl (zin_nI (by omega) (by decide)) (by rw [if_pos (by omega)]; rfl) ?_
      refine ev_cv (vs := [(.ref (14 + i))]) (rest := [(.int (csum (gCell M 14) i))]) (rv := (some (.int (M (14 + i) 5 * M (14 + i) 6 * M (14 + i) 7)))) rfl rfl rfl (rd np M L (by omega) (cel_trial (by omega) _ _)) rfl rfl rfl rfl (rn_pcells (f := M (14 + i)) (rd np M L (by omega) (cel_trial (by omega) _ _)) _) ?_
      show Ev _ _ 35 _ [(.int (M (14 + i) 5 * M (14 + i) 6 * M (14 + i) 7)), (.int (csum (gCell M 14) i))] _ _
      iterate 2 refine ev_s rfl ?_
      refine ev_s (ls' := [some (.ref 12), some (.int ((csum (gCell M 14) i) + (M (14 + i) 5 * M (14 + i) 6 * M (14 + i) 7))), some (.int (nI i))]) rfl ?_
      refine ev_inc (y := 1) (v := nI (i + 1)) (ls' := [some (.ref 12), some (.int ((csum (gCell M 14) i) + (M (14 + i) 5 * M (14 + i) 6 * M (14 + i) 7))), some (.int (nI (i + 1)))]) rfl rfl (by decide) (nI_1 _) rfl ?_
      refine ev_s rfl ?_
      have e9 := ih (i + 1) (by omega)
      simp only [csum, gCell, if_neg c1] at e9
      exact e9
set_option maxHeartbeats 4000000 in
theorem rn_cells_t {np : Nat} {M : Nat → Nat → Int32} {L : Nat → Int64}  (d : Nat) : Rn (d + 1) mX0_cells [(.ref 12)] (mk np M L) (some (.int (csum (gCell M 14) 6))) (mk np M L) := by
  unfold Rn
  refine ev_ik (v := 0) rfl (by decide) ?_
  refine ev_s (ls' := [some (.ref 12), some (.int 0), none]) rfl ?_
  refine ev_ik (v := 0) rfl (by decide) ?_
  refine ev_s (ls' := [some (.ref 12), some (.int 0), some (.int 0)]) rfl ?_
  exact lp_cells_t d 6 0 (by omega)
set_option maxHeartbeats 4000000 in
theorem lp_weight {np : Nat} {M : Nat → Nat → Int32} {L : Nat → Int64}  (d : Nat) : ∀ k i, i + k = 6 → Ev (d) mX0_weight 4 [some (.ref 3), some (.int (csum (gWeight M 5) i)), some (.int (nI i))] [] (mk np M L) (Qr mX0_weight (some (.int (csum (gWeight M 5) 6))) (mk np M L)) := by
  intro k
  induction k with
  | zero =>
    intro i hik 
    obtain rfl : i = 6 := by omega
    iterate 2 refine ev_s rfl ?_
    refine ev_gf (rd np M L (by omega) rfl) rfl rfl rfl ?_
    refine ev_al (v := 6) (rd np M L (by omega) rfl) rfl rfl (by decide) ?_
    refine ev_ic rfl rfl ?_
    rw [show zbr .ge (nI 6) 6 47 13 = 47 from zge_t (n := 6) (by decide) (by omega) (by decide)]
    refine ev_s rfl ?_
    refine ev_ri rfl rfl ?_ ?_
    · rfl
    · rfl
  | succ k ih =>
    intro i hik 
    have hi : i < 6 := by omega
    iterate 2 refine ev_s rfl ?_
    refine ev_gf (rd np M L (by omega) rfl) rfl rfl rfl ?_
    refine ev_al (v := 6) (rd np M L (by omega) rfl) rfl rfl (by decide) ?_
    refine ev_ic rfl rfl ?_
    rw [show zbr .ge (nI i) 6 47 13 = 13 from zge_f (n := 6) (by decide) hi (by decide)]
    iterate 2 refine ev_s rfl ?_
    refine ev_gf (rd np M L (by omega) rfl) rfl rfl rfl ?_
    refine ev_s rfl ?_
    refine ev_aa (v := (.ref (5 + i))) (rd np M L (by omega) rfl) rfl rfl (zin_nI (by omega) (by decide)) (by rw [if_pos (by omega)]; rfl) ?_
    refine ev_gf (rd np M L (by omega) (cel_best (by omega) _ _)) rfl rfl rfl ?_
    refine ev_if rfl rfl (ev_br (zb_eq _ _ _ _) (fun c1 => ?_) (fun c1 => ?_))
    · show Ev _ _ 38 _ _ _ _
      refine ev_ik (v := 0) rfl (by decide) ?_
      refine ev_s rfl ?_
      refine ev_s (ls' := [some (.ref 3), some (.int ((csum (gWeight M 5) i) + 0)), some (.int (nI i))]) rfl ?_
      refine ev_inc (y := 1) (v := nI (i + 1)) (ls' := [some (.ref 3), some (.int ((csum (gWeight M 5) i) + 0)), some (.int (nI (i + 1)))]) rfl rfl (by decide) (nI_1 _) rfl ?_
      refine ev_s rfl ?_
      have e9 := ih (i + 1) (by omega)
      simp only [csum, gWeight, if_pos c1] at e9
      exact e9
    · show Ev _ _ 26 _ _ _ _
      refine ev_s rfl ?_
      refine ev_gf (rd np M L (by omega) rfl) rfl rfl rfl ?_
      refine ev_s rfl ?_
      refine ev_aa (v := (.ref (5 + i))) (rd np M L (by omega) rfl) rfl rfl (zin_nI (by omega) (by decide)) (by rw [if_pos (by omega)]; rfl) ?_
      refine ev_gf (rd np M L (by omega) (cel_best (by omega) _ _)) rfl rfl rfl ?_
      iterate 2 refine ev_s rfl ?_
      refine ev_s (ls' := [some (.ref 3), some (.int ((csum (gWeight M 5) i) + (M (5 + i) 1))), some (.int (nI i))]) rfl ?_
      refine ev_inc (y := 1) (v := nI (i + 1)) (ls' := [some (.ref 3), some (.int ((csum (gWeight M 5) i) + (M (5 + i) 1))), some (.int (nI (i + 1)))]) rfl rfl (by decide) (nI_1 _) rfl ?_
      refine ev_s rfl ?_
      have e9 := ih (i + 1) (by omega)
      simp only [csum, gWeight, if_neg c1] at e9
      exact e9
set_option maxHeartbeats 4000000 in
theorem rn_weight {np : Nat} {M : Nat → Nat → Int32} {L : Nat → Int64}  (d : Nat) : Rn (d) mX0_weight [(.ref 3)] (mk np M L) (some (.int (csum (gWeight M 5) 6))) (mk np M L) := by
  unfold Rn
  refine ev_ik (v := 0) rfl (by decide) ?_
  refine ev_s (ls' := [some (.ref 3), some (.int 0), none]) rfl ?_
  refine ev_ik (v := 0) rfl (by decide) ?_
  refine ev_s (ls' := [some (.ref 3), some (.int 0), some (.int 0)]) rfl ?_
  exact lp_weight d 6 0 (by omega)
set_option maxHeartbeats 4000000 in
theorem lp_wy {np : Nat} {M : Nat → Nat → Int32} {L : Nat → Int64}  (d : Nat) : ∀ k i, i + k = 6 → Ev (d) mX0_weightTimesY 4 [some (.ref 12), some (.int (csum (gWY M 14) i)), some (.int (nI i))] [] (mk np M L) (Qr mX0_weightTimesY (some (.int (csum (gWY M 14) 6))) (mk np M L)) := by
  intro k
  induction k with
  | zero =>
    intro i hik 
    obtain rfl : i = 6 := by omega
    iterate 2 refine ev_s rfl ?_
    refine ev_gf (rd np M L (by omega) rfl) rfl rfl rfl ?_
    refine ev_al (v := 6) (rd np M L (by omega) rfl) rfl rfl (by decide) ?_
    refine ev_ic rfl rfl ?_
    rw [show zbr .ge (nI 6) 6 57 13 = 57 from zge_t (n := 6) (by decide) (by omega) (by decide)]
    refine ev_s rfl ?_
    refine ev_ri rfl rfl ?_ ?_
    · rfl
    · rfl
  | succ k ih =>
    intro i hik 
    have hi : i < 6 := by omega
    iterate 2 refine ev_s rfl ?_
    refine ev_gf (rd np M L (by omega) rfl) rfl rfl rfl ?_
    refine ev_al (v := 6) (rd np M L (by omega) rfl) rfl rfl (by decide) ?_
    refine ev_ic rfl rfl ?_
    rw [show zbr .ge (nI i) 6 57 13 = 13 from zge_f (n := 6) (by decide) hi (by decide)]
    iterate 2 refine ev_s rfl ?_
    refine ev_gf (rd np M L (by omega) rfl) rfl rfl rfl ?_
    refine ev_s rfl ?_
    refine ev_aa (v := (.ref (14 + i))) (rd np M L (by omega) rfl) rfl rfl (zin_nI (by omega) (by decide)) (by rw [if_pos (by omega)]; rfl) ?_
    refine ev_gf (rd np M L (by omega) (cel_trial (by omega) _ _)) rfl rfl rfl ?_
    refine ev_if rfl rfl (ev_br (zb_eq _ _ _ _) (fun c1 => ?_) (fun c1 => ?_))
    · show Ev _ _ 48 _ _ _ _
      refine ev_ik (v := 0) rfl (by decide) ?_
      refine ev_s rfl ?_
      refine ev_s (ls' := [some (.ref 12), some (.int ((csum (gWY M 14) i) + 0)), some (.int (nI i))]) rfl ?_
      refine ev_inc (y := 1) (v := nI (i + 1)) (ls' := [some (.ref 12), some (.int ((csum (gWY M 14) i) + 0)), some (.int (nI (i + 1)))]) rfl rfl (by decide) (nI_1 _) rfl ?_
      refine ev_s rfl ?_
      have e9 := ih (i + 1) (by omega)
      simp only [csum, gWY, if_pos c1] at e9
      exact e9
    · show Ev _ _ 26 _ _ _ _
      refine ev_s rfl ?_
      refine ev_gf (rd np M L (by omega) rfl) rfl rfl rfl ?_
      refine ev_s rfl ?_
      refine ev_aa (v := (.ref (14 + i))) (rd np M L (by omega) rfl) rfl rfl (zin_nI (by omega) (by decide)) (by rw [if_pos (by omega)]; rfl) ?_
      refine ev_gf (rd np M L (by omega) (cel_trial (by omega) _ _)) rfl rfl rfl ?_
      refine ev_s rfl ?_
      refine ev_gf (rd np M L (by omega) rfl) rfl rfl rfl ?_
      refine ev_s rfl ?_
      refine ev_aa (v := (.ref (14 + i))) (rd np M L (by omega) rfl) rfl rfl (zin_nI (by omega) (by decide)) (by rw [if_pos (by omega)]; rfl) ?_
      refine ev_gf (rd np M L (by omega) (cel_trial (by omega) _ _)) rfl rfl rfl ?_
      iterate 3 refine ev_s rfl ?_
      refine ev_s (ls' := [some (.ref 12), some (.int ((csum (gWY M 14) i) + ((M (14 + i) 1) * (M (14 + i) 9)))), some (.int (nI i))]) rfl ?_
      refine ev_inc (y := 1) (v := nI (i + 1)) (ls' := [some (.ref 12), some (.int ((csum (gWY M 14) i) + ((M (14 + i) 1) * (M (14 + i) 9)))), some (.int (nI (i + 1)))]) rfl rfl (by decide) (nI_1 _) rfl ?_
      refine ev_s rfl ?_
      have e9 := ih (i + 1) (by omega)
      simp only [csum, gWY, if_neg c1] at e9
      exact e9
set_option maxHeartbeats 4000000 in
theorem rn_wy {np : Nat} {M : Nat → Nat → Int32} {L : Nat → Int64}  (d : Nat) : Rn (d) mX0_weightTimesY [(.ref 12)] (mk np M L) (some (.int (csum (gWY M 14) 6))) (mk np M L) := by
  unfold Rn
  refine ev_ik (v := 0) rfl (by decide) ?_
  refine ev_s (ls' := [some (.ref 12), some (.int 0), none]) rfl ?_
  refine ev_ik (v := 0) rfl (by decide) ?_
  refine ev_s (ls' := [some (.ref 12), some (.int 0), some (.int 0)]) rfl ?_
  exact lp_wy d 6 0 (by omega)
set_option maxHeartbeats 4000000 in
theorem lp_far {np : Nat} {M : Nat → Nat → Int32} {L : Nat → Int64}  (d : Nat) : ∀ k i, i + k = 6 → ∀ v3 : Option Value, Ev (d) mX0_farWeight 4 [some (.ref 3), some (.int (csum (gFar M 5) i)), some (.int (nI i)), v3] [] (mk np M L) (Qr mX0_farWeight (some (.int (csum (gFar M 5) 6))) (mk np M L)) := by
  intro k
  induction k with
  | zero =>
    intro i hik v3 
    obtain rfl : i = 6 := by omega
    iterate 2 refine ev_s rfl ?_
    refine ev_gf (rd np M L (by omega) rfl) rfl rfl rfl ?_
    refine ev_al (v := 6) (rd np M L (by omega) rfl) rfl rfl (by decide) ?_
    refine ev_ic rfl rfl ?_
    rw [show zbr .ge (nI 6) 6 56 13 = 56 from zge_t (n := 6) (by decide) (by omega) (by decide)]
    refine ev_s rfl ?_
    refine ev_ri rfl rfl ?_ ?_
    · rfl
    · rfl
  | succ k ih =>
    intro i hik v3 
    have hi : i < 6 := by omega
    iterate 2 refine ev_s rfl ?_
    refine ev_gf (rd np M L (by omega) rfl) rfl rfl rfl ?_
    refine ev_al (v := 6) (rd np M L (by omega) rfl) rfl rfl (by decide) ?_
    refine ev_ic rfl rfl ?_
    rw [show zbr .ge (nI i) 6 56 13 = 13 from zge_f (n := 6) (by decide) hi (by decide)]
    refine ev_s rfl ?_
    refine ev_gf (rd np M L (by omega) rfl) rfl rfl rfl ?_
    refine ev_s rfl ?_
    refine ev_aa (v := (.ref (5 + i))) (rd np M L (by omega) rfl) rfl rfl (zin_nI (by omega) (by decide)) (by rw [if_pos (by omega)]; rfl) ?_
    refine ev_s (ls' := [some (.ref 3), some (.int (csum (gFar M 5) i)), some (.int (nI i)), some (.ref (5 + i))]) rfl ?_
    iterate 2 refine ev_s rfl ?_
    refine ev_gf (rd np M L (by omega) (cel_best (by omega) _ _)) rfl rfl rfl ?_
    refine ev_if rfl rfl (ev_br (zb_eq _ _ _ _) (fun c1 => ?_) (fun c1 => ?_))
    · show Ev _ _ 47 _ _ _ _
      refine ev_ik (v := 0) rfl (by decide) ?_
      refine ev_s rfl ?_
      refine ev_s (ls' := [some (.ref 3), some (.int ((csum (gFar M 5) i) + 0)), some (.int (nI i)), some (.ref (5 + i))]) rfl ?_
      refine ev_inc (y := 1) (v := nI (i + 1)) (ls' := [some (.ref 3), some (.int ((csum (gFar M 5) i) + 0)), some (.int (nI (i + 1))), some (.ref (5 + i))]) rfl rfl (by decide) (nI_1 _) rfl ?_
      refine ev_s rfl ?_
      have e9 := ih (i + 1) (by omega) (some (.ref (5 + i)))
      simp only [csum, gFar, if_pos c1] at e9
      exact e9
    · show Ev _ _ 28 _ _ _ _
      refine ev_s rfl ?_
      refine ev_gf (rd np M L (by omega) (cel_best (by omega) _ _)) rfl rfl rfl ?_
      refine ev_ik (v := 2) rfl (by decide) ?_
      refine ev_s rfl ?_
      refine ev_gf (rd np M L (by omega) (cel_best (by omega) _ _)) rfl rfl rfl ?_
      iterate 2 refine ev_s rfl ?_
      refine ev_gf (rd np M L (by omega) (cel_best (by omega) _ _)) rfl rfl rfl ?_
      iterate 4 refine ev_s rfl ?_
      refine ev_s (ls' := [some (.ref 3), some (.int ((csum (gFar M 5) i) + ((M (5 + i) 1) * ((2 * (M (5 + i) 10)) + (M (5 + i) 7))))), some (.int (nI i)), some (.ref (5 + i))]) rfl ?_
      refine ev_inc (y := 1) (v := nI (i + 1)) (ls' := [some (.ref 3), some (.int ((csum (gFar M 5) i) + ((M (5 + i) 1) * ((2 * (M (5 + i) 10)) + (M (5 + i) 7))))), some (.int (nI (i + 1))), some (.ref (5 + i))]) rfl rfl (by decide) (nI_1 _) rfl ?_
      refine ev_s rfl ?_
      have e9 := ih (i + 1) (by omega) (some (.ref (5 + i)))
      simp only [csum, gFar, if_neg c1] at e9
      exact e9
set_option maxHeartbeats 4000000 in
theorem rn_far {np : Nat} {M : Nat → Nat → Int32} {L : Nat → Int64}  (d : Nat) : Rn (d) mX0_farWeight [(.ref 3)] (mk np M L) (some (.int (csum (gFar M 5) 6))) (mk np M L) := by
  unfold Rn
  refine ev_ik (v := 0) rfl (by decide) ?_
  refine ev_s (ls' := [some (.ref 3), some (.int 0), none, none]) rfl ?_
  refine ev_ik (v := 0) rfl (by decide) ?_
  refine ev_s (ls' := [some (.ref 3), some (.int 0), some (.int 0), none]) rfl ?_
  exact lp_far d 6 0 (by omega) none
set_option maxHeartbeats 4000000 in
theorem lp_wAb {np : Nat} {M : Nat → Nat → Int32} {L : Nat → Int64} {j : Nat} (hj : j < 6) (d : Nat) : ∀ k i, i + k = 6 → Ev (d + 1) mX0_weightAbove 4 [some (.ref 12), some (.ref (14 + j)), some (.int (csum (gAb M 14 j) i)), some (.int (nI i))] [] (mk np M L) (Qr mX0_weightAbove (some (.int (wAb M 14 j))) (mk np M L)) := by
  intro k
  induction k with
  | zero =>
    intro i hik 
    obtain rfl : i = 6 := by omega
    iterate 2 refine ev_s rfl ?_
    refine ev_gf (rd np M L (by omega) rfl) rfl rfl rfl ?_
    refine ev_al (v := 6) (rd np M L (by omega) rfl) rfl rfl (by decide) ?_
    refine ev_ic rfl rfl ?_
    rw [show zbr .ge (nI 6) 6 60 13 = 60 from zge_t (n := 6) (by decide) (by omega) (by decide)]
    refine ev_s rfl ?_
    refine ev_ri rfl rfl ?_ ?_
    · rfl
    · rfl
  | succ k ih =>
    intro i hik 
    have hi : i < 6 := by omega
    iterate 2 refine ev_s rfl ?_
    refine ev_gf (rd np M L (by omega) rfl) rfl rfl rfl ?_
    refine ev_al (v := 6) (rd np M L (by omega) rfl) rfl rfl (by decide) ?_
    refine ev_ic rfl rfl ?_
    rw [show zbr .ge (nI i) 6 60 13 = 13 from zge_f (n := 6) (by decide) hi (by decide)]
    iterate 2 refine ev_s rfl ?_
    refine ev_gf (rd np M L (by omega) rfl) rfl rfl rfl ?_
    refine ev_s rfl ?_
    refine ev_aa (v := (.ref (14 + i))) (rd np M L (by omega) rfl) rfl rfl (zin_nI (by omega) (by decide)) (by rw [if_pos (by omega)]; rfl) ?_
    refine ev_gf (rd np M L (by omega) (cel_trial (by omega) _ _)) rfl rfl rfl ?_
    refine ev_if rfl rfl (ev_br (zb_eq _ _ _ _) (fun c1 => ?_) (fun c1 => ?_))
    · show Ev _ _ 51 _ _ _ _
      refine ev_ik (v := 0) rfl (by decide) ?_
      refine ev_s rfl ?_
      refine ev_s (ls' := [some (.ref 12), some (.ref (14 + j)), some (.int ((csum (gAb M 14 j) i) + 0)), some (.int (nI i))]) rfl ?_
      refine ev_inc (y := 1) (v := nI (i + 1)) (ls' := [some (.ref 12), some (.ref (14 + j)), some (.int ((csum (gAb M 14 j) i) + 0)), some (.int (nI (i + 1)))]) rfl rfl (by decide) (nI_1 _) rfl ?_
      refine ev_s rfl ?_
      have e9 := ih (i + 1) (by omega)
      simp only [csum, gAb, if_pos c1] at e9
      exact e9
    · show Ev _ _ 26 _ _ _ _
      iterate 2 refine ev_s rfl ?_
      refine ev_gf (rd np M L (by omega) rfl) rfl rfl rfl ?_
      refine ev_s rfl ?_
      refine ev_aa (v := (.ref (14 + i))) (rd np M L (by omega) rfl) rfl rfl (zin_nI (by omega) (by decide)) (by rw [if_pos (by omega)]; rfl) ?_
      refine ev_cv (vs := [(.ref (14 + j)), (.ref (14 + i))]) (rest := [(.int (csum (gAb M 14 j) i))]) (rv := (some (.int (zi (cAb (M (14 + j)) (M (14 + i))))))) rfl rfl rfl (rd np M L (by omega) (cel_trial (by omega) _ _)) rfl rfl rfl rfl (rn_hasAbove (f := M (14 + j)) (g := M (14 + i)) (rd np M L (by omega) (cel_trial (by omega) _ _)) (rd np M L (by omega) (cel_trial (by omega) _ _)) _) ?_
      show Ev _ _ 36 _ [(.int (zi (cAb (M (14 + j)) (M (14 + i))))), (.int (csum (gAb M 14 j) i))] _ _
      refine ev_if rfl rfl (ev_bze (fun c2 => ?_) (fun c2 => ?_))
      · show Ev _ _ 51 _ _ _ _
        refine ev_ik (v := 0) rfl (by decide) ?_
        refine ev_s rfl ?_
        refine ev_s (ls' := [some (.ref 12), some (.ref (14 + j)), some (.int ((csum (gAb M 14 j) i) + 0)), some (.int (nI i))]) rfl ?_
        refine ev_inc (y := 1) (v := nI (i + 1)) (ls' := [some (.ref 12), some (.ref (14 + j)), some (.int ((csum (gAb M 14 j) i) + 0)), some (.int (nI (i + 1)))]) rfl rfl (by decide) (nI_1 _) rfl ?_
        refine ev_s rfl ?_
        have e9 := ih (i + 1) (by omega)
        simp only [csum, gAb, if_neg c1, if_neg c2] at e9
        exact e9
      · show Ev _ _ 39 _ _ _ _
        refine ev_s rfl ?_
        refine ev_gf (rd np M L (by omega) rfl) rfl rfl rfl ?_
        refine ev_s rfl ?_
        refine ev_aa (v := (.ref (14 + i))) (rd np M L (by omega) rfl) rfl rfl (zin_nI (by omega) (by decide)) (by rw [if_pos (by omega)]; rfl) ?_
        refine ev_gf (rd np M L (by omega) (cel_trial (by omega) _ _)) rfl rfl rfl ?_
        iterate 2 refine ev_s rfl ?_
        refine ev_s (ls' := [some (.ref 12), some (.ref (14 + j)), some (.int ((csum (gAb M 14 j) i) + (M (14 + i) 1))), some (.int (nI i))]) rfl ?_
        refine ev_inc (y := 1) (v := nI (i + 1)) (ls' := [some (.ref 12), some (.ref (14 + j)), some (.int ((csum (gAb M 14 j) i) + (M (14 + i) 1))), some (.int (nI (i + 1)))]) rfl rfl (by decide) (nI_1 _) rfl ?_
        refine ev_s rfl ?_
        have e9 := ih (i + 1) (by omega)
        simp only [csum, gAb, if_neg c1, if_pos c2] at e9
        exact e9
set_option maxHeartbeats 4000000 in
theorem rn_wAb {np : Nat} {M : Nat → Nat → Int32} {L : Nat → Int64} {j : Nat} (hj : j < 6) (d : Nat) : Rn (d + 1) mX0_weightAbove [(.ref 12), (.ref (14 + j))] (mk np M L) (some (.int (wAb M 14 j))) (mk np M L) := by
  unfold Rn
  refine ev_ik (v := 0) rfl (by decide) ?_
  refine ev_s (ls' := [some (.ref 12), some (.ref (14 + j)), some (.int 0), none]) rfl ?_
  refine ev_ik (v := 0) rfl (by decide) ?_
  refine ev_s (ls' := [some (.ref 12), some (.ref (14 + j)), some (.int 0), some (.int 0)]) rfl ?_
  exact lp_wAb hj d 6 0 (by omega)
set_option maxHeartbeats 4000000 in
theorem lp_kl {np : Nat} {M : Nat → Nat → Int32} {L : Nat → Int64} {j : Nat} (hj : j < 6) (d : Nat) : ∀ k i, i + k = 6 → ∀ v3 : Option Value, (∀ q, q < i → ¬ badL M 14 j q) → Ev (d + 2) mX0_keepsLimits 2 [some (.ref 12), some (.ref (14 + j)), some (.int (nI i)), v3] [] (mk np M L) (Qr mX0_keepsLimits (some (.int (zi (∀ i, i < 6 → ¬ badL M 14 j i)))) (mk np M L)) := by
  intro k
  induction k with
  | zero =>
    intro i hik v3 hI
    obtain rfl : i = 6 := by omega
    iterate 2 refine ev_s rfl ?_
    refine ev_gf (rd np M L (by omega) rfl) rfl rfl rfl ?_
    refine ev_al (v := 6) (rd np M L (by omega) rfl) rfl rfl (by decide) ?_
    refine ev_ic rfl rfl ?_
    rw [show zbr .ge (nI 6) 6 66 11 = 66 from zge_t (n := 6) (by decide) (by omega) (by decide)]
    refine ev_ik (v := 1) rfl (by decide) ?_
    refine ev_rz rfl rfl (by decide) ?_ ?_
    · exact some_i (zi_t (fun q hq => hI q hq)).symm
    · rfl
  | succ k ih =>
    intro i hik v3 hI
    have hi : i < 6 := by omega
    iterate 2 refine ev_s rfl ?_
    refine ev_gf (rd np M L (by omega) rfl) rfl rfl rfl ?_
    refine ev_al (v := 6) (rd np M L (by omega) rfl) rfl rfl (by decide) ?_
    refine ev_ic rfl rfl ?_
    rw [show zbr .ge (nI i) 6 66 11 = 11 from zge_f (n := 6) (by decide) hi (by decide)]
    refine ev_s rfl ?_
    refine ev_gf (rd np M L (by omega) rfl) rfl rfl rfl ?_
    refine ev_s rfl ?_
    refine ev_aa (v := (.ref (14 + i))) (rd np M L (by omega) rfl) rfl rfl (zin_nI (by omega) (by decide)) (by rw [if_pos (by omega)]; rfl) ?_
    refine ev_s (ls' := [some (.ref 12), some (.ref (14 + j)), some (.int (nI i)), some (.ref (14 + i))]) rfl ?_
    refine ev_s rfl ?_
    refine ev_gf (rd np M L (by omega) (cel_trial (by omega) _ _)) rfl rfl rfl ?_
    refine ev_if rfl rfl (ev_br (zb_eq _ _ _ _) (fun c1 => ?_) (fun c1 => ?_))
    · show Ev _ _ 60 _ _ _ _
      refine ev_inc (y := 1) (v := nI (i + 1)) (ls' := [some (.ref 12), some (.ref (14 + j)), some (.int (nI (i + 1))), some (.ref (14 + i))]) rfl rfl (by decide) (nI_1 _) rfl ?_
      refine ev_s rfl ?_
      exact ih (i + 1) (by omega) (some (.ref (14 + i))) (fun q hq hs => by
        rcases Nat.lt_or_ge q i with q1 | q1
        · exact hI q q1 hs
        · obtain rfl : q = i := by omega
          exact hs.1 c1)
    · show Ev _ _ 25 _ _ _ _
      refine ev_s rfl ?_
      refine ev_gf (rd np M L (by omega) (cel_trial (by omega) _ _)) rfl rfl rfl ?_
      refine ev_ik (v := (-1)) rfl (by decide) ?_
      refine ev_ic rfl rfl (ev_br (zb_eq _ _ _ _) (fun c2 => ?_) (fun c2 => ?_))
      · show Ev _ _ 60 _ _ _ _
        refine ev_inc (y := 1) (v := nI (i + 1)) (ls' := [some (.ref 12), some (.ref (14 + j)), some (.int (nI (i + 1))), some (.ref (14 + i))]) rfl rfl (by decide) (nI_1 _) rfl ?_
        refine ev_s rfl ?_
        exact ih (i + 1) (by omega) (some (.ref (14 + i))) (fun q hq hs => by
          rcases Nat.lt_or_ge q i with q1 | q1
          · exact hI q q1 hs
          · obtain rfl : q = i := by omega
            exact hs.2.1 c2)
      · show Ev _ _ 33 _ _ _ _
        iterate 2 refine ev_s rfl ?_
        refine ev_cv (vs := [(.ref (14 + i)), (.ref (14 + j))]) (rest := []) (rv := (some (.int (zi (cAb (M (14 + i)) (M (14 + j))))))) rfl rfl rfl (rd np M L (by omega) (cel_trial (by omega) _ _)) rfl rfl rfl rfl (rn_hasAbove (f := M (14 + i)) (g := M (14 + j)) (rd np M L (by omega) (cel_trial (by omega) _ _)) (rd np M L (by omega) (cel_trial (by omega) _ _)) _) ?_
        show Ev _ _ 38 _ [(.int (zi (cAb (M (14 + i)) (M (14 + j)))))] _ _
        refine ev_if rfl rfl (ev_bze (fun c3 => ?_) (fun c3 => ?_))
        · show Ev _ _ 60 _ _ _ _
          refine ev_inc (y := 1) (v := nI (i + 1)) (ls' := [some (.ref 12), some (.ref (14 + j)), some (.int (nI (i + 1))), some (.ref (14 + i))]) rfl rfl (by decide) (nI_1 _) rfl ?_
          refine ev_s rfl ?_
          exact ih (i + 1) (by omega) (some (.ref (14 + i))) (fun q hq hs => by
            rcases Nat.lt_or_ge q i with q1 | q1
            · exact hI q q1 hs
            · obtain rfl : q = i := by omega
              exact c3 hs.2.2.1)
        · show Ev _ _ 41 _ _ _ _
          iterate 2 refine ev_s rfl ?_
          refine ev_cv (vs := [(.ref 12), (.ref (14 + i))]) (rest := []) (rv := (some (.int (wAb M 14 i)))) rfl rfl rfl (rd np M L (by omega) rfl) rfl rfl rfl rfl (rn_wAb (j := i) hi _) ?_
          show Ev _ _ 46 _ [(.int (wAb M 14 i))] _ _
          refine ev_s rfl ?_
          refine ev_gf (rd np M L (by omega) (cel_trial (by omega) _ _)) rfl rfl rfl ?_
          iterate 2 refine ev_s rfl ?_
          refine ev_gf (rd np M L (by omega) (cel_trial (by omega) _ _)) rfl rfl rfl ?_
          refine ev_ic rfl rfl (ev_br (zb_le _ _ _ _) (fun c4 => ?_) (fun c4 => ?_))
          · show Ev _ _ 60 _ _ _ _
            refine ev_inc (y := 1) (v := nI (i + 1)) (ls' := [some (.ref 12), some (.ref (14 + j)), some (.int (nI (i + 1))), some (.ref (14 + i))]) rfl rfl (by decide) (nI_1 _) rfl ?_
            refine ev_s rfl ?_
            exact ih (i + 1) (by omega) (some (.ref (14 + i))) (fun q hq hs => by
              rcases Nat.lt_or_ge q i with q1 | q1
              · exact hI q q1 hs
              · obtain rfl : q = i := by omega
                exact hs.2.2.2 c4)
          · show Ev _ _ 58 _ _ _ _
            refine ev_ik (v := 0) rfl (by decide) ?_
            refine ev_rz rfl rfl (by decide) ?_ ?_
            · exact some_i (zi_f (fun h => h i hi ⟨c1, c2, c3, c4⟩)).symm
            · rfl
set_option maxHeartbeats 4000000 in
theorem rn_kl {np : Nat} {M : Nat → Nat → Int32} {L : Nat → Int64} {j : Nat} (hj : j < 6) (d : Nat) : Rn (d + 2) mX0_keepsLimits [(.ref 12), (.ref (14 + j))] (mk np M L) (some (.int (zi (∀ i, i < 6 → ¬ badL M 14 j i)))) (mk np M L) := by
  unfold Rn
  refine ev_ik (v := 0) rfl (by decide) ?_
  refine ev_s (ls' := [some (.ref 12), some (.ref (14 + j)), some (.int 0), none]) rfl ?_
  exact lp_kl hj d 6 0 (by omega) none (fun q hq => absurd hq (by omega))
set_option maxHeartbeats 4000000 in
theorem lp_ko {np : Nat} {M : Nat → Nat → Int32} {L : Nat → Int64} {j : Nat} (hj : j < 6) (d : Nat) : ∀ k i, i + k = 6 → ∀ v3 : Option Value, (∀ q, q < i → ¬ badO M 14 j q) → Ev (d + 1) mX0_keepsOrder 2 [some (.ref 12), some (.ref (14 + j)), some (.int (nI i)), v3] [] (mk np M L) (Qr mX0_keepsOrder (some (.int (zi (∀ i, i < 6 → ¬ badO M 14 j i)))) (mk np M L)) := by
  intro k
  induction k with
  | zero =>
    intro i hik v3 hI
    obtain rfl : i = 6 := by omega
    iterate 2 refine ev_s rfl ?_
    refine ev_gf (rd np M L (by omega) rfl) rfl rfl rfl ?_
    refine ev_al (v := 6) (rd np M L (by omega) rfl) rfl rfl (by decide) ?_
    refine ev_ic rfl rfl ?_
    rw [show zbr .ge (nI 6) 6 71 11 = 71 from zge_t (n := 6) (by decide) (by omega) (by decide)]
    refine ev_ik (v := 1) rfl (by decide) ?_
    refine ev_rz rfl rfl (by decide) ?_ ?_
    · exact some_i (zi_t (fun q hq => hI q hq)).symm
    · rfl
  | succ k ih =>
    intro i hik v3 hI
    have hi : i < 6 := by omega
    iterate 2 refine ev_s rfl ?_
    refine ev_gf (rd np M L (by omega) rfl) rfl rfl rfl ?_
    refine ev_al (v := 6) (rd np M L (by omega) rfl) rfl rfl (by decide) ?_
    refine ev_ic rfl rfl ?_
    rw [show zbr .ge (nI i) 6 71 11 = 11 from zge_f (n := 6) (by decide) hi (by decide)]
    refine ev_s rfl ?_
    refine ev_gf (rd np M L (by omega) rfl) rfl rfl rfl ?_
    refine ev_s rfl ?_
    refine ev_aa (v := (.ref (14 + i))) (rd np M L (by omega) rfl) rfl rfl (zin_nI (by omega) (by decide)) (by rw [if_pos (by omega)]; rfl) ?_
    refine ev_s (ls' := [some (.ref 12), some (.ref (14 + j)), some (.int (nI i)), some (.ref (14 + i))]) rfl ?_
    refine ev_s rfl ?_
    refine ev_gf (rd np M L (by omega) (cel_trial (by omega) _ _)) rfl rfl rfl ?_
    refine ev_if rfl rfl (ev_br (zb_eq _ _ _ _) (fun c1 => ?_) (fun c1 => ?_))
    · show Ev _ _ 65 _ _ _ _
      refine ev_inc (y := 1) (v := nI (i + 1)) (ls' := [some (.ref 12), some (.ref (14 + j)), some (.int (nI (i + 1))), some (.ref (14 + i))]) rfl rfl (by decide) (nI_1 _) rfl ?_
      refine ev_s rfl ?_
      exact ih (i + 1) (by omega) (some (.ref (14 + i))) (fun q hq hs => by
        rcases Nat.lt_or_ge q i with q1 | q1
        · exact hI q q1 hs
        · obtain rfl : q = i := by omega
          simp_all [badO])
    · show Ev _ _ 25 _ _ _ _
      refine ev_s rfl ?_
      refine ev_gf (rd np M L (by omega) (cel_trial (by omega) _ _)) rfl rfl rfl ?_
      refine ev_s rfl ?_
      refine ev_gf (rd np M L (by omega) (cel_trial (by omega) _ _)) rfl rfl rfl ?_
      refine ev_ic rfl rfl (ev_br (zb_ge _ _ _ _) (fun c2 => ?_) (fun c2 => ?_))
      · show Ev _ _ 44 _ _ _ _
        refine ev_s rfl ?_
        refine ev_gf (rd np M L (by omega) (cel_trial (by omega) _ _)) rfl rfl rfl ?_
        refine ev_s rfl ?_
        refine ev_gf (rd np M L (by omega) (cel_trial (by omega) _ _)) rfl rfl rfl ?_
        refine ev_ic rfl rfl (ev_br (zb_ge _ _ _ _) (fun c3 => ?_) (fun c3 => ?_))
        · show Ev _ _ 65 _ _ _ _
          refine ev_inc (y := 1) (v := nI (i + 1)) (ls' := [some (.ref 12), some (.ref (14 + j)), some (.int (nI (i + 1))), some (.ref (14 + i))]) rfl rfl (by decide) (nI_1 _) rfl ?_
          refine ev_s rfl ?_
          exact ih (i + 1) (by omega) (some (.ref (14 + i))) (fun q hq hs => by
            rcases Nat.lt_or_ge q i with q1 | q1
            · exact hI q q1 hs
            · obtain rfl : q = i := by omega
              simp_all [badO])
        · show Ev _ _ 55 _ _ _ _
          iterate 2 refine ev_s rfl ?_
          refine ev_cv (vs := [(.ref (14 + j)), (.ref (14 + i))]) (rest := []) (rv := (some (.int (zi (cFr (M (14 + j)) (M (14 + i))))))) rfl rfl rfl (rd np M L (by omega) (cel_trial (by omega) _ _)) rfl rfl rfl rfl (rn_hasInFront (f := M (14 + j)) (g := M (14 + i)) (rd np M L (by omega) (cel_trial (by omega) _ _)) (rd np M L (by omega) (cel_trial (by omega) _ _)) _) ?_
          show Ev _ _ 60 _ [(.int (zi (cFr (M (14 + j)) (M (14 + i)))))] _ _
          refine ev_if rfl rfl (ev_bze (fun c4 => ?_) (fun c4 => ?_))
          · show Ev _ _ 65 _ _ _ _
            refine ev_inc (y := 1) (v := nI (i + 1)) (ls' := [some (.ref 12), some (.ref (14 + j)), some (.int (nI (i + 1))), some (.ref (14 + i))]) rfl rfl (by decide) (nI_1 _) rfl ?_
            refine ev_s rfl ?_
            exact ih (i + 1) (by omega) (some (.ref (14 + i))) (fun q hq hs => by
              rcases Nat.lt_or_ge q i with q1 | q1
              · exact hI q q1 hs
              · obtain rfl : q = i := by omega
                simp_all [badO])
          · show Ev _ _ 63 _ _ _ _
            refine ev_ik (v := 0) rfl (by decide) ?_
            refine ev_rz rfl rfl (by decide) ?_ ?_
            · exact some_i (zi_f (fun h => h i hi ⟨c1, Or.inr ⟨c3, c4⟩⟩)).symm
            · rfl
      · show Ev _ _ 36 _ _ _ _
        iterate 2 refine ev_s rfl ?_
        refine ev_cv (vs := [(.ref (14 + i)), (.ref (14 + j))]) (rest := []) (rv := (some (.int (zi (cFr (M (14 + i)) (M (14 + j))))))) rfl rfl rfl (rd np M L (by omega) (cel_trial (by omega) _ _)) rfl rfl rfl rfl (rn_hasInFront (f := M (14 + i)) (g := M (14 + j)) (rd np M L (by omega) (cel_trial (by omega) _ _)) (rd np M L (by omega) (cel_trial (by omega) _ _)) _) ?_
        show Ev _ _ 41 _ [(.int (zi (cFr (M (14 + i)) (M (14 + j)))))] _ _
        refine ev_if rfl rfl (ev_bzn (fun c5 => ?_) (fun c5 => ?_))
        · show Ev _ _ 63 _ _ _ _
          refine ev_ik (v := 0) rfl (by decide) ?_
          refine ev_rz rfl rfl (by decide) ?_ ?_
          · exact some_i (zi_f (fun h => h i hi ⟨c1, Or.inl ⟨c2, c5⟩⟩)).symm
          · rfl
        · show Ev _ _ 44 _ _ _ _
          refine ev_s rfl ?_
          refine ev_gf (rd np M L (by omega) (cel_trial (by omega) _ _)) rfl rfl rfl ?_
          refine ev_s rfl ?_
          refine ev_gf (rd np M L (by omega) (cel_trial (by omega) _ _)) rfl rfl rfl ?_
          refine ev_ic rfl rfl (ev_br (zb_ge _ _ _ _) (fun c6 => ?_) (fun c6 => ?_))
          · show Ev _ _ 65 _ _ _ _
            refine ev_inc (y := 1) (v := nI (i + 1)) (ls' := [some (.ref 12), some (.ref (14 + j)), some (.int (nI (i + 1))), some (.ref (14 + i))]) rfl rfl (by decide) (nI_1 _) rfl ?_
            refine ev_s rfl ?_
            exact ih (i + 1) (by omega) (some (.ref (14 + i))) (fun q hq hs => by
              rcases Nat.lt_or_ge q i with q1 | q1
              · exact hI q q1 hs
              · obtain rfl : q = i := by omega
                simp_all [badO])
          · show Ev _ _ 55 _ _ _ _
            iterate 2 refine ev_s rfl ?_
            refine ev_cv (vs := [(.ref (14 + j)), (.ref (14 + i))]) (rest := []) (rv := (some (.int (zi (cFr (M (14 + j)) (M (14 + i))))))) rfl rfl rfl (rd np M L (by omega) (cel_trial (by omega) _ _)) rfl rfl rfl rfl (rn_hasInFront (f := M (14 + j)) (g := M (14 + i)) (rd np M L (by omega) (cel_trial (by omega) _ _)) (rd np M L (by omega) (cel_trial (by omega) _ _)) _) ?_
            show Ev _ _ 60 _ [(.int (zi (cFr (M (14 + j)) (M (14 + i)))))] _ _
            refine ev_if rfl rfl (ev_bze (fun c7 => ?_) (fun c7 => ?_))
            · show Ev _ _ 65 _ _ _ _
              refine ev_inc (y := 1) (v := nI (i + 1)) (ls' := [some (.ref 12), some (.ref (14 + j)), some (.int (nI (i + 1))), some (.ref (14 + i))]) rfl rfl (by decide) (nI_1 _) rfl ?_
              refine ev_s rfl ?_
              exact ih (i + 1) (by omega) (some (.ref (14 + i))) (fun q hq hs => by
                rcases Nat.lt_or_ge q i with q1 | q1
                · exact hI q q1 hs
                · obtain rfl : q = i := by omega
                  simp_all [badO])
            · show Ev _ _ 63 _ _ _ _
              refine ev_ik (v := 0) rfl (by decide) ?_
              refine ev_rz rfl rfl (by decide) ?_ ?_
              · exact some_i (zi_f (fun h => h i hi ⟨c1, Or.inr ⟨c6, c7⟩⟩)).symm
              · rfl
set_option maxHeartbeats 4000000 in
theorem rn_ko {np : Nat} {M : Nat → Nat → Int32} {L : Nat → Int64} {j : Nat} (hj : j < 6) (d : Nat) : Rn (d + 1) mX0_keepsOrder [(.ref 12), (.ref (14 + j))] (mk np M L) (some (.int (zi (∀ i, i < 6 → ¬ badO M 14 j i)))) (mk np M L) := by
  unfold Rn
  refine ev_ik (v := 0) rfl (by decide) ?_
  refine ev_s (ls' := [some (.ref 12), some (.ref (14 + j)), some (.int 0), none]) rfl ?_
  exact lp_ko hj d 6 0 (by omega) none (fun q hq => absurd hq (by omega))
set_option maxHeartbeats 4000000 in
theorem lp_opn {np : Nat} {M : Nat → Nat → Int32} {L : Nat → Int64} {j : Nat} (hj : j < 6) (d : Nat) : ∀ k i, i + k = 6 → ∀ v3 : Option Value, (∀ q, q < i → ¬ badP M 5 j q) → Ev (d + 1) mX0_isOpen 2 [some (.ref 3), some (.ref (5 + j)), some (.int (nI i)), v3] [] (mk np M L) (Qr mX0_isOpen (some (.int (zi (∀ i, i < 6 → ¬ badP M 5 j i)))) (mk np M L)) := by
  intro k
  induction k with
  | zero =>
    intro i hik v3 hI
    obtain rfl : i = 6 := by omega
    iterate 2 refine ev_s rfl ?_
    refine ev_gf (rd np M L (by omega) rfl) rfl rfl rfl ?_
    refine ev_al (v := 6) (rd np M L (by omega) rfl) rfl rfl (by decide) ?_
    refine ev_ic rfl rfl ?_
    rw [show zbr .ge (nI 6) 6 49 11 = 49 from zge_t (n := 6) (by decide) (by omega) (by decide)]
    refine ev_ik (v := 1) rfl (by decide) ?_
    refine ev_rz rfl rfl (by decide) ?_ ?_
    · exact some_i (zi_t (fun q hq => hI q hq)).symm
    · rfl
  | succ k ih =>
    intro i hik v3 hI
    have hi : i < 6 := by omega
    iterate 2 refine ev_s rfl ?_
    refine ev_gf (rd np M L (by omega) rfl) rfl rfl rfl ?_
    refine ev_al (v := 6) (rd np M L (by omega) rfl) rfl rfl (by decide) ?_
    refine ev_ic rfl rfl ?_
    rw [show zbr .ge (nI i) 6 49 11 = 11 from zge_f (n := 6) (by decide) hi (by decide)]
    refine ev_s rfl ?_
    refine ev_gf (rd np M L (by omega) rfl) rfl rfl rfl ?_
    refine ev_s rfl ?_
    refine ev_aa (v := (.ref (5 + i))) (rd np M L (by omega) rfl) rfl rfl (zin_nI (by omega) (by decide)) (by rw [if_pos (by omega)]; rfl) ?_
    refine ev_s (ls' := [some (.ref 3), some (.ref (5 + j)), some (.int (nI i)), some (.ref (5 + i))]) rfl ?_
    refine ev_s rfl ?_
    refine ev_gf (rd np M L (by omega) (cel_best (by omega) _ _)) rfl rfl rfl ?_
    refine ev_if rfl rfl (ev_br (zb_eq _ _ _ _) (fun c1 => ?_) (fun c1 => ?_))
    · show Ev _ _ 43 _ _ _ _
      refine ev_inc (y := 1) (v := nI (i + 1)) (ls' := [some (.ref 3), some (.ref (5 + j)), some (.int (nI (i + 1))), some (.ref (5 + i))]) rfl rfl (by decide) (nI_1 _) rfl ?_
      refine ev_s rfl ?_
      exact ih (i + 1) (by omega) (some (.ref (5 + i))) (fun q hq hs => by
        rcases Nat.lt_or_ge q i with q1 | q1
        · exact hI q q1 hs
        · obtain rfl : q = i := by omega
          simp_all [badP])
    · show Ev _ _ 25 _ _ _ _
      iterate 2 refine ev_s rfl ?_
      refine ev_cv (vs := [(.ref (5 + j)), (.ref (5 + i))]) (rest := []) (rv := (some (.int (zi (cAb (M (5 + j)) (M (5 + i))))))) rfl rfl rfl (rd np M L (by omega) (cel_best (by omega) _ _)) rfl rfl rfl rfl (rn_hasAbove (f := M (5 + j)) (g := M (5 + i)) (rd np M L (by omega) (cel_best (by omega) _ _)) (rd np M L (by omega) (cel_best (by omega) _ _)) _) ?_
      show Ev _ _ 30 _ [(.int (zi (cAb (M (5 + j)) (M (5 + i)))))] _ _
      refine ev_if rfl rfl (ev_bzn (fun c2 => ?_) (fun c2 => ?_))
      · show Ev _ _ 41 _ _ _ _
        refine ev_ik (v := 0) rfl (by decide) ?_
        refine ev_rz rfl rfl (by decide) ?_ ?_
        · exact some_i (zi_f (fun h => h i hi ⟨c1, Or.inl c2⟩)).symm
        · rfl
      · show Ev _ _ 33 _ _ _ _
        iterate 2 refine ev_s rfl ?_
        refine ev_cv (vs := [(.ref (5 + j)), (.ref (5 + i))]) (rest := []) (rv := (some (.int (zi (cFr (M (5 + j)) (M (5 + i))))))) rfl rfl rfl (rd np M L (by omega) (cel_best (by omega) _ _)) rfl rfl rfl rfl (rn_hasInFront (f := M (5 + j)) (g := M (5 + i)) (rd np M L (by omega) (cel_best (by omega) _ _)) (rd np M L (by omega) (cel_best (by omega) _ _)) _) ?_
        show Ev _ _ 38 _ [(.int (zi (cFr (M (5 + j)) (M (5 + i)))))] _ _
        refine ev_if rfl rfl (ev_bze (fun c3 => ?_) (fun c3 => ?_))
        · show Ev _ _ 43 _ _ _ _
          refine ev_inc (y := 1) (v := nI (i + 1)) (ls' := [some (.ref 3), some (.ref (5 + j)), some (.int (nI (i + 1))), some (.ref (5 + i))]) rfl rfl (by decide) (nI_1 _) rfl ?_
          refine ev_s rfl ?_
          exact ih (i + 1) (by omega) (some (.ref (5 + i))) (fun q hq hs => by
            rcases Nat.lt_or_ge q i with q1 | q1
            · exact hI q q1 hs
            · obtain rfl : q = i := by omega
              simp_all [badP])
        · show Ev _ _ 41 _ _ _ _
          refine ev_ik (v := 0) rfl (by decide) ?_
          refine ev_rz rfl rfl (by decide) ?_ ?_
          · exact some_i (zi_f (fun h => h i hi ⟨c1, Or.inr c3⟩)).symm
          · rfl
set_option maxHeartbeats 4000000 in
theorem rn_opn {np : Nat} {M : Nat → Nat → Int32} {L : Nat → Int64} {j : Nat} (hj : j < 6) (d : Nat) : Rn (d + 1) mX0_isOpen [(.ref 3), (.ref (5 + j))] (mk np M L) (some (.int (zi (∀ i, i < 6 → ¬ badP M 5 j i)))) (mk np M L) := by
  unfold Rn
  refine ev_ik (v := 0) rfl (by decide) ?_
  refine ev_s (ls' := [some (.ref 3), some (.ref (5 + j)), some (.int 0), none]) rfl ?_
  exact lp_opn hj d 6 0 (by omega) none (fun q hq => absurd hq (by omega))
set_option maxHeartbeats 4000000 in
theorem lp_ups {np : Nat} {M : Nat → Nat → Int32} {L : Nat → Int64} {x z : Int32} (d : Nat) : ∀ k i, i + k = 6 → ∀ v6 : Option Value, Ev (d + 1) mX0_uppermost 8 [some (.ref 3), some (.int x), some (.int z), some (.int ((upS M x z i).1)), some (.int ((upS M x z i).2)), some (.int (nI i)), v6] [] (mk np M L) (Qr mX0_uppermost (some (.int (upS M x z 6).1)) (mk np M L)) := by
  intro k
  induction k with
  | zero =>
    intro i hik v6 
    obtain rfl : i = 6 := by omega
    iterate 2 refine ev_s rfl ?_
    refine ev_gf (rd np M L (by omega) rfl) rfl rfl rfl ?_
    refine ev_al (v := 6) (rd np M L (by omega) rfl) rfl rfl (by decide) ?_
    refine ev_ic rfl rfl ?_
    rw [show zbr .ge (nI 6) 6 73 18 = 73 from zge_t (n := 6) (by decide) (by omega) (by decide)]
    refine ev_s rfl ?_
    refine ev_ri rfl rfl ?_ ?_
    · rfl
    · rfl
  | succ k ih =>
    intro i hik v6 
    have hi : i < 6 := by omega
    iterate 2 refine ev_s rfl ?_
    refine ev_gf (rd np M L (by omega) rfl) rfl rfl rfl ?_
    refine ev_al (v := 6) (rd np M L (by omega) rfl) rfl rfl (by decide) ?_
    refine ev_ic rfl rfl ?_
    rw [show zbr .ge (nI i) 6 73 18 = 18 from zge_f (n := 6) (by decide) hi (by decide)]
    refine ev_s rfl ?_
    refine ev_gf (rd np M L (by omega) rfl) rfl rfl rfl ?_
    refine ev_s rfl ?_
    refine ev_aa (v := (.ref (5 + i))) (rd np M L (by omega) rfl) rfl rfl (zin_nI (by omega) (by decide)) (by rw [if_pos (by omega)]; rfl) ?_
    refine ev_s (ls' := [some (.ref 3), some (.int x), some (.int z), some (.int ((upS M x z i).1)), some (.int ((upS M x z i).2)), some (.int (nI i)), some (.ref (5 + i))]) rfl ?_
    refine ev_s rfl ?_
    refine ev_gf (rd np M L (by omega) (cel_best (by omega) _ _)) rfl rfl rfl ?_
    refine ev_if rfl rfl (ev_br (zb_eq _ _ _ _) (fun c1 => ?_) (fun c1 => ?_))
    · show Ev _ _ 67 _ _ _ _
      refine ev_inc (y := 1) (v := nI (i + 1)) (ls' := [some (.ref 3), some (.int x), some (.int z), some (.int ((upS M x z i).1)), some (.int ((upS M x z i).2)), some (.int (nI (i + 1))), some (.ref (5 + i))]) rfl rfl (by decide) (nI_1 _) rfl ?_
      refine ev_s rfl ?_
      have e9 := ih (i + 1) (by omega) (some (.ref (5 + i)))
      rw [show upS M x z (i + 1) = upS M x z i from if_neg (fun h => h.1 c1)] at e9
      exact e9
    · show Ev _ _ 35 _ _ _ _
      iterate 3 refine ev_s rfl ?_
      refine ev_cv (vs := [(.ref (5 + i)), (.int x), (.int z)]) (rest := []) (rv := (some (.int (zi (cOver (M (5 + i)) x z))))) rfl rfl rfl (rd np M L (by omega) (cel_best (by omega) _ _)) rfl rfl rfl rfl (rn_isOver (f := M (5 + i)) (rd np M L (by omega) (cel_best (by omega) _ _)) _) ?_
      show Ev _ _ 42 _ [(.int (zi (cOver (M (5 + i)) x z)))] _ _
      refine ev_if rfl rfl (ev_bze (fun c2 => ?_) (fun c2 => ?_))
      · show Ev _ _ 67 _ _ _ _
        refine ev_inc (y := 1) (v := nI (i + 1)) (ls' := [some (.ref 3), some (.int x), some (.int z), some (.int ((upS M x z i).1)), some (.int ((upS M x z i).2)), some (.int (nI (i + 1))), some (.ref (5 + i))]) rfl rfl (by decide) (nI_1 _) rfl ?_
        refine ev_s rfl ?_
        have e9 := ih (i + 1) (by omega) (some (.ref (5 + i)))
        rw [show upS M x z (i + 1) = upS M x z i from if_neg (fun h => c2 h.2.1)] at e9
        exact e9
      · show Ev _ _ 45 _ _ _ _
        refine ev_s rfl ?_
        refine ev_gf (rd np M L (by omega) (cel_best (by omega) _ _)) rfl rfl rfl ?_
        refine ev_s rfl ?_
        refine ev_ic rfl rfl (ev_br (zb_le _ _ _ _) (fun c3 => ?_) (fun c3 => ?_))
        · show Ev _ _ 67 _ _ _ _
          refine ev_inc (y := 1) (v := nI (i + 1)) (ls' := [some (.ref 3), some (.int x), some (.int z), some (.int ((upS M x z i).1)), some (.int ((upS M x z i).2)), some (.int (nI (i + 1))), some (.ref (5 + i))]) rfl rfl (by decide) (nI_1 _) rfl ?_
          refine ev_s rfl ?_
          have e9 := ih (i + 1) (by omega) (some (.ref (5 + i)))
          rw [show upS M x z (i + 1) = upS M x z i from if_neg (fun h => h.2.2 c3)] at e9
          exact e9
        · show Ev _ _ 55 _ _ _ _
          refine ev_s rfl ?_
          refine ev_gf (rd np M L (by omega) (cel_best (by omega) _ _)) rfl rfl rfl ?_
          refine ev_s (ls' := [some (.ref 3), some (.int x), some (.int z), some (.int ((upS M x z i).1)), some (.int (M (5 + i) 9)), some (.int (nI i)), some (.ref (5 + i))]) rfl ?_
          refine ev_s rfl ?_
          refine ev_ik (v := 1) rfl (by decide) ?_
          refine ev_s rfl ?_
          refine ev_s (ls' := [some (.ref 3), some (.int x), some (.int z), some (.int ((nI i) + 1)), some (.int (M (5 + i) 9)), some (.int (nI i)), some (.ref (5 + i))]) rfl ?_
          refine ev_inc (y := 1) (v := nI (i + 1)) (ls' := [some (.ref 3), some (.int x), some (.int z), some (.int ((nI i) + 1)), some (.int (M (5 + i) 9)), some (.int (nI (i + 1))), some (.ref (5 + i))]) rfl rfl (by decide) (nI_1 _) rfl ?_
          refine ev_s rfl ?_
          have e9 := ih (i + 1) (by omega) (some (.ref (5 + i)))
          rw [show upS M x z (i + 1) = (nI i + 1, M (5 + i) 9) from if_pos (show _ from ⟨c1, c2, c3⟩)] at e9
          exact e9
set_option maxHeartbeats 4000000 in
theorem rn_ups {np : Nat} {M : Nat → Nat → Int32} {L : Nat → Int64} {x z : Int32} (d : Nat) : Rn (d + 1) mX0_uppermost [(.ref 3), (.int x), (.int z)] (mk np M L) (some (.int (upS M x z 6).1)) (mk np M L) := by
  unfold Rn
  refine ev_ik (v := 0) rfl (by decide) ?_
  refine ev_s (ls' := [some (.ref 3), some (.int x), some (.int z), some (.int 0), none, none, none]) rfl ?_
  refine ev_ik (v := (-1)) rfl (by decide) ?_
  refine ev_s (ls' := [some (.ref 3), some (.int x), some (.int z), some (.int 0), some (.int (-1)), none, none]) rfl ?_
  refine ev_ik (v := 0) rfl (by decide) ?_
  refine ev_s (ls' := [some (.ref 3), some (.int x), some (.int z), some (.int 0), some (.int (-1)), some (.int 0), none]) rfl ?_
  exact lp_ups d 6 0 (by omega) none
set_option maxHeartbeats 4000000 in
theorem lp_empty {np : Nat} {M : Nat → Nat → Int32} {L : Nat → Int64}  (d : Nat) : ∀ k i, i + k = 6 → Ev (d) mX0_empty 2 [some (.ref 3), some (.int (nI i))] [] (mk np (emM M i) L) (Qr mX0_empty none (mk np (emM M 6) L)) := by
  intro k
  induction k with
  | zero =>
    intro i hik 
    obtain rfl : i = 6 := by omega
    iterate 2 refine ev_s rfl ?_
    refine ev_gf (rd np (emM M 6) L (by omega) rfl) rfl rfl rfl ?_
    refine ev_al (v := 6) (rd np (emM M 6) L (by omega) rfl) rfl rfl (by decide) ?_
    refine ev_ic rfl rfl ?_
    rw [show zbr .ge (nI 6) 6 27 11 = 27 from zge_t (n := 6) (by decide) (by omega) (by decide)]
    refine ev_rv rfl rfl ?_ ?_
    · rfl
    · rfl
  | succ k ih =>
    intro i hik 
    have hi : i < 6 := by omega
    iterate 2 refine ev_s rfl ?_
    refine ev_gf (rd np (emM M i) L (by omega) rfl) rfl rfl rfl ?_
    refine ev_al (v := 6) (rd np (emM M i) L (by omega) rfl) rfl rfl (by decide) ?_
    refine ev_ic rfl rfl ?_
    rw [show zbr .ge (nI i) 6 27 11 = 11 from zge_f (n := 6) (by decide) hi (by decide)]
    refine ev_s rfl ?_
    refine ev_gf (rd np (emM M i) L (by omega) rfl) rfl rfl rfl ?_
    refine ev_s rfl ?_
    refine ev_aa (v := (.ref (5 + i))) (rd np (emM M i) L (by omega) rfl) rfl rfl (zin_nI (by omega) (by decide)) (by rw [if_pos (by omega)]; rfl) ?_
    refine ev_ik (v := 0) rfl (by decide) ?_
    refine ev_pf (hp' := (mk np (up2 (emM M i) (5 + i) 0 0) L)) (rd np (emM M i) L (by omega) (cel_best (by omega) _ _)) rfl rfl (by simp) rfl rfl (mk_setr rfl (cel_best (by omega) _ _) rfl) ?_
    refine ev_inc (y := 1) (v := nI (i + 1)) (ls' := [some (.ref 3), some (.int (nI (i + 1)))]) rfl rfl (by decide) (nI_1 _) rfl ?_
    refine ev_s rfl ?_
    exact ih (i + 1) (by omega)
set_option maxHeartbeats 4000000 in
theorem rn_empty {np : Nat} {M : Nat → Nat → Int32} {L : Nat → Int64}  (d : Nat) : Rn (d) mX0_empty [(.ref 3)] (mk np M L) none (mk np (emM M 6) L) := by
  unfold Rn
  refine ev_ik (v := 0) rfl (by decide) ?_
  refine ev_s (ls' := [some (.ref 3), some (.int 0)]) rfl ?_
  exact lp_empty d 6 0 (by omega)
set_option maxHeartbeats 4000000 in
theorem lp_pkcopy {np : Nat} {M : Nat → Nat → Int32} {L : Nat → Int64} (hz : ∀ q, q < 6 → M (14 + q) 0 = 0 ∨ M (14 + q) 0 = 1) (d : Nat) : ∀ k i, i + k = 6 → Ev (d + 2) mX0_copyFrom 2 [some (.ref 3), some (.ref 12), some (.int (nI i))] [] (mk np (cyM M i) L) (Qr mX0_copyFrom none (mk np (cyM M 6) L)) := by
  intro k
  induction k with
  | zero =>
    intro i hik 
    obtain rfl : i = 6 := by omega
    iterate 2 refine ev_s rfl ?_
    refine ev_gf (rd np (cyM M 6) L (by omega) rfl) rfl rfl rfl ?_
    refine ev_al (v := 6) (rd np (cyM M 6) L (by omega) rfl) rfl rfl (by decide) ?_
    refine ev_ic rfl rfl ?_
    rw [show zbr .ge (nI 6) 6 41 11 = 41 from zge_t (n := 6) (by decide) (by omega) (by decide)]
    refine ev_rv rfl rfl ?_ ?_
    · rfl
    · rfl
  | succ k ih =>
    intro i hik 
    have hi : i < 6 := by omega
    iterate 2 refine ev_s rfl ?_
    refine ev_gf (rd np (cyM M i) L (by omega) rfl) rfl rfl rfl ?_
    refine ev_al (v := 6) (rd np (cyM M i) L (by omega) rfl) rfl rfl (by decide) ?_
    refine ev_ic rfl rfl ?_
    rw [show zbr .ge (nI i) 6 41 11 = 11 from zge_f (n := 6) (by decide) hi (by decide)]
    iterate 2 refine ev_s rfl ?_
    refine ev_gf (rd np (cyM M i) L (by omega) rfl) rfl rfl rfl ?_
    refine ev_al (v := 6) (rd np (cyM M i) L (by omega) rfl) rfl rfl (by decide) ?_
    refine ev_ic rfl rfl ?_
    rw [show zbr .ge (nI i) 6 41 20 = 20 from zge_f (n := 6) (by decide) hi (by decide)]
    refine ev_s rfl ?_
    refine ev_gf (rd np (cyM M i) L (by omega) rfl) rfl rfl rfl ?_
    refine ev_s rfl ?_
    refine ev_aa (v := (.ref (5 + i))) (rd np (cyM M i) L (by omega) rfl) rfl rfl (zin_nI (by omega) (by decide)) (by rw [if_pos (by omega)]; rfl) ?_
    refine ev_s rfl ?_
    refine ev_gf (rd np (cyM M i) L (by omega) rfl) rfl rfl rfl ?_
    refine ev_s rfl ?_
    refine ev_aa (v := (.ref (14 + i))) (rd np (cyM M i) L (by omega) rfl) rfl rfl (zin_nI (by omega) (by decide)) (by rw [if_pos (by omega)]; rfl) ?_
    refine ev_cv (vs := [(.ref (5 + i)), (.ref (14 + i))]) (rest := []) (rv := none) rfl rfl rfl (rd np (cyM M i) L (by omega) (cel_best (by omega) _ _)) rfl rfl rfl rfl (rn_pcopy hi (by rw [cyM_n (by omega) i (by omega)]; exact hz i hi) _) ?_
    show Ev _ _ 35 _ [] _ _
    refine ev_inc (y := 1) (v := nI (i + 1)) (ls' := [some (.ref 3), some (.ref 12), some (.int (nI (i + 1)))]) rfl rfl (by decide) (nI_1 _) rfl ?_
    refine ev_s rfl ?_
    exact ih (i + 1) (by omega)
set_option maxHeartbeats 4000000 in
theorem rn_pkcopy {np : Nat} {M : Nat → Nat → Int32} {L : Nat → Int64} (hz : ∀ q, q < 6 → M (14 + q) 0 = 0 ∨ M (14 + q) 0 = 1) (d : Nat) : Rn (d + 2) mX0_copyFrom [(.ref 3), (.ref 12)] (mk np M L) none (mk np (cyM M 6) L) := by
  unfold Rn
  refine ev_ik (v := 0) rfl (by decide) ?_
  refine ev_s (ls' := [some (.ref 3), some (.ref 12), some (.int 0)]) rfl ?_
  exact lp_pkcopy hz d 6 0 (by omega)
set_option maxHeartbeats 4000000 in
theorem lp_tk {np : Nat} {M : Nat → Nat → Int32} {L : Nat → Int64} {s : Int32} (d : Nat) : ∀ k i, i + k = 6 → ∀ v4 : Option Value, Ev (d + 2) mX0_takeOut 4 [some (.ref 3), some (.int s), some (.int ((tkS M s i).1)), some (.int (nI i)), v4] [] (mk np ((tkS M s i).2) L) (Qr mX0_takeOut (some (.int (tkS M s 6).1)) (mk np (tkS M s 6).2 L)) := by
  intro k
  induction k with
  | zero =>
    intro i hik v4 
    obtain rfl : i = 6 := by omega
    iterate 2 refine ev_s rfl ?_
    refine ev_gf (rd np ((tkS M s 6).2) L (by omega) rfl) rfl rfl rfl ?_
    refine ev_al (v := 6) (rd np ((tkS M s 6).2) L (by omega) rfl) rfl rfl (by decide) ?_
    refine ev_ic rfl rfl ?_
    rw [show zbr .ge (nI 6) 6 62 13 = 62 from zge_t (n := 6) (by decide) (by omega) (by decide)]
    refine ev_s rfl ?_
    refine ev_ri rfl rfl ?_ ?_
    · rfl
    · rfl
  | succ k ih =>
    intro i hik v4 
    have hi : i < 6 := by omega
    iterate 2 refine ev_s rfl ?_
    refine ev_gf (rd np ((tkS M s i).2) L (by omega) rfl) rfl rfl rfl ?_
    refine ev_al (v := 6) (rd np ((tkS M s i).2) L (by omega) rfl) rfl rfl (by decide) ?_
    refine ev_ic rfl rfl ?_
    rw [show zbr .ge (nI i) 6 62 13 = 13 from zge_f (n := 6) (by decide) hi (by decide)]
    refine ev_s rfl ?_
    refine ev_gf (rd np ((tkS M s i).2) L (by omega) rfl) rfl rfl rfl ?_
    refine ev_s rfl ?_
    refine ev_aa (v := (.ref (5 + i))) (rd np ((tkS M s i).2) L (by omega) rfl) rfl rfl (zin_nI (by omega) (by decide)) (by rw [if_pos (by omega)]; rfl) ?_
    refine ev_s (ls' := [some (.ref 3), some (.int s), some (.int ((tkS M s i).1)), some (.int (nI i)), some (.ref (5 + i))]) rfl ?_
    refine ev_s rfl ?_
    refine ev_gf (rd np ((tkS M s i).2) L (by omega) (cel_best (by omega) _ _)) rfl rfl rfl ?_
    refine ev_if rfl rfl (ev_br (zb_eq _ _ _ _) (fun c1 => ?_) (fun c1 => ?_))
    · show Ev _ _ 56 _ _ _ _
      refine ev_inc (y := 1) (v := nI (i + 1)) (ls' := [some (.ref 3), some (.int s), some (.int ((tkS M s i).1)), some (.int (nI (i + 1))), some (.ref (5 + i))]) rfl rfl (by decide) (nI_1 _) rfl ?_
      refine ev_s rfl ?_
      have e9 := ih (i + 1) (by omega) (some (.ref (5 + i)))
      rw [show tkS M s (i + 1) = tkS M s i from if_neg (fun h => h.1 c1)] at e9
      exact e9
    · show Ev _ _ 29 _ _ _ _
      refine ev_s rfl ?_
      refine ev_gf (rd np ((tkS M s i).2) L (by omega) (cel_best (by omega) _ _)) rfl rfl rfl ?_
      refine ev_s rfl ?_
      refine ev_ic rfl rfl (ev_bn (fun c2 => ?_) (fun c2 => ?_))
      · show Ev _ _ 56 _ _ _ _
        refine ev_inc (y := 1) (v := nI (i + 1)) (ls' := [some (.ref 3), some (.int s), some (.int ((tkS M s i).1)), some (.int (nI (i + 1))), some (.ref (5 + i))]) rfl rfl (by decide) (nI_1 _) rfl ?_
        refine ev_s rfl ?_
        have e9 := ih (i + 1) (by omega) (some (.ref (5 + i)))
        rw [show tkS M s (i + 1) = tkS M s i from if_neg (fun h => c2 h.2.1)] at e9
        exact e9
      · show Ev _ _ 38 _ _ _ _
        iterate 2 refine ev_s rfl ?_
        refine ev_cv (vs := [(.ref 3), (.ref (5 + i))]) (rest := []) (rv := (some (.int (zi (opn (tkS M s i).2 5 i))))) rfl rfl rfl (rd np ((tkS M s i).2) L (by omega) rfl) rfl rfl rfl rfl (rn_opn (M := (tkS M s i).2) hi _) ?_
        show Ev _ _ 44 _ [(.int (zi (opn (tkS M s i).2 5 i)))] _ _
        refine ev_if rfl rfl (ev_bze (fun c3 => ?_) (fun c3 => ?_))
        · show Ev _ _ 56 _ _ _ _
          refine ev_inc (y := 1) (v := nI (i + 1)) (ls' := [some (.ref 3), some (.int s), some (.int ((tkS M s i).1)), some (.int (nI (i + 1))), some (.ref (5 + i))]) rfl rfl (by decide) (nI_1 _) rfl ?_
          refine ev_s rfl ?_
          have e9 := ih (i + 1) (by omega) (some (.ref (5 + i)))
          rw [show tkS M s (i + 1) = tkS M s i from if_neg (fun h => c3 h.2.2)] at e9
          exact e9
        · show Ev _ _ 47 _ _ _ _
          refine ev_s rfl ?_
          refine ev_ik (v := 0) rfl (by decide) ?_
          refine ev_pf (hp' := (mk np (up2 ((tkS M s i).2) (5 + i) 0 0) L)) (rd np ((tkS M s i).2) L (by omega) (cel_best (by omega) _ _)) rfl rfl (by simp) rfl rfl (mk_setr rfl (cel_best (by omega) _ _) rfl) ?_
          refine ev_inc (y := 1) (v := ((tkS M s i).1) + 1) (ls' := [some (.ref 3), some (.int s), some (.int (((tkS M s i).1) + 1)), some (.int (nI i)), some (.ref (5 + i))]) rfl rfl (by decide) rfl rfl ?_
          refine ev_inc (y := 1) (v := nI (i + 1)) (ls' := [some (.ref 3), some (.int s), some (.int (((tkS M s i).1) + 1)), some (.int (nI (i + 1))), some (.ref (5 + i))]) rfl rfl (by decide) (nI_1 _) rfl ?_
          refine ev_s rfl ?_
          have e9 := ih (i + 1) (by omega) (some (.ref (5 + i)))
          rw [show tkS M s (i + 1) = ((tkS M s i).1 + 1, up2 (tkS M s i).2 (5 + i) 0 0) from if_pos (show _ from ⟨c1, c2, c3⟩)] at e9
          exact e9
set_option maxHeartbeats 4000000 in
theorem rn_tk {np : Nat} {M : Nat → Nat → Int32} {L : Nat → Int64} {s : Int32} (d : Nat) : Rn (d + 2) mX0_takeOut [(.ref 3), (.int s)] (mk np M L) (some (.int (tkS M s 6).1)) (mk np (tkS M s 6).2 L) := by
  unfold Rn
  refine ev_ik (v := 0) rfl (by decide) ?_
  refine ev_s (ls' := [some (.ref 3), some (.int s), some (.int 0), none, none]) rfl ?_
  refine ev_ik (v := 0) rfl (by decide) ?_
  refine ev_s (ls' := [some (.ref 3), some (.int s), some (.int 0), some (.int 0), none]) rfl ?_
  exact lp_tk d 6 0 (by omega) none
noncomputable def plO (M : Nat → Nat → Int32) (n : Int32) : Value := if n < 1 then .null else if 6 < n then .null else if M (5 + (n - 1).toNatClampNeg) 0 = 0 then .null else .ref (5 + (n - 1).toNatClampNeg)
theorem num_of {n m : Int32} {k : Nat} (hm : m = nI k) (hk : k < 2 ^ 30) (h1 : ¬ n < 1) (h2 : ¬ m < n) : ∃ j, j < k ∧ n = nI (j + 1) ∧ n - 1 = nI j ∧ (n - 1).toNatClampNeg = j := by
  subst hm
  have a1 : (1 : Int32).toInt = 1 := by decide
  have h3 : 1 ≤ n.toInt := by
    have := Int32.not_lt.mp h1
    have := Int32.le_iff_toInt_le.mp this
    omega
  have h4 : n.toInt ≤ k := by
    have := Int32.le_iff_toInt_le.mp (Int32.not_lt.mp h2)
    rw [nI_toInt (by omega)] at this
    exact this
  obtain ⟨j, hj, rfl⟩ := nI_of (x := n) (fun h => by have := Int32.lt_iff_toInt_lt.mp h; simp at this; omega)
  rw [nI_toInt hj] at h3 h4
  obtain ⟨i, rfl⟩ : ∃ i, j = i + 1 := ⟨j - 1, by omega⟩
  refine ⟨i, by omega, rfl, nI_pred i, ?_⟩
  rw [nI_pred, nI_clamp (by omega)]

set_option maxHeartbeats 4000000 in
theorem rn_placeOf {np : Nat} {M : Nat → Nat → Int32} {L : Nat → Int64} {n : Int32} (d : Nat) : Rn d mX0_placeOf [.ref 3, .int n] (mk np M L) (some (plO M n)) (mk np M L) := by
  unfold Rn plO
  refine ev_s rfl ?_
  refine ev_ik (v := 1) rfl (by decide) ?_
  refine ev_ic rfl rfl (ev_br (zb_lt _ _ _ _) (fun c1 => ?_) (fun c1 => ?_))
  · show Ev _ _ 28 _ _ _ _
    refine ev_s rfl ?_
    refine ev_rn rfl rfl ?_ ?_
    · rw [if_pos c1]
    · rfl
  · show Ev _ _ 5 _ _ _ _
    iterate 2 refine ev_s rfl ?_
    refine ev_gf (rd np M L (by omega) rfl) rfl rfl rfl ?_
    refine ev_al (v := 6) (rd np M L (by omega) rfl) rfl rfl (by decide) ?_
    refine ev_ic rfl rfl (ev_br (zb_gt _ _ _ _) (fun c2 => ?_) (fun c2 => ?_))
    · show Ev _ _ 28 _ _ _ _
      refine ev_s rfl ?_
      refine ev_rn rfl rfl ?_ ?_
      · rw [if_neg c1, if_pos c2]
      · rfl
    · show Ev _ _ 14 _ _ _ _
      refine ev_s rfl ?_
      refine ev_gf (rd np M L (by omega) rfl) rfl rfl rfl ?_
      refine ev_s rfl ?_
      refine ev_ik (v := 1) rfl (by decide) ?_
      refine ev_s rfl ?_
      obtain ⟨k, hk1, hk2, hk3, hk4⟩ := num_of (k := 6) (by decide) (by decide) c1 c2
      refine ev_aa (v := (.ref (5 + k))) (rd np M L (by omega) rfl) rfl rfl (by rw [hk3]; exact zin_nI hk1 (by decide)) (by rw [if_pos (by omega)]; rfl) ?_
      refine ev_gf (rd np M L (by omega) (cel_best (by omega) _ _)) rfl rfl rfl ?_
      refine ev_if rfl rfl (ev_bn (fun c3 => ?_) (fun c3 => ?_))
      · show Ev _ _ 30 _ _ _ _
        refine ev_s rfl ?_
        refine ev_gf (rd np M L (by omega) rfl) rfl rfl rfl ?_
        refine ev_s rfl ?_
        refine ev_ik (v := 1) rfl (by decide) ?_
        refine ev_s rfl ?_
        refine ev_aa (v := (.ref (5 + k))) (rd np M L (by omega) rfl) rfl rfl (by rw [hk3]; exact zin_nI hk1 (by decide)) (by rw [if_pos (by omega)]; rfl) ?_
        refine ev_ra rfl rfl ?_ ?_
        · rw [if_neg c1, if_neg c2, hk4, if_neg c3]
        · rfl
      · show Ev _ _ 28 _ _ _ _
        refine ev_s rfl ?_
        refine ev_rn rfl rfl ?_ ?_
        · rw [if_neg c1, if_neg c2, hk4, if_pos c3]
        · rfl
