-- lk: 31 32 33 34 35
/-! ===== the class's search is that search: its loops ===== -/
theorem fold_stay {α β : Type} {f : α → β → α} {s : α} (h : ∀ b, f s b = s) : ∀ l : List β, l.foldl f s = s
  | [] => rfl
  | b :: l => by rw [List.foldl_cons, h]; exact fold_stay h l
section CL
variable {g P : Nat → Nat → Nat} {j : Nat} {K : (Nat → Nat → Int32) → (Nat → Nat → Int32)} {Ks : (Nat → Nat → Nat) → (Nat × Nat × Nat × (Nat → Nat → Nat)) → (Nat × Nat × Nat × (Nat → Nat → Nat))}
def KOK (g : Nat → Nat → Nat) (j : Nat) (K : (Nat → Nat → Int32) → (Nat → Nat → Int32)) (Ks : (Nat → Nat → Nat) → (Nat × Nat × Nat × (Nat → Nat → Nat)) → (Nat × Nat × Nat × (Nat → Nat → Nat))) : Prop :=
  (∀ M, St (j + 1) M (K M)) ∧ (∀ P s, Bn g P → Sn g s → Sn g (Ks P s)) ∧ ∀ P s M, Good g P (j + 1) → Bn g P → Sn g s → RC g P s M → ¬ enA g s → RC g P (Ks P s) (K M)
theorem mkS_rc (c : Cg g) (hK : KOK g j K Ks) (G : Good g P j) (hP : Bn g P) (hj : j < g 7 0) {s : Nat × Nat × Nat × (Nat → Nat → Nat)} {M : Nat → Nat → Int32} {t x y z : Nat} (ht : t < 6) (hs : Sn g s) (he : ¬ enA g s) (h : RC g P s M) (hr : bRow (M (14 + j)) (bx g j t x y z)) (hf : fitA g P j (bx g j t x y z)) : RC g P (stp Ks g j P s (bx g j t x y z)) (mkS K j M) := by
  have hp := (bx_ps c hj t x y z).1
  have hj6 : j < 6 := by have := c.1; omega
  have l := lb_of c hf.1
  have hB := Bn_set hP hj rfl hp ht hf.1
  have h' : Sn g (s.1 + 1, s.2) := ⟨by unfold enA at he; show s.1 + 1 ≤ _; omega, hs.2⟩
  have h3 := ms3_rc c G h hj hr rfl hf
  have e3 := endd_iff c h' h3
  have h5 : RC g (setP P j (bx g j t x y z)) (stp Ks g j P s (bx g j t x y z)) (cIf (endd (ms3 j M)) (kbM (ms3 j M)) (K (ms3 j M))) := by
    unfold stp
    rw [cIf_f he, cIf_t hf]
    by_cases w : endd (ms3 j M)
    · rw [cIf_t w, cIf_t (e3.mp w)]
      exact kb_rc c hB h' h3
    · rw [cIf_f w, cIf_f (fun q => w (e3.mpr q))]
      exact hK.2.2 _ _ _ (good_set G hj6 rfl hp hf) hB h' h3 (fun q => w (e3.mpr q))
  exact ms4_rc c G h5 hj hr.2.2.2.2.2.1 rfl hf (fun x z hx hz => rect_iff hr l hx hz)
/-- place j's turn and lengths -/
def tuR (g : Nat → Nat → Nat) (j t : Nat) (r : Nat → Int32) : Prop := r 4 = nI t ∧ r 5 = nI (dW g j t) ∧ r 6 = nI (dH g j t) ∧ r 7 = nI (dD g j t)
theorem row_rc (c : Cg g) (hK : KOK g j K Ks) (G : Good g P j) (hP : Bn g P) (hj : j < g 7 0) {sx : Int32} {l : List Nat} {t y z : Nat} (ht : t < 6) (hb : ∀ x, x < 13 → (cHt sx (nI x) ↔ x ∈ l)) (hy : y + dH g j t ≤ g 8 1) (hz : z + dD g j t ≤ g 8 2) : ∀ (n x : Nat) (s : Nat × Nat × Nat × (Nat → Nat → Nat)) (M : Nat → Nat → Int32), (∀ x', x' < x + n → x' + dW g j t ≤ g 8 0) → Sn g s → ¬ enA g s → RC g P s M → tuR g j t (M (14 + j)) → M (14 + j) 9 = nI y → M (14 + j) 10 = nI z →
    RC g P (((List.range' x n).filter (fun x => decide (x ∈ l))).foldl (fun s x => stp Ks g j P s (bx g j t x y z)) s) (rowM K j sx n x M) ∧ Sn g (((List.range' x n).filter (fun x => decide (x ∈ l))).foldl (fun s x => stp Ks g j P s (bx g j t x y z)) s)
  | 0, x, s, M, _, hs, _, h, _, _, _ => ⟨h, hs⟩
  | n + 1, x, s, M, hx, hs, he, h, h4, h9, h10 => by
    have hj6 : j < 6 := by have := c.1; omega
    have c8 := c.2.1 0 (by omega)
    have hxx := hx x (by omega)
    have hPj : P j 0 = 0 := G.1 j (Nat.le_refl _)
    rw [List.range'_succ]
    unfold rowM
    by_cases w : cHt sx (nI x)
    · have hm := (hb x (by omega)).mp w
      rw [cIf_t w, List.filter_cons_of_pos (by simpa using hm), List.foldl_cons]
      have h1 : RC g P s (up2 M (14 + j) 8 (nI x)) := rc_junk h hj6 hPj (fun h' hh => up2_n hh) (fun i hi => by rw [up2_s, upd_n (by omega)])
      have hr : bRow (up2 M (14 + j) 8 (nI x) (14 + j)) (bx g j t x y z) := by
        rw [up2_s]
        exact ⟨by rw [upd_n (by omega)]; exact h4.1, by rw [upd_n (by omega)]; exact h4.2.1, by rw [upd_n (by omega)]; exact h4.2.2.1, by rw [upd_n (by omega)]; exact h4.2.2.2, by rw [upd_s]; rfl, by rw [upd_n (by omega)]; exact h9, by rw [upd_n (by omega)]; exact h10⟩
      have hf := fit_c c hP h1 hj hr ⟨hxx, hy, hz⟩
      have hsj := Sj_x hj6 M (nI x)
      by_cases w2 : fitC (up2 M (14 + j) 8 (nI x)) j
      · rw [cIf_t w2]
        have h2 := mkS_rc c hK G hP hj ht hs he h1 hr (hf.mp w2)
        have hs2 := stp_Sn c hj hP hK.2.1 hs (x := x) (y := y) (z := z) ht
        have e2 := endd_iff c hs2 h2
        have hsj2 := hsj.tr (mkS_Sj hK.1 hj6 (up2 M (14 + j) 8 (nI x)))
        by_cases w3 : endd (mkS K j (up2 M (14 + j) 8 (nI x)))
        · rw [cIf_t w3, fold_stay (f := fun s x => stp Ks g j P s (bx g j t x y z)) (fun b => stp_en (e2.mp w3))]
          exact ⟨h2, hs2⟩
        · rw [cIf_f w3]
          refine row_rc c hK G hP hj ht hb hy hz n (x + 1) _ _ (fun x' hx' => hx x' (by omega)) hs2 (fun q => w3 (e2.mpr q)) h2 ?_ ?_ ?_
          · exact ⟨by rw [hsj2.2 4 (by omega) (by omega)]; exact h4.1, by rw [hsj2.2 5 (by omega) (by omega)]; exact h4.2.1, by rw [hsj2.2 6 (by omega) (by omega)]; exact h4.2.2.1, by rw [hsj2.2 7 (by omega) (by omega)]; exact h4.2.2.2⟩
          · rw [hsj2.2 9 (by omega) (by omega)]; exact h9
          · rw [hsj2.2 10 (by omega) (by omega)]; exact h10
      · rw [cIf_f w2, stp_nf (fun q => w2 (hf.mpr q))]
        refine row_rc c hK G hP hj ht hb hy hz n (x + 1) _ _ (fun x' hx' => hx x' (by omega)) hs he h1 ?_ ?_ ?_
        · exact ⟨by rw [hsj.2 4 (by omega) (by omega)]; exact h4.1, by rw [hsj.2 5 (by omega) (by omega)]; exact h4.2.1, by rw [hsj.2 6 (by omega) (by omega)]; exact h4.2.2.1, by rw [hsj.2 7 (by omega) (by omega)]; exact h4.2.2.2⟩
        · rw [hsj.2 9 (by omega) (by omega)]; exact h9
        · rw [hsj.2 10 (by omega) (by omega)]; exact h10
    · rw [cIf_f w, List.filter_cons_of_neg (by simpa using fun q => w ((hb x (by omega)).mpr q))]
      exact row_rc c hK G hP hj ht hb hy hz n (x + 1) s M (fun x' hx' => hx x' (by omega)) hs he h h4 h9 h10
/-- what is out of the space does nothing -/
theorem stp_out {s : Nat × Nat × Nat × (Nat → Nat → Nat)} {t x y z : Nat} (h : ¬ outA g (bx g j t x y z)) : stp Ks g j P s (bx g j t x y z) = s := stp_nf (fun q => h q.1)
theorem tuR_sl {M M1 : Nat → Nat → Int32} {t : Nat} (h : tuR g j t (M (14 + j))) (e : ∀ k, k = 4 ∨ k = 5 ∨ k = 6 ∨ k = 7 → M1 (14 + j) k = M (14 + j) k) : tuR g j t (M1 (14 + j)) := ⟨by rw [e 4 (by omega)]; exact h.1, by rw [e 5 (by omega)]; exact h.2.1, by rw [e 6 (by omega)]; exact h.2.2.1, by rw [e 7 (by omega)]; exact h.2.2.2⟩
theorem yz_row {M : Nat → Nat → Int32} {hh : Nat} {y z : Int32} {k : Nat} (hk : k < 8) : yzM M hh y z hh k = M hh k := by
  unfold yzM
  rw [up2_s, upd_n (by omega), up2_s, upd_n (by omega)]
theorem zl_rc (c : Cg g) (hK : KOK g j K Ks) (G : Good g P j) (hP : Bn g P) (hj : j < g 7 0) {sx sz : Int32} {lx l : List Nat} {nx t y : Nat} (ht : t < 6) (hbx : ∀ x, x < 13 → (cHt sx (nI x) ↔ x ∈ lx)) (hb : ∀ x, x < 13 → (cHt sz (nI x) ↔ x ∈ l)) (hsx : srt lx) (hlx : ∀ x, x ∈ lx → x < 13) (hnx : nx = g 8 0 + 1 - dW g j t) (hy : y + dH g j t ≤ g 8 1) : ∀ (n z : Nat) (s : Nat × Nat × Nat × (Nat → Nat → Nat)) (M : Nat → Nat → Int32), (∀ z', z' < z + n → z' + dD g j t ≤ g 8 2) → Sn g s → RC g P s M → tuR g j t (M (14 + j)) →
    (RC g P (((List.range' z n).filter (fun z => decide (z ∈ l))).foldl (fun s z => (lx.map fun x => bx g j t x y z).foldl (stp Ks g j P) s) s) (zlM K j sx sz nx y n z M) ∧ Sn g (((List.range' z n).filter (fun z => decide (z ∈ l))).foldl (fun s z => (lx.map fun x => bx g j t x y z).foldl (stp Ks g j P) s) s)) ∧ tuR g j t (zlM K j sx sz nx y n z M (14 + j))
  | 0, z, s, M, _, hs, h, h4 => ⟨⟨h, hs⟩, h4⟩
  | n + 1, z, s, M, hz, hs, h, h4 => by
    have hj6 : j < 6 := by have := c.1; omega
    have c8 := c.2.1 0 (by omega)
    have c82 := c.2.1 2 (by omega)
    have hzz := hz z (by omega)
    have hPj : P j 0 = 0 := G.1 j (Nat.le_refl _)
    have hdw := (bx_ps c hj t 0 0 0).1.1
    rw [List.range'_succ]
    unfold zlM
    have e1 := endd_iff c hs h
    by_cases w0 : endd M
    · rw [cIf_t w0, fold_stay (f := fun s z => (lx.map fun x => bx g j t x y z).foldl (stp Ks g j P) s) (fun b => fold_en (e1.mp w0) _)]
      exact ⟨⟨h, hs⟩, h4⟩
    · rw [cIf_f w0]
      by_cases w : cHt sz (nI z)
      · have hm := (hb z (by omega)).mp w
        rw [cIf_t w, List.filter_cons_of_pos (by simpa using hm), List.foldl_cons]
        have h1 : RC g P s (yzM M (14 + j) (nI y) (nI z)) := rc_junk h hj6 hPj (fun h' hh => by unfold yzM; rw [up2_n hh, up2_n hh]) (fun i hi => yz_row (by omega))
        have h5 : tuR g j t (yzM M (14 + j) (nI y) (nI z) (14 + j)) := tuR_sl h4 (fun k hk => yz_row (by omega))
        obtain ⟨h6, h7⟩ := row_rc c hK G hP hj ht hbx hy hzz nx 0 s _ (fun x' hx' => by omega) hs (fun q => w0 (e1.mpr q)) h1 h5 (by unfold yzM; rw [up2_s, upd_n (by omega), up2_s, upd_s]) (by unfold yzM; rw [up2_s, upd_s])
        have e2 : (lx.map fun x => bx g j t x y z).foldl (stp Ks g j P) s = ((List.range' 0 nx).filter (fun x => decide (x ∈ lx))).foldl (fun s x => stp Ks g j P s (bx g j t x y z)) s := by
          rw [fold_map]
          exact fold_rng hsx hlx (by omega) (fun s x hx => stp_out (fun q => by have := q.1; simp only [bx] at this; omega)) s
        rw [← e2] at h6 h7
        refine zl_rc c hK G hP hj ht hbx hb hsx hlx hnx hy n (z + 1) _ _ (fun z' hz' => hz z' (by omega)) h7 h6 ?_
        exact tuR_sl h5 (fun k hk => (rowM_Sj hK.1 hj6 sx nx 0 _).2 k (by omega) (by omega))
      · rw [cIf_f w, List.filter_cons_of_neg (by simpa using fun q => w ((hb z (by omega)).mpr q))]
        exact zl_rc c hK G hP hj ht hbx hb hsx hlx hnx hy n (z + 1) s M (fun z' hz' => hz z' (by omega)) hs h h4
theorem yl_rc (c : Cg g) (hK : KOK g j K Ks) (G : Good g P j) (hP : Bn g P) (hj : j < g 7 0) {sx sy sz : Int32} {lx ly lz : List Nat} {nx nz t : Nat} (ht : t < 6) (hbx : ∀ x, x < 13 → (cHt sx (nI x) ↔ x ∈ lx)) (hby : ∀ x, x < 13 → (cHt sy (nI x) ↔ x ∈ ly)) (hbz : ∀ x, x < 13 → (cHt sz (nI x) ↔ x ∈ lz)) (hsx : srt lx) (hlx : ∀ x, x ∈ lx → x < 13) (hsz : srt lz) (hlz : ∀ x, x ∈ lz → x < 13) (hnx : nx = g 8 0 + 1 - dW g j t) (hnz : nz = g 8 2 + 1 - dD g j t) : ∀ (n y : Nat) (s : Nat × Nat × Nat × (Nat → Nat → Nat)) (M : Nat → Nat → Int32), (∀ y', y' < y + n → y' + dH g j t ≤ g 8 1) → Sn g s → RC g P s M → tuR g j t (M (14 + j)) →
    RC g P (((List.range' y n).filter (fun y => decide (y ∈ ly))).foldl (fun s y => (lz.flatMap fun z => lx.map fun x => bx g j t x y z).foldl (stp Ks g j P) s) s) (ylM K j sx sy sz nx nz n y M) ∧ Sn g (((List.range' y n).filter (fun y => decide (y ∈ ly))).foldl (fun s y => (lz.flatMap fun z => lx.map fun x => bx g j t x y z).foldl (stp Ks g j P) s) s)
  | 0, y, s, M, _, hs, h, h4 => ⟨h, hs⟩
  | n + 1, y, s, M, hy, hs, h, h4 => by
    have c81 := c.2.1 1 (by omega)
    have c82 := c.2.1 2 (by omega)
    have hyy := hy y (by omega)
    have hdd := (bx_ps c hj t 0 0 0).1.2.2
    rw [List.range'_succ]
    unfold ylM
    by_cases w : cHt sy (nI y)
    · have hm := (hby y (by omega)).mp w
      rw [cIf_t w, List.filter_cons_of_pos (by simpa using hm), List.foldl_cons]
      obtain ⟨⟨h6, h7⟩, h8⟩ := zl_rc c hK G hP hj ht hbx hbz hsx hlx hnx hyy nz 0 s M (fun z' hz' => by omega) hs h h4
      have hdd' : 0 < dD g j t := hdd
      have e2 : (lz.flatMap fun z => lx.map fun x => bx g j t x y z).foldl (stp Ks g j P) s = ((List.range' 0 nz).filter (fun z => decide (z ∈ lz))).foldl (fun s z => (lx.map fun x => bx g j t x y z).foldl (stp Ks g j P) s) s := by
        rw [fold_flat]
        refine fold_rng hsz hlz (by omega) (fun s z hz => fold_none _ _ (fun s b hb => ?_)) s
        obtain ⟨x, _, rfl⟩ := List.mem_map.mp hb
        exact stp_out (fun q => by have := q.2.2; simp only [bx] at this; omega)
      rw [← e2] at h6 h7
      exact yl_rc c hK G hP hj ht hbx hby hbz hsx hlx hsz hlz hnx hnz n (y + 1) _ _ (fun y' hy' => hy y' (by omega)) h7 h6 h8
    · rw [cIf_f w, List.filter_cons_of_neg (by simpa using fun q => w ((hby y (by omega)).mpr q))]
      exact yl_rc c hK G hP hj ht hbx hby hbz hsx hlx hsz hlz hnx hnz n (y + 1) s M (fun y' hy' => hy y' (by omega)) hs h h4
theorem to_row {M : Nat → Nat → Int32} {hh q t : Nat} (hq : q ≠ hh) : toM M hh q t hh 4 = nI t ∧ toM M hh q t hh 5 = tW (M q) t ∧ toM M hh q t hh 6 = tH (M q) t ∧ toM M hh q t hh 7 = tD (M q) t := by
  unfold toM
  refine ⟨?_, ?_, ?_, ?_⟩ <;> simp only [up2_s] <;> simp [upd]
theorem to_lo {M : Nat → Nat → Int32} {hh q t k : Nat} (hk : k < 4) : toM M hh q t hh k = M hh k := by
  unfold toM
  rw [up2_s, upd_n (by omega), up2_s, upd_n (by omega), up2_s, upd_n (by omega), up2_s, upd_n (by omega)]
theorem to_n {M : Nat → Nat → Int32} {hh q t h' : Nat} (hn : h' ≠ hh) : toM M hh q t h' = M h' := by
  unfold toM
  rw [up2_n hn, up2_n hn, up2_n hn, up2_n hn]
theorem tl_rc (c : Cg g) (hK : KOK g j K Ks) (G : Good g P j) (hP : Bn g P) (hj : j < g 7 0) {sx sy sz : Int32} {lx ly lz : List Nat} (hbx : ∀ x, x < 13 → (cHt sx (nI x) ↔ x ∈ lx)) (hby : ∀ x, x < 13 → (cHt sy (nI x) ↔ x ∈ ly)) (hbz : ∀ x, x < 13 → (cHt sz (nI x) ↔ x ∈ lz)) (hsx : srt lx) (hlx : ∀ x, x ∈ lx → x < 13) (hsy : srt ly) (hly : ∀ x, x ∈ ly → x < 13) (hsz : srt lz) (hlz : ∀ x, x ∈ lz → x < 13) : ∀ (n t : Nat) (s : Nat × Nat × Nat × (Nat → Nat → Nat)) (M : Nat → Nat → Int32), t + n ≤ 6 → Sn g s → RC g P s M →
    RC g P (((List.range' t n).filter (fun t => decide (t ∈ Tl g j))).foldl (fun s t => (ly.flatMap fun y => lz.flatMap fun z => lx.map fun x => bx g j t x y z).foldl (stp Ks g j P) s) s) (tlM K (g 8 0) (g 8 1) (g 8 2) j sx sy sz n t M) ∧ Sn g (((List.range' t n).filter (fun t => decide (t ∈ Tl g j))).foldl (fun s t => (ly.flatMap fun y => lz.flatMap fun z => lx.map fun x => bx g j t x y z).foldl (stp Ks g j P) s) s)
  | 0, t, s, M, _, hs, h => ⟨h, hs⟩
  | n + 1, t, s, M, ht, hs, h => by
    have hj6 : j < 6 := by have := c.1; omega
    have c81 := c.2.1 1 (by omega)
    have hPj : P j 0 = 0 := G.1 j (Nat.le_refl _)
    rw [List.range'_succ]
    unfold tlM
    have e1 := endd_iff c hs h
    by_cases w0 : endd M
    · rw [cIf_t w0, fold_stay (f := fun s t => (ly.flatMap fun y => lz.flatMap fun z => lx.map fun x => bx g j t x y z).foldl (stp Ks g j P) s) (fun b => fold_en (e1.mp w0) _)]
      exact ⟨h, hs⟩
    · rw [cIf_f w0]
      have hpc := h.2.2.2.2.2 j hj
      by_cases w : cHt (M (57 + j) 7) (nI t)
      · have hm := (hpc.2 t (by omega)).mp w
        rw [cIf_t w, List.filter_cons_of_pos (by simpa using hm), List.foldl_cons]
        have h1 : RC g P s (toM M (14 + j) (57 + j) t) := rc_junk h hj6 hPj (fun h' hh => to_n hh) (fun i hi => to_lo (by omega))
        obtain ⟨r4, r5, r6, r7⟩ := to_row (M := M) (hh := 14 + j) (q := 57 + j) (t := t) (by omega)
        have e3 := tW_c (f := M (57 + j)) (g := fg g j) (by rw [hpc.1 0 (by omega)]; rfl) (by rw [hpc.1 1 (by omega)]; rfl) (by rw [hpc.1 2 (by omega)]; rfl) t
        have e4 := tW_g g j t
        rw [e3.1, e4.1] at r5
        rw [e3.2.1, e4.2.1] at r6
        rw [e3.2.2, e4.2.2] at r7
        have hb := bx_ps c hj t 0 0 0
        have hdh : 0 < dH g j t := hb.1.2.1
        have n5 : cnt (toM M (14 + j) (57 + j) t) j 5 (g 8 0) = g 8 0 + 1 - dW g j t := by unfold cnt; rw [nF_of r5 (by omega)]
        have n6 : cnt (toM M (14 + j) (57 + j) t) j 6 (g 8 1) = g 8 1 + 1 - dH g j t := by unfold cnt; rw [nF_of r6 (by omega)]
        have n7 : cnt (toM M (14 + j) (57 + j) t) j 7 (g 8 2) = g 8 2 + 1 - dD g j t := by unfold cnt; rw [nF_of r7 (by omega)]
        obtain ⟨h6, h7⟩ := yl_rc c hK G hP hj (by omega) hbx hby hbz hsx hlx hsz hlz n5 n7 (cnt (toM M (14 + j) (57 + j) t) j 6 (g 8 1)) 0 s _ (fun y' hy' => by omega) hs h1 ⟨r4, r5, r6, r7⟩
        have e2 : (ly.flatMap fun y => lz.flatMap fun z => lx.map fun x => bx g j t x y z).foldl (stp Ks g j P) s = ((List.range' 0 (cnt (toM M (14 + j) (57 + j) t) j 6 (g 8 1))).filter (fun y => decide (y ∈ ly))).foldl (fun s y => (lz.flatMap fun z => lx.map fun x => bx g j t x y z).foldl (stp Ks g j P) s) s := by
          rw [fold_flat]
          refine fold_rng hsy hly (by omega) (fun s y hy => fold_none _ _ (fun s b hb => ?_)) s
          obtain ⟨z, _, hb⟩ := List.mem_flatMap.mp hb
          obtain ⟨x, _, rfl⟩ := List.mem_map.mp hb
          exact stp_out (fun q => by have := q.2.1; simp only [bx] at this; omega)
        rw [← e2] at h6 h7
        exact tl_rc c hK G hP hj hbx hby hbz hsx hlx hsy hly hsz hlz n (t + 1) _ _ (by omega) h7 h6
      · rw [cIf_f w, List.filter_cons_of_neg (by simpa using fun q => w ((hpc.2 t (by omega)).mpr q))]
        exact tl_rc c hK G hP hj hbx hby hbz hsx hlx hsy hly hsz hlz n (t + 1) s M (by omega) hs h
end CL
theorem stP_out {P : Nat → Nat → Nat} {a : Nat → Nat} {j : Nat} (h : ∀ i, j ≤ i → P i 0 = 0) : ∀ k, stP P a (j + k) = stP P a j
  | 0 => rfl
  | k + 1 => by
    rw [← Nat.add_assoc, stP, if_pos (h (j + k) (by omega))]
    exact stP_out h k
theorem st_bits {g P : Nat → Nat → Nat} {s : Nat × Nat × Nat × (Nat → Nat → Nat)} {M : Nat → Nat → Int32} (hb : Bn g P) (h : RC g P s M) {a : Nat} {e : Nat → Nat} (he : ∀ i, i < 6 → P i 0 = 1 → nOn (M (14 + i)) a + lnA (M (14 + i)) a = nI (e i) ∧ e i < 32) {x : Nat} (hx : x < 13) : ∀ n, n ≤ 6 → (cHt (stS M a n) (nI x) ↔ x ∈ stP P e n)
  | 0, _ => by
    show cHt 1 (nI x) ↔ x ∈ [0]
    rw [cHt_1 (by omega)]
    simp
  | n + 1, hn => by
    have ih := st_bits hb h he hx n (by omega)
    have e3 := in_ne (hb n).1 (h.2.1 n (by omega)).1
    unfold stS stP
    rcases (hb n).1 with w | w
    · rw [if_pos (e3.mpr (by omega)), if_pos w]; exact ih
    · rw [if_neg (fun q => e3.mp q w), if_neg (by omega), (he n (by omega) w).1, cHt_or (he n (by omega) w).2 (by omega), insN_mem, ih]
      exact Or.comm
theorem sk_rc {g : Nat → Nat → Nat} (c : Cg g) : ∀ (r j : Nat) (P : Nat → Nat → Nat) (s : Nat × Nat × Nat × (Nat → Nat → Nat)) (M : Nat → Nat → Int32), j + r = g 7 0 → Good g P j → Bn g P → Sn g s → RC g P s M → RC g P (srch g r j P s) (skM (g 8 0) (g 8 1) (g 8 2) r j M)
  | 0, j, P, s, M, _, _, hP, hs, h => kb_rc c hP hs h
  | r + 1, j, P, s, M, hr, G, hP, hs, h => by
    have hn6 := c.1
    have c80 := c.2.1 0 (by omega)
    have c81 := c.2.1 1 (by omega)
    have c82 := c.2.1 2 (by omega)
    have hK : KOK g j (skM (g 8 0) (g 8 1) (g 8 2) r (j + 1)) (srch g r (j + 1)) := ⟨fun M => skM_St _ _ _ r (j + 1) M (by omega), fun P s h1 h2 => srch_Sn c r (j + 1) P s (by omega) h1 h2, fun P s M h1 h2 h3 h4 _ => sk_rc c r (j + 1) P s M (by omega) h1 h2 h3 h4⟩
    have hrow : ∀ i, i < 6 → P i 0 = 1 → bRow (M (14 + i)) (P i) ∧ lb (P i) := fun i hi hp => ⟨(h.2.1 i hi).2 hp, hP.lb c hp⟩
    have o6 : ∀ a : Nat → Nat, stP P a 6 = stP P a j := fun a => by
      obtain ⟨k, hk⟩ := Nat.exists_eq_add_of_le (show j ≤ 6 by omega)
      rw [hk]
      exact stP_out G.1 k
    have bX : ∀ x, x < 13 → (cHt (stS M 0 6) (nI x) ↔ x ∈ stP P (eX P) j) := fun x hx => by
      rw [← o6]
      refine st_bits hP h (fun i hi hp => ?_) hx 6 (by omega)
      obtain ⟨q1, q2⟩ := hrow i hi hp
      refine ⟨?_, by have := q2.1; unfold eX; omega⟩
      show M (14 + i) 8 + M (14 + i) 5 = _
      rw [q1.2.2.2.2.1, q1.2.1, nI_add]; rfl
    have bY : ∀ x, x < 13 → (cHt (stS M 1 6) (nI x) ↔ x ∈ stP P (eY P) j) := fun x hx => by
      rw [← o6]
      refine st_bits hP h (fun i hi hp => ?_) hx 6 (by omega)
      obtain ⟨q1, q2⟩ := hrow i hi hp
      refine ⟨?_, by have := q2.2.1; unfold eY; omega⟩
      show M (14 + i) 9 + M (14 + i) 6 = _
      rw [q1.2.2.2.2.2.1, q1.2.2.1, nI_add]; rfl
    have bZ : ∀ x, x < 13 → (cHt (stS M 2 6) (nI x) ↔ x ∈ stP P (eZ P) j) := fun x hx => by
      rw [← o6]
      refine st_bits hP h (fun i hi hp => ?_) hx 6 (by omega)
      obtain ⟨q1, q2⟩ := hrow i hi hp
      refine ⟨?_, by have := q2.2.2; unfold eZ; omega⟩
      show M (14 + i) 10 + M (14 + i) 7 = _
      rw [q1.2.2.2.2.2.2, q1.2.2.2.1, nI_add]; rfl
    have lt13 : ∀ a : Nat → Nat, (∀ i, P i 0 = 1 → a i < 13) → ∀ x, x ∈ stP P a j → x < 13 := fun a ha x hx => by
      rcases (stP_mem j).mp hx with w | ⟨q, _, q2, q3⟩
      · omega
      · rw [← q3]
        exact ha q (by rcases (hP q).1 with w | w; exact absurd w q2; exact w)
    obtain ⟨h6, h7⟩ := tl_rc c hK G hP (by omega) bX bY bZ (stP_srt j) (lt13 _ (fun i hp => by have := (hP.lb c hp).1; unfold eX; omega)) (stP_srt j) (lt13 _ (fun i hp => by have := (hP.lb c hp).2.1; unfold eY; omega)) (stP_srt j) (lt13 _ (fun i hp => by have := (hP.lb c hp).2.2; unfold eZ; omega)) 6 0 s M (by omega) hs h
    have e2 : (cds g P j).foldl (stp (srch g r (j + 1)) g j P) s = ((List.range' 0 6).filter (fun t => decide (t ∈ Tl g j))).foldl (fun s t => ((stP P (eY P) j).flatMap fun y => (stP P (eZ P) j).flatMap fun z => (stP P (eX P) j).map fun x => bx g j t x y z).foldl (stp (srch g r (j + 1)) g j P) s) s := by
      unfold cds
      rw [fold_flat, srt_flt 6 0 (Tl g j) (tls_srt _) (fun t ht => ⟨by omega, by have := Tl_lt ht; omega⟩)]
    rw [← e2] at h6 h7
    unfold srch skM seM
    have e3 := endd_iff c h7 h6
    by_cases w : endd (tlM (skM (g 8 0) (g 8 1) (g 8 2) r (j + 1)) (g 8 0) (g 8 1) (g 8 2) j (stS M 0 6) (stS M 1 6) (stS M 2 6) 6 0 M)
    · rw [cIf_t w, cIf_t (e3.mp w)]; exact h6
    · rw [cIf_f w, cIf_f (fun q => w (e3.mpr q))]
      have G1 : Good g P (j + 1) := ⟨fun i hi => G.1 i (by omega), G.2⟩
      exact hK.2.2 P _ _ G1 hP h7 h6 (fun q => w (e3.mpr q))
