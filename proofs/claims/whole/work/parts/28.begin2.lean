-- lk:
/-! ===== LoadSpaceModel: begin, the starts ===== -/
def E1 (H Hs p : Nat) (l : List Nat) (M2 M3 : Nat → Nat → Int32) : Prop := M3 Hs p = nI l.length ∧ blk (M3 H) (7 * p) l ∧ (∀ h, h ≠ H → h ≠ Hs → M3 h = M2 h) ∧ (∀ k, k ≠ p → M3 Hs k = M2 Hs k) ∧ ∀ k, k < 7 * p ∨ 7 * p + 7 ≤ k → M3 H k = M2 H k
theorem E1.fb {H Hs p : Nat} {l : List Nat} {M M2 M3 : Nat → Nat → Int32} (h : E1 H Hs p l M2 M3) (hH : H = 53 ∧ Hs = 50 ∨ H = 54 ∧ Hs = 51 ∨ H = 55 ∧ Hs = 52) (a : Fb p M M2) : Fb p M M3 := by
  intro h' k' q
  obtain ⟨_, _, h1, h2, h3⟩ := h
  by_cases e : h' = H
  · subst e; rw [h3 k' (by unfold own at q; omega)]; exact a _ _ q
  · by_cases e2 : h' = Hs
    · subst e2; rw [h2 k' (by unfold own at q; omega)]; exact a _ _ q
    · rw [h1 h' e e2]; exact a _ _ q

set_option maxHeartbeats 4000000 in
theorem sg_x0 {np : Nat} {M2 : Nat → Nat → Int32} {L : Nat → Int64} {p : Nat} (hp : p < 6) (d : Nat) {v2 v3 v4 v5 : Option Value} {Q : zCf → Prop} (hK : ∀ M3, E1 53 50 p [0] M2 M3 → Ev (d + 1) mX6_begin 185 [some (.ref 21), some (.int (nI p)), v2, v3, v4, v5] [] (mk np M3 L) Q) : Ev (d + 1) mX6_begin 166 [some (.ref 21), some (.int (nI p)), v2, v3, v4, v5] [] (mk np M2 L) Q := by
  refine ev_s rfl ?_
  refine ev_gf (rd np M2 L (by omega) rfl) rfl rfl rfl ?_
  iterate 2 refine ev_s rfl ?_
  refine ev_gf (rd np M2 L (by omega) rfl) rfl rfl rfl ?_
  refine ev_bi (v := 7) rfl (by decide) ?_
  iterate 2 refine ev_s rfl ?_
  refine ev_ik (v := 0) rfl (by decide) ?_
  refine ev_ik (v := 0) rfl (by decide) ?_
  rw [m7 p]
  refine ev_cs (vs := [(.ref 53), (.int (nI (7 * p))), (.int 0), (.int 0)]) (rest := [(.int (nI p)), (.ref 50)]) (rv := (some (.int (nI (enR (M2 53) (7 * p) 0 (nI 0)).2)))) (hp' := (mk np (rwM M2 53 (enR (M2 53) (7 * p) 0 (nI 0)).1) L)) rfl rfl rfl rfl rfl (rn_enter53 (n := 0) (v := (nI 0)) (by omega) _) ?_
  show Ev _ _ 184 _ [(.int (nI (enR (M2 53) (7 * p) 0 (nI 0)).2)), (.int (nI p)), (.ref 50)] _ _
  refine ev_is (hp' := (mk np (up2 (rwM M2 53 (enR (M2 53) (7 * p) 0 (nI 0)).1) 50 p (nI (enR (M2 53) (7 * p) 0 (nI 0)).2)) L)) (rd np (rwM M2 53 (enR (M2 53) (7 * p) 0 (nI 0)).1) L (by omega) rfl) rfl (zin_nI (by omega) (by decide)) (mk_setr rfl rfl rfl) ?_
  exact hK _ (en_M (M2 := M2) (l := []) (a := 0) (by decide) rfl (by decide) trivial (fun x hx => absurd hx (by simp)) (fun k hk => absurd hk (by simp)) (by simp))
set_option maxHeartbeats 4000000 in
theorem sg_x1 {np : Nat} {M2 : Nat → Nat → Int32} {L : Nat → Int64} {p : Nat} (hp : p < 6) {q a : Nat} {l : List Nat} (hq : q < 6) (hl : M2 50 p = nI l.length) (hb : blk (M2 53) (7 * p) l) (hs : srt l) (hm : sml l) (hll : l.length ≤ 6) (hla : M2 30 q + M2 33 q = nI a) (ha : a < 2 ^ 30) (d : Nat) {v3 v4 v5 : Option Value} {Q : zCf → Prop} (hK : ∀ M3, E1 53 50 p (insN a l) M2 M3 → Ev (d + 1) mX6_begin 275 [some (.ref 21), some (.int (nI p)), some (.int (nI q)), v3, v4, v5] [] (mk np M3 L) Q) : Ev (d + 1) mX6_begin 239 [some (.ref 21), some (.int (nI p)), some (.int (nI q)), v3, v4, v5] [] (mk np M2 L) Q := by
  refine ev_s rfl ?_
  refine ev_gf (rd np M2 L (by omega) rfl) rfl rfl rfl ?_
  iterate 2 refine ev_s rfl ?_
  refine ev_gf (rd np M2 L (by omega) rfl) rfl rfl rfl ?_
  refine ev_bi (v := 7) rfl (by decide) ?_
  iterate 3 refine ev_s rfl ?_
  refine ev_gf (rd np M2 L (by omega) rfl) rfl rfl rfl ?_
  refine ev_s rfl ?_
  refine ev_ia (rd np M2 L (by omega) rfl) rfl (zin_nI (by omega) (by decide)) ?_
  rw [hl]
  refine ev_s rfl ?_
  refine ev_gf (rd np M2 L (by omega) rfl) rfl rfl rfl ?_
  refine ev_s rfl ?_
  refine ev_ia (rd np M2 L (by omega) rfl) rfl (zin_nI (by omega) (by decide)) ?_
  refine ev_s rfl ?_
  refine ev_gf (rd np M2 L (by omega) rfl) rfl rfl rfl ?_
  refine ev_s rfl ?_
  refine ev_ia (rd np M2 L (by omega) rfl) rfl (zin_nI (by omega) (by decide)) ?_
  refine ev_s rfl ?_
  rw [m7 p, hla]
  refine ev_cs (vs := [(.ref 53), (.int (nI (7 * p))), (.int (nI l.length)), (.int (nI a))]) (rest := [(.int (nI p)), (.ref 50)]) (rv := (some (.int (nI (enR (M2 53) (7 * p) l.length (nI a)).2)))) (hp' := (mk np (rwM M2 53 (enR (M2 53) (7 * p) l.length (nI a)).1) L)) rfl rfl rfl rfl rfl (rn_enter53 (n := l.length) (v := (nI a)) (by omega) _) ?_
  show Ev _ _ 274 _ [(.int (nI (enR (M2 53) (7 * p) l.length (nI a)).2)), (.int (nI p)), (.ref 50)] _ _
  refine ev_is (hp' := (mk np (up2 (rwM M2 53 (enR (M2 53) (7 * p) l.length (nI a)).1) 50 p (nI (enR (M2 53) (7 * p) l.length (nI a)).2)) L)) (rd np (rwM M2 53 (enR (M2 53) (7 * p) l.length (nI a)).1) L (by omega) rfl) rfl (zin_nI (by omega) (by decide)) (mk_setr rfl rfl rfl) ?_
  exact hK _ (en_M (M2 := M2) (by decide) rfl ha hs hm hb hll)
set_option maxHeartbeats 4000000 in
theorem sg_y0 {np : Nat} {M2 : Nat → Nat → Int32} {L : Nat → Int64} {p : Nat} (hp : p < 6) (d : Nat) {v2 v3 v4 v5 : Option Value} {Q : zCf → Prop} (hK : ∀ M3, E1 54 51 p [0] M2 M3 → Ev (d + 1) mX6_begin 204 [some (.ref 21), some (.int (nI p)), v2, v3, v4, v5] [] (mk np M3 L) Q) : Ev (d + 1) mX6_begin 185 [some (.ref 21), some (.int (nI p)), v2, v3, v4, v5] [] (mk np M2 L) Q := by
  refine ev_s rfl ?_
  refine ev_gf (rd np M2 L (by omega) rfl) rfl rfl rfl ?_
  iterate 2 refine ev_s rfl ?_
  refine ev_gf (rd np M2 L (by omega) rfl) rfl rfl rfl ?_
  refine ev_bi (v := 7) rfl (by decide) ?_
  iterate 2 refine ev_s rfl ?_
  refine ev_ik (v := 0) rfl (by decide) ?_
  refine ev_ik (v := 0) rfl (by decide) ?_
  rw [m7 p]
  refine ev_cs (vs := [(.ref 54), (.int (nI (7 * p))), (.int 0), (.int 0)]) (rest := [(.int (nI p)), (.ref 51)]) (rv := (some (.int (nI (enR (M2 54) (7 * p) 0 (nI 0)).2)))) (hp' := (mk np (rwM M2 54 (enR (M2 54) (7 * p) 0 (nI 0)).1) L)) rfl rfl rfl rfl rfl (rn_enter54 (n := 0) (v := (nI 0)) (by omega) _) ?_
  show Ev _ _ 203 _ [(.int (nI (enR (M2 54) (7 * p) 0 (nI 0)).2)), (.int (nI p)), (.ref 51)] _ _
  refine ev_is (hp' := (mk np (up2 (rwM M2 54 (enR (M2 54) (7 * p) 0 (nI 0)).1) 51 p (nI (enR (M2 54) (7 * p) 0 (nI 0)).2)) L)) (rd np (rwM M2 54 (enR (M2 54) (7 * p) 0 (nI 0)).1) L (by omega) rfl) rfl (zin_nI (by omega) (by decide)) (mk_setr rfl rfl rfl) ?_
  exact hK _ (en_M (M2 := M2) (l := []) (a := 0) (by decide) rfl (by decide) trivial (fun x hx => absurd hx (by simp)) (fun k hk => absurd hk (by simp)) (by simp))
set_option maxHeartbeats 4000000 in
theorem sg_y1 {np : Nat} {M2 : Nat → Nat → Int32} {L : Nat → Int64} {p : Nat} (hp : p < 6) {q a : Nat} {l : List Nat} (hq : q < 6) (hl : M2 51 p = nI l.length) (hb : blk (M2 54) (7 * p) l) (hs : srt l) (hm : sml l) (hll : l.length ≤ 6) (hla : M2 31 q + M2 34 q = nI a) (ha : a < 2 ^ 30) (d : Nat) {v3 v4 v5 : Option Value} {Q : zCf → Prop} (hK : ∀ M3, E1 54 51 p (insN a l) M2 M3 → Ev (d + 1) mX6_begin 311 [some (.ref 21), some (.int (nI p)), some (.int (nI q)), v3, v4, v5] [] (mk np M3 L) Q) : Ev (d + 1) mX6_begin 275 [some (.ref 21), some (.int (nI p)), some (.int (nI q)), v3, v4, v5] [] (mk np M2 L) Q := by
  refine ev_s rfl ?_
  refine ev_gf (rd np M2 L (by omega) rfl) rfl rfl rfl ?_
  iterate 2 refine ev_s rfl ?_
  refine ev_gf (rd np M2 L (by omega) rfl) rfl rfl rfl ?_
  refine ev_bi (v := 7) rfl (by decide) ?_
  iterate 3 refine ev_s rfl ?_
  refine ev_gf (rd np M2 L (by omega) rfl) rfl rfl rfl ?_
  refine ev_s rfl ?_
  refine ev_ia (rd np M2 L (by omega) rfl) rfl (zin_nI (by omega) (by decide)) ?_
  rw [hl]
  refine ev_s rfl ?_
  refine ev_gf (rd np M2 L (by omega) rfl) rfl rfl rfl ?_
  refine ev_s rfl ?_
  refine ev_ia (rd np M2 L (by omega) rfl) rfl (zin_nI (by omega) (by decide)) ?_
  refine ev_s rfl ?_
  refine ev_gf (rd np M2 L (by omega) rfl) rfl rfl rfl ?_
  refine ev_s rfl ?_
  refine ev_ia (rd np M2 L (by omega) rfl) rfl (zin_nI (by omega) (by decide)) ?_
  refine ev_s rfl ?_
  rw [m7 p, hla]
  refine ev_cs (vs := [(.ref 54), (.int (nI (7 * p))), (.int (nI l.length)), (.int (nI a))]) (rest := [(.int (nI p)), (.ref 51)]) (rv := (some (.int (nI (enR (M2 54) (7 * p) l.length (nI a)).2)))) (hp' := (mk np (rwM M2 54 (enR (M2 54) (7 * p) l.length (nI a)).1) L)) rfl rfl rfl rfl rfl (rn_enter54 (n := l.length) (v := (nI a)) (by omega) _) ?_
  show Ev _ _ 310 _ [(.int (nI (enR (M2 54) (7 * p) l.length (nI a)).2)), (.int (nI p)), (.ref 51)] _ _
  refine ev_is (hp' := (mk np (up2 (rwM M2 54 (enR (M2 54) (7 * p) l.length (nI a)).1) 51 p (nI (enR (M2 54) (7 * p) l.length (nI a)).2)) L)) (rd np (rwM M2 54 (enR (M2 54) (7 * p) l.length (nI a)).1) L (by omega) rfl) rfl (zin_nI (by omega) (by decide)) (mk_setr rfl rfl rfl) ?_
  exact hK _ (en_M (M2 := M2) (by decide) rfl ha hs hm hb hll)
set_option maxHeartbeats 4000000 in
theorem sg_z0 {np : Nat} {M2 : Nat → Nat → Int32} {L : Nat → Int64} {p : Nat} (hp : p < 6) (d : Nat) {v2 v3 v4 v5 : Option Value} {Q : zCf → Prop} (hK : ∀ M3, E1 55 52 p [0] M2 M3 → Ev (d + 1) mX6_begin 223 [some (.ref 21), some (.int (nI p)), v2, v3, v4, v5] [] (mk np M3 L) Q) : Ev (d + 1) mX6_begin 204 [some (.ref 21), some (.int (nI p)), v2, v3, v4, v5] [] (mk np M2 L) Q := by
  refine ev_s rfl ?_
  refine ev_gf (rd np M2 L (by omega) rfl) rfl rfl rfl ?_
  iterate 2 refine ev_s rfl ?_
  refine ev_gf (rd np M2 L (by omega) rfl) rfl rfl rfl ?_
  refine ev_bi (v := 7) rfl (by decide) ?_
  iterate 2 refine ev_s rfl ?_
  refine ev_ik (v := 0) rfl (by decide) ?_
  refine ev_ik (v := 0) rfl (by decide) ?_
  rw [m7 p]
  refine ev_cs (vs := [(.ref 55), (.int (nI (7 * p))), (.int 0), (.int 0)]) (rest := [(.int (nI p)), (.ref 52)]) (rv := (some (.int (nI (enR (M2 55) (7 * p) 0 (nI 0)).2)))) (hp' := (mk np (rwM M2 55 (enR (M2 55) (7 * p) 0 (nI 0)).1) L)) rfl rfl rfl rfl rfl (rn_enter55 (n := 0) (v := (nI 0)) (by omega) _) ?_
  show Ev _ _ 222 _ [(.int (nI (enR (M2 55) (7 * p) 0 (nI 0)).2)), (.int (nI p)), (.ref 52)] _ _
  refine ev_is (hp' := (mk np (up2 (rwM M2 55 (enR (M2 55) (7 * p) 0 (nI 0)).1) 52 p (nI (enR (M2 55) (7 * p) 0 (nI 0)).2)) L)) (rd np (rwM M2 55 (enR (M2 55) (7 * p) 0 (nI 0)).1) L (by omega) rfl) rfl (zin_nI (by omega) (by decide)) (mk_setr rfl rfl rfl) ?_
  exact hK _ (en_M (M2 := M2) (l := []) (a := 0) (by decide) rfl (by decide) trivial (fun x hx => absurd hx (by simp)) (fun k hk => absurd hk (by simp)) (by simp))
set_option maxHeartbeats 4000000 in
theorem sg_z1 {np : Nat} {M2 : Nat → Nat → Int32} {L : Nat → Int64} {p : Nat} (hp : p < 6) {q a : Nat} {l : List Nat} (hq : q < 6) (hl : M2 52 p = nI l.length) (hb : blk (M2 55) (7 * p) l) (hs : srt l) (hm : sml l) (hll : l.length ≤ 6) (hla : M2 32 q + M2 35 q = nI a) (ha : a < 2 ^ 30) (d : Nat) {v3 v4 v5 : Option Value} {Q : zCf → Prop} (hK : ∀ M3, E1 55 52 p (insN a l) M2 M3 → Ev (d + 1) mX6_begin 347 [some (.ref 21), some (.int (nI p)), some (.int (nI q)), v3, v4, v5] [] (mk np M3 L) Q) : Ev (d + 1) mX6_begin 311 [some (.ref 21), some (.int (nI p)), some (.int (nI q)), v3, v4, v5] [] (mk np M2 L) Q := by
  refine ev_s rfl ?_
  refine ev_gf (rd np M2 L (by omega) rfl) rfl rfl rfl ?_
  iterate 2 refine ev_s rfl ?_
  refine ev_gf (rd np M2 L (by omega) rfl) rfl rfl rfl ?_
  refine ev_bi (v := 7) rfl (by decide) ?_
  iterate 3 refine ev_s rfl ?_
  refine ev_gf (rd np M2 L (by omega) rfl) rfl rfl rfl ?_
  refine ev_s rfl ?_
  refine ev_ia (rd np M2 L (by omega) rfl) rfl (zin_nI (by omega) (by decide)) ?_
  rw [hl]
  refine ev_s rfl ?_
  refine ev_gf (rd np M2 L (by omega) rfl) rfl rfl rfl ?_
  refine ev_s rfl ?_
  refine ev_ia (rd np M2 L (by omega) rfl) rfl (zin_nI (by omega) (by decide)) ?_
  refine ev_s rfl ?_
  refine ev_gf (rd np M2 L (by omega) rfl) rfl rfl rfl ?_
  refine ev_s rfl ?_
  refine ev_ia (rd np M2 L (by omega) rfl) rfl (zin_nI (by omega) (by decide)) ?_
  refine ev_s rfl ?_
  rw [m7 p, hla]
  refine ev_cs (vs := [(.ref 55), (.int (nI (7 * p))), (.int (nI l.length)), (.int (nI a))]) (rest := [(.int (nI p)), (.ref 52)]) (rv := (some (.int (nI (enR (M2 55) (7 * p) l.length (nI a)).2)))) (hp' := (mk np (rwM M2 55 (enR (M2 55) (7 * p) l.length (nI a)).1) L)) rfl rfl rfl rfl rfl (rn_enter55 (n := l.length) (v := (nI a)) (by omega) _) ?_
  show Ev _ _ 346 _ [(.int (nI (enR (M2 55) (7 * p) l.length (nI a)).2)), (.int (nI p)), (.ref 52)] _ _
  refine ev_is (hp' := (mk np (up2 (rwM M2 55 (enR (M2 55) (7 * p) l.length (nI a)).1) 52 p (nI (enR (M2 55) (7 * p) l.length (nI a)).2)) L)) (rd np (rwM M2 55 (enR (M2 55) (7 * p) l.length (nI a)).1) L (by omega) rfl) rfl (zin_nI (by omega) (by decide)) (mk_setr rfl rfl rfl) ?_
  exact hK _ (en_M (M2 := M2) (by decide) rfl ha hs hm hb hll)
theorem BG_x {p : Nat} {M M2 M3 : Nat → Nat → Int32} {T X Y Z l : List Nat} (h : BG p M T X Y Z M2) (e : E1 53 50 p l M2 M3) : BG p M T l Y Z M3 := by
  obtain ⟨h1, h2, h3, h4, h5, h6⟩ := h
  have f := e.fb (Or.inl ⟨rfl, rfl⟩) h6
  obtain ⟨e1, e2, e3, e4, e5⟩ := e
  exact ⟨by rw [e3 47 (by omega) (by omega)]; exact h1, by rw [e3 48 (by omega) (by omega), e3 49 (by omega) (by omega)]; exact h2, ⟨e1, e2⟩, by rw [e3 51 (by omega) (by omega), e3 54 (by omega) (by omega)]; exact h4, by rw [e3 52 (by omega) (by omega), e3 55 (by omega) (by omega)]; exact h5, f⟩
theorem BG_y {p : Nat} {M M2 M3 : Nat → Nat → Int32} {T X Y Z l : List Nat} (h : BG p M T X Y Z M2) (e : E1 54 51 p l M2 M3) : BG p M T X l Z M3 := by
  obtain ⟨h1, h2, h3, h4, h5, h6⟩ := h
  have f := e.fb (Or.inr (Or.inl ⟨rfl, rfl⟩)) h6
  obtain ⟨e1, e2, e3, e4, e5⟩ := e
  exact ⟨by rw [e3 47 (by omega) (by omega)]; exact h1, by rw [e3 48 (by omega) (by omega), e3 49 (by omega) (by omega)]; exact h2, by rw [e3 50 (by omega) (by omega), e3 53 (by omega) (by omega)]; exact h3, ⟨e1, e2⟩, by rw [e3 52 (by omega) (by omega), e3 55 (by omega) (by omega)]; exact h5, f⟩
theorem BG_z {p : Nat} {M M2 M3 : Nat → Nat → Int32} {T X Y Z l : List Nat} (h : BG p M T X Y Z M2) (e : E1 55 52 p l M2 M3) : BG p M T X Y l M3 := by
  obtain ⟨h1, h2, h3, h4, h5, h6⟩ := h
  have f := e.fb (Or.inr (Or.inr ⟨rfl, rfl⟩)) h6
  obtain ⟨e1, e2, e3, e4, e5⟩ := e
  exact ⟨by rw [e3 47 (by omega) (by omega)]; exact h1, by rw [e3 48 (by omega) (by omega), e3 49 (by omega) (by omega)]; exact h2, by rw [e3 50 (by omega) (by omega), e3 53 (by omega) (by omega)]; exact h3, by rw [e3 51 (by omega) (by omega), e3 54 (by omega) (by omega)]; exact h4, ⟨e1, e2⟩, f⟩
theorem BG_0 {p : Nat} {M M2 M3 M4 M5 : Nat → Nat → Int32} {T : List Nat} (h : TI p M T M2) (e : E1 53 50 p [0] M2 M3) (e' : E1 54 51 p [0] M3 M4) (e'' : E1 55 52 p [0] M4 M5) : BG p M T [0] [0] [0] M5 := by
  obtain ⟨h1, h2, h6⟩ := h
  have f := e''.fb (Or.inr (Or.inr ⟨rfl, rfl⟩)) (e'.fb (Or.inr (Or.inl ⟨rfl, rfl⟩)) (e.fb (Or.inl ⟨rfl, rfl⟩) h6))
  obtain ⟨a1, a2, a3, a4, a5⟩ := e
  obtain ⟨b1, b2, b3, b4, b5⟩ := e'
  obtain ⟨c1, c2, c3, c4, c5⟩ := e''
  refine ⟨?_, ?_, ?_, ?_, ⟨c1, c2⟩, f⟩
  · rw [c3 47 (by omega) (by omega), b3 47 (by omega) (by omega), a3 47 (by omega) (by omega)]; exact h1
  · rw [c3 48 (by omega) (by omega), b3 48 (by omega) (by omega), a3 48 (by omega) (by omega), c3 49 (by omega) (by omega), b3 49 (by omega) (by omega), a3 49 (by omega) (by omega)]; exact h2
  · rw [c3 50 (by omega) (by omega), b3 50 (by omega) (by omega), c3 53 (by omega) (by omega), b3 53 (by omega) (by omega)]; exact ⟨a1, a2⟩
  · rw [c3 51 (by omega) (by omega), c3 54 (by omega) (by omega)]; exact ⟨b1, b2⟩

def Ends (p : Nat) (M : Nat → Nat → Int32) (aX aY aZ : Nat → Nat) : Prop := ∀ q, q < p → ¬ M 29 q = 0 → (M 30 q + M 33 q = nI (aX q) ∧ aX q < 2 ^ 30) ∧ (M 31 q + M 34 q = nI (aY q) ∧ aY q < 2 ^ 30) ∧ (M 32 q + M 35 q = nI (aZ q) ∧ aZ q < 2 ^ 30)
set_option maxHeartbeats 4000000 in
theorem lp_bs {np : Nat} {M : Nat → Nat → Int32} {L : Nat → Int64} {p : Nat} {T : List Nat} {aX aY aZ : Nat → Nat} (hp : p < 6) (hE : Ends p M aX aY aZ) (d : Nat) {v3 v4 v5 : Option Value} : ∀ j q, q + j = p → ∀ M2, BG p M T (stN M aX q) (stN M aY q) (stN M aZ q) M2 → Ev (d + 1) mX6_begin 225 [some (.ref 21), some (.int (nI p)), some (.int (nI q)), v3, v4, v5] [] (mk np M2 L) (fun x => ∃ M', BG p M T (stN M aX p) (stN M aY p) (stN M aZ p) M' ∧ Qr mX6_begin none (mk np M' L) x) := by
  intro j
  induction j with
  | zero =>
    intro q hqj M2 hB
    obtain rfl : p = q := by omega
    iterate 2 refine ev_s rfl ?_
    refine ev_ic rfl rfl ?_
    rw [show zbr .ge (nI p) (nI p) 353 230 = 353 from zge_t (n := p) rfl (by omega) (by omega)]
    exact (ev_rv (r := none) (hp' := mk np M2 L) rfl rfl rfl rfl).imp (fun x hx => ⟨M2, hB, hx⟩)
  | succ j ih =>
    intro q hqj M2 hB
    have hq : q < p := by omega
    have h29 : M2 29 q = M 29 q := by rw [hB.2.2.2.2.2.row (by omega)]
    obtain ⟨sx1, sx2, sx3⟩ := stN_ok (M := M) (a := aX) (p := p) (fun q h1 h2 => (hE q h1 h2).1.2) q (by omega)
    obtain ⟨sy1, sy2, sy3⟩ := stN_ok (M := M) (a := aY) (p := p) (fun q h1 h2 => (hE q h1 h2).2.1.2) q (by omega)
    obtain ⟨sz1, sz2, sz3⟩ := stN_ok (M := M) (a := aZ) (p := p) (fun q h1 h2 => (hE q h1 h2).2.2.2) q (by omega)
    iterate 2 refine ev_s rfl ?_
    refine ev_ic rfl rfl ?_
    rw [show zbr .ge (nI q) (nI p) 353 230 = 230 from zge_f (n := p) rfl hq (by omega)]
    refine ev_s rfl ?_
    refine ev_gf (rd np M2 L (by omega) rfl) rfl rfl rfl ?_
    refine ev_s rfl ?_
    refine ev_ba (rd np M2 L (by omega) rfl) rfl (zin_nI (by omega) (by decide)) ?_
    rw [h29]
    refine ev_if rfl rfl (ev_br (zb_eq _ _ _ _) (fun c1 => ?_) (fun c1 => ?_))
    · show Ev _ _ 347 _ _ _ _
      refine ev_inc (y := 1) (v := nI (q + 1)) (ls' := [some (.ref 21), some (.int (nI p)), some (.int (nI (q + 1))), v3, v4, v5]) rfl rfl (by decide) (nI_1 _) rfl ?_
      refine ev_s rfl ?_
      refine ih (q + 1) (by omega) M2 ?_
      rw [show stN M aX (q + 1) = stN M aX q from if_pos c1, show stN M aY (q + 1) = stN M aY q from if_pos c1, show stN M aZ (q + 1) = stN M aZ q from if_pos c1]
      exact hB
    · show Ev _ _ 239 _ _ _ _
      obtain ⟨⟨eX, eX2⟩, ⟨eY, eY2⟩, ⟨eZ, eZ2⟩⟩ := hE q hq c1
      refine sg_x1 hp (a := aX q) (by omega) hB.2.2.1.1 hB.2.2.1.2 sx1 sx2 (by omega) (by rw [hB.2.2.2.2.2.row (by omega), hB.2.2.2.2.2.row (by omega)]; exact eX) eX2 d (fun M3 e3 => ?_)
      have hB3 := BG_x hB e3
      refine sg_y1 hp (a := aY q) (by omega) hB3.2.2.2.1.1 hB3.2.2.2.1.2 sy1 sy2 (by omega) (by rw [hB3.2.2.2.2.2.row (by omega), hB3.2.2.2.2.2.row (by omega)]; exact eY) eY2 d (fun M4 e4 => ?_)
      have hB4 := BG_y hB3 e4
      refine sg_z1 hp (a := aZ q) (by omega) hB4.2.2.2.2.1.1 hB4.2.2.2.2.1.2 sz1 sz2 (by omega) (by rw [hB4.2.2.2.2.2.row (by omega), hB4.2.2.2.2.2.row (by omega)]; exact eZ) eZ2 d (fun M5 e5 => ?_)
      have hB5 := BG_z hB4 e5
      refine ev_inc (y := 1) (v := nI (q + 1)) (ls' := [some (.ref 21), some (.int (nI p)), some (.int (nI (q + 1))), v3, v4, v5]) rfl rfl (by decide) (nI_1 _) rfl ?_
      refine ev_s rfl ?_
      refine ih (q + 1) (by omega) M5 ?_
      rw [show stN M aX (q + 1) = insN (aX q) (stN M aX q) from if_neg c1, show stN M aY (q + 1) = insN (aY q) (stN M aY q) from if_neg c1, show stN M aZ (q + 1) = insN (aZ q) (stN M aZ q) from if_neg c1]
      exact hB5
set_option maxHeartbeats 4000000 in
theorem rn_mbegin {np : Nat} {M : Nat → Nat → Int32} {L : Nat → Int64} {p : Nat} {aX aY aZ : Nat → Nat} (hp : p < 6) (hE : Ends p M aX aY aZ) (d : Nat) : ∃ M', BG p M (tls (pf M p) (tmo (M 26 p))) (stN M aX p) (stN M aY p) (stN M aZ p) M' ∧ Rn (d + 1) mX6_begin [.ref 21, .int (nI p)] (mk np M L) none (mk np M' L) := by
  have hh : Ev (d + 1) mX6_begin 0 (zent mX6_begin [.ref 21, .int (nI p)]) [] (mk np M L) (fun x => ∃ M', BG p M (tls (pf M p) (tmo (M 26 p))) (stN M aX p) (stN M aY p) (stN M aZ p) M' ∧ Qr mX6_begin none (mk np M' L) x) := by
    refine ev_s rfl ?_
    refine ev_gf (rd np M L (by omega) rfl) rfl rfl rfl ?_
    refine ev_s rfl ?_
    refine ev_ik (v := 0) rfl (by decide) ?_
    refine ev_is (hp' := (mk np (up2 M 47 p 0) L)) (rd np M L (by omega) rfl) rfl (zin_nI (by omega) (by decide)) (mk_setr rfl rfl rfl) ?_
    refine ev_s rfl ?_
    refine ev_gf (rd np (up2 M 47 p 0) L (by omega) ((congrArg (fun r => cel np 21 r (L 21)) ((up2_n (by omega)).trans rfl)).trans rfl)) rfl rfl rfl ?_
    refine ev_s rfl ?_
    refine ev_ik (v := 0) rfl (by decide) ?_
    refine ev_is (hp' := (mk np (up2 (up2 M 47 p 0) 48 p 0) L)) (rd np (up2 M 47 p 0) L (by omega) ((congrArg (fun r => cel np 48 r (L 48)) ((up2_n (by omega)).trans rfl)).trans rfl)) rfl (zin_nI (by omega) (by decide)) (mk_setr ((up2_n (by omega)).trans rfl) rfl rfl) ?_
    refine ev_ik (v := 0) rfl (by decide) ?_
    refine ev_s (ls' := [some (.ref 21), some (.int (nI p)), some (.int 0), none, none, none]) rfl ?_
    refine lp_tt (M := M) hp rfl d (fun M3 v2 v3 v4 v5 hT => ?_) (tmo (M 26 p)) 0 (by omega) _ _ _ _ ?_
    · refine sg_x0 hp d (fun M4 e4 => ?_)
      refine sg_y0 hp d (fun M5 e5 => ?_)
      refine sg_z0 hp d (fun M6 e6 => ?_)
      refine ev_ik (v := 0) rfl (by decide) ?_
      refine ev_s (ls' := [some (.ref 21), some (.int (nI p)), some (.int 0), v3, v4, v5]) rfl ?_
      refine lp_bs hp hE d p 0 (by omega) M6 ?_
      exact BG_0 hT e4 e5 e6
    · exact ⟨by rw [up2_n (by omega), up2_s, upd_s], ⟨by rw [up2_s, upd_s]; rfl, fun k hk => absurd hk (by simp [tls])⟩, ((Fb.rf p M).up (Or.inl ⟨Or.inl rfl, rfl⟩)).up (Or.inl ⟨Or.inr (Or.inl rfl), rfl⟩)⟩
  obtain ⟨n, x, h1, M', h2, h3⟩ := hh
  exact ⟨M', h2, n, x, h1, h3⟩
