/-! ===== LoadSpaceModel: begin ===== -/
/-- the places of rows that level p writes -/
def own (p h k : Nat) : Prop := (h = 47 ∨ h = 48 ∨ h = 50 ∨ h = 51 ∨ h = 52) ∧ k = p ∨ h = 49 ∧ 6 * p ≤ k ∧ k < 6 * p + 6 ∨ (h = 53 ∨ h = 54 ∨ h = 55) ∧ 7 * p ≤ k ∧ k < 7 * p + 7
def Fb (p : Nat) (M M2 : Nat → Nat → Int32) : Prop := ∀ h k, ¬ own p h k → M2 h k = M h k
theorem Fb.rf (p : Nat) (M : Nat → Nat → Int32) : Fb p M M := fun _ _ _ => rfl
theorem Fb.tr {p : Nat} {M M1 M2 : Nat → Nat → Int32} (a : Fb p M M1) (b : Fb p M1 M2) : Fb p M M2 := fun h k q => (b h k q).trans (a h k q)
theorem Fb.up {p h k : Nat} {M M1 : Nat → Nat → Int32} {v : Int32} (a : Fb p M M1) (ho : own p h k) : Fb p M (up2 M1 h k v) := by
  intro h' k' q
  by_cases e : h' = h
  · subst e
    rw [up2_s]
    by_cases e2 : k' = k
    · subst e2; exact absurd ho q
    · rw [upd_n e2]; exact a _ _ q
  · rw [up2_n e]; exact a _ _ q
theorem Fb.row {p h : Nat} {M M1 : Nat → Nat → Int32} (a : Fb p M M1) (hh : h < 47 ∨ 56 ≤ h) : M1 h = M h := funext fun k => a h k (by unfold own; omega)
theorem Fb.pf {p : Nat} {M M1 : Nat → Nat → Int32} (a : Fb p M M1) (q : Nat) : pf M1 q = pf M q ∨ True := Or.inr trivial
theorem pf_eq {M M1 : Nat → Nat → Int32} {q : Nat} (h0 : M1 22 = M 22) (h1 : M1 23 = M 23) (h2 : M1 24 = M 24) (t : Nat) : tW (pf M1 q) t = tW (pf M q) t ∧ tH (pf M1 q) t = tH (pf M q) t ∧ tD (pf M1 q) t = tD (pf M q) t := tW_c (by show M1 22 q = M 22 q; rw [h0]) (by show M1 23 q = M 23 q; rw [h1]) (by show M1 24 q = M 24 q; rw [h2]) t
/-- enter, and its number kept: what the rows hold then -/
theorem en_M {M2 M3 : Nat → Nat → Int32} {H Hs p a : Nat} {l : List Nat} (hne : H ≠ Hs) (hM3 : M3 = up2 (rwM M2 H (enR (M2 H) (7 * p) l.length (nI a)).1) Hs p (nI (enR (M2 H) (7 * p) l.length (nI a)).2)) (ha : a < 2 ^ 30) (hs : srt l) (hm : sml l) (hb : blk (M2 H) (7 * p) l) (hl : l.length ≤ 6) :
    M3 Hs p = nI (insN a l).length ∧ blk (M3 H) (7 * p) (insN a l) ∧ (∀ h, h ≠ H → h ≠ Hs → M3 h = M2 h) ∧ (∀ k, k ≠ p → M3 Hs k = M2 Hs k) ∧ ∀ k, k < 7 * p ∨ 7 * p + 7 ≤ k → M3 H k = M2 H k := by
  obtain ⟨e1, e2, e3⟩ := enR_blk ha hs hm hb
  have r1 : M3 H = (enR (M2 H) (7 * p) l.length (nI a)).1 := by rw [hM3, up2_n hne, rwM_s]
  refine ⟨by rw [hM3, up2_s, upd_s, e1], by rw [r1]; exact e2, fun h h1 h2 => by rw [hM3, up2_n h2, rwM_n h1], fun k hk => by rw [hM3, up2_s, upd_n hk, rwM_n (Ne.symm hne)], fun k hk => by rw [r1]; exact e3 k (by omega)⟩
theorem m7 (p : Nat) : 7 * nI p = nI (7 * p) := by rw [show (7 : Int32) = nI 7 from by decide, pk_mul]
theorem m6 (p k : Nat) : 6 * nI p + nI k = nI (6 * p + k) := by rw [show (6 : Int32) = nI 6 from by decide, pk_mul, nI_add]
/-- the starts in a direction: 0, and where the pieces placed end -/
def stN (M : Nat → Nat → Int32) (a : Nat → Nat) : Nat → List Nat
  | 0 => [0]
  | q + 1 => if M 29 q = 0 then stN M a q else insN (a q) (stN M a q)
theorem stN_ok {M : Nat → Nat → Int32} {a : Nat → Nat} {p : Nat} (ha : ∀ q, q < p → ¬ M 29 q = 0 → a q < 2 ^ 30) : ∀ q, q ≤ p → srt (stN M a q) ∧ sml (stN M a q) ∧ (stN M a q).length ≤ q + 1
  | 0, _ => ⟨trivial, fun x hx => by simp [stN] at hx; omega, by simp [stN]⟩
  | q + 1, h => by
    obtain ⟨h1, h2, h3⟩ := stN_ok ha q (by omega)
    unfold stN
    split
    · exact ⟨h1, h2, by omega⟩
    · next hn =>
      have := insN_len (a := a q) (l := stN M a q)
      exact ⟨insN_srt h1, insN_sml (ha q (by omega) hn) h2, by omega⟩
def BG (p : Nat) (M : Nat → Nat → Int32) (T X Y Z : List Nat) (M2 : Nat → Nat → Int32) : Prop := M2 47 p = 0 ∧ (M2 48 p = nI T.length ∧ blk (M2 49) (6 * p) T) ∧ (M2 50 p = nI X.length ∧ blk (M2 53) (7 * p) X) ∧ (M2 51 p = nI Y.length ∧ blk (M2 54) (7 * p) Y) ∧ (M2 52 p = nI Z.length ∧ blk (M2 55) (7 * p) Z) ∧ Fb p M M2

set_option maxHeartbeats 4000000 in
theorem lp_tw {np : Nat} {M : Nat → Nat → Int32} {L : Nat → Int64} {p t : Nat} {l : List Nat} (hp : p < 6) (ht : t < 6) (hl : l.length ≤ 6) (hlt : ∀ x, x ∈ l → x < 6) (h48 : M 48 p = nI l.length) (h49 : blk (M 49) (6 * p) l) (d : Nat) {Q : zCf → Prop} (hK : ∀ v5, Ev (d + 1) mX6_begin 129 [some (.ref 21), some (.int (nI p)), some (.int (nI t)), some (.int (zi (∃ q, q < l.length ∧ smT (pf M p) (l.getD q 0) t))), some (.int (nI l.length)), v5] [] (mk np M L) Q) : ∀ j k, k + j = l.length → ∀ v5, Ev (d + 1) mX6_begin 34 [some (.ref 21), some (.int (nI p)), some (.int (nI t)), some (.int (zi (∃ q, q < k ∧ smT (pf M p) (l.getD q 0) t))), some (.int (nI k)), v5] [] (mk np M L) Q := by
  intro j
  induction j with
  | zero =>
    intro k hkj v5
    obtain rfl : k = l.length := by omega
    iterate 2 refine ev_s rfl ?_
    refine ev_gf (rd np M L (by omega) rfl) rfl rfl rfl ?_
    refine ev_s rfl ?_
    refine ev_ia (rd np M L (by omega) rfl) rfl (zin_nI (by omega) (by decide)) ?_
    rw [h48]
    refine ev_ic rfl rfl ?_
    rw [show zbr .ge (nI l.length) (nI l.length) 129 45 = 129 from zge_t (n := l.length) rfl (by omega) (by omega)]
    exact hK _
  | succ j ih =>
    intro k hkj v5
    have hk : k < l.length := by omega
    obtain ⟨u, hu⟩ : ∃ u, u = l.getD k 0 := ⟨_, rfl⟩
    have hu6 : u < 6 := by rw [hu, List.getD_eq_getElem?_getD, List.getElem?_eq_getElem hk]; exact hlt _ (List.getElem_mem hk)
    have h9 : M 49 (6 * p + k) = nI u := by rw [hu]; exact h49 k hk
    iterate 2 refine ev_s rfl ?_
    refine ev_gf (rd np M L (by omega) rfl) rfl rfl rfl ?_
    refine ev_s rfl ?_
    refine ev_ia (rd np M L (by omega) rfl) rfl (zin_nI (by omega) (by decide)) ?_
    rw [h48]
    refine ev_ic rfl rfl ?_
    rw [show zbr .ge (nI k) (nI l.length) 129 45 = 45 from zge_f (n := l.length) rfl hk (by omega)]
    refine ev_s rfl ?_
    refine ev_gf (rd np M L (by omega) rfl) rfl rfl rfl ?_
    refine ev_bi (v := 6) rfl (by decide) ?_
    iterate 4 refine ev_s rfl ?_
    refine ev_ia (rd np M L (by omega) rfl) rfl (by rw [m6]; exact zin_nI (by omega) (by decide)) ?_
    rw [h9]
    refine ev_s (ls' := [some (.ref 21), some (.int (nI p)), some (.int (nI t)), some (.int (zi (∃ q, q < k ∧ smT (pf M p) (l.getD q 0) t))), some (.int (nI k)), some (.int (nI u))]) rfl ?_
    refine ev_s rfl ?_
    refine ev_cut (pc2 := 122) (ls2 := [some (.ref 21), some (.int (nI p)), some (.int (nI t)), some (.int (zi (∃ q, q < k ∧ smT (pf M p) (l.getD q 0) t))), some (.int (nI k)), some (.int (nI u))]) (st2 := [(.int (zi ((∃ q, q < k ∧ smT (pf M p) (l.getD q 0) t) ∨ smT (pf M p) u t)))]) (hp2 := (mk np M L)) ?_ (fun hK1 => ?_)
    · show Ev _ _ 122 _ _ _ _
      refine ev_s (ls' := [some (.ref 21), some (.int (nI p)), some (.int (nI t)), some (.int (zi ((∃ q, q < k ∧ smT (pf M p) (l.getD q 0) t) ∨ smT (pf M p) u t))), some (.int (nI k)), some (.int (nI u))]) rfl ?_
      refine ev_inc (y := 1) (v := nI (k + 1)) (ls' := [some (.ref 21), some (.int (nI p)), some (.int (nI t)), some (.int (zi ((∃ q, q < k ∧ smT (pf M p) (l.getD q 0) t) ∨ smT (pf M p) u t))), some (.int (nI (k + 1))), some (.int (nI u))]) rfl rfl (by decide) (nI_1 _) rfl ?_
      refine ev_s rfl ?_
      have e9 := ih (k + 1) (by omega) (some (.int (nI u)))
      rw [show (∃ q, q < k + 1 ∧ smT (pf M p) (l.getD q 0) t) = ((∃ q, q < k ∧ smT (pf M p) (l.getD q 0) t) ∨ smT (pf M p) u t) from propext ⟨fun ⟨q, h1, h2⟩ => by
        rcases Nat.lt_or_ge q k with z | z
        · exact Or.inl ⟨q, z, h2⟩
        · obtain rfl : q = k := by omega
          rw [← hu] at h2
          exact Or.inr h2, fun h => h.elim (fun ⟨q, h1, h2⟩ => ⟨q, by omega, h2⟩) (fun h => ⟨k, by omega, by rw [← hu]; exact h⟩)⟩] at e9
      exact e9
    · show Ev _ _ 60 _ _ _ _
      refine ev_if rfl rfl (ev_bzn (fun c1 => ?_) (fun c1 => ?_))
      · show Ev _ _ 117 _ _ _ _
        refine ev_ik (v := 1) rfl (by decide) ?_
        refine ev_s rfl ?_
        rw [zi_t (show (∃ q, q < k ∧ smT (pf M p) (l.getD q 0) t) ∨ smT (pf M p) u t from (by first | exact Or.inl (by assumption) | exact Or.inr ⟨by assumption, by assumption, by assumption⟩ | exact fun h => h.elim (by assumption) (fun h => by first | exact absurd h.1 (by assumption) | exact absurd h.2.1 (by assumption) | exact absurd h.2.2 (by assumption))))] at hK1
        exact hK1
      · show Ev _ _ 63 _ _ _ _
        iterate 3 refine ev_s rfl ?_
        refine ev_ik (v := 0) rfl (by decide) ?_
        refine ev_cv (vs := [(.ref 21), (.int (nI p)), (.int (nI u)), (.int 0)]) (rest := []) (rv := (some (.int (tW (pf M p) u)))) rfl rfl rfl (rd np M L (by omega) rfl) rfl rfl rfl rfl (rn_measure0 (k := p) (t := u) (by omega) (by omega) _) ?_
        show Ev _ _ 71 _ [(.int (tW (pf M p) u))] _ _
        iterate 3 refine ev_s rfl ?_
        refine ev_ik (v := 0) rfl (by decide) ?_
        refine ev_cv (vs := [(.ref 21), (.int (nI p)), (.int (nI t)), (.int 0)]) (rest := [(.int (tW (pf M p) u))]) (rv := (some (.int (tW (pf M p) t)))) rfl rfl rfl (rd np M L (by omega) rfl) rfl rfl rfl rfl (rn_measure0 (k := p) (t := t) (by omega) (by omega) _) ?_
        show Ev _ _ 78 _ [(.int (tW (pf M p) t)), (.int (tW (pf M p) u))] _ _
        refine ev_ic rfl rfl (ev_bn (fun c2 => ?_) (fun c2 => ?_))
        · show Ev _ _ 121 _ _ _ _
          refine ev_ik (v := 0) rfl (by decide) ?_
          rw [zi_f (show ¬ ((∃ q, q < k ∧ smT (pf M p) (l.getD q 0) t) ∨ smT (pf M p) u t) from (by first | exact Or.inl (by assumption) | exact Or.inr ⟨by assumption, by assumption, by assumption⟩ | exact fun h => h.elim (by assumption) (fun h => by first | exact absurd h.1 (by assumption) | exact absurd h.2.1 (by assumption) | exact absurd h.2.2 (by assumption))))] at hK1
          exact hK1
        · show Ev _ _ 81 _ _ _ _
          iterate 3 refine ev_s rfl ?_
          refine ev_ik (v := 1) rfl (by decide) ?_
          refine ev_cv (vs := [(.ref 21), (.int (nI p)), (.int (nI u)), (.int 1)]) (rest := []) (rv := (some (.int (tH (pf M p) u)))) rfl rfl rfl (rd np M L (by omega) rfl) rfl rfl rfl rfl (rn_measure1 (k := p) (t := u) (by omega) (by omega) _) ?_
          show Ev _ _ 89 _ [(.int (tH (pf M p) u))] _ _
          iterate 3 refine ev_s rfl ?_
          refine ev_ik (v := 1) rfl (by decide) ?_
          refine ev_cv (vs := [(.ref 21), (.int (nI p)), (.int (nI t)), (.int 1)]) (rest := [(.int (tH (pf M p) u))]) (rv := (some (.int (tH (pf M p) t)))) rfl rfl rfl (rd np M L (by omega) rfl) rfl rfl rfl rfl (rn_measure1 (k := p) (t := t) (by omega) (by omega) _) ?_
          show Ev _ _ 96 _ [(.int (tH (pf M p) t)), (.int (tH (pf M p) u))] _ _
          refine ev_ic rfl rfl (ev_bn (fun c3 => ?_) (fun c3 => ?_))
          · show Ev _ _ 121 _ _ _ _
            refine ev_ik (v := 0) rfl (by decide) ?_
            rw [zi_f (show ¬ ((∃ q, q < k ∧ smT (pf M p) (l.getD q 0) t) ∨ smT (pf M p) u t) from (by first | exact Or.inl (by assumption) | exact Or.inr ⟨by assumption, by assumption, by assumption⟩ | exact fun h => h.elim (by assumption) (fun h => by first | exact absurd h.1 (by assumption) | exact absurd h.2.1 (by assumption) | exact absurd h.2.2 (by assumption))))] at hK1
            exact hK1
          · show Ev _ _ 99 _ _ _ _
            iterate 3 refine ev_s rfl ?_
            refine ev_ik (v := 2) rfl (by decide) ?_
            refine ev_cv (vs := [(.ref 21), (.int (nI p)), (.int (nI u)), (.int 2)]) (rest := []) (rv := (some (.int (tD (pf M p) u)))) rfl rfl rfl (rd np M L (by omega) rfl) rfl rfl rfl rfl (rn_measure2 (k := p) (t := u) (by omega) (by omega) _) ?_
            show Ev _ _ 107 _ [(.int (tD (pf M p) u))] _ _
            iterate 3 refine ev_s rfl ?_
            refine ev_ik (v := 2) rfl (by decide) ?_
            refine ev_cv (vs := [(.ref 21), (.int (nI p)), (.int (nI t)), (.int 2)]) (rest := [(.int (tD (pf M p) u))]) (rv := (some (.int (tD (pf M p) t)))) rfl rfl rfl (rd np M L (by omega) rfl) rfl rfl rfl rfl (rn_measure2 (k := p) (t := t) (by omega) (by omega) _) ?_
            show Ev _ _ 114 _ [(.int (tD (pf M p) t)), (.int (tD (pf M p) u))] _ _
            refine ev_ic rfl rfl (ev_bn (fun c4 => ?_) (fun c4 => ?_))
            · show Ev _ _ 121 _ _ _ _
              refine ev_ik (v := 0) rfl (by decide) ?_
              rw [zi_f (show ¬ ((∃ q, q < k ∧ smT (pf M p) (l.getD q 0) t) ∨ smT (pf M p) u t) from (by first | exact Or.inl (by assumption) | exact Or.inr ⟨by assumption, by assumption, by assumption⟩ | exact fun h => h.elim (by assumption) (fun h => by first | exact absurd h.1 (by assumption) | exact absurd h.2.1 (by assumption) | exact absurd h.2.2 (by assumption))))] at hK1
              exact hK1
            · show Ev _ _ 117 _ _ _ _
              refine ev_ik (v := 1) rfl (by decide) ?_
              refine ev_s rfl ?_
              rw [zi_t (show (∃ q, q < k ∧ smT (pf M p) (l.getD q 0) t) ∨ smT (pf M p) u t from (by first | exact Or.inl (by assumption) | exact Or.inr ⟨by assumption, by assumption, by assumption⟩ | exact fun h => h.elim (by assumption) (fun h => by first | exact absurd h.1 (by assumption) | exact absurd h.2.1 (by assumption) | exact absurd h.2.2 (by assumption))))] at hK1
              exact hK1
def TI (p : Nat) (M : Nat → Nat → Int32) (T : List Nat) (M2 : Nat → Nat → Int32) : Prop := M2 47 p = 0 ∧ (M2 48 p = nI T.length ∧ blk (M2 49) (6 * p) T) ∧ Fb p M M2
theorem TI_add {p t : Nat} {M M2 : Nat → Nat → Int32} {l : List Nat} (h : TI p M l M2) (hl : l.length < 6) : TI p M (l ++ [t]) (up2 (up2 M2 49 (6 * p + l.length) (nI t)) 48 p (nI (l.length + 1))) := by
  obtain ⟨h1, ⟨h2, h3⟩, h4⟩ := h
  refine ⟨by rw [up2_n (by omega), up2_n (by omega)]; exact h1, ⟨by rw [up2_s, upd_s]; simp, fun k hk => ?_⟩, (h4.up (Or.inr (Or.inl ⟨rfl, by omega, by omega⟩))).up (Or.inl ⟨Or.inr (Or.inl rfl), rfl⟩)⟩
  rw [up2_n (by omega), up2_s]
  simp only [List.length_append, List.length_cons, List.length_nil] at hk
  by_cases e : k = l.length
  · subst e
    rw [upd_s]
    simp
  · rw [upd_n (by omega), h3 k (by omega)]
    congr 1
    rw [List.getD_eq_getElem?_getD, List.getD_eq_getElem?_getD, List.getElem?_append_left (by omega)]
set_option maxHeartbeats 4000000 in
theorem lp_tt {np : Nat} {M : Nat → Nat → Int32} {L : Nat → Int64} {p n : Nat} (hp : p < 6) (hn : n = tmo (M 26 p)) (d : Nat) {Q : zCf → Prop} (hK : ∀ M2 v2 v3 v4 v5, TI p M (tls (pf M p) n) M2 → Ev (d + 1) mX6_begin 166 [some (.ref 21), some (.int (nI p)), v2, v3, v4, v5] [] (mk np M2 L) Q) : ∀ j t, t + j = n → ∀ M2 v3 v4 v5, TI p M (tls (pf M p) t) M2 → Ev (d + 1) mX6_begin 16 [some (.ref 21), some (.int (nI p)), some (.int (nI t)), v3, v4, v5] [] (mk np M2 L) Q := by
  intro j
  have hn6 : n ≤ 6 := by rw [hn]; exact tmo_le _
  induction j with
  | zero =>
    intro t htj M2 v3 v4 v5 hT
    obtain rfl : t = n := by omega
    have h26 : M2 26 p = M 26 p := by rw [hT.2.2.row (by omega)]
    iterate 2 refine ev_s rfl ?_
    refine ev_gf (rd np M2 L (by omega) rfl) rfl rfl rfl ?_
    refine ev_s rfl ?_
    refine ev_ia (rd np M2 L (by omega) rfl) rfl (zin_nI (by omega) (by decide)) ?_
    refine ev_cs (vs := [(.int (M2 26 p))]) (rest := [(.int (nI t))]) (rv := (some (.int (nI (tmo (M2 26 p)))))) rfl rfl rfl rfl rfl (rn_turnsOf _) ?_
    show Ev _ _ 26 _ [(.int (nI (tmo (M2 26 p)))), (.int (nI t))] _ _
    refine ev_ic rfl rfl ?_
    rw [show zbr .ge (nI t) (nI (tmo (M2 26 p))) 166 29 = 166 from zge_t (n := t) (by rw [h26, ← hn]) (by omega) (by omega)]
    exact hK M2 _ _ _ _ hT
  | succ j ih =>
    intro t htj M2 v3 v4 v5 hT
    have htn : t < n := by omega
    have h26 : M2 26 p = M 26 p := by rw [hT.2.2.row (by omega)]
    obtain ⟨l, hl⟩ : ∃ l, l = tls (pf M p) t := ⟨_, rfl⟩
    have hl6 : l.length ≤ t := by rw [hl]; exact tls_len t
    have hlt : ∀ x, x ∈ l → x < 6 := fun x hx => by have := tls_lt (f := pf M p) (n := t) (by rw [← hl]; exact hx); omega
    have hun : tls (pf M p) (t + 1) = cIf (cMk (pf M p) t) (tls (pf M p) t) (tls (pf M p) t ++ [t]) := rfl
    have htw := tls_twice (f := pf M p) (t := t)
    rw [← hl] at hT hun htw
    have hsm : ∀ b, smT (pf M2 p) b t = smT (pf M p) b t := fun b => by
      have e1 := pf_eq (q := p) (hT.2.2.row (h := 22) (by omega)) (hT.2.2.row (h := 23) (by omega)) (hT.2.2.row (h := 24) (by omega)) b
      have e2 := pf_eq (q := p) (hT.2.2.row (h := 22) (by omega)) (hT.2.2.row (h := 23) (by omega)) (hT.2.2.row (h := 24) (by omega)) t
      unfold smT
      rw [e1.1, e1.2.1, e1.2.2, e2.1, e2.2.1, e2.2.2]
    have htw2 : (∃ q, q < l.length ∧ smT (pf M2 p) (l.getD q 0) t) = cMk (pf M p) t := by
      rw [← propext htw]
      exact congrArg _ (funext fun q => by rw [hsm])
    iterate 2 refine ev_s rfl ?_
    refine ev_gf (rd np M2 L (by omega) rfl) rfl rfl rfl ?_
    refine ev_s rfl ?_
    refine ev_ia (rd np M2 L (by omega) rfl) rfl (zin_nI (by omega) (by decide)) ?_
    refine ev_cs (vs := [(.int (M2 26 p))]) (rest := [(.int (nI t))]) (rv := (some (.int (nI (tmo (M2 26 p)))))) rfl rfl rfl rfl rfl (rn_turnsOf _) ?_
    show Ev _ _ 26 _ [(.int (nI (tmo (M2 26 p)))), (.int (nI t))] _ _
    refine ev_ic rfl rfl ?_
    rw [show zbr .ge (nI t) (nI (tmo (M2 26 p))) 166 29 = 29 from zge_f (n := n) (by rw [h26, ← hn]) htn (by omega)]
    refine ev_ik (v := 0) rfl (by decide) ?_
    refine ev_s (ls' := [some (.ref 21), some (.int (nI p)), some (.int (nI t)), some (.int 0), v4, v5]) rfl ?_
    refine ev_ik (v := 0) rfl (by decide) ?_
    refine ev_s (ls' := [some (.ref 21), some (.int (nI p)), some (.int (nI t)), some (.int 0), some (.int 0), v5]) rfl ?_
    have hzz : zi (∃ q, q < 0 ∧ smT (pf M2 p) (l.getD q 0) t) = 0 := zi_f (fun ⟨q, h, _⟩ => absurd h (by omega))
    have e7 := lp_tw (M := M2) (np := np) (L := L) (Q := Q) hp (show t < 6 by omega) (show l.length ≤ 6 by omega) hlt hT.2.1.1 hT.2.1.2 d (fun v6 => ?_) l.length 0 (by omega) (v5)
    · rw [hzz] at e7
      exact e7
    refine ev_s rfl ?_
    refine ev_if rfl rfl (ev_bzn (fun c1 => ?_) (fun c1 => ?_))
    · show Ev _ _ 160 _ _ _ _
      refine ev_inc (y := 1) (v := nI (t + 1)) (ls' := [some (.ref 21), some (.int (nI p)), some (.int (nI (t + 1))), some (.int (zi (∃ q, q < l.length ∧ smT (pf M2 p) (l.getD q 0) t))), some (.int (nI l.length)), v6]) rfl rfl (by decide) (nI_1 _) rfl ?_
      refine ev_s rfl ?_
      rw [htw2] at c1
      refine ih (t + 1) (by omega) M2 _ _ _ ?_
      rw [hun, cIf_t c1]
      exact hT
    · show Ev _ _ 133 _ _ _ _
      refine ev_s rfl ?_
      refine ev_gf (rd np M2 L (by omega) rfl) rfl rfl rfl ?_
      refine ev_bi (v := 6) rfl (by decide) ?_
      iterate 3 refine ev_s rfl ?_
      refine ev_gf (rd np M2 L (by omega) rfl) rfl rfl rfl ?_
      refine ev_s rfl ?_
      refine ev_ia (rd np M2 L (by omega) rfl) rfl (zin_nI (by omega) (by decide)) ?_
      rw [hT.2.1.1]
      iterate 2 refine ev_s rfl ?_
      refine ev_is (hp' := (mk np (up2 M2 49 (6 * p + l.length) (nI t)) L)) (rd np M2 L (by omega) rfl) rfl (by rw [m6]; exact zin_nI (by omega) (by decide)) (mk_setr rfl rfl rfl) ?_
      refine ev_s rfl ?_
      refine ev_gf (rd np (up2 M2 49 (6 * p + l.length) (nI t)) L (by omega) ((congrArg (fun r => cel np 21 r (L 21)) ((up2_n (by omega)).trans rfl)).trans rfl)) rfl rfl rfl ?_
      iterate 2 refine ev_s rfl ?_
      refine ev_ia (rd np (up2 M2 49 (6 * p + l.length) (nI t)) L (by omega) ((congrArg (fun r => cel np 48 r (L 48)) ((up2_n (by omega)).trans rfl)).trans rfl)) rfl (zin_nI (by omega) (by decide)) ?_
      rw [hT.2.1.1]
      refine ev_ik (v := 1) rfl (by decide) ?_
      refine ev_s rfl ?_
      rw [nI_1]
      refine ev_is (hp' := (mk np (up2 (up2 M2 49 (6 * p + l.length) (nI t)) 48 p (nI (l.length + 1))) L)) (rd np (up2 M2 49 (6 * p + l.length) (nI t)) L (by omega) ((congrArg (fun r => cel np 48 r (L 48)) ((up2_n (by omega)).trans rfl)).trans rfl)) rfl (zin_nI (by omega) (by decide)) (mk_setr ((up2_n (by omega)).trans rfl) rfl rfl) ?_
      refine ev_inc (y := 1) (v := nI (t + 1)) (ls' := [some (.ref 21), some (.int (nI p)), some (.int (nI (t + 1))), some (.int (zi (∃ q, q < l.length ∧ smT (pf M2 p) (l.getD q 0) t))), some (.int (nI l.length)), v6]) rfl rfl (by decide) (nI_1 _) rfl ?_
      refine ev_s rfl ?_
      have e8 := TI_add (t := t) hT (by omega)
      rw [htw2] at c1
      refine ih (t + 1) (by omega) _ _ _ _ ?_
      rw [hun, cIf_f c1]
      exact e8
