/-! ===== Search: the recursion ===== -/
set_option maxHeartbeats 1000000 in
theorem zgo_deep : ∀ (n d mi pc : Nat) (ls : zLs) (st : List Value) (hp : zHp) (x : zCf), zgo n d mi pc ls st hp = some x → zgo n (d + 1) mi pc ls st hp = some x := by
  intro n
  induction n with
  | zero => intro d mi pc ls st hp x h; simp [zgo] at h
  | succ n ih =>
    intro d mi pc ls st hp x h
    rw [zgo] at h ⊢
    split at h
    · cases h
    · split at h
      · next hs => rw [if_pos hs]; exact h
      · next hs =>
        rw [if_neg hs]
        split at h
        · split at h
          · cases h
          · split at h
            · cases h
            · next hst =>
              rw [if_neg hst]
              split at h
              · cases h
              · next h1 =>
                split at h
                · cases h
                · next h2 =>
                  rw [ih _ _ _ _ _ _ _ h1]
                  simp only [h2]
                  exact ih _ _ _ _ _ _ _ h
        · split at h
          · cases h
          · exact ih _ _ _ _ _ _ _ h
theorem Rn_up {d mj : Nat} {vs : List Value} {hp hp' : zHp} {r : Option Value} (h : Rn d mj vs hp r hp') : Rn (d + 1) mj vs hp r hp' := by
  obtain ⟨n, x, h1, h2⟩ := h
  exact ⟨n, x, zgo_deep _ _ _ _ _ _ _ _ h1, h2⟩
theorem Rn_le {d e mj : Nat} {vs : List Value} {hp hp' : zHp} {r : Option Value} (h : Rn d mj vs hp r hp') (hd : d ≤ e) : Rn e mj vs hp r hp' := by
  obtain ⟨k, rfl⟩ := Nat.exists_eq_add_of_le hd
  clear hd
  induction k with
  | zero => exact h
  | succ k ih => exact Rn_up ih
def OKc (np w h d : Nat) (M : Nat → Nat → Int32) : Prop := np ≤ 6 ∧ Bz M ∧ M 1 0 = nI w ∧ M 1 1 = nI h ∧ M 1 2 = nI d ∧ w ≤ 12 ∧ h ≤ 12 ∧ d ≤ 12 ∧ ∀ p, p < np → ∀ k, k < 3 → ∃ a, 1 ≤ a ∧ a ≤ 12 ∧ M (57 + p) k = nI a
theorem OKc.st {np w h d i : Nat} {M M' : Nat → Nat → Int32} (o : OKc np w h d M) (s : St i M M') : OKc np w h d M' := by
  obtain ⟨h1, h2, h3, h4, h5, h6, h7, h8, h9⟩ := o
  have e1 : M' 1 = M 1 := s.1 1 (by unfold tch; omega)
  refine ⟨h1, s.2 h2, by rw [e1]; exact h3, by rw [e1]; exact h4, by rw [e1]; exact h5, h6, h7, h8, fun p hp k hk => ?_⟩
  rw [s.1 (57 + p) (by unfold tch; omega)]
  exact h9 p hp k hk
theorem nF_of {M : Nat → Nat → Int32} {j k a : Nat} (h : M (14 + j) k = nI a) (ha : a < 2 ^ 31) : nF M j k = a := by unfold nF; rw [h, nI_clamp ha]
theorem rect_of {M : Nat → Nat → Int32} {j X Z Wd Dp : Nat} (hX : M (14 + j) 8 = nI X) (hZ : M (14 + j) 10 = nI Z) (hW : M (14 + j) 5 = nI Wd) (hDp : M (14 + j) 7 = nI Dp) (h1 : X + Wd ≤ 12) (h2 : Z + Dp ≤ 12) : rect M j = rc X Z Wd (Z + Dp) X := by
  unfold rect
  rw [nF_of hX (by omega), nF_of hZ (by omega), nF_of hW (by omega), nF_of hDp (by omega)]

set_option maxHeartbeats 4000000 in
theorem tl_mkS {np : Nat} {M : Nat → Nat → Int32} {L : Nat → Int64} {j X Z Wd Dp : Nat} (hj : j < 6) (hX : M (14 + j) 8 = nI X) (hZ : M (14 + j) 10 = nI Z) (hW : M (14 + j) 5 = nI Wd) (hDp : M (14 + j) 7 = nI Dp) (hb1 : X + Wd ≤ 12) (hb2 : Z + Dp ≤ 12) {M4 : Nat → Nat → Int32} (h4 : M4 (14 + j) = upd (M (14 + j)) 0 1) (i1 : Int32) (f : Nat) : Ev (f + 5) mX3_makeStep 50 [some (.ref 11), some (.int i1), some (.ref (14 + j))] [] (mk np M4 L) (Qr mX3_makeStep none (mk np (up2 (hst M4 (rect M j) (M (14 + j) 9)) (14 + j) 0 0) L)) := by
  have hs2 : Rn (f + 4) mX3_setHeights [.ref 11, .ref (14 + j), .int (M (14 + j) 9)] (mk np M4 L) none (mk np (hst M4 (rect M j) (M (14 + j) 9)) L) := by
    rw [rect_of hX hZ hW hDp hb1 hb2]
    exact rn_sh (M := M4) hj (by rw [h4]; exact hX) (by rw [h4]; exact hZ) (by rw [h4]; exact hW) (by rw [h4]; exact hDp) hb1 hb2 _
  obtain ⟨M5, hM5⟩ : ∃ M5, M5 = hst M4 (rect M j) (M (14 + j) 9) := ⟨_, rfl⟩
  rw [← hM5] at hs2 ⊢
  iterate 3 refine ev_s rfl ?_
  refine ev_gf (rd np M4 L (by omega) ((congrArg (fun r => cel np (14 + j) r (L (14 + j))) h4).trans (cel_trial (by omega) _ _))) rfl rfl rfl ?_
  refine ev_cv (vs := [(.ref 11), (.ref (14 + j)), (.int (M (14 + j) 9))]) (rest := []) (rv := none) (hp' := (mk np M5 L)) rfl rfl rfl (rd np M4 L (by omega) rfl) rfl rfl rfl rfl hs2 ?_
  show Ev _ _ 59 _ [] _ _
  refine ev_s rfl ?_
  refine ev_ik (v := 0) rfl (by decide) ?_
  refine ev_pf (hp' := (mk np (up2 M5 (14 + j) 0 0) L)) (rd np M5 L (by omega) (cel_trial (by omega) _ _)) rfl rfl (by simp) rfl rfl (mk_setr rfl (cel_trial (by omega) _ _) rfl) ?_
  refine ev_rv rfl rfl ?_ ?_
  · rfl
  · rfl
set_option maxHeartbeats 4000000 in
theorem rn_mkS {np : Nat} {M : Nat → Nat → Int32} {L : Nat → Int64} {K : (Nat → Nat → Int32) → (Nat → Nat → Int32)} {w h dd : Nat} {j X Z Wd Dp : Nat} (hj : j < 6) (hX : M (14 + j) 8 = nI X) (hZ : M (14 + j) 10 = nI Z) (hW : M (14 + j) 5 = nI Wd) (hDp : M (14 + j) 7 = nI Dp) (hb1 : X + Wd ≤ 12) (hb2 : Z + Dp ≤ 12) {f : Nat} (hKs : ∀ M, St (j + 1) M (K M)) (hKr : ∀ M, OKc np w h dd M → Rn (f + 4) mX3_seek [.ref 11, .int (nI (j + 1))] (mk np M L) none (mk np (K M) L)) (ok : OKc np w h dd M) : Rn (f + 5) mX3_makeStep [.ref 11, .int (nI j), .ref (14 + j)] (mk np M L) none (mk np (mkS K j M) L) := by
  obtain ⟨M2, hM2⟩ : ∃ M2, M2 = up2 (up2 M 11 8 (M 11 8 + 1)) (14 + j) 0 1 := ⟨_, rfl⟩
  have r2 : M2 (14 + j) = upd (M (14 + j)) 0 1 := by rw [hM2, up2_s, up2_n (by omega)]
  have hs1 : Rn (f + 4) mX3_setHeights [.ref 11, .ref (14 + j), .int (M (14 + j) 9 + M (14 + j) 6)] (mk np M2 L) none (mk np (ms3 j M) L) := by
    unfold ms3
    rw [rect_of hX hZ hW hDp hb1 hb2, ← hM2]
    exact rn_sh (M := M2) hj (by rw [r2]; exact hX) (by rw [r2]; exact hZ) (by rw [r2]; exact hW) (by rw [r2]; exact hDp) hb1 hb2 _
  rw [hM2] at hs1
  have ok3 : OKc np w h dd (ms3 j M) := ok.st (ms3_St hj M)
  unfold Rn
  iterate 2 refine ev_s rfl ?_
  refine ev_gf (rd np M L (by omega) rfl) rfl rfl rfl ?_
  refine ev_ik (v := 1) rfl (by decide) ?_
  refine ev_s rfl ?_
  refine ev_pf (hp' := (mk np (up2 M 11 8 ((M 11 8) + 1)) L)) (rd np M L (by omega) rfl) rfl rfl (by simp) rfl rfl (mk_setr rfl rfl rfl) ?_
  refine ev_s rfl ?_
  refine ev_ik (v := 1) rfl (by decide) ?_
  refine ev_pf (hp' := (mk np (up2 (up2 M 11 8 ((M 11 8) + 1)) (14 + j) 0 1) L)) (rd np (up2 M 11 8 ((M 11 8) + 1)) L (by omega) ((congrArg (fun r => cel np (14 + j) r (L (14 + j))) ((up2_n (by omega)).trans rfl)).trans (cel_trial (by omega) _ _))) rfl rfl (by simp) rfl rfl (mk_setr ((up2_n (by omega)).trans rfl) (cel_trial (by omega) _ _) rfl) ?_
  iterate 3 refine ev_s rfl ?_
  refine ev_gf (rd np (up2 (up2 M 11 8 ((M 11 8) + 1)) (14 + j) 0 1) L (by omega) ((congrArg (fun r => cel np (14 + j) r (L (14 + j))) ((up2_s _ _ _ _).trans (congrArg (fun r => upd r 0 1) ((up2_n (by omega)).trans rfl)))).trans (cel_trial (by omega) _ _))) rfl rfl rfl ?_
  refine ev_s rfl ?_
  refine ev_gf (rd np (up2 (up2 M 11 8 ((M 11 8) + 1)) (14 + j) 0 1) L (by omega) ((congrArg (fun r => cel np (14 + j) r (L (14 + j))) ((up2_s _ _ _ _).trans (congrArg (fun r => upd r 0 1) ((up2_n (by omega)).trans rfl)))).trans (cel_trial (by omega) _ _))) rfl rfl rfl ?_
  refine ev_s rfl ?_
  refine ev_cv (vs := [(.ref 11), (.ref (14 + j)), (.int ((M (14 + j) 9) + (M (14 + j) 6)))]) (rest := []) (rv := none) (hp' := (mk np (ms3 j M) L)) rfl rfl rfl (rd np (up2 (up2 M 11 8 ((M 11 8) + 1)) (14 + j) 0 1) L (by omega) ((congrArg (fun r => cel np 11 r (L 11)) ((up2_n (by omega)).trans ((up2_s _ _ _ _).trans (congrArg (fun r => upd r 8 ((M 11 8) + 1)) rfl)))).trans rfl)) rfl rfl rfl rfl hs1 ?_
  show Ev _ _ 29 _ [] _ _
  refine ev_s rfl ?_
  refine ev_cv (vs := [(.ref 11)]) (rest := []) (rv := (some (.int (zi (endd (ms3 j M)))))) rfl rfl rfl (rd np (ms3 j M) L (by omega) rfl) rfl rfl rfl rfl (rn_ended (M := ms3 j M) _) ?_
  show Ev _ _ 33 _ [(.int (zi (endd (ms3 j M))))] _ _
  refine ev_if rfl rfl (ev_bze (fun c1 => ?_) (fun c1 => ?_))
  · show Ev _ _ 43 _ _ _ _
    iterate 2 refine ev_s rfl ?_
    refine ev_ik (v := 1) rfl (by decide) ?_
    refine ev_s rfl ?_
    rw [nI_1 j]
    refine ev_cv (vs := [(.ref 11), (.int (nI (j + 1)))]) (rest := []) (rv := none) (hp' := (mk np (K (ms3 j M)) L)) rfl rfl rfl (rd np (ms3 j M) L (by omega) rfl) rfl rfl rfl rfl (hKr (ms3 j M) ok3) ?_
    show Ev _ _ 50 _ [] _ _
    rw [show mkS K j M = _ from congrArg (fun q => up2 (hst q (rect M j) (M (14 + j) 9)) (14 + j) 0 0) (cIf_f c1 _ _)]
    exact tl_mkS hj hX hZ hW hDp hb1 hb2 (by rw [(hKs (ms3 j M)).1 (14 + j) (by unfold tch; omega)]; exact ms3_row hj M) _ f
  · show Ev _ _ 36 _ _ _ _
    refine ev_s rfl ?_
    refine ev_cv (vs := [(.ref 11)]) (rest := []) (rv := none) (hp' := (mk np (kbM (ms3 j M)) L)) rfl rfl rfl (rd np (ms3 j M) L (by omega) rfl) rfl rfl rfl rfl (rn_kib (M := ms3 j M) ok3.2.1 (f + 1)) ?_
    show Ev _ _ 40 _ [] _ _
    refine ev_s rfl ?_
    rw [show mkS K j M = _ from congrArg (fun q => up2 (hst q (rect M j) (M (14 + j) 9)) (14 + j) 0 0) (cIf_t c1 _ _)]
    exact tl_mkS hj hX hZ hW hDp hb1 hb2 (by rw [(St_kb (i := j + 1)).1 (14 + j) (by unfold tch; omega)]; exact ms3_row hj M) _ f
