/-! ===== seekInRow, seekInTurn, seek ===== -/
theorem zgt_t {x w a t f : Nat} (h : w < x + a) (hx : x < 2 ^ 20) (hw : w < 2 ^ 20) (ha : a < 2 ^ 20) : zbr .gt (nI x) (nI w - nI a) t f = t := by
  refine if_pos ?_
  rw [Int32.lt_iff_toInt_lt, pk_sub_toInt (by omega) (by omega), nI_toInt (by omega)]
  omega
theorem zgt_f {x w a t f : Nat} (h : x + a ≤ w) (hx : x < 2 ^ 20) (hw : w < 2 ^ 20) (ha : a < 2 ^ 20) : zbr .gt (nI x) (nI w - nI a) t f = f := by
  refine if_neg ?_
  rw [Int32.lt_iff_toInt_lt, pk_sub_toInt (by omega) (by omega), nI_toInt (by omega)]
  omega
theorem tdim {np w h d : Nat} {M : Nat → Nat → Int32} (ok : OKc np w h d M) {j t : Nat} (hj : j < np) (ht : t < 6) : ∃ a b c, (1 ≤ a ∧ a ≤ 12) ∧ (1 ≤ b ∧ b ≤ 12) ∧ (1 ≤ c ∧ c ≤ 12) ∧ tW (M (57 + j)) t = nI a ∧ tH (M (57 + j)) t = nI b ∧ tD (M (57 + j)) t = nI c := by
  obtain ⟨a0, h1, h2, h3⟩ := ok.2.2.2.2.2.2.2.2 j hj 0 (by omega)
  obtain ⟨a1, h4, h5, h6⟩ := ok.2.2.2.2.2.2.2.2 j hj 1 (by omega)
  obtain ⟨a2, h7, h8, h9⟩ := ok.2.2.2.2.2.2.2.2 j hj 2 (by omega)
  match t, ht with
  | 0, _ => exact ⟨a0, a1, a2, ⟨h1, h2⟩, ⟨h4, h5⟩, ⟨h7, h8⟩, h3, h6, h9⟩
  | 1, _ => exact ⟨a2, a1, a0, ⟨h7, h8⟩, ⟨h4, h5⟩, ⟨h1, h2⟩, h9, h6, h3⟩
  | 2, _ => exact ⟨a0, a2, a1, ⟨h1, h2⟩, ⟨h7, h8⟩, ⟨h4, h5⟩, h3, h9, h6⟩
  | 3, _ => exact ⟨a1, a2, a0, ⟨h4, h5⟩, ⟨h7, h8⟩, ⟨h1, h2⟩, h6, h9, h3⟩
  | 4, _ => exact ⟨a2, a0, a1, ⟨h7, h8⟩, ⟨h1, h2⟩, ⟨h4, h5⟩, h9, h3, h6⟩
  | 5, _ => exact ⟨a1, a0, a2, ⟨h4, h5⟩, ⟨h1, h2⟩, ⟨h7, h8⟩, h6, h3, h9⟩
  | t + 6, ht => exact absurd ht (by omega)

set_option maxHeartbeats 4000000 in
theorem lp_row {np : Nat} {L : Nat → Int64} {K : (Nat → Nat → Int32) → (Nat → Nat → Int32)} {w h dd : Nat} {f j : Nat} (hj : j < 6) (hKs : ∀ M, St (j + 1) M (K M)) (hKr : ∀ M, OKc np w h dd M → Rn (f + 4) mX3_seek [.ref 11, .int (nI (j + 1))] (mk np M L) none (mk np (K M) L)) {sx : Int32} {wd dp z : Nat} (hz : z + dp ≤ 12) (hwd : wd ≤ 12) : ∀ n x M, n = w + 1 - (x + wd) → OKc np w h dd M → M (14 + j) 5 = nI wd → M (14 + j) 7 = nI dp → M (14 + j) 10 = nI z → x ≤ 13 → Ev (f + 6) mX3_seekInRow 3 [some (.ref 11), some (.int (nI j)), some (.ref (14 + j)), some (.int sx), some (.int (nI w - nI wd)), some (.int (nI x))] [] (mk np M L) (Qr mX3_seekInRow none (mk np (rowM K j sx n x M) L)) := by
  intro n
  induction n with
  | zero =>
    intro x M hn ok h5 h7 h10 hx13
    have hw12 := ok.2.2.2.2.2.1
    iterate 2 refine ev_s rfl ?_
    refine ev_ic rfl rfl ?_
    rw [show zbr .gt (nI x) ((nI w) - (nI wd)) 78 10 = 78 from zgt_t (by omega) (by omega) (by omega) (by omega)]
    refine ev_rv rfl rfl ?_ ?_
    · rfl
    · rfl
  | succ n ih =>
    intro x M hn ok h5 h7 h10 hx13
    have hw12 := ok.2.2.2.2.2.1
    have hxw : x + wd ≤ w := by omega
    obtain ⟨M1, hM1⟩ : ∃ M1, M1 = up2 M (14 + j) 8 (nI x) := ⟨_, rfl⟩
    have s1 : Sj j M M1 := by rw [hM1]; exact Sj_x hj M _
    have ok1 : OKc np w h dd M1 := ok.st s1.1
    have q5 : M1 (14 + j) 5 = nI wd := (s1.2 5 (by omega) (by omega)).trans h5
    have q7 : M1 (14 + j) 7 = nI dp := (s1.2 7 (by omega) (by omega)).trans h7
    have q10 : M1 (14 + j) 10 = nI z := (s1.2 10 (by omega) (by omega)).trans h10
    have q8 : M1 (14 + j) 8 = nI x := by rw [hM1, up2_s, upd_s]
    have hfr : frb M1 j (nF M1 j 8) (nF M1 j 10) (nF M1 j 5) (nF M1 j 7) = frb M1 j x z wd dp := by rw [nF_of q8 (by omega), nF_of q10 (by omega), nF_of q5 (by omega), nF_of q7 (by omega)]
    have hun : rowM K j sx (n + 1) x M = cIf (cHt sx (nI x)) (cIf (fitC M1 j) (cIf (endd (mkS K j M1)) (mkS K j M1) (rowM K j sx n (x + 1) (mkS K j M1))) (rowM K j sx n (x + 1) M1)) (rowM K j sx n (x + 1) M) := by rw [hM1]; rfl
    have s2 : Sj j M1 (mkS K j M1) := mkS_Sj hKs hj M1
    have hstep := rn_mkS (M := M1) (K := K) (np := np) (L := L) (f := f) hj q8 q10 q5 q7 (by omega) hz hKs hKr ok1
    rw [hun]
    iterate 2 refine ev_s rfl ?_
    refine ev_ic rfl rfl ?_
    rw [show zbr .gt (nI x) ((nI w) - (nI wd)) 78 10 = 10 from zgt_f hxw (by omega) (by omega) (by omega)]
    iterate 2 refine ev_s rfl ?_
    refine ev_cs (vs := [(.int sx), (.int (nI x))]) (rest := []) (rv := (some (.int (zi (cHt sx (nI x)))))) rfl rfl rfl rfl rfl (rn_hasBit _) ?_
    show Ev _ _ 16 _ [(.int (zi (cHt sx (nI x))))] _ _
    refine ev_if rfl rfl (ev_bzn (fun c1 => ?_) (fun c1 => ?_))
    · show Ev _ _ 22 _ _ _ _
      iterate 2 refine ev_s rfl ?_
      refine ev_pf (hp' := (mk np (up2 M (14 + j) 8 (nI x)) L)) (rd np M L (by omega) (cel_trial (by omega) _ _)) rfl rfl (by simp) rfl rfl (mk_setr rfl (cel_trial (by omega) _ _) rfl) ?_
      rw [← hM1]
      iterate 2 refine ev_s rfl ?_
      refine ev_cv (vs := [(.ref 11), (.ref (14 + j))]) (rest := []) (rv := (some (.int (zi (frb M1 j x z wd dp))))) rfl rfl rfl (rd np M1 L (by omega) rfl) rfl rfl rfl rfl (rn_fb (M := M1) hj q8 q10 q5 q7 (by omega) hz _) ?_
      show Ev _ _ 33 _ [(.int (zi (frb M1 j x z wd dp)))] _ _
      refine ev_if rfl rfl (ev_bze (fun c2 => ?_) (fun c2 => ?_))
      · show Ev _ _ 72 _ _ _ _
        refine ev_inc (y := 1) (v := nI (x + 1)) (ls' := [some (.ref 11), some (.int (nI j)), some (.ref (14 + j)), some (.int sx), some (.int ((nI w) - (nI wd))), some (.int (nI (x + 1)))]) rfl rfl (by decide) (nI_1 _) rfl ?_
        refine ev_s rfl ?_
        rw [cIf_t (show cHt sx (nI x) from c1), cIf_f (show ¬ fitC M1 j from fun q => c2 (by rw [← hfr]; exact q.1))]
        exact ih (x + 1) M1 (by omega) ok1 q5 q7 q10 (by omega)
      · show Ev _ _ 36 _ _ _ _
        refine ev_s rfl ?_
        refine ev_gf (rd np M1 L (by omega) rfl) rfl rfl rfl ?_
        refine ev_s rfl ?_
        refine ev_cv (vs := [(.ref 12), (.ref (14 + j))]) (rest := []) (rv := (some (.int (zi (∀ i, i < 6 → ¬ badL M1 14 j i))))) rfl rfl rfl (rd np M1 L (by omega) rfl) rfl rfl rfl rfl (rn_kl (M := M1) hj _) ?_
        show Ev _ _ 44 _ [(.int (zi (∀ i, i < 6 → ¬ badL M1 14 j i)))] _ _
        refine ev_if rfl rfl (ev_bze (fun c3 => ?_) (fun c3 => ?_))
        · show Ev _ _ 72 _ _ _ _
          refine ev_inc (y := 1) (v := nI (x + 1)) (ls' := [some (.ref 11), some (.int (nI j)), some (.ref (14 + j)), some (.int sx), some (.int ((nI w) - (nI wd))), some (.int (nI (x + 1)))]) rfl rfl (by decide) (nI_1 _) rfl ?_
          refine ev_s rfl ?_
          rw [cIf_t (show cHt sx (nI x) from c1), cIf_f (show ¬ fitC M1 j from fun q => c3 q.2.1)]
          exact ih (x + 1) M1 (by omega) ok1 q5 q7 q10 (by omega)
        · show Ev _ _ 47 _ _ _ _
          refine ev_s rfl ?_
          refine ev_gf (rd np M1 L (by omega) rfl) rfl rfl rfl ?_
          refine ev_s rfl ?_
          refine ev_cv (vs := [(.ref 12), (.ref (14 + j))]) (rest := []) (rv := (some (.int (zi (∀ i, i < 6 → ¬ badO M1 14 j i))))) rfl rfl rfl (rd np M1 L (by omega) rfl) rfl rfl rfl rfl (rn_ko (M := M1) hj _) ?_
          show Ev _ _ 55 _ [(.int (zi (∀ i, i < 6 → ¬ badO M1 14 j i)))] _ _
          refine ev_if rfl rfl (ev_bze (fun c4 => ?_) (fun c4 => ?_))
          · show Ev _ _ 72 _ _ _ _
            refine ev_inc (y := 1) (v := nI (x + 1)) (ls' := [some (.ref 11), some (.int (nI j)), some (.ref (14 + j)), some (.int sx), some (.int ((nI w) - (nI wd))), some (.int (nI (x + 1)))]) rfl rfl (by decide) (nI_1 _) rfl ?_
            refine ev_s rfl ?_
            rw [cIf_t (show cHt sx (nI x) from c1), cIf_f (show ¬ fitC M1 j from fun q => c4 q.2.2)]
            exact ih (x + 1) M1 (by omega) ok1 q5 q7 q10 (by omega)
          · show Ev _ _ 58 _ _ _ _
            iterate 3 refine ev_s rfl ?_
            refine ev_cv (vs := [(.ref 11), (.int (nI j)), (.ref (14 + j))]) (rest := []) (rv := none) (hp' := (mk np (mkS K j M1) L)) rfl rfl rfl (rd np M1 L (by omega) rfl) rfl rfl rfl rfl hstep ?_
            show Ev _ _ 64 _ [] _ _
            refine ev_s rfl ?_
            refine ev_cv (vs := [(.ref 11)]) (rest := []) (rv := (some (.int (zi (endd (mkS K j M1)))))) rfl rfl rfl (rd np (mkS K j M1) L (by omega) rfl) rfl rfl rfl rfl (rn_ended (M := mkS K j M1) _) ?_
            show Ev _ _ 68 _ [(.int (zi (endd (mkS K j M1))))] _ _
            refine ev_if rfl rfl (ev_bze (fun c5 => ?_) (fun c5 => ?_))
            · show Ev _ _ 72 _ _ _ _
              refine ev_inc (y := 1) (v := nI (x + 1)) (ls' := [some (.ref 11), some (.int (nI j)), some (.ref (14 + j)), some (.int sx), some (.int ((nI w) - (nI wd))), some (.int (nI (x + 1)))]) rfl rfl (by decide) (nI_1 _) rfl ?_
              refine ev_s rfl ?_
              rw [cIf_t (show cHt sx (nI x) from c1), cIf_t (show fitC M1 j from ⟨by rw [hfr]; exact c2, c3, c4⟩), cIf_f c5]
              exact ih (x + 1) (mkS K j M1) (by omega) (ok1.st s2.1) ((s2.2 5 (by omega) (by omega)).trans q5) ((s2.2 7 (by omega) (by omega)).trans q7) ((s2.2 10 (by omega) (by omega)).trans q10) (by omega)
            · show Ev _ _ 71 _ _ _ _
              refine ev_rv rfl rfl ?_ ?_
              · rfl
              · rw [cIf_t (show cHt sx (nI x) from c1), cIf_t (show fitC M1 j from ⟨by rw [hfr]; exact c2, c3, c4⟩), cIf_t c5]
    · show Ev _ _ 19 _ _ _ _
      refine ev_s rfl ?_
      refine ev_inc (y := 1) (v := nI (x + 1)) (ls' := [some (.ref 11), some (.int (nI j)), some (.ref (14 + j)), some (.int sx), some (.int ((nI w) - (nI wd))), some (.int (nI (x + 1)))]) rfl rfl (by decide) (nI_1 _) rfl ?_
      refine ev_s rfl ?_
      rw [cIf_f (show ¬ cHt sx (nI x) from c1)]
      exact ih (x + 1) M (by omega) ok h5 h7 h10 (by omega)
set_option maxHeartbeats 4000000 in
theorem rn_row {np : Nat} {L : Nat → Int64} {K : (Nat → Nat → Int32) → (Nat → Nat → Int32)} {w h dd : Nat} {f j : Nat} (hj : j < 6) (hKs : ∀ M, St (j + 1) M (K M)) (hKr : ∀ M, OKc np w h dd M → Rn (f + 4) mX3_seek [.ref 11, .int (nI (j + 1))] (mk np M L) none (mk np (K M) L)) {sx : Int32} {wd dp z : Nat} (hz : z + dp ≤ 12) (hwd : wd ≤ 12) {M : Nat → Nat → Int32} (ok : OKc np w h dd M) (h5 : M (14 + j) 5 = nI wd) (h7 : M (14 + j) 7 = nI dp) (h10 : M (14 + j) 10 = nI z) : Rn (f + 6) mX3_seekInRow [.ref 11, .int (nI j), .ref (14 + j), .int sx, .int (nI w - nI wd)] (mk np M L) none (mk np (rowM K j sx (w + 1 - wd) 0 M) L) := by
  unfold Rn
  refine ev_ik (v := 0) rfl (by decide) ?_
  refine ev_s (ls' := [some (.ref 11), some (.int (nI j)), some (.ref (14 + j)), some (.int sx), some (.int ((nI w) - (nI wd))), some (.int 0)]) rfl ?_
  exact lp_row hj hKs hKr hz hwd (w + 1 - wd) 0 M (by omega) ok h5 h7 h10 (by omega)
set_option maxHeartbeats 4000000 in
theorem lp_zl {np : Nat} {L : Nat → Int64} {K : (Nat → Nat → Int32) → (Nat → Nat → Int32)} {w h dd : Nat} {f j : Nat} (hj : j < 6) (hKs : ∀ M, St (j + 1) M (K M)) (hKr : ∀ M, OKc np w h dd M → Rn (f + 4) mX3_seek [.ref 11, .int (nI (j + 1))] (mk np M L) none (mk np (K M) L)) {sx sy sz : Int32} {wd hh dp y : Nat} (hwd : wd ≤ 12) (hdp : dp ≤ 12) {Q : zCf → Prop} : ∀ n z M, n = dd + 1 - (z + dp) → z ≤ 13 → OKc np w h dd M → M (14 + j) 5 = nI wd → M (14 + j) 7 = nI dp → (∀ v10, Ev (f + 7) mX3_seekInTurn 119 [some (.ref 11), some (.int (nI j)), some (.ref (14 + j)), some (.int sx), some (.int sy), some (.int sz), some (.int (nI w - nI wd)), some (.int (nI h - nI hh)), some (.int (nI dd - nI dp)), some (.int (nI y)), v10] [] (mk np (zlM K j sx sz (w + 1 - wd) y n z M) L) Q) → Ev (f + 7) mX3_seekInTurn 68 [some (.ref 11), some (.int (nI j)), some (.ref (14 + j)), some (.int sx), some (.int sy), some (.int sz), some (.int (nI w - nI wd)), some (.int (nI h - nI hh)), some (.int (nI dd - nI dp)), some (.int (nI y)), some (.int (nI z))] [] (mk np M L) Q := by
  intro n
  induction n with
  | zero =>
    intro z M hn hz13 ok h5 h7 hK
    have hd12 := ok.2.2.2.2.2.2.2.1
    iterate 2 refine ev_s rfl ?_
    refine ev_ic rfl rfl ?_
    rw [show zbr .gt (nI z) ((nI dd) - (nI dp)) 119 75 = 119 from zgt_t (by omega) (by omega) (by omega) (by omega)]
    exact hK _
  | succ n ih =>
    intro z M hn hz13 ok h5 h7 hK
    have hd12 := ok.2.2.2.2.2.2.2.1
    have hzd : z + dp ≤ dd := by omega
    have hun : zlM K j sx sz (w + 1 - wd) y (n + 1) z M = cIf (endd M) M (cIf (cHt sz (nI z)) (zlM K j sx sz (w + 1 - wd) y n (z + 1) (rowM K j sx (w + 1 - wd) 0 (up2 (up2 M (14 + j) 9 (nI y)) (14 + j) 10 (nI z)))) (zlM K j sx sz (w + 1 - wd) y n (z + 1) M)) := rfl
    rw [hun] at hK
    obtain ⟨M1, hM1⟩ : ∃ M1, M1 = up2 (up2 M (14 + j) 9 (nI y)) (14 + j) 10 (nI z) := ⟨_, rfl⟩
    have s1 : Sl j M M1 := by rw [hM1]; exact Sl_yz hj M _ _
    rw [← hM1] at hK
    have ok1 : OKc np w h dd M1 := ok.st s1.1
    have q5 : M1 (14 + j) 5 = nI wd := (s1.2 5 (by omega)).trans h5
    have q7 : M1 (14 + j) 7 = nI dp := (s1.2 7 (by omega)).trans h7
    have q10 : M1 (14 + j) 10 = nI z := by rw [hM1, up2_s, upd_s]
    have hrow := rn_row (K := K) (np := np) (L := L) (f := f) (sx := sx) hj hKs hKr (show z + dp ≤ 12 by omega) hwd ok1 q5 q7 q10
    have s2 : Sl j M1 (rowM K j sx (w + 1 - wd) 0 M1) := (rowM_Sj hKs hj sx _ 0 M1).sl
    iterate 2 refine ev_s rfl ?_
    refine ev_ic rfl rfl ?_
    rw [show zbr .gt (nI z) ((nI dd) - (nI dp)) 119 75 = 75 from zgt_f hzd (by omega) (by omega) (by omega)]
    refine ev_s rfl ?_
    refine ev_cv (vs := [(.ref 11)]) (rest := []) (rv := (some (.int (zi (endd M))))) rfl rfl rfl (rd np M L (by omega) rfl) rfl rfl rfl rfl (rn_ended _) ?_
    show Ev _ _ 79 _ [(.int (zi (endd M)))] _ _
    refine ev_if rfl rfl (ev_bzn (fun c1 => ?_) (fun c1 => ?_))
    · show Ev _ _ 119 _ _ _ _
      rw [cIf_t c1] at hK
      exact hK _
    · show Ev _ _ 82 _ _ _ _
      iterate 2 refine ev_s rfl ?_
      refine ev_cs (vs := [(.int sz), (.int (nI z))]) (rest := []) (rv := (some (.int (zi (cHt sz (nI z)))))) rfl rfl rfl rfl rfl (rn_hasBit _) ?_
      show Ev _ _ 89 _ [(.int (zi (cHt sz (nI z))))] _ _
      refine ev_if rfl rfl (ev_bze (fun c2 => ?_) (fun c2 => ?_))
      · show Ev _ _ 113 _ _ _ _
        refine ev_inc (y := 1) (v := nI (z + 1)) (ls' := [some (.ref 11), some (.int (nI j)), some (.ref (14 + j)), some (.int sx), some (.int sy), some (.int sz), some (.int ((nI w) - (nI wd))), some (.int ((nI h) - (nI hh))), some (.int ((nI dd) - (nI dp))), some (.int (nI y)), some (.int (nI (z + 1)))]) rfl rfl (by decide) (nI_1 _) rfl ?_
        refine ev_s rfl ?_
        rw [cIf_f c1, cIf_f c2] at hK
        exact ih (z + 1) M (by omega) (by omega) ok h5 h7 hK
      · show Ev _ _ 92 _ _ _ _
        iterate 2 refine ev_s rfl ?_
        refine ev_pf (hp' := (mk np (up2 M (14 + j) 9 (nI y)) L)) (rd np M L (by omega) (cel_trial (by omega) _ _)) rfl rfl (by simp) rfl rfl (mk_setr rfl (cel_trial (by omega) _ _) rfl) ?_
        iterate 2 refine ev_s rfl ?_
        refine ev_pf (hp' := (mk np (up2 (up2 M (14 + j) 9 (nI y)) (14 + j) 10 (nI z)) L)) (rd np (up2 M (14 + j) 9 (nI y)) L (by omega) ((congrArg (fun r => cel np (14 + j) r (L (14 + j))) ((up2_s _ _ _ _).trans (congrArg (fun r => upd r 9 (nI y)) rfl))).trans (cel_trial (by omega) _ _))) rfl rfl (by simp) rfl rfl (mk_setr ((up2_s _ _ _ _).trans (congrArg (fun r => upd r 9 (nI y)) rfl)) (cel_trial (by omega) _ _) rfl) ?_
        rw [← hM1]
        iterate 5 refine ev_s rfl ?_
        refine ev_cv (vs := [(.ref 11), (.int (nI j)), (.ref (14 + j)), (.int sx), (.int ((nI w) - (nI wd)))]) (rest := []) (rv := none) (hp' := (mk np (rowM K j sx (w + 1 - wd) 0 M1) L)) rfl rfl rfl (rd np M1 L (by omega) rfl) rfl rfl rfl rfl hrow ?_
        show Ev _ _ 113 _ [] _ _
        refine ev_inc (y := 1) (v := nI (z + 1)) (ls' := [some (.ref 11), some (.int (nI j)), some (.ref (14 + j)), some (.int sx), some (.int sy), some (.int sz), some (.int ((nI w) - (nI wd))), some (.int ((nI h) - (nI hh))), some (.int ((nI dd) - (nI dp))), some (.int (nI y)), some (.int (nI (z + 1)))]) rfl rfl (by decide) (nI_1 _) rfl ?_
        refine ev_s rfl ?_
        rw [cIf_f c1, cIf_t c2] at hK
        exact ih (z + 1) _ (by omega) (by omega) (ok1.st s2.1) ((s2.2 5 (by omega)).trans q5) ((s2.2 7 (by omega)).trans q7) hK
set_option maxHeartbeats 4000000 in
theorem lp_yl {np : Nat} {L : Nat → Int64} {K : (Nat → Nat → Int32) → (Nat → Nat → Int32)} {w h dd : Nat} {f j : Nat} (hj : j < 6) (hKs : ∀ M, St (j + 1) M (K M)) (hKr : ∀ M, OKc np w h dd M → Rn (f + 4) mX3_seek [.ref 11, .int (nI (j + 1))] (mk np M L) none (mk np (K M) L)) {sx sy sz : Int32} {wd hh dp : Nat} (hwd : wd ≤ 12) (hdp : dp ≤ 12) (hhh : hh ≤ 12) : ∀ n y M v10, n = h + 1 - (y + hh) → y ≤ 13 → OKc np w h dd M → M (14 + j) 5 = nI wd → M (14 + j) 7 = nI dp → Ev (f + 7) mX3_seekInTurn 45 [some (.ref 11), some (.int (nI j)), some (.ref (14 + j)), some (.int sx), some (.int sy), some (.int sz), some (.int (nI w - nI wd)), some (.int (nI h - nI hh)), some (.int (nI dd - nI dp)), some (.int (nI y)), v10] [] (mk np M L) (Qr mX3_seekInTurn none (mk np (ylM K j sx sy sz (w + 1 - wd) (dd + 1 - dp) n y M) L)) := by
  intro n
  induction n with
  | zero =>
    intro y M v10 hn hy13 ok h5 h7
    have hh12 := ok.2.2.2.2.2.2.1
    iterate 2 refine ev_s rfl ?_
    refine ev_ic rfl rfl ?_
    rw [show zbr .gt (nI y) ((nI h) - (nI hh)) 125 52 = 125 from zgt_t (by omega) (by omega) (by omega) (by omega)]
    refine ev_rv rfl rfl ?_ ?_
    · rfl
    · rfl
  | succ n ih =>
    intro y M v10 hn hy13 ok h5 h7
    have hh12 := ok.2.2.2.2.2.2.1
    have hyh : y + hh ≤ h := by omega
    have hun : ylM K j sx sy sz (w + 1 - wd) (dd + 1 - dp) (n + 1) y M = cIf (cHt sy (nI y)) (ylM K j sx sy sz (w + 1 - wd) (dd + 1 - dp) n (y + 1) (zlM K j sx sz (w + 1 - wd) y (dd + 1 - dp) 0 M)) (ylM K j sx sy sz (w + 1 - wd) (dd + 1 - dp) n (y + 1) M) := rfl
    rw [hun]
    have s2 : Sl j M (zlM K j sx sz (w + 1 - wd) y (dd + 1 - dp) 0 M) := zlM_Sl hKs hj sx sz _ y _ 0 M
    iterate 2 refine ev_s rfl ?_
    refine ev_ic rfl rfl ?_
    rw [show zbr .gt (nI y) ((nI h) - (nI hh)) 125 52 = 52 from zgt_f hyh (by omega) (by omega) (by omega)]
    iterate 2 refine ev_s rfl ?_
    refine ev_cs (vs := [(.int sy), (.int (nI y))]) (rest := []) (rv := (some (.int (zi (cHt sy (nI y)))))) rfl rfl rfl rfl rfl (rn_hasBit _) ?_
    show Ev _ _ 59 _ [(.int (zi (cHt sy (nI y))))] _ _
    refine ev_if rfl rfl (ev_bzn (fun c1 => ?_) (fun c1 => ?_))
    · show Ev _ _ 65 _ _ _ _
      refine ev_ik (v := 0) rfl (by decide) ?_
      refine ev_s (ls' := [some (.ref 11), some (.int (nI j)), some (.ref (14 + j)), some (.int sx), some (.int sy), some (.int sz), some (.int ((nI w) - (nI wd))), some (.int ((nI h) - (nI hh))), some (.int ((nI dd) - (nI dp))), some (.int (nI y)), some (.int 0)]) rfl ?_
      rw [cIf_t c1]
      refine lp_zl hj hKs hKr hwd hdp (dd + 1 - dp) 0 M (by omega) (by omega) ok h5 h7 (fun v11 => ?_)
      refine ev_inc (y := 1) (v := nI (y + 1)) (ls' := [some (.ref 11), some (.int (nI j)), some (.ref (14 + j)), some (.int sx), some (.int sy), some (.int sz), some (.int ((nI w) - (nI wd))), some (.int ((nI h) - (nI hh))), some (.int ((nI dd) - (nI dp))), some (.int (nI (y + 1))), v11]) rfl rfl (by decide) (nI_1 _) rfl ?_
      refine ev_s rfl ?_
      exact ih (y + 1) _ _ (by omega) (by omega) (ok.st s2.1) ((s2.2 5 (by omega)).trans h5) ((s2.2 7 (by omega)).trans h7)
    · show Ev _ _ 62 _ _ _ _
      refine ev_s rfl ?_
      refine ev_inc (y := 1) (v := nI (y + 1)) (ls' := [some (.ref 11), some (.int (nI j)), some (.ref (14 + j)), some (.int sx), some (.int sy), some (.int sz), some (.int ((nI w) - (nI wd))), some (.int ((nI h) - (nI hh))), some (.int ((nI dd) - (nI dp))), some (.int (nI (y + 1))), v10]) rfl rfl (by decide) (nI_1 _) rfl ?_
      refine ev_s rfl ?_
      rw [cIf_f c1]
      exact ih (y + 1) M _ (by omega) (by omega) ok h5 h7
set_option maxHeartbeats 4000000 in
theorem rn_tr {np : Nat} {L : Nat → Int64} {K : (Nat → Nat → Int32) → (Nat → Nat → Int32)} {w h dd : Nat} {f j : Nat} (hj : j < 6) (hKs : ∀ M, St (j + 1) M (K M)) (hKr : ∀ M, OKc np w h dd M → Rn (f + 4) mX3_seek [.ref 11, .int (nI (j + 1))] (mk np M L) none (mk np (K M) L)) {sx sy sz : Int32} {wd hh dp : Nat} (hwd : wd ≤ 12) (hdp : dp ≤ 12) (hhh : hh ≤ 12) {M : Nat → Nat → Int32} (ok : OKc np w h dd M) (h5 : M (14 + j) 5 = nI wd) (h6 : M (14 + j) 6 = nI hh) (h7 : M (14 + j) 7 = nI dp) : Rn (f + 7) mX3_seekInTurn [.ref 11, .int (nI j), .ref (14 + j), .int sx, .int sy, .int sz] (mk np M L) none (mk np (trM K w h dd j sx sy sz M) L) := by
  have e9 : trM K w h dd j sx sy sz M = ylM K j sx sy sz (w + 1 - wd) (dd + 1 - dp) (h + 1 - hh) 0 M := by
    unfold trM cnt
    rw [nF_of h5 (by omega), nF_of h6 (by omega), nF_of h7 (by omega)]
  rw [e9]
  have g0 := ok.2.2.1
  have g1 := ok.2.2.2.1
  have g2 := ok.2.2.2.2.1
  unfold Rn
  refine ev_s rfl ?_
  refine ev_gf (rd np M L (by omega) rfl) rfl rfl rfl ?_
  refine ev_gf (rd np M L (by omega) rfl) rfl rfl rfl ?_
  rw [g0]
  refine ev_s rfl ?_
  refine ev_gf (rd np M L (by omega) (cel_trial (by omega) _ _)) rfl rfl rfl ?_
  rw [h5]
  refine ev_s rfl ?_
  refine ev_s (ls' := [some (.ref 11), some (.int (nI j)), some (.ref (14 + j)), some (.int sx), some (.int sy), some (.int sz), some (.int ((nI w) - (nI wd))), none, none, none, none]) rfl ?_
  refine ev_s rfl ?_
  refine ev_gf (rd np M L (by omega) rfl) rfl rfl rfl ?_
  refine ev_gf (rd np M L (by omega) rfl) rfl rfl rfl ?_
  rw [g1]
  refine ev_s rfl ?_
  refine ev_gf (rd np M L (by omega) (cel_trial (by omega) _ _)) rfl rfl rfl ?_
  rw [h6]
  refine ev_s rfl ?_
  refine ev_s (ls' := [some (.ref 11), some (.int (nI j)), some (.ref (14 + j)), some (.int sx), some (.int sy), some (.int sz), some (.int ((nI w) - (nI wd))), some (.int ((nI h) - (nI hh))), none, none, none]) rfl ?_
  refine ev_s rfl ?_
  refine ev_gf (rd np M L (by omega) rfl) rfl rfl rfl ?_
  refine ev_gf (rd np M L (by omega) rfl) rfl rfl rfl ?_
  rw [g2]
  refine ev_s rfl ?_
  refine ev_gf (rd np M L (by omega) (cel_trial (by omega) _ _)) rfl rfl rfl ?_
  rw [h7]
  refine ev_s rfl ?_
  refine ev_s (ls' := [some (.ref 11), some (.int (nI j)), some (.ref (14 + j)), some (.int sx), some (.int sy), some (.int sz), some (.int ((nI w) - (nI wd))), some (.int ((nI h) - (nI hh))), some (.int ((nI dd) - (nI dp))), none, none]) rfl ?_
  refine ev_ik (v := 0) rfl (by decide) ?_
  refine ev_s (ls' := [some (.ref 11), some (.int (nI j)), some (.ref (14 + j)), some (.int sx), some (.int sy), some (.int sz), some (.int ((nI w) - (nI wd))), some (.int ((nI h) - (nI hh))), some (.int ((nI dd) - (nI dp))), some (.int 0), none]) rfl ?_
  exact lp_yl hj hKs hKr hwd hdp hhh (h + 1 - hh) 0 M none (by omega) (by omega) ok h5 h7
set_option maxHeartbeats 4000000 in
theorem lp_tl {np : Nat} {L : Nat → Int64} {K : (Nat → Nat → Int32) → (Nat → Nat → Int32)} {w h dd : Nat} {f j : Nat} (hj : j < 6) (hKs : ∀ M, St (j + 1) M (K M)) (hKr : ∀ M, OKc np w h dd M → Rn (f + 4) mX3_seek [.ref 11, .int (nI (j + 1))] (mk np M L) none (mk np (K M) L)) (hjn : j < np) {sx sy sz : Int32} {Q : zCf → Prop} : ∀ n t M, n + t = 6 → OKc np w h dd M → (∀ v7, Ev (f + 8) mX3_seek 128 [some (.ref 11), some (.int (nI j)), some (.ref (57 + j)), some (.ref (14 + j)), some (.int sx), some (.int sy), some (.int sz), v7] [] (mk np (tlM K w h dd j sx sy sz n t M) L) Q) → Ev (f + 8) mX3_seek 80 [some (.ref 11), some (.int (nI j)), some (.ref (57 + j)), some (.ref (14 + j)), some (.int sx), some (.int sy), some (.int sz), some (.int (nI t))] [] (mk np M L) Q := by
  intro n
  induction n with
  | zero =>
    intro t M hn ok hK
    obtain rfl : t = 6 := by omega
    refine ev_s rfl ?_
    refine ev_bi (v := 6) rfl (by decide) ?_
    refine ev_ic rfl rfl ?_
    rw [show zbr .ge (nI 6) 6 128 87 = 128 from zge_t (n := 6) (by decide) (by omega) (by decide)]
    exact hK _
  | succ n ih =>
    intro t M hn ok hK
    have ht : t < 6 := by omega
    have hun : tlM K w h dd j sx sy sz (n + 1) t M = cIf (endd M) M (cIf (cHt (M (57 + j) 7) (nI t)) (tlM K w h dd j sx sy sz n (t + 1) (trM K w h dd j sx sy sz (toM M (14 + j) (57 + j) t))) (tlM K w h dd j sx sy sz n (t + 1) M)) := rfl
    rw [hun] at hK
    obtain ⟨M1, hM1⟩ : ∃ M1, M1 = toM M (14 + j) (57 + j) t := ⟨_, rfl⟩
    rw [← hM1] at hK
    have s1 : St j M M1 := by rw [hM1]; exact St_to (Nat.le_refl _) hj
    have ok1 : OKc np w h dd M1 := ok.st s1
    obtain ⟨wd, hh, dp, ⟨b1, b2⟩, ⟨b3, b4⟩, ⟨b5, b6⟩, e5, e6, e7⟩ := tdim ok hjn ht
    have q5 : M1 (14 + j) 5 = nI wd := by rw [hM1]; unfold toM; rw [up2_s, upd_n (by omega), up2_s, upd_n (by omega), up2_s, upd_s]; exact e5
    have q6 : M1 (14 + j) 6 = nI hh := by rw [hM1]; unfold toM; rw [up2_s, upd_n (by omega), up2_s, upd_s]; exact e6
    have q7 : M1 (14 + j) 7 = nI dp := by rw [hM1]; unfold toM; rw [up2_s, upd_s]; exact e7
    have hto : Rn (f + 7) mX2_turnTo [.ref (14 + j), .ref (57 + j), .int (nI t)] (mk np M L) none (mk np M1 L) := by rw [hM1]; exact rn_turnTo hj hjn ht _
    have htr := rn_tr (K := K) (np := np) (L := L) (f := f) (sx := sx) (sy := sy) (sz := sz) hj hKs hKr b2 b6 b4 ok1 q5 q6 q7
    have s2 : St j M1 (trM K w h dd j sx sy sz M1) := trM_St hKs hj w h dd sx sy sz M1
    refine ev_s rfl ?_
    refine ev_bi (v := 6) rfl (by decide) ?_
    refine ev_ic rfl rfl ?_
    rw [show zbr .ge (nI t) 6 128 87 = 87 from zge_f (n := 6) (by decide) ht (by decide)]
    refine ev_s rfl ?_
    refine ev_cv (vs := [(.ref 11)]) (rest := []) (rv := (some (.int (zi (endd M))))) rfl rfl rfl (rd np M L (by omega) rfl) rfl rfl rfl rfl (rn_ended _) ?_
    show Ev _ _ 91 _ [(.int (zi (endd M)))] _ _
    refine ev_if rfl rfl (ev_bzn (fun c1 => ?_) (fun c1 => ?_))
    · show Ev _ _ 128 _ _ _ _
      rw [cIf_t c1] at hK
      exact hK _
    · show Ev _ _ 94 _ _ _ _
      iterate 2 refine ev_s rfl ?_
      refine ev_cv (vs := [(.ref (57 + j)), (.int (nI t))]) (rest := []) (rv := (some (.int (zi (cHt (M (57 + j) 7) (nI t)))))) rfl rfl rfl (rd np M L (by omega) (cel_piece _ _)) rfl rfl rfl rfl (rn_hasTurn (f := M (57 + j)) (rd np M L (by omega) (cel_piece _ _)) _) ?_
      show Ev _ _ 100 _ [(.int (zi (cHt (M (57 + j) 7) (nI t))))] _ _
      refine ev_if rfl rfl (ev_bze (fun c2 => ?_) (fun c2 => ?_))
      · show Ev _ _ 122 _ _ _ _
        refine ev_inc (y := 1) (v := nI (t + 1)) (ls' := [some (.ref 11), some (.int (nI j)), some (.ref (57 + j)), some (.ref (14 + j)), some (.int sx), some (.int sy), some (.int sz), some (.int (nI (t + 1)))]) rfl rfl (by decide) (nI_1 _) rfl ?_
        refine ev_s rfl ?_
        rw [cIf_f c1, cIf_f c2] at hK
        exact ih (t + 1) M (by omega) ok hK
      · show Ev _ _ 103 _ _ _ _
        iterate 3 refine ev_s rfl ?_
        refine ev_cv (vs := [(.ref (14 + j)), (.ref (57 + j)), (.int (nI t))]) (rest := []) (rv := none) (hp' := (mk np M1 L)) rfl rfl rfl (rd np M L (by omega) (cel_trial (by omega) _ _)) rfl rfl rfl rfl hto ?_
        show Ev _ _ 110 _ [] _ _
        iterate 6 refine ev_s rfl ?_
        refine ev_cv (vs := [(.ref 11), (.int (nI j)), (.ref (14 + j)), (.int sx), (.int sy), (.int sz)]) (rest := []) (rv := none) (hp' := (mk np (trM K w h dd j sx sy sz M1) L)) rfl rfl rfl (rd np M1 L (by omega) rfl) rfl rfl rfl rfl htr ?_
        show Ev _ _ 122 _ [] _ _
        refine ev_inc (y := 1) (v := nI (t + 1)) (ls' := [some (.ref 11), some (.int (nI j)), some (.ref (57 + j)), some (.ref (14 + j)), some (.int sx), some (.int sy), some (.int sz), some (.int (nI (t + 1)))]) rfl rfl (by decide) (nI_1 _) rfl ?_
        refine ev_s rfl ?_
        rw [cIf_f c1, cIf_t c2] at hK
        exact ih (t + 1) _ (by omega) (ok1.st s2) hK
set_option maxHeartbeats 4000000 in
theorem rn_seek1 {np : Nat} {L : Nat → Int64} {K : (Nat → Nat → Int32) → (Nat → Nat → Int32)} {w h dd : Nat} {f j : Nat} (hj : j < 6) (hKs : ∀ M, St (j + 1) M (K M)) (hKr : ∀ M, OKc np w h dd M → Rn (f + 4) mX3_seek [.ref 11, .int (nI (j + 1))] (mk np M L) none (mk np (K M) L)) (hjn : j < np) {M : Nat → Nat → Int32} (ok : OKc np w h dd M) : Rn (f + 8) mX3_seek [.ref 11, .int (nI j)] (mk np M L) none (mk np (seM K w h dd j M) L) := by
  unfold seM
  have s0 := tlM_St hKs hj w h dd (stS M 0 6) (stS M 1 6) (stS M 2 6) 6 0 M
  obtain ⟨M2, hM2⟩ : ∃ M2, M2 = tlM K w h dd j (stS M 0 6) (stS M 1 6) (stS M 2 6) 6 0 M := ⟨_, rfl⟩
  rw [← hM2] at s0 ⊢
  have ok2 : OKc np w h dd M2 := ok.st s0
  unfold Rn
  refine ev_s rfl ?_
  refine ev_if rfl rfl ?_
  rw [show zbr .lt (nI j) 0 34 4 = 4 from zlt_f (by omega)]
  iterate 2 refine ev_s rfl ?_
  refine ev_gf (rd np M L (by omega) rfl) rfl rfl rfl ?_
  refine ev_al (v := 6) (rd np M L (by omega) rfl) rfl rfl rfl ?_
  refine ev_ic rfl rfl ?_
  rw [show zbr .ge (nI j) 6 34 13 = 13 from zge_f (n := 6) (by decide) hj (by decide)]
  iterate 2 refine ev_s rfl ?_
  refine ev_gf (rd np M L (by omega) rfl) rfl rfl rfl ?_
  refine ev_gf (rd np M L (by omega) rfl) rfl rfl rfl ?_
  refine ev_al (v := 6) (rd np M L (by omega) rfl) rfl rfl rfl ?_
  refine ev_ic rfl rfl ?_
  rw [show zbr .ge (nI j) 6 34 25 = 25 from zge_f (n := 6) (by decide) hj (by decide)]
  refine ev_s rfl ?_
  refine ev_gf (rd np M L (by omega) rfl) rfl rfl rfl ?_
  refine ev_s rfl ?_
  refine ev_aa (v := (.ref (57 + j))) (rd np M L (by omega) rfl) rfl rfl (zin_nI hj (by decide)) (by rw [if_pos hjn]; rfl) ?_
  iterate 2 refine ev_s rfl ?_
  refine ev_gf (rd np M L (by omega) rfl) rfl rfl rfl ?_
  refine ev_s rfl ?_
  refine ev_aa (v := (.ref (57 + j))) (rd np M L (by omega) rfl) rfl rfl (zin_nI hj (by decide)) (by rw [if_pos hjn]; rfl) ?_
  refine ev_s (ls' := [some (.ref 11), some (.int (nI j)), some (.ref (57 + j)), none, none, none, none, none]) rfl ?_
  refine ev_s rfl ?_
  refine ev_gf (rd np M L (by omega) rfl) rfl rfl rfl ?_
  refine ev_gf (rd np M L (by omega) rfl) rfl rfl rfl ?_
  refine ev_s rfl ?_
  refine ev_aa (v := (.ref (14 + j))) (rd np M L (by omega) rfl) rfl rfl (zin_nI hj (by decide)) (by rw [if_pos (by omega)]; rfl) ?_
  refine ev_s (ls' := [some (.ref 11), some (.int (nI j)), some (.ref (57 + j)), some (.ref (14 + j)), none, none, none, none]) rfl ?_
  refine ev_s rfl ?_
  refine ev_ik (v := 0) rfl (by decide) ?_
  refine ev_cv (vs := [(.ref 11), (.int 0)]) (rest := []) (rv := (some (.int (stS M 0 6)))) rfl rfl rfl (rd np M L (by omega) rfl) rfl rfl rfl rfl (rn_st0 _) ?_
  show Ev _ _ 61 _ [(.int (stS M 0 6))] _ _
  refine ev_s (ls' := [some (.ref 11), some (.int (nI j)), some (.ref (57 + j)), some (.ref (14 + j)), some (.int (stS M 0 6)), none, none, none]) rfl ?_
  refine ev_s rfl ?_
  refine ev_ik (v := 1) rfl (by decide) ?_
  refine ev_cv (vs := [(.ref 11), (.int 1)]) (rest := []) (rv := (some (.int (stS M 1 6)))) rfl rfl rfl (rd np M L (by omega) rfl) rfl rfl rfl rfl (rn_st1 _) ?_
  show Ev _ _ 68 _ [(.int (stS M 1 6))] _ _
  refine ev_s (ls' := [some (.ref 11), some (.int (nI j)), some (.ref (57 + j)), some (.ref (14 + j)), some (.int (stS M 0 6)), some (.int (stS M 1 6)), none, none]) rfl ?_
  refine ev_s rfl ?_
  refine ev_ik (v := 2) rfl (by decide) ?_
  refine ev_cv (vs := [(.ref 11), (.int 2)]) (rest := []) (rv := (some (.int (stS M 2 6)))) rfl rfl rfl (rd np M L (by omega) rfl) rfl rfl rfl rfl (rn_st2 _) ?_
  show Ev _ _ 75 _ [(.int (stS M 2 6))] _ _
  refine ev_s (ls' := [some (.ref 11), some (.int (nI j)), some (.ref (57 + j)), some (.ref (14 + j)), some (.int (stS M 0 6)), some (.int (stS M 1 6)), some (.int (stS M 2 6)), none]) rfl ?_
  refine ev_ik (v := 0) rfl (by decide) ?_
  refine ev_s (ls' := [some (.ref 11), some (.int (nI j)), some (.ref (57 + j)), some (.ref (14 + j)), some (.int (stS M 0 6)), some (.int (stS M 1 6)), some (.int (stS M 2 6)), some (.int 0)]) rfl ?_
  refine lp_tl hj hKs hKr hjn 6 0 M (by omega) ok (fun v7 => ?_)
  rw [← hM2]
  refine ev_s rfl ?_
  refine ev_cv (vs := [(.ref 11)]) (rest := []) (rv := (some (.int (zi (endd M2))))) rfl rfl rfl (rd np M2 L (by omega) rfl) rfl rfl rfl rfl (rn_ended (M := M2) _) ?_
  show Ev _ _ 132 _ [(.int (zi (endd M2)))] _ _
  refine ev_if rfl rfl (ev_bzn (fun c1 => ?_) (fun c1 => ?_))
  · show Ev _ _ 142 _ _ _ _
    refine ev_rv rfl rfl ?_ ?_
    · rfl
    · rw [cIf_t c1]
  · show Ev _ _ 135 _ _ _ _
    iterate 2 refine ev_s rfl ?_
    refine ev_ik (v := 1) rfl (by decide) ?_
    refine ev_s rfl ?_
    rw [nI_1 j]
    refine ev_cv (vs := [(.ref 11), (.int (nI (j + 1)))]) (rest := []) (rv := none) (hp' := (mk np (K M2) L)) rfl rfl rfl (rd np M2 L (by omega) rfl) rfl rfl rfl rfl (Rn_up (Rn_up (Rn_up (hKr M2 ok2)))) ?_
    show Ev _ _ 142 _ [] _ _
    refine ev_rv rfl rfl ?_ ?_
    · rfl
    · rw [cIf_f c1]
set_option maxHeartbeats 4000000 in
theorem rn_seek0 {np : Nat} {M : Nat → Nat → Int32} {L : Nat → Int64} (hn : np ≤ 6) (hz : Bz M) (f : Nat) : Rn (f + 4) mX3_seek [.ref 11, .int (nI np)] (mk np M L) none (mk np (kbM M) L) := by
  unfold Rn
  by_cases h6 : np = 6
  · subst h6
    refine ev_s rfl ?_
    refine ev_if rfl rfl ?_
    rw [show zbr .lt (nI 6) 0 34 4 = 4 from zlt_f (by omega)]
    iterate 2 refine ev_s rfl ?_
    refine ev_gf (rd 6 M L (by omega) rfl) rfl rfl rfl ?_
    refine ev_al (v := 6) (rd 6 M L (by omega) rfl) rfl rfl rfl ?_
    refine ev_ic rfl rfl ?_
    rw [show zbr .ge (nI 6) 6 34 13 = 34 from zge_t (n := 6) (by decide) (by omega) (by omega)]
    refine ev_s rfl ?_
    refine ev_cv (vs := [(.ref 11)]) (rest := []) (rv := none) (hp' := (mk 6 (kbM M) L)) rfl rfl rfl (rd 6 M L (by omega) rfl) rfl rfl rfl rfl (rn_kib hz f) ?_
    show Ev _ _ 38 _ [] _ _
    refine ev_rv rfl rfl ?_ ?_
    · rfl
    · rfl
  · have h7 : np < 6 := by omega
    refine ev_s rfl ?_
    refine ev_if rfl rfl ?_
    rw [show zbr .lt (nI np) 0 34 4 = 4 from zlt_f (by omega)]
    iterate 2 refine ev_s rfl ?_
    refine ev_gf (rd np M L (by omega) rfl) rfl rfl rfl ?_
    refine ev_al (v := 6) (rd np M L (by omega) rfl) rfl rfl rfl ?_
    refine ev_ic rfl rfl ?_
    rw [show zbr .ge (nI np) 6 34 13 = 13 from zge_f (n := 6) (by decide) h7 (by decide)]
    iterate 2 refine ev_s rfl ?_
    refine ev_gf (rd np M L (by omega) rfl) rfl rfl rfl ?_
    refine ev_gf (rd np M L (by omega) rfl) rfl rfl rfl ?_
    refine ev_al (v := 6) (rd np M L (by omega) rfl) rfl rfl rfl ?_
    refine ev_ic rfl rfl ?_
    rw [show zbr .ge (nI np) 6 34 25 = 25 from zge_f (n := 6) (by decide) h7 (by decide)]
    refine ev_s rfl ?_
    refine ev_gf (rd np M L (by omega) rfl) rfl rfl rfl ?_
    refine ev_s rfl ?_
    refine ev_aa (v := .null) (rd np M L (by omega) rfl) rfl rfl (zin_nI h7 (by decide)) (by rw [if_neg (Nat.lt_irrefl _)]; rfl) ?_
    iterate 2 refine ev_s rfl ?_
    refine ev_cv (vs := [(.ref 11)]) (rest := []) (rv := none) (hp' := (mk np (kbM M) L)) rfl rfl rfl (rd np M L (by omega) rfl) rfl rfl rfl rfl (rn_kib hz f) ?_
    show Ev _ _ 38 _ [] _ _
    refine ev_rv rfl rfl ?_ ?_
    · rfl
    · rfl
theorem rn_seek {np w h dd : Nat} {L : Nat → Int64} : ∀ (r j : Nat) (M : Nat → Nat → Int32), j + r = np → OKc np w h dd M → Rn (4 * r + 4) mX3_seek [.ref 11, .int (nI j)] (mk np M L) none (mk np (skM w h dd r j M) L)
  | 0, j, M, hr, ok => by
    obtain rfl : j = np := by omega
    exact rn_seek0 ok.1 ok.2.1 0
  | r + 1, j, M, hr, ok => by
    have h6 := ok.1
    exact rn_seek1 (f := 4 * r) (by omega) (fun M => skM_St w h dd r (j + 1) M (by omega)) (fun M ok => rn_seek r (j + 1) M (by omega) ok) (by omega) ok
