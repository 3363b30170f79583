-- lk: 42 43
/-! ===== LoadSpace.piece ===== -/
def upR (M : Nat → Nat → Int32) (h : Nat) (f : Nat → Int32) : Nat → Nat → Int32 := fun h' => if h' = h then f else M h'
theorem upR_s (M : Nat → Nat → Int32) (h : Nat) (f : Nat → Int32) : upR M h f h = f := if_pos rfl
theorem upR_n {M : Nat → Nat → Int32} {h h' : Nat} {f : Nat → Int32} (hn : h' ≠ h) : upR M h f h' = M h' := if_neg hn
def mkx (np : Nat) (M : Nat → Nat → Int32) (L : Nat → Int64) (f : Nat → Int32) : zHp := mk np M L ++ [kcl f]
theorem mk_len (np : Nat) (M : Nat → Nat → Int32) (L : Nat → Int64) : (mk np M L).length = 57 + np := by simp [mk]
theorem rx {np : Nat} {M : Nat → Nat → Int32} {L : Nat → Int64} {f : Nat → Int32} {h : Nat} (hh : h < 57) {c : va_E} (hc : cel np h (M h) (L h) = c) : (mkx np M L f)[h]? = some c := by
  unfold mkx
  rw [List.getElem?_append_left (by rw [mk_len]; omega)]
  exact rd np M L (by omega) hc
theorem rxp {np : Nat} {M : Nat → Nat → Int32} {L : Nat → Int64} {f : Nat → Int32} : (mkx np M L f)[57 + np]? = some (kcl f) := by
  unfold mkx
  rw [List.getElem?_append_right (by rw [mk_len]; omega), mk_len]
  simp
theorem mkx_set {np : Nat} {M : Nat → Nat → Int32} {L : Nat → Int64} {f f' : Nat → Int32} {c : va_E} (hc : c = kcl f') : (mkx np M L f).set (57 + np) c = mkx np M L f' := by
  subst hc
  unfold mkx
  rw [List.set_append_right _ _ (by rw [mk_len]; omega), mk_len]
  simp
theorem cel_np {np np' h : Nat} (hh : h ≠ 2) (f : Nat → Int32) (g : Int64) : cel np h f g = cel np' h f g := by
  unfold cel
  simp only [if_neg hh]
theorem mkx_add {np : Nat} {M : Nat → Nat → Int32} {L : Nat → Int64} {f : Nat → Int32} {c : va_E} (hc : c = qcl 3 6 (va_up (fun i => if i < np then some (57 + i) else none) np (some (57 + np)))) : (mkx np M L f).set 2 c = mk (np + 1) (upR M (57 + np) f) L := by
  subst hc
  apply List.ext_getElem?
  intro j
  rw [List.getElem?_set]
  by_cases h2 : 2 = j
  · subst h2
    rw [if_pos rfl, if_pos (by unfold mkx; rw [List.length_append, mk_len]; omega)]
    rw [rd (np + 1) _ L (h := 2) (by omega) (c := qcl 3 6 (fun i => if i < np + 1 then some (57 + i) else none)) rfl]
    congr 3
    funext i
    unfold va_up
    by_cases e : i = np
    · subst e; simp
    · have : (i < np + 1) ↔ i < np := by omega
      simp [e, this]
  · rw [if_neg h2]
    rcases Nat.lt_trichotomy j (57 + np) with h | h | h
    · unfold mkx
      rw [List.getElem?_append_left (by rw [mk_len]; omega), rd np M L h rfl, rd (np + 1) _ L (by omega) rfl, upR_n (by omega), cel_np (Ne.symm h2)]
    · subst h
      rw [rxp, rd (np + 1) _ L (by omega) rfl, upR_s, cel_piece]
    · rw [List.getElem?_eq_none (by unfold mkx; rw [List.length_append, mk_len]; simp; omega), List.getElem?_eq_none (by rw [mk_len]; omega)]
def pcF (w h dd g : Int32) : Nat → Int32 := upd (upd (upd (upd (upd (upd (fun _ => 0) 0 w) 1 h) 2 dd) 3 g) 5 (-1)) 7 1
def kpM (M : Nat → Nat → Int32) (k : Nat) (w h dd g : Int32) : Nat → Nat → Int32 := up2 (upR M (57 + k) (pcF w h dd g)) 0 2 (nI (k + 1))

set_option maxHeartbeats 4000000 in
theorem rn_isLength {hp : zHp} {n : Int32} (d : Nat) : Rn (d + 1) mX5_isLength [(.int n)] hp (some (.int (zi (mW n 1 12)))) hp := by
  unfold Rn
  refine ev_s rfl ?_
  refine ev_ik (v := 1) rfl (by decide) ?_
  refine ev_bi (v := 12) rfl (by decide) ?_
  refine ev_cs (vs := [(.int n), (.int 1), (.int 12)]) (rest := []) (rv := (some (.int (zi (cW n 1 12))))) rfl rfl rfl rfl rfl (rn_isWithin _) ?_
  show Ev _ _ 7 _ [(.int (zi (cW n 1 12)))] _ _
  refine ev_rz rfl rfl (zi_01 _) ?_ ?_
  · rfl
  · rfl
set_option maxHeartbeats 4000000 in
theorem rn_kinit {np : Nat} {M : Nat → Nat → Int32} {L : Nat → Int64} {w h dd g : Int32} (d : Nat) : Rn d mX1_init [.ref (57 + np), .int w, .int h, .int dd, .int g] (mkx np M L (fun _ => 0)) none (mkx np M L (pcF w h dd g)) := by
  unfold Rn pcF
  iterate 4 refine ev_s rfl ?_
  refine ev_pf (hp' := (mkx np M L (upd (fun _ => 0) 0 w))) rxp rfl rfl (by simp) rfl rfl (mkx_set rfl) ?_
  iterate 2 refine ev_s rfl ?_
  refine ev_pf (hp' := (mkx np M L (upd (upd (fun _ => 0) 0 w) 1 h))) rxp rfl rfl (by simp) rfl rfl (mkx_set rfl) ?_
  iterate 2 refine ev_s rfl ?_
  refine ev_pf (hp' := (mkx np M L (upd (upd (upd (fun _ => 0) 0 w) 1 h) 2 dd))) rxp rfl rfl (by simp) rfl rfl (mkx_set rfl) ?_
  iterate 2 refine ev_s rfl ?_
  refine ev_pf (hp' := (mkx np M L (upd (upd (upd (upd (fun _ => 0) 0 w) 1 h) 2 dd) 3 g))) rxp rfl rfl (by simp) rfl rfl (mkx_set rfl) ?_
  refine ev_s rfl ?_
  refine ev_ik (v := (-1)) rfl (by decide) ?_
  refine ev_pf (hp' := (mkx np M L (upd (upd (upd (upd (upd (fun _ => 0) 0 w) 1 h) 2 dd) 3 g) 5 (-1)))) rxp rfl rfl (by simp) rfl rfl (mkx_set rfl) ?_
  refine ev_s rfl ?_
  refine ev_ik (v := 1) rfl (by decide) ?_
  refine ev_pf (hp' := (mkx np M L (upd (upd (upd (upd (upd (upd (fun _ => 0) 0 w) 1 h) 2 dd) 3 g) 5 (-1)) 7 1))) rxp rfl rfl (by simp) rfl rfl (mkx_set rfl) ?_
  refine ev_rv rfl rfl ?_ ?_
  · rfl
  · rfl
set_option maxHeartbeats 4000000 in
theorem rn_piece_o {np : Nat} {M : Nat → Nat → Int32} {L : Nat → Int64} {w h dd g : Int32} (hu : ¬ okP w h dd g) (d : Nat) : Rn (d + 2) mX5_piece [(.ref 0), (.int w), (.int h), (.int dd), (.int g)] (mk np M L) (some (.int (-102))) (mk np M L) := by
  unfold Rn
  refine ev_s rfl ?_
  refine ev_cs (vs := [(.int w)]) (rest := []) (rv := (some (.int (zi (mW w 1 12))))) rfl rfl rfl rfl rfl (rn_isLength _) ?_
  show Ev _ _ 4 _ [(.int (zi (mW w 1 12)))] _ _
  refine ev_if rfl rfl (ev_bze (fun c1 => ?_) (fun c1 => ?_))
  · show Ev _ _ 33 _ _ _ _
    refine ev_bi (v := (-102)) rfl (by decide) ?_
    refine ev_ri rfl rfl ?_ ?_
    · rfl
    · rfl
  · show Ev _ _ 7 _ _ _ _
    refine ev_s rfl ?_
    refine ev_cs (vs := [(.int h)]) (rest := []) (rv := (some (.int (zi (mW h 1 12))))) rfl rfl rfl rfl rfl (rn_isLength _) ?_
    show Ev _ _ 11 _ [(.int (zi (mW h 1 12)))] _ _
    refine ev_if rfl rfl (ev_bze (fun c2 => ?_) (fun c2 => ?_))
    · show Ev _ _ 33 _ _ _ _
      refine ev_bi (v := (-102)) rfl (by decide) ?_
      refine ev_ri rfl rfl ?_ ?_
      · rfl
      · rfl
    · show Ev _ _ 14 _ _ _ _
      refine ev_s rfl ?_
      refine ev_cs (vs := [(.int dd)]) (rest := []) (rv := (some (.int (zi (mW dd 1 12))))) rfl rfl rfl rfl rfl (rn_isLength _) ?_
      show Ev _ _ 18 _ [(.int (zi (mW dd 1 12)))] _ _
      refine ev_if rfl rfl (ev_bze (fun c3 => ?_) (fun c3 => ?_))
      · show Ev _ _ 33 _ _ _ _
        refine ev_bi (v := (-102)) rfl (by decide) ?_
        refine ev_ri rfl rfl ?_ ?_
        · rfl
        · rfl
      · show Ev _ _ 21 _ _ _ _
        refine ev_s rfl ?_
        refine ev_ik (v := 1) rfl (by decide) ?_
        refine ev_si (v := 1000) rfl (by decide) ?_
        refine ev_cs (vs := [(.int g), (.int 1), (.int 1000)]) (rest := []) (rv := (some (.int (zi (cW g 1 1000))))) rfl rfl rfl rfl rfl (rn_isWithin _) ?_
        show Ev _ _ 30 _ [(.int (zi (cW g 1 1000)))] _ _
        refine ev_if rfl rfl (ev_bzn (fun c4 => ?_) (fun c4 => ?_))
        · show Ev _ _ 36 _ _ _ _
          exact absurd ⟨c1, c2, c3, c4⟩ hu
        · show Ev _ _ 33 _ _ _ _
          refine ev_bi (v := (-102)) rfl (by decide) ?_
          refine ev_ri rfl rfl ?_ ?_
          · rfl
          · rfl
set_option maxHeartbeats 4000000 in
theorem rn_piece_6 {np : Nat} {M : Nat → Nat → Int32} {L : Nat → Int64} {w h dd g : Int32} (hu : okP w h dd g) (hc : M 0 2 = nI np) (h6 : np = 6) (d : Nat) : Rn (d + 2) mX5_piece [(.ref 0), (.int w), (.int h), (.int dd), (.int g)] (mk np M L) (some (.int (-104))) (mk np M L) := by
  unfold Rn
  refine ev_s rfl ?_
  refine ev_cs (vs := [(.int w)]) (rest := []) (rv := (some (.int 1))) rfl rfl rfl rfl rfl (by have e9 := rn_isLength (hp := mk np M L) (n := w) d; rwa [zi_t hu.1] at e9) ?_
  show Ev _ _ 4 _ [(.int 1)] _ _
  refine ev_if rfl rfl ?_
  show Ev _ _ 7 _ _ _ _
  refine ev_s rfl ?_
  refine ev_cs (vs := [(.int h)]) (rest := []) (rv := (some (.int 1))) rfl rfl rfl rfl rfl (by have e9 := rn_isLength (hp := mk np M L) (n := h) d; rwa [zi_t hu.2.1] at e9) ?_
  show Ev _ _ 11 _ [(.int 1)] _ _
  refine ev_if rfl rfl ?_
  show Ev _ _ 14 _ _ _ _
  refine ev_s rfl ?_
  refine ev_cs (vs := [(.int dd)]) (rest := []) (rv := (some (.int 1))) rfl rfl rfl rfl rfl (by have e9 := rn_isLength (hp := mk np M L) (n := dd) d; rwa [zi_t hu.2.2.1] at e9) ?_
  show Ev _ _ 18 _ [(.int 1)] _ _
  refine ev_if rfl rfl ?_
  show Ev _ _ 21 _ _ _ _
  refine ev_s rfl ?_
  refine ev_ik (v := 1) rfl (by decide) ?_
  refine ev_si (v := 1000) rfl (by decide) ?_
  refine ev_cs (vs := [(.int g), (.int 1), (.int 1000)]) (rest := []) (rv := (some (.int 1))) rfl rfl rfl rfl rfl (by have e9 := rn_isWithin (hp := mk np M L) (x := g) (y := 1) (z := 1000) (d + 1); rwa [zi_t (show cW g 1 1000 from hu.2.2.2)] at e9) ?_
  show Ev _ _ 30 _ [(.int 1)] _ _
  refine ev_if rfl rfl ?_
  show Ev _ _ 36 _ _ _ _
  refine ev_s rfl ?_
  refine ev_gf (rd np M L (by omega) rfl) rfl rfl rfl ?_
  rw [hc]
  refine ev_if rfl rfl ?_
  rw [show zbr .lt (nI np) 0 55 43 = 43 from if_neg (nI_pos (by omega))]
  refine ev_s rfl ?_
  refine ev_gf (rd np M L (by omega) rfl) rfl rfl rfl ?_
  rw [hc]
  refine ev_s rfl ?_
  refine ev_gf (rd np M L (by omega) rfl) rfl rfl rfl ?_
  refine ev_al (v := 6) (rd np M L (by omega) rfl) rfl rfl rfl ?_
  refine ev_ic rfl rfl ?_
  rw [show zbr .lt (nI np) 6 58 55 = 55 from if_neg (by rw [h6]; decide)]
  refine ev_bi (v := (-104)) rfl (by decide) ?_
  refine ev_ri rfl rfl ?_ ?_
  · rfl
  · rfl
theorem nlt_I6 {n : Nat} (h : n < 6) : nI n < nI 6 := by have := @nI_lt n 6; exact (nI_lt h (by omega))
set_option maxHeartbeats 4000000 in
theorem rn_piece_k {np : Nat} {M : Nat → Nat → Int32} {L : Nat → Int64} {w h dd g : Int32} (hu : okP w h dd g) (hc : M 0 2 = nI np) (h6 : np < 6) (d : Nat) : Rn (d + 2) mX5_piece [(.ref 0), (.int w), (.int h), (.int dd), (.int g)] (mk np M L) (some (.int (nI (np + 1)))) (mk (np + 1) (kpM M np w h dd g) L) := by
  unfold Rn
  refine ev_s rfl ?_
  refine ev_cs (vs := [(.int w)]) (rest := []) (rv := (some (.int 1))) rfl rfl rfl rfl rfl (by have e9 := rn_isLength (hp := mk np M L) (n := w) d; rwa [zi_t hu.1] at e9) ?_
  show Ev _ _ 4 _ [(.int 1)] _ _
  refine ev_if rfl rfl ?_
  show Ev _ _ 7 _ _ _ _
  refine ev_s rfl ?_
  refine ev_cs (vs := [(.int h)]) (rest := []) (rv := (some (.int 1))) rfl rfl rfl rfl rfl (by have e9 := rn_isLength (hp := mk np M L) (n := h) d; rwa [zi_t hu.2.1] at e9) ?_
  show Ev _ _ 11 _ [(.int 1)] _ _
  refine ev_if rfl rfl ?_
  show Ev _ _ 14 _ _ _ _
  refine ev_s rfl ?_
  refine ev_cs (vs := [(.int dd)]) (rest := []) (rv := (some (.int 1))) rfl rfl rfl rfl rfl (by have e9 := rn_isLength (hp := mk np M L) (n := dd) d; rwa [zi_t hu.2.2.1] at e9) ?_
  show Ev _ _ 18 _ [(.int 1)] _ _
  refine ev_if rfl rfl ?_
  show Ev _ _ 21 _ _ _ _
  refine ev_s rfl ?_
  refine ev_ik (v := 1) rfl (by decide) ?_
  refine ev_si (v := 1000) rfl (by decide) ?_
  refine ev_cs (vs := [(.int g), (.int 1), (.int 1000)]) (rest := []) (rv := (some (.int 1))) rfl rfl rfl rfl rfl (by have e9 := rn_isWithin (hp := mk np M L) (x := g) (y := 1) (z := 1000) (d + 1); rwa [zi_t (show cW g 1 1000 from hu.2.2.2)] at e9) ?_
  show Ev _ _ 30 _ [(.int 1)] _ _
  refine ev_if rfl rfl ?_
  show Ev _ _ 36 _ _ _ _
  refine ev_s rfl ?_
  refine ev_gf (rd np M L (by omega) rfl) rfl rfl rfl ?_
  rw [hc]
  refine ev_if rfl rfl ?_
  rw [show zbr .lt (nI np) 0 55 43 = 43 from if_neg (nI_pos (by omega))]
  refine ev_s rfl ?_
  refine ev_gf (rd np M L (by omega) rfl) rfl rfl rfl ?_
  rw [hc]
  refine ev_s rfl ?_
  refine ev_gf (rd np M L (by omega) rfl) rfl rfl rfl ?_
  refine ev_al (v := 6) (rd np M L (by omega) rfl) rfl rfl rfl ?_
  refine ev_ic rfl rfl ?_
  rw [show zbr .lt (nI np) 6 58 55 = 58 from if_pos (show nI np < nI 6 from (nlt_I6 (by omega)))]
  refine ev_s rfl ?_
  refine ev_gf (rd np M L (by omega) rfl) rfl rfl rfl ?_
  refine ev_s rfl ?_
  refine ev_gf (rd np M L (by omega) rfl) rfl rfl rfl ?_
  rw [hc]
  refine ev_nw (n := 57 + np) (hp' := mkx np M L (fun _ => 0)) rfl rfl rfl (mk_len _ _ _) rfl ?_
  iterate 5 refine ev_s rfl ?_
  refine ev_ci (vs := [(.ref (57 + np)), (.int w), (.int h), (.int dd), (.int g)]) (rest := [(.ref (57 + np)), (.int (nI np)), (.ref 2)]) (rv := none) (hp' := (mkx np M L (pcF w h dd g))) rfl rfl rfl rfl rfl rfl (rn_kinit _) ?_
  show Ev _ _ 78 _ [(.ref (57 + np)), (.int (nI np)), (.ref 2)] _ _
  refine ev_as (k := np) (hp' := mk (np + 1) (upR M (57 + np) (pcF w h dd g)) L) (rx (by omega) rfl) rfl (zin_nI (by omega) (by decide)) rxp rfl rfl rfl (mkx_add rfl) ?_
  iterate 2 refine ev_s rfl ?_
  refine ev_gf (rd (np + 1) (upR M (57 + np) (pcF w h dd g)) L (by omega) rfl) rfl rfl rfl ?_
  refine ev_ik (v := 1) rfl (by decide) ?_
  refine ev_s rfl ?_
  rw [upR_n (show (0 : Nat) ≠ 57 + np by omega), hc, nI_1 np]
  refine ev_pf (hp' := (mk (np + 1) (up2 (upR M (57 + np) (pcF w h dd g)) 0 2 (nI (np + 1))) L)) (rd (np + 1) (upR M (57 + np) (pcF w h dd g)) L (by omega) rfl) rfl rfl (by simp) rfl rfl (mk_setr rfl rfl rfl) ?_
  refine ev_s rfl ?_
  refine ev_gf (rd (np + 1) (up2 (upR M (57 + np) (pcF w h dd g)) 0 2 (nI (np + 1))) L (by omega) ((congrArg (fun r => cel (np + 1) 0 r (L 0)) ((up2_s _ _ _ _).trans (congrArg (fun r => upd r 2 (nI (np + 1))) rfl))).trans rfl)) rfl rfl rfl ?_
  refine ev_ri rfl rfl ?_ ?_
  · rfl
  · rfl
theorem lc_ng : ¬ (0 : Int32) < lg_cmp (lN 0) 0 := by decide
set_option maxHeartbeats 4000000 in
theorem ev_axle_00 {np : Nat} {M : Nat → Nat → Int32} {L : Nat → Int64} {D : Nat} {B : Nat → Nat → Nat} {wq : Nat → Nat} (hB : AxB D B wq) (hC : AxC D B wq M) (hw0 : awS B wq 6 = 0) (d : Nat) : Ev (d + 1) mX5_axle 0 (zent mX5_axle [.ref 0, .int 0, .int 0]) [] (mk np M L) (fun x => x = (50, [some (.ref 0), some (.int 0), some (.int 0), some (.long (lN 0)), none, none, none, none, none, none, none], [], mk np M L)) := by
  have hD := hB.1
  refine ev_s rfl ?_
  refine ev_ik (v := 0) rfl (by decide) ?_
  refine ev_ik (v := 1) rfl (by decide) ?_
  refine ev_cs (vs := [(.int 0), (.int 0), (.int 1)]) (rest := []) (rv := (some (.int 1))) rfl rfl rfl rfl rfl (by have e9 := rn_isWithin (hp := mk np M L) (x := 0) (y := 0) (z := 1) d; rwa [zi_t (show cW 0 0 1 from ⟨by decide, by decide⟩)] at e9) ?_
  show Ev _ _ 6 _ [(.int 1)] _ _
  refine ev_if rfl rfl ?_
  show Ev _ _ 9 _ _ _ _
  refine ev_s rfl ?_
  refine ev_ik (v := 0) rfl (by decide) ?_
  refine ev_ik (v := 1) rfl (by decide) ?_
  refine ev_cs (vs := [(.int 0), (.int 0), (.int 1)]) (rest := []) (rv := (some (.int 1))) rfl rfl rfl rfl rfl (by have e9 := rn_isWithin (hp := mk np M L) (x := 0) (y := 0) (z := 1) d; rwa [zi_t (show cW 0 0 1 from ⟨by decide, by decide⟩)] at e9) ?_
  show Ev _ _ 15 _ [(.int 1)] _ _
  refine ev_if rfl rfl ?_
  show Ev _ _ 22 _ _ _ _
  iterate 2 refine ev_s rfl ?_
  refine ev_gf (rd np M L (by omega) rfl) rfl rfl rfl ?_
  refine ev_gf (rd np M L (by omega) rfl) rfl rfl rfl ?_
  iterate 3 refine ev_s rfl ?_
  refine ev_gf (rd np M L (by omega) rfl) rfl rfl rfl ?_
  refine ev_cv (vs := [(.ref 3)]) (rest := [(.long (2 * ((M 1 2).toInt64)))]) (rv := (some (.int (nI 0)))) rfl rfl rfl (rd np M L (by omega) rfl) rfl rfl rfl rfl (by have e9 := rn_weight (np := np) (M := M) (L := L) d; rwa [cs_w hB hC 6 (by omega), hw0] at e9) ?_
  show Ev _ _ 41 _ [(.int (nI 0)), (.long (2 * ((M 1 2).toInt64)))] _ _
  iterate 2 refine ev_s rfl ?_
  rw [hC.1, nI_l (n := D) (by omega), nI_l (n := 0) (by omega), show (2 : Int64) = lN 2 from rfl, lN_mul, lN_mul, Nat.mul_zero]
  refine ev_s (ls' := [some (.ref 0), some (.int 0), some (.int 0), some (.long (lN 0)), none, none, none, none, none, none, none]) rfl ?_
  refine ev_s rfl ?_
  refine ev_lk (v := 0) rfl (by decide) ?_
  refine ev_s rfl ?_
  refine ev_if rfl rfl ?_
  rw [show zbr .gt (lg_cmp (lN 0) 0) 0 60 50 = 50 from zgt_n lc_ng]
  exact ev_ret rfl rfl rfl
set_option maxHeartbeats 4000000 in
theorem ev_axle_01 {np : Nat} {M : Nat → Nat → Int32} {L : Nat → Int64} {D : Nat} {B : Nat → Nat → Nat} {wq : Nat → Nat} (hB : AxB D B wq) (hC : AxC D B wq M) (hw0 : awS B wq 6 = 0) (d : Nat) : Ev (d + 1) mX5_axle 0 (zent mX5_axle [.ref 0, .int 0, .int 1]) [] (mk np M L) (fun x => x = (50, [some (.ref 0), some (.int 0), some (.int 1), some (.long (lN 0)), none, none, none, none, none, none, none], [], mk np M L)) := by
  have hD := hB.1
  refine ev_s rfl ?_
  refine ev_ik (v := 0) rfl (by decide) ?_
  refine ev_ik (v := 1) rfl (by decide) ?_
  refine ev_cs (vs := [(.int 0), (.int 0), (.int 1)]) (rest := []) (rv := (some (.int 1))) rfl rfl rfl rfl rfl (by have e9 := rn_isWithin (hp := mk np M L) (x := 0) (y := 0) (z := 1) d; rwa [zi_t (show cW 0 0 1 from ⟨by decide, by decide⟩)] at e9) ?_
  show Ev _ _ 6 _ [(.int 1)] _ _
  refine ev_if rfl rfl ?_
  show Ev _ _ 9 _ _ _ _
  refine ev_s rfl ?_
  refine ev_ik (v := 0) rfl (by decide) ?_
  refine ev_ik (v := 1) rfl (by decide) ?_
  refine ev_cs (vs := [(.int 1), (.int 0), (.int 1)]) (rest := []) (rv := (some (.int 1))) rfl rfl rfl rfl rfl (by have e9 := rn_isWithin (hp := mk np M L) (x := 1) (y := 0) (z := 1) d; rwa [zi_t (show cW 1 0 1 from ⟨by decide, by decide⟩)] at e9) ?_
  show Ev _ _ 15 _ [(.int 1)] _ _
  refine ev_if rfl rfl ?_
  show Ev _ _ 22 _ _ _ _
  iterate 2 refine ev_s rfl ?_
  refine ev_gf (rd np M L (by omega) rfl) rfl rfl rfl ?_
  refine ev_gf (rd np M L (by omega) rfl) rfl rfl rfl ?_
  iterate 3 refine ev_s rfl ?_
  refine ev_gf (rd np M L (by omega) rfl) rfl rfl rfl ?_
  refine ev_cv (vs := [(.ref 3)]) (rest := [(.long (2 * ((M 1 2).toInt64)))]) (rv := (some (.int (nI 0)))) rfl rfl rfl (rd np M L (by omega) rfl) rfl rfl rfl rfl (by have e9 := rn_weight (np := np) (M := M) (L := L) d; rwa [cs_w hB hC 6 (by omega), hw0] at e9) ?_
  show Ev _ _ 41 _ [(.int (nI 0)), (.long (2 * ((M 1 2).toInt64)))] _ _
  iterate 2 refine ev_s rfl ?_
  rw [hC.1, nI_l (n := D) (by omega), nI_l (n := 0) (by omega), show (2 : Int64) = lN 2 from rfl, lN_mul, lN_mul, Nat.mul_zero]
  refine ev_s (ls' := [some (.ref 0), some (.int 0), some (.int 1), some (.long (lN 0)), none, none, none, none, none, none, none]) rfl ?_
  refine ev_s rfl ?_
  refine ev_lk (v := 0) rfl (by decide) ?_
  refine ev_s rfl ?_
  refine ev_if rfl rfl ?_
  rw [show zbr .gt (lg_cmp (lN 0) 0) 0 60 50 = 50 from zgt_n lc_ng]
  exact ev_ret rfl rfl rfl
set_option maxHeartbeats 4000000 in
theorem ev_axle_10 {np : Nat} {M : Nat → Nat → Int32} {L : Nat → Int64} {D : Nat} {B : Nat → Nat → Nat} {wq : Nat → Nat} (hB : AxB D B wq) (hC : AxC D B wq M) (hw0 : awS B wq 6 = 0) (d : Nat) : Ev (d + 1) mX5_axle 0 (zent mX5_axle [.ref 0, .int 1, .int 0]) [] (mk np M L) (fun x => x = (50, [some (.ref 0), some (.int 1), some (.int 0), some (.long (lN 0)), none, none, none, none, none, none, none], [], mk np M L)) := by
  have hD := hB.1
  refine ev_s rfl ?_
  refine ev_ik (v := 0) rfl (by decide) ?_
  refine ev_ik (v := 1) rfl (by decide) ?_
  refine ev_cs (vs := [(.int 1), (.int 0), (.int 1)]) (rest := []) (rv := (some (.int 1))) rfl rfl rfl rfl rfl (by have e9 := rn_isWithin (hp := mk np M L) (x := 1) (y := 0) (z := 1) d; rwa [zi_t (show cW 1 0 1 from ⟨by decide, by decide⟩)] at e9) ?_
  show Ev _ _ 6 _ [(.int 1)] _ _
  refine ev_if rfl rfl ?_
  show Ev _ _ 9 _ _ _ _
  refine ev_s rfl ?_
  refine ev_ik (v := 0) rfl (by decide) ?_
  refine ev_ik (v := 1) rfl (by decide) ?_
  refine ev_cs (vs := [(.int 0), (.int 0), (.int 1)]) (rest := []) (rv := (some (.int 1))) rfl rfl rfl rfl rfl (by have e9 := rn_isWithin (hp := mk np M L) (x := 0) (y := 0) (z := 1) d; rwa [zi_t (show cW 0 0 1 from ⟨by decide, by decide⟩)] at e9) ?_
  show Ev _ _ 15 _ [(.int 1)] _ _
  refine ev_if rfl rfl ?_
  show Ev _ _ 22 _ _ _ _
  iterate 2 refine ev_s rfl ?_
  refine ev_gf (rd np M L (by omega) rfl) rfl rfl rfl ?_
  refine ev_gf (rd np M L (by omega) rfl) rfl rfl rfl ?_
  iterate 3 refine ev_s rfl ?_
  refine ev_gf (rd np M L (by omega) rfl) rfl rfl rfl ?_
  refine ev_cv (vs := [(.ref 3)]) (rest := [(.long (2 * ((M 1 2).toInt64)))]) (rv := (some (.int (nI 0)))) rfl rfl rfl (rd np M L (by omega) rfl) rfl rfl rfl rfl (by have e9 := rn_weight (np := np) (M := M) (L := L) d; rwa [cs_w hB hC 6 (by omega), hw0] at e9) ?_
  show Ev _ _ 41 _ [(.int (nI 0)), (.long (2 * ((M 1 2).toInt64)))] _ _
  iterate 2 refine ev_s rfl ?_
  rw [hC.1, nI_l (n := D) (by omega), nI_l (n := 0) (by omega), show (2 : Int64) = lN 2 from rfl, lN_mul, lN_mul, Nat.mul_zero]
  refine ev_s (ls' := [some (.ref 0), some (.int 1), some (.int 0), some (.long (lN 0)), none, none, none, none, none, none, none]) rfl ?_
  refine ev_s rfl ?_
  refine ev_lk (v := 0) rfl (by decide) ?_
  refine ev_s rfl ?_
  refine ev_if rfl rfl ?_
  rw [show zbr .gt (lg_cmp (lN 0) 0) 0 60 50 = 50 from zgt_n lc_ng]
  exact ev_ret rfl rfl rfl
set_option maxHeartbeats 4000000 in
theorem ev_axle_11 {np : Nat} {M : Nat → Nat → Int32} {L : Nat → Int64} {D : Nat} {B : Nat → Nat → Nat} {wq : Nat → Nat} (hB : AxB D B wq) (hC : AxC D B wq M) (hw0 : awS B wq 6 = 0) (d : Nat) : Ev (d + 1) mX5_axle 0 (zent mX5_axle [.ref 0, .int 1, .int 1]) [] (mk np M L) (fun x => x = (50, [some (.ref 0), some (.int 1), some (.int 1), some (.long (lN 0)), none, none, none, none, none, none, none], [], mk np M L)) := by
  have hD := hB.1
  refine ev_s rfl ?_
  refine ev_ik (v := 0) rfl (by decide) ?_
  refine ev_ik (v := 1) rfl (by decide) ?_
  refine ev_cs (vs := [(.int 1), (.int 0), (.int 1)]) (rest := []) (rv := (some (.int 1))) rfl rfl rfl rfl rfl (by have e9 := rn_isWithin (hp := mk np M L) (x := 1) (y := 0) (z := 1) d; rwa [zi_t (show cW 1 0 1 from ⟨by decide, by decide⟩)] at e9) ?_
  show Ev _ _ 6 _ [(.int 1)] _ _
  refine ev_if rfl rfl ?_
  show Ev _ _ 9 _ _ _ _
  refine ev_s rfl ?_
  refine ev_ik (v := 0) rfl (by decide) ?_
  refine ev_ik (v := 1) rfl (by decide) ?_
  refine ev_cs (vs := [(.int 1), (.int 0), (.int 1)]) (rest := []) (rv := (some (.int 1))) rfl rfl rfl rfl rfl (by have e9 := rn_isWithin (hp := mk np M L) (x := 1) (y := 0) (z := 1) d; rwa [zi_t (show cW 1 0 1 from ⟨by decide, by decide⟩)] at e9) ?_
  show Ev _ _ 15 _ [(.int 1)] _ _
  refine ev_if rfl rfl ?_
  show Ev _ _ 22 _ _ _ _
  iterate 2 refine ev_s rfl ?_
  refine ev_gf (rd np M L (by omega) rfl) rfl rfl rfl ?_
  refine ev_gf (rd np M L (by omega) rfl) rfl rfl rfl ?_
  iterate 3 refine ev_s rfl ?_
  refine ev_gf (rd np M L (by omega) rfl) rfl rfl rfl ?_
  refine ev_cv (vs := [(.ref 3)]) (rest := [(.long (2 * ((M 1 2).toInt64)))]) (rv := (some (.int (nI 0)))) rfl rfl rfl (rd np M L (by omega) rfl) rfl rfl rfl rfl (by have e9 := rn_weight (np := np) (M := M) (L := L) d; rwa [cs_w hB hC 6 (by omega), hw0] at e9) ?_
  show Ev _ _ 41 _ [(.int (nI 0)), (.long (2 * ((M 1 2).toInt64)))] _ _
  iterate 2 refine ev_s rfl ?_
  rw [hC.1, nI_l (n := D) (by omega), nI_l (n := 0) (by omega), show (2 : Int64) = lN 2 from rfl, lN_mul, lN_mul, Nat.mul_zero]
  refine ev_s (ls' := [some (.ref 0), some (.int 1), some (.int 1), some (.long (lN 0)), none, none, none, none, none, none, none]) rfl ?_
  refine ev_s rfl ?_
  refine ev_lk (v := 0) rfl (by decide) ?_
  refine ev_s rfl ?_
  refine ev_if rfl rfl ?_
  rw [show zbr .gt (lg_cmp (lN 0) 0) 0 60 50 = 50 from zgt_n lc_ng]
  exact ev_ret rfl rfl rfl
