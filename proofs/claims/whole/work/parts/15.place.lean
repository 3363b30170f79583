/-! ===== writers of Place and Piece ===== -/
theorem mk_setr {np : Nat} {M : Nat → Nat → Int32} {L : Nat → Int64} {h k : Nat} {v : Int32} {c c' : va_E} {row : Nat → Int32} (hr : M h = row) (hl : cel np h (upd row k v) (L h) = c') (hc : c = c') : (mk np M L).set h c = mk np (up2 M h k v) L := mk_set (by rw [hr]; exact hc.trans hl.symm)

def stM (M : Nat → Nat → Int32) (h q : Nat) : Nat → Nat → Int32 := up2 (up2 (up2 (up2 M h 0 0) h 1 (M q 3)) h 2 (M q 5)) h 3 (M q 6)
set_option maxHeartbeats 4000000 in
theorem rn_startFor {np : Nat} {M : Nat → Nat → Int32} {L : Nat → Int64} {i : Nat} (hi : i < 6) (hn : i < np) (d : Nat) : Rn (d) mX2_startFor [(.ref (14 + i)), (.ref (57 + i))] (mk np M L) none (mk np (stM M (14 + i) (57 + i)) L) := by
  unfold Rn
  refine ev_s rfl ?_
  refine ev_ik (v := 0) rfl (by decide) ?_
  refine ev_pf (hp' := (mk np (up2 M (14 + i) 0 0) L)) (rd np M L (by omega) (cel_trial (by omega) _ _)) rfl rfl (by simp) rfl rfl (mk_setr rfl (cel_trial (by omega) _ _) rfl) ?_
  iterate 2 refine ev_s rfl ?_
  refine ev_gf (rd np (up2 M (14 + i) 0 0) L (by omega) ((congrArg (fun r => cel np (57 + i) r (L (57 + i))) ((up2_n (by omega)).trans rfl)).trans (cel_piece _ _))) rfl rfl rfl ?_
  refine ev_pf (hp' := (mk np (up2 (up2 M (14 + i) 0 0) (14 + i) 1 (M (57 + i) 3)) L)) (rd np (up2 M (14 + i) 0 0) L (by omega) ((congrArg (fun r => cel np (14 + i) r (L (14 + i))) ((up2_s _ _ _ _).trans (congrArg (fun r => upd r 0 0) rfl))).trans (cel_trial (by omega) _ _))) rfl rfl (by simp) rfl rfl (mk_setr ((up2_s _ _ _ _).trans (congrArg (fun r => upd r 0 0) rfl)) (cel_trial (by omega) _ _) rfl) ?_
  iterate 2 refine ev_s rfl ?_
  refine ev_gf (rd np (up2 (up2 M (14 + i) 0 0) (14 + i) 1 (M (57 + i) 3)) L (by omega) ((congrArg (fun r => cel np (57 + i) r (L (57 + i))) ((up2_n (by omega)).trans ((up2_n (by omega)).trans rfl))).trans (cel_piece _ _))) rfl rfl rfl ?_
  refine ev_pf (hp' := (mk np (up2 (up2 (up2 M (14 + i) 0 0) (14 + i) 1 (M (57 + i) 3)) (14 + i) 2 (M (57 + i) 5)) L)) (rd np (up2 (up2 M (14 + i) 0 0) (14 + i) 1 (M (57 + i) 3)) L (by omega) ((congrArg (fun r => cel np (14 + i) r (L (14 + i))) ((up2_s _ _ _ _).trans (congrArg (fun r => upd r 1 (M (57 + i) 3)) ((up2_s _ _ _ _).trans (congrArg (fun r => upd r 0 0) rfl))))).trans (cel_trial (by omega) _ _))) rfl rfl (by simp) rfl rfl (mk_setr ((up2_s _ _ _ _).trans (congrArg (fun r => upd r 1 (M (57 + i) 3)) ((up2_s _ _ _ _).trans (congrArg (fun r => upd r 0 0) rfl)))) (cel_trial (by omega) _ _) rfl) ?_
  iterate 2 refine ev_s rfl ?_
  refine ev_gf (rd np (up2 (up2 (up2 M (14 + i) 0 0) (14 + i) 1 (M (57 + i) 3)) (14 + i) 2 (M (57 + i) 5)) L (by omega) ((congrArg (fun r => cel np (57 + i) r (L (57 + i))) ((up2_n (by omega)).trans ((up2_n (by omega)).trans ((up2_n (by omega)).trans rfl)))).trans (cel_piece _ _))) rfl rfl rfl ?_
  refine ev_pf (hp' := (mk np (up2 (up2 (up2 (up2 M (14 + i) 0 0) (14 + i) 1 (M (57 + i) 3)) (14 + i) 2 (M (57 + i) 5)) (14 + i) 3 (M (57 + i) 6)) L)) (rd np (up2 (up2 (up2 M (14 + i) 0 0) (14 + i) 1 (M (57 + i) 3)) (14 + i) 2 (M (57 + i) 5)) L (by omega) ((congrArg (fun r => cel np (14 + i) r (L (14 + i))) ((up2_s _ _ _ _).trans (congrArg (fun r => upd r 2 (M (57 + i) 5)) ((up2_s _ _ _ _).trans (congrArg (fun r => upd r 1 (M (57 + i) 3)) ((up2_s _ _ _ _).trans (congrArg (fun r => upd r 0 0) rfl))))))).trans (cel_trial (by omega) _ _))) rfl rfl (by simp) rfl rfl (mk_setr ((up2_s _ _ _ _).trans (congrArg (fun r => upd r 2 (M (57 + i) 5)) ((up2_s _ _ _ _).trans (congrArg (fun r => upd r 1 (M (57 + i) 3)) ((up2_s _ _ _ _).trans (congrArg (fun r => upd r 0 0) rfl)))))) (cel_trial (by omega) _ _) rfl) ?_
  refine ev_rv rfl rfl ?_ ?_
  · rfl
  · rfl
def toM (M : Nat → Nat → Int32) (h q t : Nat) : Nat → Nat → Int32 := up2 (up2 (up2 (up2 M h 4 (nI t)) h 5 (tW (M q) t)) h 6 (tH (M q) t)) h 7 (tD (M q) t)
set_option maxHeartbeats 4000000 in
theorem rn_turnTo {np : Nat} {M : Nat → Nat → Int32} {L : Nat → Int64} {i t : Nat} (hi : i < 6) (hn : i < np) (ht : t < 6) (d : Nat) : Rn (d + 1) mX2_turnTo [(.ref (14 + i)), (.ref (57 + i)), (.int (nI t))] (mk np M L) none (mk np (toM M (14 + i) (57 + i) t) L) := by
  unfold Rn
  iterate 2 refine ev_s rfl ?_
  refine ev_pf (hp' := (mk np (up2 M (14 + i) 4 (nI t)) L)) (rd np M L (by omega) (cel_trial (by omega) _ _)) rfl rfl (by simp) rfl rfl (mk_setr rfl (cel_trial (by omega) _ _) rfl) ?_
  iterate 3 refine ev_s rfl ?_
  refine ev_cv (vs := [(.ref (57 + i)), (.int (nI t))]) (rest := [(.ref (14 + i))]) (rv := (some (.int (tW (M (57 + i)) t)))) rfl rfl rfl (rd np (up2 M (14 + i) 4 (nI t)) L (by omega) ((congrArg (fun r => cel np (57 + i) r (L (57 + i))) ((up2_n (by omega)).trans rfl)).trans (cel_piece _ _))) rfl rfl rfl rfl (rn_tW (f := M (57 + i)) (rd np (up2 M (14 + i) 4 (nI t)) L (by omega) ((congrArg (fun r => cel np (57 + i) r (L (57 + i))) ((up2_n (by omega)).trans rfl)).trans (cel_piece _ _))) ht _) ?_
  show Ev _ _ 11 _ [(.int (tW (M (57 + i)) t)), (.ref (14 + i))] _ _
  refine ev_pf (hp' := (mk np (up2 (up2 M (14 + i) 4 (nI t)) (14 + i) 5 (tW (M (57 + i)) t)) L)) (rd np (up2 M (14 + i) 4 (nI t)) L (by omega) ((congrArg (fun r => cel np (14 + i) r (L (14 + i))) ((up2_s _ _ _ _).trans (congrArg (fun r => upd r 4 (nI t)) rfl))).trans (cel_trial (by omega) _ _))) rfl rfl (by simp) rfl rfl (mk_setr ((up2_s _ _ _ _).trans (congrArg (fun r => upd r 4 (nI t)) rfl)) (cel_trial (by omega) _ _) rfl) ?_
  iterate 3 refine ev_s rfl ?_
  refine ev_cv (vs := [(.ref (57 + i)), (.int (nI t))]) (rest := [(.ref (14 + i))]) (rv := (some (.int (tH (M (57 + i)) t)))) rfl rfl rfl (rd np (up2 (up2 M (14 + i) 4 (nI t)) (14 + i) 5 (tW (M (57 + i)) t)) L (by omega) ((congrArg (fun r => cel np (57 + i) r (L (57 + i))) ((up2_n (by omega)).trans ((up2_n (by omega)).trans rfl))).trans (cel_piece _ _))) rfl rfl rfl rfl (rn_tH (f := M (57 + i)) (rd np (up2 (up2 M (14 + i) 4 (nI t)) (14 + i) 5 (tW (M (57 + i)) t)) L (by omega) ((congrArg (fun r => cel np (57 + i) r (L (57 + i))) ((up2_n (by omega)).trans ((up2_n (by omega)).trans rfl))).trans (cel_piece _ _))) ht _) ?_
  show Ev _ _ 20 _ [(.int (tH (M (57 + i)) t)), (.ref (14 + i))] _ _
  refine ev_pf (hp' := (mk np (up2 (up2 (up2 M (14 + i) 4 (nI t)) (14 + i) 5 (tW (M (57 + i)) t)) (14 + i) 6 (tH (M (57 + i)) t)) L)) (rd np (up2 (up2 M (14 + i) 4 (nI t)) (14 + i) 5 (tW (M (57 + i)) t)) L (by omega) ((congrArg (fun r => cel np (14 + i) r (L (14 + i))) ((up2_s _ _ _ _).trans (congrArg (fun r => upd r 5 (tW (M (57 + i)) t)) ((up2_s _ _ _ _).trans (congrArg (fun r => upd r 4 (nI t)) rfl))))).trans (cel_trial (by omega) _ _))) rfl rfl (by simp) rfl rfl (mk_setr ((up2_s _ _ _ _).trans (congrArg (fun r => upd r 5 (tW (M (57 + i)) t)) ((up2_s _ _ _ _).trans (congrArg (fun r => upd r 4 (nI t)) rfl)))) (cel_trial (by omega) _ _) rfl) ?_
  iterate 3 refine ev_s rfl ?_
  refine ev_cv (vs := [(.ref (57 + i)), (.int (nI t))]) (rest := [(.ref (14 + i))]) (rv := (some (.int (tD (M (57 + i)) t)))) rfl rfl rfl (rd np (up2 (up2 (up2 M (14 + i) 4 (nI t)) (14 + i) 5 (tW (M (57 + i)) t)) (14 + i) 6 (tH (M (57 + i)) t)) L (by omega) ((congrArg (fun r => cel np (57 + i) r (L (57 + i))) ((up2_n (by omega)).trans ((up2_n (by omega)).trans ((up2_n (by omega)).trans rfl)))).trans (cel_piece _ _))) rfl rfl rfl rfl (rn_tD (f := M (57 + i)) (rd np (up2 (up2 (up2 M (14 + i) 4 (nI t)) (14 + i) 5 (tW (M (57 + i)) t)) (14 + i) 6 (tH (M (57 + i)) t)) L (by omega) ((congrArg (fun r => cel np (57 + i) r (L (57 + i))) ((up2_n (by omega)).trans ((up2_n (by omega)).trans ((up2_n (by omega)).trans rfl)))).trans (cel_piece _ _))) ht _) ?_
  show Ev _ _ 29 _ [(.int (tD (M (57 + i)) t)), (.ref (14 + i))] _ _
  refine ev_pf (hp' := (mk np (up2 (up2 (up2 (up2 M (14 + i) 4 (nI t)) (14 + i) 5 (tW (M (57 + i)) t)) (14 + i) 6 (tH (M (57 + i)) t)) (14 + i) 7 (tD (M (57 + i)) t)) L)) (rd np (up2 (up2 (up2 M (14 + i) 4 (nI t)) (14 + i) 5 (tW (M (57 + i)) t)) (14 + i) 6 (tH (M (57 + i)) t)) L (by omega) ((congrArg (fun r => cel np (14 + i) r (L (14 + i))) ((up2_s _ _ _ _).trans (congrArg (fun r => upd r 6 (tH (M (57 + i)) t)) ((up2_s _ _ _ _).trans (congrArg (fun r => upd r 5 (tW (M (57 + i)) t)) ((up2_s _ _ _ _).trans (congrArg (fun r => upd r 4 (nI t)) rfl))))))).trans (cel_trial (by omega) _ _))) rfl rfl (by simp) rfl rfl (mk_setr ((up2_s _ _ _ _).trans (congrArg (fun r => upd r 6 (tH (M (57 + i)) t)) ((up2_s _ _ _ _).trans (congrArg (fun r => upd r 5 (tW (M (57 + i)) t)) ((up2_s _ _ _ _).trans (congrArg (fun r => upd r 4 (nI t)) rfl)))))) (cel_trial (by omega) _ _) rfl) ?_
  refine ev_rv rfl rfl ?_ ?_
  · rfl
  · rfl
def cpM (M : Nat → Nat → Int32) (h q : Nat) : Nat → Nat → Int32 := mvM (up2 (up2 (up2 (up2 (up2 (up2 (up2 (up2 M h 0 (M q 0)) h 1 (M q 1)) h 2 (M q 2)) h 3 (M q 3)) h 4 (M q 4)) h 5 (M q 5)) h 6 (M q 6)) h 7 (M q 7)) h (M q 8) (M q 9) (M q 10)
set_option maxHeartbeats 4000000 in
theorem rn_pcopy {np : Nat} {M : Nat → Nat → Int32} {L : Nat → Int64} {i : Nat} (hi : i < 6) (hz : M (14 + i) 0 = 0 ∨ M (14 + i) 0 = 1) (d : Nat) : Rn (d + 1) mX2_copyFrom [(.ref (5 + i)), (.ref (14 + i))] (mk np M L) none (mk np (cpM M (5 + i) (14 + i)) L) := by
  unfold Rn
  iterate 2 refine ev_s rfl ?_
  refine ev_gf (rd np M L (by omega) (cel_trial (by omega) _ _)) rfl rfl rfl ?_
  refine ev_pf (hp' := (mk np (up2 M (5 + i) 0 (M (14 + i) 0)) L)) (rd np M L (by omega) (cel_best (by omega) _ _)) rfl rfl (by simp) rfl (zfits_b hz) (mk_setr rfl (cel_best (by omega) _ _) rfl) ?_
  iterate 2 refine ev_s rfl ?_
  refine ev_gf (rd np (up2 M (5 + i) 0 (M (14 + i) 0)) L (by omega) ((congrArg (fun r => cel np (14 + i) r (L (14 + i))) ((up2_n (by omega)).trans rfl)).trans (cel_trial (by omega) _ _))) rfl rfl rfl ?_
  refine ev_pf (hp' := (mk np (up2 (up2 M (5 + i) 0 (M (14 + i) 0)) (5 + i) 1 (M (14 + i) 1)) L)) (rd np (up2 M (5 + i) 0 (M (14 + i) 0)) L (by omega) ((congrArg (fun r => cel np (5 + i) r (L (5 + i))) ((up2_s _ _ _ _).trans (congrArg (fun r => upd r 0 (M (14 + i) 0)) rfl))).trans (cel_best (by omega) _ _))) rfl rfl (by simp) rfl rfl (mk_setr ((up2_s _ _ _ _).trans (congrArg (fun r => upd r 0 (M (14 + i) 0)) rfl)) (cel_best (by omega) _ _) rfl) ?_
  iterate 2 refine ev_s rfl ?_
  refine ev_gf (rd np (up2 (up2 M (5 + i) 0 (M (14 + i) 0)) (5 + i) 1 (M (14 + i) 1)) L (by omega) ((congrArg (fun r => cel np (14 + i) r (L (14 + i))) ((up2_n (by omega)).trans ((up2_n (by omega)).trans rfl))).trans (cel_trial (by omega) _ _))) rfl rfl rfl ?_
  refine ev_pf (hp' := (mk np (up2 (up2 (up2 M (5 + i) 0 (M (14 + i) 0)) (5 + i) 1 (M (14 + i) 1)) (5 + i) 2 (M (14 + i) 2)) L)) (rd np (up2 (up2 M (5 + i) 0 (M (14 + i) 0)) (5 + i) 1 (M (14 + i) 1)) L (by omega) ((congrArg (fun r => cel np (5 + i) r (L (5 + i))) ((up2_s _ _ _ _).trans (congrArg (fun r => upd r 1 (M (14 + i) 1)) ((up2_s _ _ _ _).trans (congrArg (fun r => upd r 0 (M (14 + i) 0)) rfl))))).trans (cel_best (by omega) _ _))) rfl rfl (by simp) rfl rfl (mk_setr ((up2_s _ _ _ _).trans (congrArg (fun r => upd r 1 (M (14 + i) 1)) ((up2_s _ _ _ _).trans (congrArg (fun r => upd r 0 (M (14 + i) 0)) rfl)))) (cel_best (by omega) _ _) rfl) ?_
  iterate 2 refine ev_s rfl ?_
  refine ev_gf (rd np (up2 (up2 (up2 M (5 + i) 0 (M (14 + i) 0)) (5 + i) 1 (M (14 + i) 1)) (5 + i) 2 (M (14 + i) 2)) L (by omega) ((congrArg (fun r => cel np (14 + i) r (L (14 + i))) ((up2_n (by omega)).trans ((up2_n (by omega)).trans ((up2_n (by omega)).trans rfl)))).trans (cel_trial (by omega) _ _))) rfl rfl rfl ?_
  refine ev_pf (hp' := (mk np (up2 (up2 (up2 (up2 M (5 + i) 0 (M (14 + i) 0)) (5 + i) 1 (M (14 + i) 1)) (5 + i) 2 (M (14 + i) 2)) (5 + i) 3 (M (14 + i) 3)) L)) (rd np (up2 (up2 (up2 M (5 + i) 0 (M (14 + i) 0)) (5 + i) 1 (M (14 + i) 1)) (5 + i) 2 (M (14 + i) 2)) L (by omega) ((congrArg (fun r => cel np (5 + i) r (L (5 + i))) ((up2_s _ _ _ _).trans (congrArg (fun r => upd r 2 (M (14 + i) 2)) ((up2_s _ _ _ _).trans (congrArg (fun r => upd r 1 (M (14 + i) 1)) ((up2_s _ _ _ _).trans (congrArg (fun r => upd r 0 (M (14 + i) 0)) rfl))))))).trans (cel_best (by omega) _ _))) rfl rfl (by simp) rfl rfl (mk_setr ((up2_s _ _ _ _).trans (congrArg (fun r => upd r 2 (M (14 + i) 2)) ((up2_s _ _ _ _).trans (congrArg (fun r => upd r 1 (M (14 + i) 1)) ((up2_s _ _ _ _).trans (congrArg (fun r => upd r 0 (M (14 + i) 0)) rfl)))))) (cel_best (by omega) _ _) rfl) ?_
  iterate 2 refine ev_s rfl ?_
  refine ev_gf (rd np (up2 (up2 (up2 (up2 M (5 + i) 0 (M (14 + i) 0)) (5 + i) 1 (M (14 + i) 1)) (5 + i) 2 (M (14 + i) 2)) (5 + i) 3 (M (14 + i) 3)) L (by omega) ((congrArg (fun r => cel np (14 + i) r (L (14 + i))) ((up2_n (by omega)).trans ((up2_n (by omega)).trans ((up2_n (by omega)).trans ((up2_n (by omega)).trans rfl))))).trans (cel_trial (by omega) _ _))) rfl rfl rfl ?_
  refine ev_pf (hp' := (mk np (up2 (up2 (up2 (up2 (up2 M (5 + i) 0 (M (14 + i) 0)) (5 + i) 1 (M (14 + i) 1)) (5 + i) 2 (M (14 + i) 2)) (5 + i) 3 (M (14 + i) 3)) (5 + i) 4 (M (14 + i) 4)) L)) (rd np (up2 (up2 (up2 (up2 M (5 + i) 0 (M (14 + i) 0)) (5 + i) 1 (M (14 + i) 1)) (5 + i) 2 (M (14 + i) 2)) (5 + i) 3 (M (14 + i) 3)) L (by omega) ((congrArg (fun r => cel np (5 + i) r (L (5 + i))) ((up2_s _ _ _ _).trans (congrArg (fun r => upd r 3 (M (14 + i) 3)) ((up2_s _ _ _ _).trans (congrArg (fun r => upd r 2 (M (14 + i) 2)) ((up2_s _ _ _ _).trans (congrArg (fun r => upd r 1 (M (14 + i) 1)) ((up2_s _ _ _ _).trans (congrArg (fun r => upd r 0 (M (14 + i) 0)) rfl))))))))).trans (cel_best (by omega) _ _))) rfl rfl (by simp) rfl rfl (mk_setr ((up2_s _ _ _ _).trans (congrArg (fun r => upd r 3 (M (14 + i) 3)) ((up2_s _ _ _ _).trans (congrArg (fun r => upd r 2 (M (14 + i) 2)) ((up2_s _ _ _ _).trans (congrArg (fun r => upd r 1 (M (14 + i) 1)) ((up2_s _ _ _ _).trans (congrArg (fun r => upd r 0 (M (14 + i) 0)) rfl)))))))) (cel_best (by omega) _ _) rfl) ?_
  iterate 2 refine ev_s rfl ?_
  refine ev_gf (rd np (up2 (up2 (up2 (up2 (up2 M (5 + i) 0 (M (14 + i) 0)) (5 + i) 1 (M (14 + i) 1)) (5 + i) 2 (M (14 + i) 2)) (5 + i) 3 (M (14 + i) 3)) (5 + i) 4 (M (14 + i) 4)) L (by omega) ((congrArg (fun r => cel np (14 + i) r (L (14 + i))) ((up2_n (by omega)).trans ((up2_n (by omega)).trans ((up2_n (by omega)).trans ((up2_n (by omega)).trans ((up2_n (by omega)).trans rfl)))))).trans (cel_trial (by omega) _ _))) rfl rfl rfl ?_
  refine ev_pf (hp' := (mk np (up2 (up2 (up2 (up2 (up2 (up2 M (5 + i) 0 (M (14 + i) 0)) (5 + i) 1 (M (14 + i) 1)) (5 + i) 2 (M (14 + i) 2)) (5 + i) 3 (M (14 + i) 3)) (5 + i) 4 (M (14 + i) 4)) (5 + i) 5 (M (14 + i) 5)) L)) (rd np (up2 (up2 (up2 (up2 (up2 M (5 + i) 0 (M (14 + i) 0)) (5 + i) 1 (M (14 + i) 1)) (5 + i) 2 (M (14 + i) 2)) (5 + i) 3 (M (14 + i) 3)) (5 + i) 4 (M (14 + i) 4)) L (by omega) ((congrArg (fun r => cel np (5 + i) r (L (5 + i))) ((up2_s _ _ _ _).trans (congrArg (fun r => upd r 4 (M (14 + i) 4)) ((up2_s _ _ _ _).trans (congrArg (fun r => upd r 3 (M (14 + i) 3)) ((up2_s _ _ _ _).trans (congrArg (fun r => upd r 2 (M (14 + i) 2)) ((up2_s _ _ _ _).trans (congrArg (fun r => upd r 1 (M (14 + i) 1)) ((up2_s _ _ _ _).trans (congrArg (fun r => upd r 0 (M (14 + i) 0)) rfl))))))))))).trans (cel_best (by omega) _ _))) rfl rfl (by simp) rfl rfl (mk_setr ((up2_s _ _ _ _).trans (congrArg (fun r => upd r 4 (M (14 + i) 4)) ((up2_s _ _ _ _).trans (congrArg (fun r => upd r 3 (M (14 + i) 3)) ((up2_s _ _ _ _).trans (congrArg (fun r => upd r 2 (M (14 + i) 2)) ((up2_s _ _ _ _).trans (congrArg (fun r => upd r 1 (M (14 + i) 1)) ((up2_s _ _ _ _).trans (congrArg (fun r => upd r 0 (M (14 + i) 0)) rfl)))))))))) (cel_best (by omega) _ _) rfl) ?_
  iterate 2 refine ev_s rfl ?_
  refine ev_gf (rd np (up2 (up2 (up2 (up2 (up2 (up2 M (5 + i) 0 (M (14 + i) 0)) (5 + i) 1 (M (14 + i) 1)) (5 + i) 2 (M (14 + i) 2)) (5 + i) 3 (M (14 + i) 3)) (5 + i) 4 (M (14 + i) 4)) (5 + i) 5 (M (14 + i) 5)) L (by omega) ((congrArg (fun r => cel np (14 + i) r (L (14 + i))) ((up2_n (by omega)).trans ((up2_n (by omega)).trans ((up2_n (by omega)).trans ((up2_n (by omega)).trans ((up2_n (by omega)).trans ((up2_n (by omega)).trans rfl))))))).trans (cel_trial (by omega) _ _))) rfl rfl rfl ?_
  refine ev_pf (hp' := (mk np (up2 (up2 (up2 (up2 (up2 (up2 (up2 M (5 + i) 0 (M (14 + i) 0)) (5 + i) 1 (M (14 + i) 1)) (5 + i) 2 (M (14 + i) 2)) (5 + i) 3 (M (14 + i) 3)) (5 + i) 4 (M (14 + i) 4)) (5 + i) 5 (M (14 + i) 5)) (5 + i) 6 (M (14 + i) 6)) L)) (rd np (up2 (up2 (up2 (up2 (up2 (up2 M (5 + i) 0 (M (14 + i) 0)) (5 + i) 1 (M (14 + i) 1)) (5 + i) 2 (M (14 + i) 2)) (5 + i) 3 (M (14 + i) 3)) (5 + i) 4 (M (14 + i) 4)) (5 + i) 5 (M (14 + i) 5)) L (by omega) ((congrArg (fun r => cel np (5 + i) r (L (5 + i))) ((up2_s _ _ _ _).trans (congrArg (fun r => upd r 5 (M (14 + i) 5)) ((up2_s _ _ _ _).trans (congrArg (fun r => upd r 4 (M (14 + i) 4)) ((up2_s _ _ _ _).trans (congrArg (fun r => upd r 3 (M (14 + i) 3)) ((up2_s _ _ _ _).trans (congrArg (fun r => upd r 2 (M (14 + i) 2)) ((up2_s _ _ _ _).trans (congrArg (fun r => upd r 1 (M (14 + i) 1)) ((up2_s _ _ _ _).trans (congrArg (fun r => upd r 0 (M (14 + i) 0)) rfl))))))))))))).trans (cel_best (by omega) _ _))) rfl rfl (by simp) rfl rfl (mk_setr ((up2_s _ _ _ _).trans (congrArg (fun r => upd r 5 (M (14 + i) 5)) ((up2_s _ _ _ _).trans (congrArg (fun r => upd r 4 (M (14 + i) 4)) ((up2_s _ _ _ _).trans (congrArg (fun r => upd r 3 (M (14 + i) 3)) ((up2_s _ _ _ _).trans (congrArg (fun r => upd r 2 (M (14 + i) 2)) ((up2_s _ _ _ _).trans (congrArg (fun r => upd r 1 (M (14 + i) 1)) ((up2_s _ _ _ _).trans (congrArg (fun r => upd r 0 (M (14 + i) 0)) rfl)))))))))))) (cel_best (by omega) _ _) rfl) ?_
  iterate 2 refine ev_s rfl ?_
  refine ev_gf (rd np (up2 (up2 (up2 (up2 (up2 (up2 (up2 M (5 + i) 0 (M (14 + i) 0)) (5 + i) 1 (M (14 + i) 1)) (5 + i) 2 (M (14 + i) 2)) (5 + i) 3 (M (14 + i) 3)) (5 + i) 4 (M (14 + i) 4)) (5 + i) 5 (M (14 + i) 5)) (5 + i) 6 (M (14 + i) 6)) L (by omega) ((congrArg (fun r => cel np (14 + i) r (L (14 + i))) ((up2_n (by omega)).trans ((up2_n (by omega)).trans ((up2_n (by omega)).trans ((up2_n (by omega)).trans ((up2_n (by omega)).trans ((up2_n (by omega)).trans ((up2_n (by omega)).trans rfl)))))))).trans (cel_trial (by omega) _ _))) rfl rfl rfl ?_
  refine ev_pf (hp' := (mk np (up2 (up2 (up2 (up2 (up2 (up2 (up2 (up2 M (5 + i) 0 (M (14 + i) 0)) (5 + i) 1 (M (14 + i) 1)) (5 + i) 2 (M (14 + i) 2)) (5 + i) 3 (M (14 + i) 3)) (5 + i) 4 (M (14 + i) 4)) (5 + i) 5 (M (14 + i) 5)) (5 + i) 6 (M (14 + i) 6)) (5 + i) 7 (M (14 + i) 7)) L)) (rd np (up2 (up2 (up2 (up2 (up2 (up2 (up2 M (5 + i) 0 (M (14 + i) 0)) (5 + i) 1 (M (14 + i) 1)) (5 + i) 2 (M (14 + i) 2)) (5 + i) 3 (M (14 + i) 3)) (5 + i) 4 (M (14 + i) 4)) (5 + i) 5 (M (14 + i) 5)) (5 + i) 6 (M (14 + i) 6)) L (by omega) ((congrArg (fun r => cel np (5 + i) r (L (5 + i))) ((up2_s _ _ _ _).trans (congrArg (fun r => upd r 6 (M (14 + i) 6)) ((up2_s _ _ _ _).trans (congrArg (fun r => upd r 5 (M (14 + i) 5)) ((up2_s _ _ _ _).trans (congrArg (fun r => upd r 4 (M (14 + i) 4)) ((up2_s _ _ _ _).trans (congrArg (fun r => upd r 3 (M (14 + i) 3)) ((up2_s _ _ _ _).trans (congrArg (fun r => upd r 2 (M (14 + i) 2)) ((up2_s _ _ _ _).trans (congrArg (fun r => upd r 1 (M (14 + i) 1)) ((up2_s _ _ _ _).trans (congrArg (fun r => upd r 0 (M (14 + i) 0)) rfl))))))))))))))).trans (cel_best (by omega) _ _))) rfl rfl (by simp) rfl rfl (mk_setr ((up2_s _ _ _ _).trans (congrArg (fun r => upd r 6 (M (14 + i) 6)) ((up2_s _ _ _ _).trans (congrArg (fun r => upd r 5 (M (14 + i) 5)) ((up2_s _ _ _ _).trans (congrArg (fun r => upd r 4 (M (14 + i) 4)) ((up2_s _ _ _ _).trans (congrArg (fun r => upd r 3 (M (14 + i) 3)) ((up2_s _ _ _ _).trans (congrArg (fun r => upd r 2 (M (14 + i) 2)) ((up2_s _ _ _ _).trans (congrArg (fun r => upd r 1 (M (14 + i) 1)) ((up2_s _ _ _ _).trans (congrArg (fun r => upd r 0 (M (14 + i) 0)) rfl)))))))))))))) (cel_best (by omega) _ _) rfl) ?_
  iterate 2 refine ev_s rfl ?_
  refine ev_gf (rd np (up2 (up2 (up2 (up2 (up2 (up2 (up2 (up2 M (5 + i) 0 (M (14 + i) 0)) (5 + i) 1 (M (14 + i) 1)) (5 + i) 2 (M (14 + i) 2)) (5 + i) 3 (M (14 + i) 3)) (5 + i) 4 (M (14 + i) 4)) (5 + i) 5 (M (14 + i) 5)) (5 + i) 6 (M (14 + i) 6)) (5 + i) 7 (M (14 + i) 7)) L (by omega) ((congrArg (fun r => cel np (14 + i) r (L (14 + i))) ((up2_n (by omega)).trans ((up2_n (by omega)).trans ((up2_n (by omega)).trans ((up2_n (by omega)).trans ((up2_n (by omega)).trans ((up2_n (by omega)).trans ((up2_n (by omega)).trans ((up2_n (by omega)).trans rfl))))))))).trans (cel_trial (by omega) _ _))) rfl rfl rfl ?_
  refine ev_pf (hp' := (mk np (up2 (up2 (up2 (up2 (up2 (up2 (up2 (up2 (up2 M (5 + i) 0 (M (14 + i) 0)) (5 + i) 1 (M (14 + i) 1)) (5 + i) 2 (M (14 + i) 2)) (5 + i) 3 (M (14 + i) 3)) (5 + i) 4 (M (14 + i) 4)) (5 + i) 5 (M (14 + i) 5)) (5 + i) 6 (M (14 + i) 6)) (5 + i) 7 (M (14 + i) 7)) (5 + i) 8 (M (14 + i) 8)) L)) (rd np (up2 (up2 (up2 (up2 (up2 (up2 (up2 (up2 M (5 + i) 0 (M (14 + i) 0)) (5 + i) 1 (M (14 + i) 1)) (5 + i) 2 (M (14 + i) 2)) (5 + i) 3 (M (14 + i) 3)) (5 + i) 4 (M (14 + i) 4)) (5 + i) 5 (M (14 + i) 5)) (5 + i) 6 (M (14 + i) 6)) (5 + i) 7 (M (14 + i) 7)) L (by omega) ((congrArg (fun r => cel np (5 + i) r (L (5 + i))) ((up2_s _ _ _ _).trans (congrArg (fun r => upd r 7 (M (14 + i) 7)) ((up2_s _ _ _ _).trans (congrArg (fun r => upd r 6 (M (14 + i) 6)) ((up2_s _ _ _ _).trans (congrArg (fun r => upd r 5 (M (14 + i) 5)) ((up2_s _ _ _ _).trans (congrArg (fun r => upd r 4 (M (14 + i) 4)) ((up2_s _ _ _ _).trans (congrArg (fun r => upd r 3 (M (14 + i) 3)) ((up2_s _ _ _ _).trans (congrArg (fun r => upd r 2 (M (14 + i) 2)) ((up2_s _ _ _ _).trans (congrArg (fun r => upd r 1 (M (14 + i) 1)) ((up2_s _ _ _ _).trans (congrArg (fun r => upd r 0 (M (14 + i) 0)) rfl))))))))))))))))).trans (cel_best (by omega) _ _))) rfl rfl (by simp) rfl rfl (mk_setr ((up2_s _ _ _ _).trans (congrArg (fun r => upd r 7 (M (14 + i) 7)) ((up2_s _ _ _ _).trans (congrArg (fun r => upd r 6 (M (14 + i) 6)) ((up2_s _ _ _ _).trans (congrArg (fun r => upd r 5 (M (14 + i) 5)) ((up2_s _ _ _ _).trans (congrArg (fun r => upd r 4 (M (14 + i) 4)) ((up2_s _ _ _ _).trans (congrArg (fun r => upd r 3 (M (14 + i) 3)) ((up2_s _ _ _ _).trans (congrArg (fun r => upd r 2 (M (14 + i) 2)) ((up2_s _ _ _ _).trans (congrArg (fun r => upd r 1 (M (14 + i) 1)) ((up2_s _ _ _ _).trans (congrArg (fun r => upd r 0 (M (14 + i) 0)) rfl)))))))))))))))) (cel_best (by omega) _ _) rfl) ?_
  iterate 2 refine ev_s rfl ?_
  refine ev_gf (rd np (up2 (up2 (up2 (up2 (up2 (up2 (up2 (up2 (up2 M (5 + i) 0 (M (14 + i) 0)) (5 + i) 1 (M (14 + i) 1)) (5 + i) 2 (M (14 + i) 2)) (5 + i) 3 (M (14 + i) 3)) (5 + i) 4 (M (14 + i) 4)) (5 + i) 5 (M (14 + i) 5)) (5 + i) 6 (M (14 + i) 6)) (5 + i) 7 (M (14 + i) 7)) (5 + i) 8 (M (14 + i) 8)) L (by omega) ((congrArg (fun r => cel np (14 + i) r (L (14 + i))) ((up2_n (by omega)).trans ((up2_n (by omega)).trans ((up2_n (by omega)).trans ((up2_n (by omega)).trans ((up2_n (by omega)).trans ((up2_n (by omega)).trans ((up2_n (by omega)).trans ((up2_n (by omega)).trans ((up2_n (by omega)).trans rfl)))))))))).trans (cel_trial (by omega) _ _))) rfl rfl rfl ?_
  refine ev_pf (hp' := (mk np (up2 (up2 (up2 (up2 (up2 (up2 (up2 (up2 (up2 (up2 M (5 + i) 0 (M (14 + i) 0)) (5 + i) 1 (M (14 + i) 1)) (5 + i) 2 (M (14 + i) 2)) (5 + i) 3 (M (14 + i) 3)) (5 + i) 4 (M (14 + i) 4)) (5 + i) 5 (M (14 + i) 5)) (5 + i) 6 (M (14 + i) 6)) (5 + i) 7 (M (14 + i) 7)) (5 + i) 8 (M (14 + i) 8)) (5 + i) 9 (M (14 + i) 9)) L)) (rd np (up2 (up2 (up2 (up2 (up2 (up2 (up2 (up2 (up2 M (5 + i) 0 (M (14 + i) 0)) (5 + i) 1 (M (14 + i) 1)) (5 + i) 2 (M (14 + i) 2)) (5 + i) 3 (M (14 + i) 3)) (5 + i) 4 (M (14 + i) 4)) (5 + i) 5 (M (14 + i) 5)) (5 + i) 6 (M (14 + i) 6)) (5 + i) 7 (M (14 + i) 7)) (5 + i) 8 (M (14 + i) 8)) L (by omega) ((congrArg (fun r => cel np (5 + i) r (L (5 + i))) ((up2_s _ _ _ _).trans (congrArg (fun r => upd r 8 (M (14 + i) 8)) ((up2_s _ _ _ _).trans (congrArg (fun r => upd r 7 (M (14 + i) 7)) ((up2_s _ _ _ _).trans (congrArg (fun r => upd r 6 (M (14 + i) 6)) ((up2_s _ _ _ _).trans (congrArg (fun r => upd r 5 (M (14 + i) 5)) ((up2_s _ _ _ _).trans (congrArg (fun r => upd r 4 (M (14 + i) 4)) ((up2_s _ _ _ _).trans (congrArg (fun r => upd r 3 (M (14 + i) 3)) ((up2_s _ _ _ _).trans (congrArg (fun r => upd r 2 (M (14 + i) 2)) ((up2_s _ _ _ _).trans (congrArg (fun r => upd r 1 (M (14 + i) 1)) ((up2_s _ _ _ _).trans (congrArg (fun r => upd r 0 (M (14 + i) 0)) rfl))))))))))))))))))).trans (cel_best (by omega) _ _))) rfl rfl (by simp) rfl rfl (mk_setr ((up2_s _ _ _ _).trans (congrArg (fun r => upd r 8 (M (14 + i) 8)) ((up2_s _ _ _ _).trans (congrArg (fun r => upd r 7 (M (14 + i) 7)) ((up2_s _ _ _ _).trans (congrArg (fun r => upd r 6 (M (14 + i) 6)) ((up2_s _ _ _ _).trans (congrArg (fun r => upd r 5 (M (14 + i) 5)) ((up2_s _ _ _ _).trans (congrArg (fun r => upd r 4 (M (14 + i) 4)) ((up2_s _ _ _ _).trans (congrArg (fun r => upd r 3 (M (14 + i) 3)) ((up2_s _ _ _ _).trans (congrArg (fun r => upd r 2 (M (14 + i) 2)) ((up2_s _ _ _ _).trans (congrArg (fun r => upd r 1 (M (14 + i) 1)) ((up2_s _ _ _ _).trans (congrArg (fun r => upd r 0 (M (14 + i) 0)) rfl)))))))))))))))))) (cel_best (by omega) _ _) rfl) ?_
  iterate 2 refine ev_s rfl ?_
  refine ev_gf (rd np (up2 (up2 (up2 (up2 (up2 (up2 (up2 (up2 (up2 (up2 M (5 + i) 0 (M (14 + i) 0)) (5 + i) 1 (M (14 + i) 1)) (5 + i) 2 (M (14 + i) 2)) (5 + i) 3 (M (14 + i) 3)) (5 + i) 4 (M (14 + i) 4)) (5 + i) 5 (M (14 + i) 5)) (5 + i) 6 (M (14 + i) 6)) (5 + i) 7 (M (14 + i) 7)) (5 + i) 8 (M (14 + i) 8)) (5 + i) 9 (M (14 + i) 9)) L (by omega) ((congrArg (fun r => cel np (14 + i) r (L (14 + i))) ((up2_n (by omega)).trans ((up2_n (by omega)).trans ((up2_n (by omega)).trans ((up2_n (by omega)).trans ((up2_n (by omega)).trans ((up2_n (by omega)).trans ((up2_n (by omega)).trans ((up2_n (by omega)).trans ((up2_n (by omega)).trans ((up2_n (by omega)).trans rfl))))))))))).trans (cel_trial (by omega) _ _))) rfl rfl rfl ?_
  refine ev_pf (hp' := (mk np (up2 (up2 (up2 (up2 (up2 (up2 (up2 (up2 (up2 (up2 (up2 M (5 + i) 0 (M (14 + i) 0)) (5 + i) 1 (M (14 + i) 1)) (5 + i) 2 (M (14 + i) 2)) (5 + i) 3 (M (14 + i) 3)) (5 + i) 4 (M (14 + i) 4)) (5 + i) 5 (M (14 + i) 5)) (5 + i) 6 (M (14 + i) 6)) (5 + i) 7 (M (14 + i) 7)) (5 + i) 8 (M (14 + i) 8)) (5 + i) 9 (M (14 + i) 9)) (5 + i) 10 (M (14 + i) 10)) L)) (rd np (up2 (up2 (up2 (up2 (up2 (up2 (up2 (up2 (up2 (up2 M (5 + i) 0 (M (14 + i) 0)) (5 + i) 1 (M (14 + i) 1)) (5 + i) 2 (M (14 + i) 2)) (5 + i) 3 (M (14 + i) 3)) (5 + i) 4 (M (14 + i) 4)) (5 + i) 5 (M (14 + i) 5)) (5 + i) 6 (M (14 + i) 6)) (5 + i) 7 (M (14 + i) 7)) (5 + i) 8 (M (14 + i) 8)) (5 + i) 9 (M (14 + i) 9)) L (by omega) ((congrArg (fun r => cel np (5 + i) r (L (5 + i))) ((up2_s _ _ _ _).trans (congrArg (fun r => upd r 9 (M (14 + i) 9)) ((up2_s _ _ _ _).trans (congrArg (fun r => upd r 8 (M (14 + i) 8)) ((up2_s _ _ _ _).trans (congrArg (fun r => upd r 7 (M (14 + i) 7)) ((up2_s _ _ _ _).trans (congrArg (fun r => upd r 6 (M (14 + i) 6)) ((up2_s _ _ _ _).trans (congrArg (fun r => upd r 5 (M (14 + i) 5)) ((up2_s _ _ _ _).trans (congrArg (fun r => upd r 4 (M (14 + i) 4)) ((up2_s _ _ _ _).trans (congrArg (fun r => upd r 3 (M (14 + i) 3)) ((up2_s _ _ _ _).trans (congrArg (fun r => upd r 2 (M (14 + i) 2)) ((up2_s _ _ _ _).trans (congrArg (fun r => upd r 1 (M (14 + i) 1)) ((up2_s _ _ _ _).trans (congrArg (fun r => upd r 0 (M (14 + i) 0)) rfl))))))))))))))))))))).trans (cel_best (by omega) _ _))) rfl rfl (by simp) rfl rfl (mk_setr ((up2_s _ _ _ _).trans (congrArg (fun r => upd r 9 (M (14 + i) 9)) ((up2_s _ _ _ _).trans (congrArg (fun r => upd r 8 (M (14 + i) 8)) ((up2_s _ _ _ _).trans (congrArg (fun r => upd r 7 (M (14 + i) 7)) ((up2_s _ _ _ _).trans (congrArg (fun r => upd r 6 (M (14 + i) 6)) ((up2_s _ _ _ _).trans (congrArg (fun r => upd r 5 (M (14 + i) 5)) ((up2_s _ _ _ _).trans (congrArg (fun r => upd r 4 (M (14 + i) 4)) ((up2_s _ _ _ _).trans (congrArg (fun r => upd r 3 (M (14 + i) 3)) ((up2_s _ _ _ _).trans (congrArg (fun r => upd r 2 (M (14 + i) 2)) ((up2_s _ _ _ _).trans (congrArg (fun r => upd r 1 (M (14 + i) 1)) ((up2_s _ _ _ _).trans (congrArg (fun r => upd r 0 (M (14 + i) 0)) rfl)))))))))))))))))))) (cel_best (by omega) _ _) rfl) ?_
  refine ev_rv rfl rfl ?_ ?_
  · rfl
  · rfl
theorem tW_c {f g : Nat → Int32} (h0 : f 0 = g 0) (h1 : f 1 = g 1) (h2 : f 2 = g 2) (t : Nat) : tW f t = tW g t ∧ tH f t = tH g t ∧ tD f t = tD g t := by
  refine ⟨?_, ?_, ?_⟩
  · unfold tW; split <;> assumption
  · unfold tH; split <;> assumption
  · unfold tD; split <;> assumption
theorem cMk_c {f g : Nat → Int32} (h0 : f 0 = g 0) (h1 : f 1 = g 1) (h2 : f 2 = g 2) (t : Nat) : cMk f t = cMk g t := by
  unfold cMk smT
  congr 1
  funext b
  rw [(tW_c h0 h1 h2 b).1, (tW_c h0 h1 h2 b).2.1, (tW_c h0 h1 h2 b).2.2, (tW_c h0 h1 h2 t).1, (tW_c h0 h1 h2 t).2.1, (tW_c h0 h1 h2 t).2.2]
/-- the bits of the turns below t that make no turn before them -/
noncomputable def tbl (f : Nat → Int32) : Nat → Int32
  | 0 => 0
  | t + 1 => @ite _ (cMk f t) (Classical.propDecidable _) (tbl f t) (tbl f t ||| ((1 : Int32) <<< (nI t &&& 31)))
def tmo (x : Int32) : Nat := if x = 0 then 1 else if x = 1 then 2 else 6
noncomputable def smM (M : Nat → Nat → Int32) (h : Nat) (x : Int32) (b : Int32) : Nat → Nat → Int32 := up2 (up2 M h 4 x) h 7 b
theorem smM_s (M : Nat → Nat → Int32) (h : Nat) (x b : Int32) : smM M h x b h = upd (upd (M h) 4 x) 7 b := by unfold smM; rw [up2_s, up2_s]
theorem smM_up (M : Nat → Nat → Int32) (h : Nat) (x b v : Int32) : up2 (smM M h x b) h 7 v = smM M h x v := up2_up2 _ _ _ _ _
theorem mk_sm {np : Nat} {M : Nat → Nat → Int32} {L : Nat → Int64} {k : Nat} {x b v : Int32} {c : va_E} (hc : c = kcl (upd (upd (upd (M (57 + k)) 4 x) 7 b) 7 v)) : (mk np (smM M (57 + k) x b) L).set (57 + k) c = mk np (smM M (57 + k) x v) L := by
  rw [mk_setr (k := 7) (v := v) (smM_s M (57 + k) x b) (cel_piece _ _) hc, smM_up]
set_option maxHeartbeats 4000000 in
theorem lp_sm {np : Nat} {M : Nat → Nat → Int32} {L : Nat → Int64} {k : Nat} (hk : k < np) {x : Int32} {n : Nat} (hn : n ≤ 6) (d : Nat) : ∀ j t, t + j = n → Ev (d + 2) mX1_setMark 32 [some (.ref (57 + k)), some (.int x), some (.int (nI n)), some (.int (nI t))] [] (mk np (smM M (57 + k) x (tbl (M (57 + k)) t)) L) (Qr mX1_setMark none (mk np (smM M (57 + k) x (tbl (M (57 + k)) n)) L)) := by
  intro j
  induction j with
  | zero =>
    intro t ht
    obtain rfl : t = n := by omega
    iterate 2 refine ev_s rfl ?_
    refine ev_ic rfl rfl ?_
    rw [show zbr .ge (nI t) (nI t) 63 37 = 63 from zge_t (n := t) rfl (by omega) (by omega)]
    refine ev_rv rfl rfl ?_ ?_
    · rfl
    · rfl
  | succ j ih =>
    intro t ht
    have htn : t < n := by omega
    iterate 2 refine ev_s rfl ?_
    refine ev_ic rfl rfl ?_
    rw [show zbr .ge (nI t) (nI n) 63 37 = 37 from zge_f (n := n) rfl htn (by omega)]
    iterate 2 refine ev_s rfl ?_
    refine ev_cv (vs := [(.ref (57 + k)), (.int (nI t))]) (rest := []) (rv := (some (.int (zi (cMk (upd (upd (M (57 + k)) 4 x) 7 (tbl (M (57 + k)) t)) t))))) rfl rfl rfl (rd np (smM M (57 + k) x (tbl (M (57 + k)) t)) L (by omega) ((congrArg (fun r => cel np (57 + k) r (L (57 + k))) (smM_s _ _ _ _)).trans (cel_piece _ _))) rfl rfl rfl rfl (rn_mk (f := upd (upd (M (57 + k)) 4 x) 7 (tbl (M (57 + k)) t)) (rd np (smM M (57 + k) x (tbl (M (57 + k)) t)) L (by omega) ((congrArg (fun r => cel np (57 + k) r (L (57 + k))) (smM_s _ _ _ _)).trans (cel_piece _ _))) (t := t) (by omega) _) ?_
    show Ev _ _ 42 _ [(.int (zi (cMk (upd (upd (M (57 + k)) 4 x) 7 (tbl (M (57 + k)) t)) t)))] _ _
    refine ev_if rfl rfl (ev_bzn (fun c1 => ?_) (fun c1 => ?_))
    · show Ev _ _ 57 _ _ _ _
      refine ev_inc (y := 1) (v := nI (t + 1)) (ls' := [some (.ref (57 + k)), some (.int x), some (.int (nI n)), some (.int (nI (t + 1)))]) rfl rfl (by decide) (nI_1 _) rfl ?_
      refine ev_s rfl ?_
      rw [cMk_c (f := upd (upd (M (57 + k)) 4 x) 7 (tbl (M (57 + k)) t)) (g := M (57 + k)) rfl rfl rfl t] at c1
      have e9 := ih (t + 1) (by omega)
      simp only [tbl, if_pos c1] at e9
      exact e9
    · show Ev _ _ 45 _ _ _ _
      iterate 2 refine ev_s rfl ?_
      refine ev_gf (rd np (smM M (57 + k) x (tbl (M (57 + k)) t)) L (by omega) ((congrArg (fun r => cel np (57 + k) r (L (57 + k))) (smM_s _ _ _ _)).trans (cel_piece _ _))) rfl rfl rfl ?_
      refine ev_ik (v := 1) rfl (by decide) ?_
      iterate 3 refine ev_s rfl ?_
      refine ev_pf (hp' := (mk np (smM M (57 + k) x ((tbl (M (57 + k)) t) ||| (1 <<< ((nI t) &&& 31)))) L)) (rd np (smM M (57 + k) x (tbl (M (57 + k)) t)) L (by omega) ((congrArg (fun r => cel np (57 + k) r (L (57 + k))) (smM_s _ _ _ _)).trans (cel_piece _ _))) rfl rfl (by simp) rfl rfl (mk_sm rfl) ?_
      refine ev_inc (y := 1) (v := nI (t + 1)) (ls' := [some (.ref (57 + k)), some (.int x), some (.int (nI n)), some (.int (nI (t + 1)))]) rfl rfl (by decide) (nI_1 _) rfl ?_
      refine ev_s rfl ?_
      rw [cMk_c (f := upd (upd (M (57 + k)) 4 x) 7 (tbl (M (57 + k)) t)) (g := M (57 + k)) rfl rfl rfl t] at c1
      have e9 := ih (t + 1) (by omega)
      simp only [tbl, if_neg c1] at e9
      exact e9
set_option maxHeartbeats 4000000 in
theorem rn_setMark {np : Nat} {M : Nat → Nat → Int32} {L : Nat → Int64} {k : Nat} (hk : k < np) {x : Int32} (d : Nat) : Rn (d + 2) mX1_setMark [.ref (57 + k), .int x] (mk np M L) none (mk np (smM M (57 + k) x (tbl (M (57 + k)) (tmo x))) L) := by
  unfold Rn
  iterate 2 refine ev_s rfl ?_
  refine ev_pf (hp' := (mk np (up2 M (57 + k) 4 x) L)) (rd np M L (by omega) (cel_piece _ _)) rfl rfl (by simp) rfl rfl (mk_setr rfl (cel_piece _ _) rfl) ?_
  refine ev_s rfl ?_
  refine ev_if rfl rfl (ev_bn (fun c1 => ?_) (fun c1 => ?_))
  · show Ev _ _ 13 _ _ _ _
    refine ev_s rfl ?_
    refine ev_ik (v := 1) rfl (by decide) ?_
    refine ev_ic rfl rfl (ev_bn (fun c2 => ?_) (fun c2 => ?_))
    · show Ev _ _ 22 _ _ _ _
      refine ev_bi (v := 6) rfl (by decide) ?_
      refine ev_s (ls' := [some (.ref (57 + k)), some (.int x), some (.int 6), none]) rfl ?_
      refine ev_s rfl ?_
      refine ev_ik (v := 0) rfl (by decide) ?_
      refine ev_pf (hp' := (mk np (up2 (up2 M (57 + k) 4 x) (57 + k) 7 0) L)) (rd np (up2 M (57 + k) 4 x) L (by omega) ((congrArg (fun r => cel np (57 + k) r (L (57 + k))) ((up2_s _ _ _ _).trans (congrArg (fun r => upd r 4 x) rfl))).trans (cel_piece _ _))) rfl rfl (by simp) rfl rfl (mk_setr ((up2_s _ _ _ _).trans (congrArg (fun r => upd r 4 x) rfl)) (cel_piece _ _) rfl) ?_
      refine ev_ik (v := 0) rfl (by decide) ?_
      refine ev_s (ls' := [some (.ref (57 + k)), some (.int x), some (.int 6), some (.int 0)]) rfl ?_
      rw [show tmo x = 6 from by simp [tmo, c1, c2]]
      exact lp_sm hk (n := 6) (by omega) d 6 0 (by omega)
    · show Ev _ _ 18 _ _ _ _
      refine ev_ik (v := 2) rfl (by decide) ?_
      refine ev_s rfl ?_
      refine ev_s (ls' := [some (.ref (57 + k)), some (.int x), some (.int 2), none]) rfl ?_
      refine ev_s rfl ?_
      refine ev_ik (v := 0) rfl (by decide) ?_
      refine ev_pf (hp' := (mk np (up2 (up2 M (57 + k) 4 x) (57 + k) 7 0) L)) (rd np (up2 M (57 + k) 4 x) L (by omega) ((congrArg (fun r => cel np (57 + k) r (L (57 + k))) ((up2_s _ _ _ _).trans (congrArg (fun r => upd r 4 x) rfl))).trans (cel_piece _ _))) rfl rfl (by simp) rfl rfl (mk_setr ((up2_s _ _ _ _).trans (congrArg (fun r => upd r 4 x) rfl)) (cel_piece _ _) rfl) ?_
      refine ev_ik (v := 0) rfl (by decide) ?_
      refine ev_s (ls' := [some (.ref (57 + k)), some (.int x), some (.int 2), some (.int 0)]) rfl ?_
      rw [show tmo x = 2 from by simp [tmo, c1, c2]]
      exact lp_sm hk (n := 2) (by omega) d 2 0 (by omega)
  · show Ev _ _ 9 _ _ _ _
    refine ev_ik (v := 1) rfl (by decide) ?_
    refine ev_s rfl ?_
    refine ev_s (ls' := [some (.ref (57 + k)), some (.int x), some (.int 1), none]) rfl ?_
    refine ev_s rfl ?_
    refine ev_ik (v := 0) rfl (by decide) ?_
    refine ev_pf (hp' := (mk np (up2 (up2 M (57 + k) 4 x) (57 + k) 7 0) L)) (rd np (up2 M (57 + k) 4 x) L (by omega) ((congrArg (fun r => cel np (57 + k) r (L (57 + k))) ((up2_s _ _ _ _).trans (congrArg (fun r => upd r 4 x) rfl))).trans (cel_piece _ _))) rfl rfl (by simp) rfl rfl (mk_setr ((up2_s _ _ _ _).trans (congrArg (fun r => upd r 4 x) rfl)) (cel_piece _ _) rfl) ?_
    refine ev_ik (v := 0) rfl (by decide) ?_
    refine ev_s (ls' := [some (.ref (57 + k)), some (.int x), some (.int 1), some (.int 0)]) rfl ?_
    rw [show tmo x = 1 from by simp [tmo, c1]]
    exact lp_sm hk (n := 1) (by omega) d 1 0 (by omega)
