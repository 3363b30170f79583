-- lk: 28
/-! ===== LoadSpaceModel: setBox, judge ===== -/
/-- the box of piece p: in turn t, at x y z -/
def bxM (M : Nat → Nat → Int32) (p t x y z : Nat) : Nat → Nat → Int32 := up2 (up2 (up2 (up2 (up2 (up2 (up2 M 30 p (nI x)) 32 p (nI z)) 31 p (nI y)) 36 p (nI t)) 33 p (tW (pf M p) t)) 34 p (tH (pf M p) t)) 35 p (tD (pf M p) t)

set_option maxHeartbeats 4000000 in
theorem rn_setBox {np : Nat} {M : Nat → Nat → Int32} {L : Nat → Int64} {p c nx ny nz x y z t : Nat} (hp : p < 6) (hcc : c < 2 ^ 31) (hx0 : 0 < nx) (hx7 : nx ≤ 7) (hy0 : 0 < ny) (hy7 : ny ≤ 7) (hz0 : 0 < nz) (hz7 : nz ≤ 7) (hx : M 50 p = nI nx) (hy : M 51 p = nI ny) (hz : M 52 p = nI nz) (hX : M 53 (7 * p + c % nx) = nI x) (hZ : M 55 (7 * p + c / nx % nz) = nI z) (hY : M 54 (7 * p + c / nx / nz % ny) = nI y) (hT : M 49 (6 * p + c / nx / nz / ny) = nI t) (ht6 : c / nx / nz / ny < 6) (ht : t < 6) (d : Nat) : Rn (d + 1) mX6_setBox [(.ref 21), (.int (nI p)), (.int (nI c))] (mk np M L) none (mk np (bxM M p t x y z) L) := by
  unfold Rn
  refine ev_s rfl ?_
  refine ev_s (ls' := [some (.ref 21), some (.int (nI p)), some (.int (nI c)), some (.int (nI c))]) rfl ?_
  refine ev_s rfl ?_
  refine ev_gf (rd np M L (by omega) rfl) rfl rfl rfl ?_
  iterate 2 refine ev_s rfl ?_
  refine ev_gf (rd np M L (by omega) rfl) rfl rfl rfl ?_
  refine ev_bi (v := 7) rfl (by decide) ?_
  iterate 4 refine ev_s rfl ?_
  refine ev_gf (rd np M L (by omega) rfl) rfl rfl rfl ?_
  refine ev_s rfl ?_
  refine ev_ia (rd np M L (by omega) rfl) rfl (zin_nI (by omega) (by decide)) ?_
  rw [hx]
  refine ev_irem rfl (nI_ne0 (by omega) (by omega)) ?_
  refine ev_s rfl ?_
  rw [pk_rem (a := c) (d := nx) (by have := Nat.div_le_self c nx; have := Nat.div_le_self (c / nx) nz; omega) (by omega) (by omega), m7 p, nI_add]
  refine ev_ia (rd np M L (by omega) rfl) rfl (by have := (Nat.mod_lt c hx0); exact zin_nI (by omega) (by decide)) ?_
  rw [hX]
  refine ev_is (hp' := (mk np (up2 M 30 p (nI x)) L)) (rd np M L (by omega) rfl) rfl (zin_nI (by omega) (by decide)) (mk_setr rfl rfl rfl) ?_
  iterate 2 refine ev_s rfl ?_
  refine ev_gf (rd np (up2 M 30 p (nI x)) L (by omega) ((congrArg (fun r => cel np 21 r (L 21)) ((up2_n (by omega)).trans rfl)).trans rfl)) rfl rfl rfl ?_
  refine ev_s rfl ?_
  refine ev_ia (rd np (up2 M 30 p (nI x)) L (by omega) ((congrArg (fun r => cel np 50 r (L 50)) ((up2_n (by omega)).trans rfl)).trans rfl)) rfl (zin_nI (by omega) (by decide)) ?_
  rw [hx]
  refine ev_idiv rfl (nI_ne0 (by omega) (by omega)) ?_
  rw [pk_div (a := c) (d := nx) (by have := Nat.div_le_self c nx; have := Nat.div_le_self (c / nx) nz; omega) (by omega) (by omega)]
  refine ev_s (ls' := [some (.ref 21), some (.int (nI p)), some (.int (nI c)), some (.int (nI (c / nx)))]) rfl ?_
  refine ev_s rfl ?_
  refine ev_gf (rd np (up2 M 30 p (nI x)) L (by omega) ((congrArg (fun r => cel np 21 r (L 21)) ((up2_n (by omega)).trans rfl)).trans rfl)) rfl rfl rfl ?_
  iterate 2 refine ev_s rfl ?_
  refine ev_gf (rd np (up2 M 30 p (nI x)) L (by omega) ((congrArg (fun r => cel np 21 r (L 21)) ((up2_n (by omega)).trans rfl)).trans rfl)) rfl rfl rfl ?_
  refine ev_bi (v := 7) rfl (by decide) ?_
  iterate 4 refine ev_s rfl ?_
  refine ev_gf (rd np (up2 M 30 p (nI x)) L (by omega) ((congrArg (fun r => cel np 21 r (L 21)) ((up2_n (by omega)).trans rfl)).trans rfl)) rfl rfl rfl ?_
  refine ev_s rfl ?_
  refine ev_ia (rd np (up2 M 30 p (nI x)) L (by omega) ((congrArg (fun r => cel np 52 r (L 52)) ((up2_n (by omega)).trans rfl)).trans rfl)) rfl (zin_nI (by omega) (by decide)) ?_
  rw [hz]
  refine ev_irem rfl (nI_ne0 (by omega) (by omega)) ?_
  refine ev_s rfl ?_
  rw [pk_rem (a := (c / nx)) (d := nz) (by have := Nat.div_le_self c nx; have := Nat.div_le_self (c / nx) nz; omega) (by omega) (by omega), m7 p, nI_add]
  refine ev_ia (rd np (up2 M 30 p (nI x)) L (by omega) ((congrArg (fun r => cel np 55 r (L 55)) ((up2_n (by omega)).trans rfl)).trans rfl)) rfl (by have := (Nat.mod_lt (c / nx) hz0); exact zin_nI (by omega) (by decide)) ?_
  rw [hZ]
  refine ev_is (hp' := (mk np (up2 (up2 M 30 p (nI x)) 32 p (nI z)) L)) (rd np (up2 M 30 p (nI x)) L (by omega) ((congrArg (fun r => cel np 32 r (L 32)) ((up2_n (by omega)).trans rfl)).trans rfl)) rfl (zin_nI (by omega) (by decide)) (mk_setr ((up2_n (by omega)).trans rfl) rfl rfl) ?_
  iterate 2 refine ev_s rfl ?_
  refine ev_gf (rd np (up2 (up2 M 30 p (nI x)) 32 p (nI z)) L (by omega) ((congrArg (fun r => cel np 21 r (L 21)) ((up2_n (by omega)).trans ((up2_n (by omega)).trans rfl))).trans rfl)) rfl rfl rfl ?_
  refine ev_s rfl ?_
  refine ev_ia (rd np (up2 (up2 M 30 p (nI x)) 32 p (nI z)) L (by omega) ((congrArg (fun r => cel np 52 r (L 52)) ((up2_n (by omega)).trans ((up2_n (by omega)).trans rfl))).trans rfl)) rfl (zin_nI (by omega) (by decide)) ?_
  rw [hz]
  refine ev_idiv rfl (nI_ne0 (by omega) (by omega)) ?_
  rw [pk_div (a := (c / nx)) (d := nz) (by have := Nat.div_le_self c nx; have := Nat.div_le_self (c / nx) nz; omega) (by omega) (by omega)]
  refine ev_s (ls' := [some (.ref 21), some (.int (nI p)), some (.int (nI c)), some (.int (nI (c / nx / nz)))]) rfl ?_
  refine ev_s rfl ?_
  refine ev_gf (rd np (up2 (up2 M 30 p (nI x)) 32 p (nI z)) L (by omega) ((congrArg (fun r => cel np 21 r (L 21)) ((up2_n (by omega)).trans ((up2_n (by omega)).trans rfl))).trans rfl)) rfl rfl rfl ?_
  iterate 2 refine ev_s rfl ?_
  refine ev_gf (rd np (up2 (up2 M 30 p (nI x)) 32 p (nI z)) L (by omega) ((congrArg (fun r => cel np 21 r (L 21)) ((up2_n (by omega)).trans ((up2_n (by omega)).trans rfl))).trans rfl)) rfl rfl rfl ?_
  refine ev_bi (v := 7) rfl (by decide) ?_
  iterate 4 refine ev_s rfl ?_
  refine ev_gf (rd np (up2 (up2 M 30 p (nI x)) 32 p (nI z)) L (by omega) ((congrArg (fun r => cel np 21 r (L 21)) ((up2_n (by omega)).trans ((up2_n (by omega)).trans rfl))).trans rfl)) rfl rfl rfl ?_
  refine ev_s rfl ?_
  refine ev_ia (rd np (up2 (up2 M 30 p (nI x)) 32 p (nI z)) L (by omega) ((congrArg (fun r => cel np 51 r (L 51)) ((up2_n (by omega)).trans ((up2_n (by omega)).trans rfl))).trans rfl)) rfl (zin_nI (by omega) (by decide)) ?_
  rw [hy]
  refine ev_irem rfl (nI_ne0 (by omega) (by omega)) ?_
  refine ev_s rfl ?_
  rw [pk_rem (a := (c / nx / nz)) (d := ny) (by have := Nat.div_le_self c nx; have := Nat.div_le_self (c / nx) nz; omega) (by omega) (by omega), m7 p, nI_add]
  refine ev_ia (rd np (up2 (up2 M 30 p (nI x)) 32 p (nI z)) L (by omega) ((congrArg (fun r => cel np 54 r (L 54)) ((up2_n (by omega)).trans ((up2_n (by omega)).trans rfl))).trans rfl)) rfl (by have := (Nat.mod_lt (c / nx / nz) hy0); exact zin_nI (by omega) (by decide)) ?_
  rw [hY]
  refine ev_is (hp' := (mk np (up2 (up2 (up2 M 30 p (nI x)) 32 p (nI z)) 31 p (nI y)) L)) (rd np (up2 (up2 M 30 p (nI x)) 32 p (nI z)) L (by omega) ((congrArg (fun r => cel np 31 r (L 31)) ((up2_n (by omega)).trans ((up2_n (by omega)).trans rfl))).trans rfl)) rfl (zin_nI (by omega) (by decide)) (mk_setr ((up2_n (by omega)).trans ((up2_n (by omega)).trans rfl)) rfl rfl) ?_
  refine ev_s rfl ?_
  refine ev_gf (rd np (up2 (up2 (up2 M 30 p (nI x)) 32 p (nI z)) 31 p (nI y)) L (by omega) ((congrArg (fun r => cel np 21 r (L 21)) ((up2_n (by omega)).trans ((up2_n (by omega)).trans ((up2_n (by omega)).trans rfl)))).trans rfl)) rfl rfl rfl ?_
  iterate 2 refine ev_s rfl ?_
  refine ev_gf (rd np (up2 (up2 (up2 M 30 p (nI x)) 32 p (nI z)) 31 p (nI y)) L (by omega) ((congrArg (fun r => cel np 21 r (L 21)) ((up2_n (by omega)).trans ((up2_n (by omega)).trans ((up2_n (by omega)).trans rfl)))).trans rfl)) rfl rfl rfl ?_
  refine ev_bi (v := 6) rfl (by decide) ?_
  iterate 4 refine ev_s rfl ?_
  refine ev_gf (rd np (up2 (up2 (up2 M 30 p (nI x)) 32 p (nI z)) 31 p (nI y)) L (by omega) ((congrArg (fun r => cel np 21 r (L 21)) ((up2_n (by omega)).trans ((up2_n (by omega)).trans ((up2_n (by omega)).trans rfl)))).trans rfl)) rfl rfl rfl ?_
  refine ev_s rfl ?_
  refine ev_ia (rd np (up2 (up2 (up2 M 30 p (nI x)) 32 p (nI z)) 31 p (nI y)) L (by omega) ((congrArg (fun r => cel np 51 r (L 51)) ((up2_n (by omega)).trans ((up2_n (by omega)).trans ((up2_n (by omega)).trans rfl)))).trans rfl)) rfl (zin_nI (by omega) (by decide)) ?_
  rw [hy]
  refine ev_idiv rfl (nI_ne0 (by omega) (by omega)) ?_
  refine ev_s rfl ?_
  rw [pk_div (a := c / nx / nz) (d := ny) (by have := Nat.div_le_self c nx; have := Nat.div_le_self (c / nx) nz; omega) (by omega) (by omega), show (6 : Int32) * nI p = nI (6 * p) from by rw [show (6 : Int32) = nI 6 from rfl, pk_mul], nI_add]
  refine ev_ia (rd np (up2 (up2 (up2 M 30 p (nI x)) 32 p (nI z)) 31 p (nI y)) L (by omega) ((congrArg (fun r => cel np 49 r (L 49)) ((up2_n (by omega)).trans ((up2_n (by omega)).trans ((up2_n (by omega)).trans rfl)))).trans rfl)) rfl (zin_nI (by omega) (by decide)) ?_
  rw [hT]
  refine ev_is (hp' := (mk np (up2 (up2 (up2 (up2 M 30 p (nI x)) 32 p (nI z)) 31 p (nI y)) 36 p (nI t)) L)) (rd np (up2 (up2 (up2 M 30 p (nI x)) 32 p (nI z)) 31 p (nI y)) L (by omega) ((congrArg (fun r => cel np 36 r (L 36)) ((up2_n (by omega)).trans ((up2_n (by omega)).trans ((up2_n (by omega)).trans rfl)))).trans rfl)) rfl (zin_nI (by omega) (by decide)) (mk_setr ((up2_n (by omega)).trans ((up2_n (by omega)).trans ((up2_n (by omega)).trans rfl))) rfl rfl) ?_
  refine ev_s rfl ?_
  refine ev_gf (rd np (up2 (up2 (up2 (up2 M 30 p (nI x)) 32 p (nI z)) 31 p (nI y)) 36 p (nI t)) L (by omega) ((congrArg (fun r => cel np 21 r (L 21)) ((up2_n (by omega)).trans ((up2_n (by omega)).trans ((up2_n (by omega)).trans ((up2_n (by omega)).trans rfl))))).trans rfl)) rfl rfl rfl ?_
  iterate 4 refine ev_s rfl ?_
  refine ev_gf (rd np (up2 (up2 (up2 (up2 M 30 p (nI x)) 32 p (nI z)) 31 p (nI y)) 36 p (nI t)) L (by omega) ((congrArg (fun r => cel np 21 r (L 21)) ((up2_n (by omega)).trans ((up2_n (by omega)).trans ((up2_n (by omega)).trans ((up2_n (by omega)).trans rfl))))).trans rfl)) rfl rfl rfl ?_
  refine ev_s rfl ?_
  refine ev_ia (rd np (up2 (up2 (up2 (up2 M 30 p (nI x)) 32 p (nI z)) 31 p (nI y)) 36 p (nI t)) L (by omega) ((congrArg (fun r => cel np 36 r (L 36)) ((up2_s _ _ _ _).trans (congrArg (fun r => upd r p (nI t)) ((up2_n (by omega)).trans ((up2_n (by omega)).trans ((up2_n (by omega)).trans rfl)))))).trans rfl)) rfl (zin_nI (by omega) (by decide)) ?_
  rw [(show upd (M 36) p (nI t) p = nI t from upd_s _ _ _)]
  refine ev_ik (v := 0) rfl (by decide) ?_
  refine ev_cv (vs := [(.ref 21), (.int (nI p)), (.int (nI t)), (.int 0)]) (rest := [(.int (nI p)), (.ref 33)]) (rv := (some (.int (tW (pf M p) t)))) rfl rfl rfl (rd np (up2 (up2 (up2 (up2 M 30 p (nI x)) 32 p (nI z)) 31 p (nI y)) 36 p (nI t)) L (by omega) ((congrArg (fun r => cel np 21 r (L 21)) ((up2_n (by omega)).trans ((up2_n (by omega)).trans ((up2_n (by omega)).trans ((up2_n (by omega)).trans rfl))))).trans rfl)) rfl rfl rfl rfl (by have e9 := rn_measure0 (np := np) (M := up2 (up2 (up2 (up2 M 30 p (nI x)) 32 p (nI z)) 31 p (nI y)) 36 p (nI t)) (L := L) (k := p) (t := t) hp ht d; rw [(pf_eq (M := M) (M1 := up2 (up2 (up2 (up2 M 30 p (nI x)) 32 p (nI z)) 31 p (nI y)) 36 p (nI t)) (q := p) rfl rfl rfl t).1] at e9; exact e9) ?_
  show Ev _ _ 133 _ [(.int (tW (pf M p) t)), (.int (nI p)), (.ref 33)] _ _
  refine ev_is (hp' := (mk np (up2 (up2 (up2 (up2 (up2 M 30 p (nI x)) 32 p (nI z)) 31 p (nI y)) 36 p (nI t)) 33 p (tW (pf M p) t)) L)) (rd np (up2 (up2 (up2 (up2 M 30 p (nI x)) 32 p (nI z)) 31 p (nI y)) 36 p (nI t)) L (by omega) ((congrArg (fun r => cel np 33 r (L 33)) ((up2_n (by omega)).trans ((up2_n (by omega)).trans ((up2_n (by omega)).trans ((up2_n (by omega)).trans rfl))))).trans rfl)) rfl (zin_nI (by omega) (by decide)) (mk_setr ((up2_n (by omega)).trans ((up2_n (by omega)).trans ((up2_n (by omega)).trans ((up2_n (by omega)).trans rfl)))) rfl rfl) ?_
  refine ev_s rfl ?_
  refine ev_gf (rd np (up2 (up2 (up2 (up2 (up2 M 30 p (nI x)) 32 p (nI z)) 31 p (nI y)) 36 p (nI t)) 33 p (tW (pf M p) t)) L (by omega) ((congrArg (fun r => cel np 21 r (L 21)) ((up2_n (by omega)).trans ((up2_n (by omega)).trans ((up2_n (by omega)).trans ((up2_n (by omega)).trans ((up2_n (by omega)).trans rfl)))))).trans rfl)) rfl rfl rfl ?_
  iterate 4 refine ev_s rfl ?_
  refine ev_gf (rd np (up2 (up2 (up2 (up2 (up2 M 30 p (nI x)) 32 p (nI z)) 31 p (nI y)) 36 p (nI t)) 33 p (tW (pf M p) t)) L (by omega) ((congrArg (fun r => cel np 21 r (L 21)) ((up2_n (by omega)).trans ((up2_n (by omega)).trans ((up2_n (by omega)).trans ((up2_n (by omega)).trans ((up2_n (by omega)).trans rfl)))))).trans rfl)) rfl rfl rfl ?_
  refine ev_s rfl ?_
  refine ev_ia (rd np (up2 (up2 (up2 (up2 (up2 M 30 p (nI x)) 32 p (nI z)) 31 p (nI y)) 36 p (nI t)) 33 p (tW (pf M p) t)) L (by omega) ((congrArg (fun r => cel np 36 r (L 36)) ((up2_n (by omega)).trans ((up2_s _ _ _ _).trans (congrArg (fun r => upd r p (nI t)) ((up2_n (by omega)).trans ((up2_n (by omega)).trans ((up2_n (by omega)).trans rfl))))))).trans rfl)) rfl (zin_nI (by omega) (by decide)) ?_
  rw [(show upd (M 36) p (nI t) p = nI t from upd_s _ _ _)]
  refine ev_ik (v := 1) rfl (by decide) ?_
  refine ev_cv (vs := [(.ref 21), (.int (nI p)), (.int (nI t)), (.int 1)]) (rest := [(.int (nI p)), (.ref 34)]) (rv := (some (.int (tH (pf M p) t)))) rfl rfl rfl (rd np (up2 (up2 (up2 (up2 (up2 M 30 p (nI x)) 32 p (nI z)) 31 p (nI y)) 36 p (nI t)) 33 p (tW (pf M p) t)) L (by omega) ((congrArg (fun r => cel np 21 r (L 21)) ((up2_n (by omega)).trans ((up2_n (by omega)).trans ((up2_n (by omega)).trans ((up2_n (by omega)).trans ((up2_n (by omega)).trans rfl)))))).trans rfl)) rfl rfl rfl rfl (by have e9 := rn_measure1 (np := np) (M := up2 (up2 (up2 (up2 (up2 M 30 p (nI x)) 32 p (nI z)) 31 p (nI y)) 36 p (nI t)) 33 p (tW (pf M p) t)) (L := L) (k := p) (t := t) hp ht d; rw [(pf_eq (M := M) (M1 := up2 (up2 (up2 (up2 (up2 M 30 p (nI x)) 32 p (nI z)) 31 p (nI y)) 36 p (nI t)) 33 p (tW (pf M p) t)) (q := p) rfl rfl rfl t).2.1] at e9; exact e9) ?_
  show Ev _ _ 151 _ [(.int (tH (pf M p) t)), (.int (nI p)), (.ref 34)] _ _
  refine ev_is (hp' := (mk np (up2 (up2 (up2 (up2 (up2 (up2 M 30 p (nI x)) 32 p (nI z)) 31 p (nI y)) 36 p (nI t)) 33 p (tW (pf M p) t)) 34 p (tH (pf M p) t)) L)) (rd np (up2 (up2 (up2 (up2 (up2 M 30 p (nI x)) 32 p (nI z)) 31 p (nI y)) 36 p (nI t)) 33 p (tW (pf M p) t)) L (by omega) ((congrArg (fun r => cel np 34 r (L 34)) ((up2_n (by omega)).trans ((up2_n (by omega)).trans ((up2_n (by omega)).trans ((up2_n (by omega)).trans ((up2_n (by omega)).trans rfl)))))).trans rfl)) rfl (zin_nI (by omega) (by decide)) (mk_setr ((up2_n (by omega)).trans ((up2_n (by omega)).trans ((up2_n (by omega)).trans ((up2_n (by omega)).trans ((up2_n (by omega)).trans rfl))))) rfl rfl) ?_
  refine ev_s rfl ?_
  refine ev_gf (rd np (up2 (up2 (up2 (up2 (up2 (up2 M 30 p (nI x)) 32 p (nI z)) 31 p (nI y)) 36 p (nI t)) 33 p (tW (pf M p) t)) 34 p (tH (pf M p) t)) L (by omega) ((congrArg (fun r => cel np 21 r (L 21)) ((up2_n (by omega)).trans ((up2_n (by omega)).trans ((up2_n (by omega)).trans ((up2_n (by omega)).trans ((up2_n (by omega)).trans ((up2_n (by omega)).trans rfl))))))).trans rfl)) rfl rfl rfl ?_
  iterate 4 refine ev_s rfl ?_
  refine ev_gf (rd np (up2 (up2 (up2 (up2 (up2 (up2 M 30 p (nI x)) 32 p (nI z)) 31 p (nI y)) 36 p (nI t)) 33 p (tW (pf M p) t)) 34 p (tH (pf M p) t)) L (by omega) ((congrArg (fun r => cel np 21 r (L 21)) ((up2_n (by omega)).trans ((up2_n (by omega)).trans ((up2_n (by omega)).trans ((up2_n (by omega)).trans ((up2_n (by omega)).trans ((up2_n (by omega)).trans rfl))))))).trans rfl)) rfl rfl rfl ?_
  refine ev_s rfl ?_
  refine ev_ia (rd np (up2 (up2 (up2 (up2 (up2 (up2 M 30 p (nI x)) 32 p (nI z)) 31 p (nI y)) 36 p (nI t)) 33 p (tW (pf M p) t)) 34 p (tH (pf M p) t)) L (by omega) ((congrArg (fun r => cel np 36 r (L 36)) ((up2_n (by omega)).trans ((up2_n (by omega)).trans ((up2_s _ _ _ _).trans (congrArg (fun r => upd r p (nI t)) ((up2_n (by omega)).trans ((up2_n (by omega)).trans ((up2_n (by omega)).trans rfl)))))))).trans rfl)) rfl (zin_nI (by omega) (by decide)) ?_
  rw [(show upd (M 36) p (nI t) p = nI t from upd_s _ _ _)]
  refine ev_ik (v := 2) rfl (by decide) ?_
  refine ev_cv (vs := [(.ref 21), (.int (nI p)), (.int (nI t)), (.int 2)]) (rest := [(.int (nI p)), (.ref 35)]) (rv := (some (.int (tD (pf M p) t)))) rfl rfl rfl (rd np (up2 (up2 (up2 (up2 (up2 (up2 M 30 p (nI x)) 32 p (nI z)) 31 p (nI y)) 36 p (nI t)) 33 p (tW (pf M p) t)) 34 p (tH (pf M p) t)) L (by omega) ((congrArg (fun r => cel np 21 r (L 21)) ((up2_n (by omega)).trans ((up2_n (by omega)).trans ((up2_n (by omega)).trans ((up2_n (by omega)).trans ((up2_n (by omega)).trans ((up2_n (by omega)).trans rfl))))))).trans rfl)) rfl rfl rfl rfl (by have e9 := rn_measure2 (np := np) (M := up2 (up2 (up2 (up2 (up2 (up2 M 30 p (nI x)) 32 p (nI z)) 31 p (nI y)) 36 p (nI t)) 33 p (tW (pf M p) t)) 34 p (tH (pf M p) t)) (L := L) (k := p) (t := t) hp ht d; rw [(pf_eq (M := M) (M1 := up2 (up2 (up2 (up2 (up2 (up2 M 30 p (nI x)) 32 p (nI z)) 31 p (nI y)) 36 p (nI t)) 33 p (tW (pf M p) t)) 34 p (tH (pf M p) t)) (q := p) rfl rfl rfl t).2.2] at e9; exact e9) ?_
  show Ev _ _ 169 _ [(.int (tD (pf M p) t)), (.int (nI p)), (.ref 35)] _ _
  refine ev_is (hp' := (mk np (up2 (up2 (up2 (up2 (up2 (up2 (up2 M 30 p (nI x)) 32 p (nI z)) 31 p (nI y)) 36 p (nI t)) 33 p (tW (pf M p) t)) 34 p (tH (pf M p) t)) 35 p (tD (pf M p) t)) L)) (rd np (up2 (up2 (up2 (up2 (up2 (up2 M 30 p (nI x)) 32 p (nI z)) 31 p (nI y)) 36 p (nI t)) 33 p (tW (pf M p) t)) 34 p (tH (pf M p) t)) L (by omega) ((congrArg (fun r => cel np 35 r (L 35)) ((up2_n (by omega)).trans ((up2_n (by omega)).trans ((up2_n (by omega)).trans ((up2_n (by omega)).trans ((up2_n (by omega)).trans ((up2_n (by omega)).trans rfl))))))).trans rfl)) rfl (zin_nI (by omega) (by decide)) (mk_setr ((up2_n (by omega)).trans ((up2_n (by omega)).trans ((up2_n (by omega)).trans ((up2_n (by omega)).trans ((up2_n (by omega)).trans ((up2_n (by omega)).trans rfl)))))) rfl rfl) ?_
  refine ev_rv rfl rfl ?_ ?_
  · rfl
  · rfl
def jcS (M : Nat → Nat → Int32) : Nat → Int32
  | 0 => 0
  | k + 1 => jcS M k + if M 29 k = 0 then 0 else M 33 k * M 34 k * M 35 k
def jlS (M : Nat → Nat → Int32) : Nat → Int64
  | 0 => 0
  | k + 1 => jlS M k + if M 29 k = 0 then 0 else (M 25 k).toInt64 * (M 31 k).toInt64
def upL (L : Nat → Int64) (h : Nat) (v : Int64) : Nat → Int64 := fun i => if i = h then v else L i
theorem mk_setL {np : Nat} {M : Nat → Nat → Int32} {L : Nat → Int64} {h : Nat} {v : Int64} {c : va_E} (hc : c = cel np h (M h) v) : (mk np M L).set h c = mk np M (upL L h v) := by
  apply List.ext_getElem?
  intro j
  rw [List.getElem?_set]
  by_cases hj : h = j
  · subst hj
    rw [if_pos rfl, hc]
    simp only [mk, List.length_map, List.length_range, List.getElem?_map]
    by_cases hl : h < 57 + np
    · simp [hl, upL]
    · simp [hl]
  · rw [if_neg hj]
    simp only [mk, List.getElem?_map]
    by_cases hl : j < 57 + np
    · simp [hl, upL, if_neg (Ne.symm hj)]
    · simp [hl]
/-- one place kept -/
noncomputable def jst (n k : Nat) (M : Nat → Nat → Int32) : Nat → Nat → Int32 := up2 (up2 (up2 (up2 (up2 (up2 (up2 (up2 (up2 (up2 M 37 k (zi (¬ nI n ≤ nI k ∧ ¬ M 29 k = 0))) 38 k (M 30 k)) 39 k (M 31 k)) 40 k (M 32 k)) 41 k (M 33 k)) 42 k (M 34 k)) 43 k (M 35 k)) 44 k (M 36 k)) 45 k (M 25 k)) 46 k (M 28 k)
noncomputable def jcM (n : Nat) (M : Nat → Nat → Int32) : Nat → Nat → Nat → Int32
  | 0 => M
  | k + 1 => jst n k (jcM n M k)
def jbt (n : Nat) (M : Nat → Nat → Int32) (L : Nat → Int64) : Prop := ¬ M 21 34 = 0 ∧ (jcS M n < M 21 32 ∨ jcS M n = M 21 32 ∧ ¬ lg_cmp (jlS M n) (L 21) < 0)
noncomputable def jgM (n : Nat) (M : Nat → Nat → Int32) (L : Nat → Int64) : Nat → Nat → Int32 := cIf (jbt n M L) M (jcM n (up2 (up2 M 21 34 1) 21 32 (jcS M n)) 6)
noncomputable def jgL (n : Nat) (M : Nat → Nat → Int32) (L : Nat → Int64) : Nat → Int64 := cIf (jbt n M L) L (upL L 21 (jlS M n))
theorem jcM_in {n h : Nat} {M : Nat → Nat → Int32} (hh : h < 37 ∨ 46 < h) : ∀ k, jcM n M k h = M h
  | 0 => rfl
  | k + 1 => by
    show jst n k (jcM n M k) h = M h
    unfold jst
    rw [up2_n (by omega), up2_n (by omega), up2_n (by omega), up2_n (by omega), up2_n (by omega), up2_n (by omega), up2_n (by omega), up2_n (by omega), up2_n (by omega), up2_n (by omega)]
    exact jcM_in hh k
set_option maxHeartbeats 4000000 in
theorem lp_jc {np : Nat} {L : Nat → Int64} {n : Nat} (hn : n ≤ 6) {M0 : Nat → Nat → Int32} (h3 : M0 21 3 = nI n) (d : Nat) {v1 v2 : Option Value} {Q : zCf → Prop} (hQ : Ev d mX6_judge 317 [some (.ref 21), v1, v2, none, some (.int (nI 6))] [] (mk np (jcM n M0 6) L) Q) : ∀ j k, k + j = 6 → Ev d mX6_judge 147 [some (.ref 21), v1, v2, none, some (.int (nI k))] [] (mk np (jcM n M0 k) L) Q := by
  intro j
  induction j with
  | zero =>
    intro k hk
    obtain rfl : k = 6 := by omega
    refine ev_s rfl ?_
    refine ev_bi (v := 6) rfl (by decide) ?_
    refine ev_ic rfl rfl ?_
    rw [show zbr .ge (nI 6) 6 317 154 = 317 from zge_t (n := 6) rfl (by omega) (by omega)]
    exact hQ
  | succ j ih =>
    intro k hkj
    have hk : k < 6 := by omega
    have e9 := ih (k + 1) (by omega)
    rw [show jcM n M0 (k + 1) = jst n k (jcM n M0 k) from rfl] at e9
    have h21 : (jcM n M0 k) 21 3 = nI n := by rw [jcM_in (by omega)]; exact h3
    obtain ⟨M2, hM2⟩ : ∃ M2, M2 = jcM n M0 k := ⟨_, rfl⟩
    rw [← hM2] at e9 h21 ⊢
    refine ev_s rfl ?_
    refine ev_bi (v := 6) rfl (by decide) ?_
    refine ev_ic rfl rfl ?_
    rw [show zbr .ge (nI k) 6 317 154 = 154 from zge_f (n := 6) rfl hk (by omega)]
    refine ev_s rfl ?_
    refine ev_gf (rd np M2 L (by omega) rfl) rfl rfl rfl ?_
    iterate 3 refine ev_s rfl ?_
    refine ev_gf (rd np M2 L (by omega) rfl) rfl rfl rfl ?_
    rw [h21]
    refine ev_cut (pc2 := 184) (ls2 := [some (.ref 21), v1, v2, none, some (.int (nI k))]) (st2 := [(.int (zi (¬ (nI n) ≤ (nI k) ∧ ¬ (M2 29 k) = 0))), (.int (nI k)), (.ref 37)]) (hp2 := (mk np M2 L)) ?_ (fun hK1 => ?_)
    · show Ev _ _ 184 _ _ _ _
      refine ev_bs (hp' := (mk np (up2 M2 37 k (zi (¬ (nI n) ≤ (nI k) ∧ ¬ (M2 29 k) = 0))) L)) (rd np M2 L (by omega) rfl) rfl (zin_nI (by omega) (by decide)) (zi_01 _) (mk_setr rfl rfl rfl) ?_
      refine ev_s rfl ?_
      refine ev_gf (rd np (up2 M2 37 k (zi (¬ (nI n) ≤ (nI k) ∧ ¬ (M2 29 k) = 0))) L (by omega) ((congrArg (fun r => cel np 21 r (L 21)) ((up2_n (by omega)).trans rfl)).trans rfl)) rfl rfl rfl ?_
      iterate 2 refine ev_s rfl ?_
      refine ev_gf (rd np (up2 M2 37 k (zi (¬ (nI n) ≤ (nI k) ∧ ¬ (M2 29 k) = 0))) L (by omega) ((congrArg (fun r => cel np 21 r (L 21)) ((up2_n (by omega)).trans rfl)).trans rfl)) rfl rfl rfl ?_
      refine ev_s rfl ?_
      refine ev_ia (rd np (up2 M2 37 k (zi (¬ (nI n) ≤ (nI k) ∧ ¬ (M2 29 k) = 0))) L (by omega) ((congrArg (fun r => cel np 30 r (L 30)) ((up2_n (by omega)).trans rfl)).trans rfl)) rfl (zin_nI (by omega) (by decide)) ?_
      refine ev_is (hp' := (mk np (up2 (up2 M2 37 k (zi (¬ (nI n) ≤ (nI k) ∧ ¬ (M2 29 k) = 0))) 38 k (M2 30 k)) L)) (rd np (up2 M2 37 k (zi (¬ (nI n) ≤ (nI k) ∧ ¬ (M2 29 k) = 0))) L (by omega) ((congrArg (fun r => cel np 38 r (L 38)) ((up2_n (by omega)).trans rfl)).trans rfl)) rfl (zin_nI (by omega) (by decide)) (mk_setr ((up2_n (by omega)).trans rfl) rfl rfl) ?_
      refine ev_s rfl ?_
      refine ev_gf (rd np (up2 (up2 M2 37 k (zi (¬ (nI n) ≤ (nI k) ∧ ¬ (M2 29 k) = 0))) 38 k (M2 30 k)) L (by omega) ((congrArg (fun r => cel np 21 r (L 21)) ((up2_n (by omega)).trans ((up2_n (by omega)).trans rfl))).trans rfl)) rfl rfl rfl ?_
      iterate 2 refine ev_s rfl ?_
      refine ev_gf (rd np (up2 (up2 M2 37 k (zi (¬ (nI n) ≤ (nI k) ∧ ¬ (M2 29 k) = 0))) 38 k (M2 30 k)) L (by omega) ((congrArg (fun r => cel np 21 r (L 21)) ((up2_n (by omega)).trans ((up2_n (by omega)).trans rfl))).trans rfl)) rfl rfl rfl ?_
      refine ev_s rfl ?_
      refine ev_ia (rd np (up2 (up2 M2 37 k (zi (¬ (nI n) ≤ (nI k) ∧ ¬ (M2 29 k) = 0))) 38 k (M2 30 k)) L (by omega) ((congrArg (fun r => cel np 31 r (L 31)) ((up2_n (by omega)).trans ((up2_n (by omega)).trans rfl))).trans rfl)) rfl (zin_nI (by omega) (by decide)) ?_
      refine ev_is (hp' := (mk np (up2 (up2 (up2 M2 37 k (zi (¬ (nI n) ≤ (nI k) ∧ ¬ (M2 29 k) = 0))) 38 k (M2 30 k)) 39 k (M2 31 k)) L)) (rd np (up2 (up2 M2 37 k (zi (¬ (nI n) ≤ (nI k) ∧ ¬ (M2 29 k) = 0))) 38 k (M2 30 k)) L (by omega) ((congrArg (fun r => cel np 39 r (L 39)) ((up2_n (by omega)).trans ((up2_n (by omega)).trans rfl))).trans rfl)) rfl (zin_nI (by omega) (by decide)) (mk_setr ((up2_n (by omega)).trans ((up2_n (by omega)).trans rfl)) rfl rfl) ?_
      refine ev_s rfl ?_
      refine ev_gf (rd np (up2 (up2 (up2 M2 37 k (zi (¬ (nI n) ≤ (nI k) ∧ ¬ (M2 29 k) = 0))) 38 k (M2 30 k)) 39 k (M2 31 k)) L (by omega) ((congrArg (fun r => cel np 21 r (L 21)) ((up2_n (by omega)).trans ((up2_n (by omega)).trans ((up2_n (by omega)).trans rfl)))).trans rfl)) rfl rfl rfl ?_
      iterate 2 refine ev_s rfl ?_
      refine ev_gf (rd np (up2 (up2 (up2 M2 37 k (zi (¬ (nI n) ≤ (nI k) ∧ ¬ (M2 29 k) = 0))) 38 k (M2 30 k)) 39 k (M2 31 k)) L (by omega) ((congrArg (fun r => cel np 21 r (L 21)) ((up2_n (by omega)).trans ((up2_n (by omega)).trans ((up2_n (by omega)).trans rfl)))).trans rfl)) rfl rfl rfl ?_
      refine ev_s rfl ?_
      refine ev_ia (rd np (up2 (up2 (up2 M2 37 k (zi (¬ (nI n) ≤ (nI k) ∧ ¬ (M2 29 k) = 0))) 38 k (M2 30 k)) 39 k (M2 31 k)) L (by omega) ((congrArg (fun r => cel np 32 r (L 32)) ((up2_n (by omega)).trans ((up2_n (by omega)).trans ((up2_n (by omega)).trans rfl)))).trans rfl)) rfl (zin_nI (by omega) (by decide)) ?_
      refine ev_is (hp' := (mk np (up2 (up2 (up2 (up2 M2 37 k (zi (¬ (nI n) ≤ (nI k) ∧ ¬ (M2 29 k) = 0))) 38 k (M2 30 k)) 39 k (M2 31 k)) 40 k (M2 32 k)) L)) (rd np (up2 (up2 (up2 M2 37 k (zi (¬ (nI n) ≤ (nI k) ∧ ¬ (M2 29 k) = 0))) 38 k (M2 30 k)) 39 k (M2 31 k)) L (by omega) ((congrArg (fun r => cel np 40 r (L 40)) ((up2_n (by omega)).trans ((up2_n (by omega)).trans ((up2_n (by omega)).trans rfl)))).trans rfl)) rfl (zin_nI (by omega) (by decide)) (mk_setr ((up2_n (by omega)).trans ((up2_n (by omega)).trans ((up2_n (by omega)).trans rfl))) rfl rfl) ?_
      refine ev_s rfl ?_
      refine ev_gf (rd np (up2 (up2 (up2 (up2 M2 37 k (zi (¬ (nI n) ≤ (nI k) ∧ ¬ (M2 29 k) = 0))) 38 k (M2 30 k)) 39 k (M2 31 k)) 40 k (M2 32 k)) L (by omega) ((congrArg (fun r => cel np 21 r (L 21)) ((up2_n (by omega)).trans ((up2_n (by omega)).trans ((up2_n (by omega)).trans ((up2_n (by omega)).trans rfl))))).trans rfl)) rfl rfl rfl ?_
      iterate 2 refine ev_s rfl ?_
      refine ev_gf (rd np (up2 (up2 (up2 (up2 M2 37 k (zi (¬ (nI n) ≤ (nI k) ∧ ¬ (M2 29 k) = 0))) 38 k (M2 30 k)) 39 k (M2 31 k)) 40 k (M2 32 k)) L (by omega) ((congrArg (fun r => cel np 21 r (L 21)) ((up2_n (by omega)).trans ((up2_n (by omega)).trans ((up2_n (by omega)).trans ((up2_n (by omega)).trans rfl))))).trans rfl)) rfl rfl rfl ?_
      refine ev_s rfl ?_
      refine ev_ia (rd np (up2 (up2 (up2 (up2 M2 37 k (zi (¬ (nI n) ≤ (nI k) ∧ ¬ (M2 29 k) = 0))) 38 k (M2 30 k)) 39 k (M2 31 k)) 40 k (M2 32 k)) L (by omega) ((congrArg (fun r => cel np 33 r (L 33)) ((up2_n (by omega)).trans ((up2_n (by omega)).trans ((up2_n (by omega)).trans ((up2_n (by omega)).trans rfl))))).trans rfl)) rfl (zin_nI (by omega) (by decide)) ?_
      refine ev_is (hp' := (mk np (up2 (up2 (up2 (up2 (up2 M2 37 k (zi (¬ (nI n) ≤ (nI k) ∧ ¬ (M2 29 k) = 0))) 38 k (M2 30 k)) 39 k (M2 31 k)) 40 k (M2 32 k)) 41 k (M2 33 k)) L)) (rd np (up2 (up2 (up2 (up2 M2 37 k (zi (¬ (nI n) ≤ (nI k) ∧ ¬ (M2 29 k) = 0))) 38 k (M2 30 k)) 39 k (M2 31 k)) 40 k (M2 32 k)) L (by omega) ((congrArg (fun r => cel np 41 r (L 41)) ((up2_n (by omega)).trans ((up2_n (by omega)).trans ((up2_n (by omega)).trans ((up2_n (by omega)).trans rfl))))).trans rfl)) rfl (zin_nI (by omega) (by decide)) (mk_setr ((up2_n (by omega)).trans ((up2_n (by omega)).trans ((up2_n (by omega)).trans ((up2_n (by omega)).trans rfl)))) rfl rfl) ?_
      refine ev_s rfl ?_
      refine ev_gf (rd np (up2 (up2 (up2 (up2 (up2 M2 37 k (zi (¬ (nI n) ≤ (nI k) ∧ ¬ (M2 29 k) = 0))) 38 k (M2 30 k)) 39 k (M2 31 k)) 40 k (M2 32 k)) 41 k (M2 33 k)) L (by omega) ((congrArg (fun r => cel np 21 r (L 21)) ((up2_n (by omega)).trans ((up2_n (by omega)).trans ((up2_n (by omega)).trans ((up2_n (by omega)).trans ((up2_n (by omega)).trans rfl)))))).trans rfl)) rfl rfl rfl ?_
      iterate 2 refine ev_s rfl ?_
      refine ev_gf (rd np (up2 (up2 (up2 (up2 (up2 M2 37 k (zi (¬ (nI n) ≤ (nI k) ∧ ¬ (M2 29 k) = 0))) 38 k (M2 30 k)) 39 k (M2 31 k)) 40 k (M2 32 k)) 41 k (M2 33 k)) L (by omega) ((congrArg (fun r => cel np 21 r (L 21)) ((up2_n (by omega)).trans ((up2_n (by omega)).trans ((up2_n (by omega)).trans ((up2_n (by omega)).trans ((up2_n (by omega)).trans rfl)))))).trans rfl)) rfl rfl rfl ?_
      refine ev_s rfl ?_
      refine ev_ia (rd np (up2 (up2 (up2 (up2 (up2 M2 37 k (zi (¬ (nI n) ≤ (nI k) ∧ ¬ (M2 29 k) = 0))) 38 k (M2 30 k)) 39 k (M2 31 k)) 40 k (M2 32 k)) 41 k (M2 33 k)) L (by omega) ((congrArg (fun r => cel np 34 r (L 34)) ((up2_n (by omega)).trans ((up2_n (by omega)).trans ((up2_n (by omega)).trans ((up2_n (by omega)).trans ((up2_n (by omega)).trans rfl)))))).trans rfl)) rfl (zin_nI (by omega) (by decide)) ?_
      refine ev_is (hp' := (mk np (up2 (up2 (up2 (up2 (up2 (up2 M2 37 k (zi (¬ (nI n) ≤ (nI k) ∧ ¬ (M2 29 k) = 0))) 38 k (M2 30 k)) 39 k (M2 31 k)) 40 k (M2 32 k)) 41 k (M2 33 k)) 42 k (M2 34 k)) L)) (rd np (up2 (up2 (up2 (up2 (up2 M2 37 k (zi (¬ (nI n) ≤ (nI k) ∧ ¬ (M2 29 k) = 0))) 38 k (M2 30 k)) 39 k (M2 31 k)) 40 k (M2 32 k)) 41 k (M2 33 k)) L (by omega) ((congrArg (fun r => cel np 42 r (L 42)) ((up2_n (by omega)).trans ((up2_n (by omega)).trans ((up2_n (by omega)).trans ((up2_n (by omega)).trans ((up2_n (by omega)).trans rfl)))))).trans rfl)) rfl (zin_nI (by omega) (by decide)) (mk_setr ((up2_n (by omega)).trans ((up2_n (by omega)).trans ((up2_n (by omega)).trans ((up2_n (by omega)).trans ((up2_n (by omega)).trans rfl))))) rfl rfl) ?_
      refine ev_s rfl ?_
      refine ev_gf (rd np (up2 (up2 (up2 (up2 (up2 (up2 M2 37 k (zi (¬ (nI n) ≤ (nI k) ∧ ¬ (M2 29 k) = 0))) 38 k (M2 30 k)) 39 k (M2 31 k)) 40 k (M2 32 k)) 41 k (M2 33 k)) 42 k (M2 34 k)) L (by omega) ((congrArg (fun r => cel np 21 r (L 21)) ((up2_n (by omega)).trans ((up2_n (by omega)).trans ((up2_n (by omega)).trans ((up2_n (by omega)).trans ((up2_n (by omega)).trans ((up2_n (by omega)).trans rfl))))))).trans rfl)) rfl rfl rfl ?_
      iterate 2 refine ev_s rfl ?_
      refine ev_gf (rd np (up2 (up2 (up2 (up2 (up2 (up2 M2 37 k (zi (¬ (nI n) ≤ (nI k) ∧ ¬ (M2 29 k) = 0))) 38 k (M2 30 k)) 39 k (M2 31 k)) 40 k (M2 32 k)) 41 k (M2 33 k)) 42 k (M2 34 k)) L (by omega) ((congrArg (fun r => cel np 21 r (L 21)) ((up2_n (by omega)).trans ((up2_n (by omega)).trans ((up2_n (by omega)).trans ((up2_n (by omega)).trans ((up2_n (by omega)).trans ((up2_n (by omega)).trans rfl))))))).trans rfl)) rfl rfl rfl ?_
      refine ev_s rfl ?_
      refine ev_ia (rd np (up2 (up2 (up2 (up2 (up2 (up2 M2 37 k (zi (¬ (nI n) ≤ (nI k) ∧ ¬ (M2 29 k) = 0))) 38 k (M2 30 k)) 39 k (M2 31 k)) 40 k (M2 32 k)) 41 k (M2 33 k)) 42 k (M2 34 k)) L (by omega) ((congrArg (fun r => cel np 35 r (L 35)) ((up2_n (by omega)).trans ((up2_n (by omega)).trans ((up2_n (by omega)).trans ((up2_n (by omega)).trans ((up2_n (by omega)).trans ((up2_n (by omega)).trans rfl))))))).trans rfl)) rfl (zin_nI (by omega) (by decide)) ?_
      refine ev_is (hp' := (mk np (up2 (up2 (up2 (up2 (up2 (up2 (up2 M2 37 k (zi (¬ (nI n) ≤ (nI k) ∧ ¬ (M2 29 k) = 0))) 38 k (M2 30 k)) 39 k (M2 31 k)) 40 k (M2 32 k)) 41 k (M2 33 k)) 42 k (M2 34 k)) 43 k (M2 35 k)) L)) (rd np (up2 (up2 (up2 (up2 (up2 (up2 M2 37 k (zi (¬ (nI n) ≤ (nI k) ∧ ¬ (M2 29 k) = 0))) 38 k (M2 30 k)) 39 k (M2 31 k)) 40 k (M2 32 k)) 41 k (M2 33 k)) 42 k (M2 34 k)) L (by omega) ((congrArg (fun r => cel np 43 r (L 43)) ((up2_n (by omega)).trans ((up2_n (by omega)).trans ((up2_n (by omega)).trans ((up2_n (by omega)).trans ((up2_n (by omega)).trans ((up2_n (by omega)).trans rfl))))))).trans rfl)) rfl (zin_nI (by omega) (by decide)) (mk_setr ((up2_n (by omega)).trans ((up2_n (by omega)).trans ((up2_n (by omega)).trans ((up2_n (by omega)).trans ((up2_n (by omega)).trans ((up2_n (by omega)).trans rfl)))))) rfl rfl) ?_
      refine ev_s rfl ?_
      refine ev_gf (rd np (up2 (up2 (up2 (up2 (up2 (up2 (up2 M2 37 k (zi (¬ (nI n) ≤ (nI k) ∧ ¬ (M2 29 k) = 0))) 38 k (M2 30 k)) 39 k (M2 31 k)) 40 k (M2 32 k)) 41 k (M2 33 k)) 42 k (M2 34 k)) 43 k (M2 35 k)) L (by omega) ((congrArg (fun r => cel np 21 r (L 21)) ((up2_n (by omega)).trans ((up2_n (by omega)).trans ((up2_n (by omega)).trans ((up2_n (by omega)).trans ((up2_n (by omega)).trans ((up2_n (by omega)).trans ((up2_n (by omega)).trans rfl)))))))).trans rfl)) rfl rfl rfl ?_
      iterate 2 refine ev_s rfl ?_
      refine ev_gf (rd np (up2 (up2 (up2 (up2 (up2 (up2 (up2 M2 37 k (zi (¬ (nI n) ≤ (nI k) ∧ ¬ (M2 29 k) = 0))) 38 k (M2 30 k)) 39 k (M2 31 k)) 40 k (M2 32 k)) 41 k (M2 33 k)) 42 k (M2 34 k)) 43 k (M2 35 k)) L (by omega) ((congrArg (fun r => cel np 21 r (L 21)) ((up2_n (by omega)).trans ((up2_n (by omega)).trans ((up2_n (by omega)).trans ((up2_n (by omega)).trans ((up2_n (by omega)).trans ((up2_n (by omega)).trans ((up2_n (by omega)).trans rfl)))))))).trans rfl)) rfl rfl rfl ?_
      refine ev_s rfl ?_
      refine ev_ia (rd np (up2 (up2 (up2 (up2 (up2 (up2 (up2 M2 37 k (zi (¬ (nI n) ≤ (nI k) ∧ ¬ (M2 29 k) = 0))) 38 k (M2 30 k)) 39 k (M2 31 k)) 40 k (M2 32 k)) 41 k (M2 33 k)) 42 k (M2 34 k)) 43 k (M2 35 k)) L (by omega) ((congrArg (fun r => cel np 36 r (L 36)) ((up2_n (by omega)).trans ((up2_n (by omega)).trans ((up2_n (by omega)).trans ((up2_n (by omega)).trans ((up2_n (by omega)).trans ((up2_n (by omega)).trans ((up2_n (by omega)).trans rfl)))))))).trans rfl)) rfl (zin_nI (by omega) (by decide)) ?_
      refine ev_is (hp' := (mk np (up2 (up2 (up2 (up2 (up2 (up2 (up2 (up2 M2 37 k (zi (¬ (nI n) ≤ (nI k) ∧ ¬ (M2 29 k) = 0))) 38 k (M2 30 k)) 39 k (M2 31 k)) 40 k (M2 32 k)) 41 k (M2 33 k)) 42 k (M2 34 k)) 43 k (M2 35 k)) 44 k (M2 36 k)) L)) (rd np (up2 (up2 (up2 (up2 (up2 (up2 (up2 M2 37 k (zi (¬ (nI n) ≤ (nI k) ∧ ¬ (M2 29 k) = 0))) 38 k (M2 30 k)) 39 k (M2 31 k)) 40 k (M2 32 k)) 41 k (M2 33 k)) 42 k (M2 34 k)) 43 k (M2 35 k)) L (by omega) ((congrArg (fun r => cel np 44 r (L 44)) ((up2_n (by omega)).trans ((up2_n (by omega)).trans ((up2_n (by omega)).trans ((up2_n (by omega)).trans ((up2_n (by omega)).trans ((up2_n (by omega)).trans ((up2_n (by omega)).trans rfl)))))))).trans rfl)) rfl (zin_nI (by omega) (by decide)) (mk_setr ((up2_n (by omega)).trans ((up2_n (by omega)).trans ((up2_n (by omega)).trans ((up2_n (by omega)).trans ((up2_n (by omega)).trans ((up2_n (by omega)).trans ((up2_n (by omega)).trans rfl))))))) rfl rfl) ?_
      refine ev_s rfl ?_
      refine ev_gf (rd np (up2 (up2 (up2 (up2 (up2 (up2 (up2 (up2 M2 37 k (zi (¬ (nI n) ≤ (nI k) ∧ ¬ (M2 29 k) = 0))) 38 k (M2 30 k)) 39 k (M2 31 k)) 40 k (M2 32 k)) 41 k (M2 33 k)) 42 k (M2 34 k)) 43 k (M2 35 k)) 44 k (M2 36 k)) L (by omega) ((congrArg (fun r => cel np 21 r (L 21)) ((up2_n (by omega)).trans ((up2_n (by omega)).trans ((up2_n (by omega)).trans ((up2_n (by omega)).trans ((up2_n (by omega)).trans ((up2_n (by omega)).trans ((up2_n (by omega)).trans ((up2_n (by omega)).trans rfl))))))))).trans rfl)) rfl rfl rfl ?_
      iterate 2 refine ev_s rfl ?_
      refine ev_gf (rd np (up2 (up2 (up2 (up2 (up2 (up2 (up2 (up2 M2 37 k (zi (¬ (nI n) ≤ (nI k) ∧ ¬ (M2 29 k) = 0))) 38 k (M2 30 k)) 39 k (M2 31 k)) 40 k (M2 32 k)) 41 k (M2 33 k)) 42 k (M2 34 k)) 43 k (M2 35 k)) 44 k (M2 36 k)) L (by omega) ((congrArg (fun r => cel np 21 r (L 21)) ((up2_n (by omega)).trans ((up2_n (by omega)).trans ((up2_n (by omega)).trans ((up2_n (by omega)).trans ((up2_n (by omega)).trans ((up2_n (by omega)).trans ((up2_n (by omega)).trans ((up2_n (by omega)).trans rfl))))))))).trans rfl)) rfl rfl rfl ?_
      refine ev_s rfl ?_
      refine ev_ia (rd np (up2 (up2 (up2 (up2 (up2 (up2 (up2 (up2 M2 37 k (zi (¬ (nI n) ≤ (nI k) ∧ ¬ (M2 29 k) = 0))) 38 k (M2 30 k)) 39 k (M2 31 k)) 40 k (M2 32 k)) 41 k (M2 33 k)) 42 k (M2 34 k)) 43 k (M2 35 k)) 44 k (M2 36 k)) L (by omega) ((congrArg (fun r => cel np 25 r (L 25)) ((up2_n (by omega)).trans ((up2_n (by omega)).trans ((up2_n (by omega)).trans ((up2_n (by omega)).trans ((up2_n (by omega)).trans ((up2_n (by omega)).trans ((up2_n (by omega)).trans ((up2_n (by omega)).trans rfl))))))))).trans rfl)) rfl (zin_nI (by omega) (by decide)) ?_
      refine ev_is (hp' := (mk np (up2 (up2 (up2 (up2 (up2 (up2 (up2 (up2 (up2 M2 37 k (zi (¬ (nI n) ≤ (nI k) ∧ ¬ (M2 29 k) = 0))) 38 k (M2 30 k)) 39 k (M2 31 k)) 40 k (M2 32 k)) 41 k (M2 33 k)) 42 k (M2 34 k)) 43 k (M2 35 k)) 44 k (M2 36 k)) 45 k (M2 25 k)) L)) (rd np (up2 (up2 (up2 (up2 (up2 (up2 (up2 (up2 M2 37 k (zi (¬ (nI n) ≤ (nI k) ∧ ¬ (M2 29 k) = 0))) 38 k (M2 30 k)) 39 k (M2 31 k)) 40 k (M2 32 k)) 41 k (M2 33 k)) 42 k (M2 34 k)) 43 k (M2 35 k)) 44 k (M2 36 k)) L (by omega) ((congrArg (fun r => cel np 45 r (L 45)) ((up2_n (by omega)).trans ((up2_n (by omega)).trans ((up2_n (by omega)).trans ((up2_n (by omega)).trans ((up2_n (by omega)).trans ((up2_n (by omega)).trans ((up2_n (by omega)).trans ((up2_n (by omega)).trans rfl))))))))).trans rfl)) rfl (zin_nI (by omega) (by decide)) (mk_setr ((up2_n (by omega)).trans ((up2_n (by omega)).trans ((up2_n (by omega)).trans ((up2_n (by omega)).trans ((up2_n (by omega)).trans ((up2_n (by omega)).trans ((up2_n (by omega)).trans ((up2_n (by omega)).trans rfl)))))))) rfl rfl) ?_
      refine ev_s rfl ?_
      refine ev_gf (rd np (up2 (up2 (up2 (up2 (up2 (up2 (up2 (up2 (up2 M2 37 k (zi (¬ (nI n) ≤ (nI k) ∧ ¬ (M2 29 k) = 0))) 38 k (M2 30 k)) 39 k (M2 31 k)) 40 k (M2 32 k)) 41 k (M2 33 k)) 42 k (M2 34 k)) 43 k (M2 35 k)) 44 k (M2 36 k)) 45 k (M2 25 k)) L (by omega) ((congrArg (fun r => cel np 21 r (L 21)) ((up2_n (by omega)).trans ((up2_n (by omega)).trans ((up2_n (by omega)).trans ((up2_n (by omega)).trans ((up2_n (by omega)).trans ((up2_n (by omega)).trans ((up2_n (by omega)).trans ((up2_n (by omega)).trans ((up2_n (by omega)).trans rfl)))))))))).trans rfl)) rfl rfl rfl ?_
      iterate 2 refine ev_s rfl ?_
      refine ev_gf (rd np (up2 (up2 (up2 (up2 (up2 (up2 (up2 (up2 (up2 M2 37 k (zi (¬ (nI n) ≤ (nI k) ∧ ¬ (M2 29 k) = 0))) 38 k (M2 30 k)) 39 k (M2 31 k)) 40 k (M2 32 k)) 41 k (M2 33 k)) 42 k (M2 34 k)) 43 k (M2 35 k)) 44 k (M2 36 k)) 45 k (M2 25 k)) L (by omega) ((congrArg (fun r => cel np 21 r (L 21)) ((up2_n (by omega)).trans ((up2_n (by omega)).trans ((up2_n (by omega)).trans ((up2_n (by omega)).trans ((up2_n (by omega)).trans ((up2_n (by omega)).trans ((up2_n (by omega)).trans ((up2_n (by omega)).trans ((up2_n (by omega)).trans rfl)))))))))).trans rfl)) rfl rfl rfl ?_
      refine ev_s rfl ?_
      refine ev_ia (rd np (up2 (up2 (up2 (up2 (up2 (up2 (up2 (up2 (up2 M2 37 k (zi (¬ (nI n) ≤ (nI k) ∧ ¬ (M2 29 k) = 0))) 38 k (M2 30 k)) 39 k (M2 31 k)) 40 k (M2 32 k)) 41 k (M2 33 k)) 42 k (M2 34 k)) 43 k (M2 35 k)) 44 k (M2 36 k)) 45 k (M2 25 k)) L (by omega) ((congrArg (fun r => cel np 28 r (L 28)) ((up2_n (by omega)).trans ((up2_n (by omega)).trans ((up2_n (by omega)).trans ((up2_n (by omega)).trans ((up2_n (by omega)).trans ((up2_n (by omega)).trans ((up2_n (by omega)).trans ((up2_n (by omega)).trans ((up2_n (by omega)).trans rfl)))))))))).trans rfl)) rfl (zin_nI (by omega) (by decide)) ?_
      refine ev_is (hp' := (mk np (up2 (up2 (up2 (up2 (up2 (up2 (up2 (up2 (up2 (up2 M2 37 k (zi (¬ (nI n) ≤ (nI k) ∧ ¬ (M2 29 k) = 0))) 38 k (M2 30 k)) 39 k (M2 31 k)) 40 k (M2 32 k)) 41 k (M2 33 k)) 42 k (M2 34 k)) 43 k (M2 35 k)) 44 k (M2 36 k)) 45 k (M2 25 k)) 46 k (M2 28 k)) L)) (rd np (up2 (up2 (up2 (up2 (up2 (up2 (up2 (up2 (up2 M2 37 k (zi (¬ (nI n) ≤ (nI k) ∧ ¬ (M2 29 k) = 0))) 38 k (M2 30 k)) 39 k (M2 31 k)) 40 k (M2 32 k)) 41 k (M2 33 k)) 42 k (M2 34 k)) 43 k (M2 35 k)) 44 k (M2 36 k)) 45 k (M2 25 k)) L (by omega) ((congrArg (fun r => cel np 46 r (L 46)) ((up2_n (by omega)).trans ((up2_n (by omega)).trans ((up2_n (by omega)).trans ((up2_n (by omega)).trans ((up2_n (by omega)).trans ((up2_n (by omega)).trans ((up2_n (by omega)).trans ((up2_n (by omega)).trans ((up2_n (by omega)).trans rfl)))))))))).trans rfl)) rfl (zin_nI (by omega) (by decide)) (mk_setr ((up2_n (by omega)).trans ((up2_n (by omega)).trans ((up2_n (by omega)).trans ((up2_n (by omega)).trans ((up2_n (by omega)).trans ((up2_n (by omega)).trans ((up2_n (by omega)).trans ((up2_n (by omega)).trans ((up2_n (by omega)).trans rfl))))))))) rfl rfl) ?_
      refine ev_inc (y := 1) (v := nI (k + 1)) (ls' := [some (.ref 21), v1, v2, none, some (.int (nI (k + 1)))]) rfl rfl (by decide) (nI_1 _) rfl ?_
      refine ev_s rfl ?_
      exact e9
    · show Ev _ _ 166 _ _ _ _
      refine ev_ic rfl rfl (ev_br (zb_ge _ _ _ _) (fun c1 => ?_) (fun c1 => ?_))
      · show Ev _ _ 183 _ _ _ _
        refine ev_ik (v := 0) rfl (by decide) ?_
        rw [zi_f (show ¬ (¬ (nI n) ≤ (nI k) ∧ ¬ (M2 29 k) = 0) from fun h => h.1 c1)] at hK1
        exact hK1
      · show Ev _ _ 169 _ _ _ _
        refine ev_s rfl ?_
        refine ev_gf (rd np M2 L (by omega) rfl) rfl rfl rfl ?_
        refine ev_s rfl ?_
        refine ev_ba (rd np M2 L (by omega) rfl) rfl (zin_nI (by omega) (by decide)) ?_
        refine ev_if rfl rfl (ev_br (zb_eq _ _ _ _) (fun c2 => ?_) (fun c2 => ?_))
        · show Ev _ _ 183 _ _ _ _
          refine ev_ik (v := 0) rfl (by decide) ?_
          rw [zi_f (show ¬ (¬ (nI n) ≤ (nI k) ∧ ¬ (M2 29 k) = 0) from fun h => h.2 c2)] at hK1
          exact hK1
        · show Ev _ _ 179 _ _ _ _
          refine ev_ik (v := 1) rfl (by decide) ?_
          refine ev_s rfl ?_
          rw [zi_t (show ¬ (nI n) ≤ (nI k) ∧ ¬ (M2 29 k) = 0 from ⟨c1, c2⟩)] at hK1
          exact hK1
set_option maxHeartbeats 4000000 in
theorem lp_js {np : Nat} {M : Nat → Nat → Int32} {L : Nat → Int64} {n : Nat} (hn : n ≤ 6) (h3 : M 21 3 = nI n) (d : Nat) {Q : zCf → Prop} (hQ : Ev d mX6_judge 96 [some (.ref 21), some (.int (jcS M n)), some (.long (jlS M n)), none, some (.int (nI n))] [] (mk np M L) Q) : ∀ j k, k + j = n → Ev d mX6_judge 7 [some (.ref 21), some (.int (jcS M k)), some (.long (jlS M k)), none, some (.int (nI k))] [] (mk np M L) Q := by
  intro j
  induction j with
  | zero =>
    intro k hk
    obtain rfl : n = k := by omega
    iterate 2 refine ev_s rfl ?_
    refine ev_gf (rd np M L (by omega) rfl) rfl rfl rfl ?_
    rw [h3]
    refine ev_ic rfl rfl ?_
    rw [show zbr .ge (nI n) (nI n) 96 16 = 96 from zge_t (n := n) rfl (by omega) (by omega)]
    exact hQ
  | succ j ih =>
    intro k hkj
    have hk : k < n := by omega
    have e9 := ih (k + 1) (by omega)
    iterate 2 refine ev_s rfl ?_
    refine ev_gf (rd np M L (by omega) rfl) rfl rfl rfl ?_
    rw [h3]
    refine ev_ic rfl rfl ?_
    rw [show zbr .ge (nI k) (nI n) 96 16 = 16 from zge_f (n := n) rfl hk (by omega)]
    iterate 2 refine ev_s rfl ?_
    refine ev_gf (rd np M L (by omega) rfl) rfl rfl rfl ?_
    refine ev_s rfl ?_
    refine ev_ba (rd np M L (by omega) rfl) rfl (zin_nI (by omega) (by decide)) ?_
    refine ev_if rfl rfl (ev_br (zb_eq _ _ _ _) (fun c1 => ?_) (fun c1 => ?_))
    · show Ev _ _ 53 _ _ _ _
      refine ev_ik (v := 0) rfl (by decide) ?_
      refine ev_s rfl ?_
      refine ev_s (ls' := [some (.ref 21), some (.int ((jcS M k) + 0)), some (.long (jlS M k)), none, some (.int (nI k))]) rfl ?_
      iterate 2 refine ev_s rfl ?_
      refine ev_gf (rd np M L (by omega) rfl) rfl rfl rfl ?_
      refine ev_s rfl ?_
      refine ev_ba (rd np M L (by omega) rfl) rfl (zin_nI (by omega) (by decide)) ?_
      refine ev_if rfl rfl ?_
      rw [show zbr .eq (M 29 k) 0 87 67 = 87 from if_pos c1]
      refine ev_lk (v := 0) rfl (by decide) ?_
      refine ev_s rfl ?_
      refine ev_s (ls' := [some (.ref 21), some (.int ((jcS M k) + 0)), some (.long ((jlS M k) + 0)), none, some (.int (nI k))]) rfl ?_
      refine ev_inc (y := 1) (v := nI (k + 1)) (ls' := [some (.ref 21), some (.int ((jcS M k) + 0)), some (.long ((jlS M k) + 0)), none, some (.int (nI (k + 1)))]) rfl rfl (by decide) (nI_1 _) rfl ?_
      refine ev_s rfl ?_
      rw [show jcS M (k + 1) = jcS M k + (if M 29 k = 0 then 0 else M 33 k * M 34 k * M 35 k) from rfl, show jlS M (k + 1) = jlS M k + (if M 29 k = 0 then 0 else (M 25 k).toInt64 * (M 31 k).toInt64) from rfl, if_pos c1, if_pos c1] at e9
      exact e9
    · show Ev _ _ 27 _ _ _ _
      refine ev_s rfl ?_
      refine ev_gf (rd np M L (by omega) rfl) rfl rfl rfl ?_
      refine ev_s rfl ?_
      refine ev_ia (rd np M L (by omega) rfl) rfl (zin_nI (by omega) (by decide)) ?_
      refine ev_s rfl ?_
      refine ev_gf (rd np M L (by omega) rfl) rfl rfl rfl ?_
      refine ev_s rfl ?_
      refine ev_ia (rd np M L (by omega) rfl) rfl (zin_nI (by omega) (by decide)) ?_
      iterate 2 refine ev_s rfl ?_
      refine ev_gf (rd np M L (by omega) rfl) rfl rfl rfl ?_
      refine ev_s rfl ?_
      refine ev_ia (rd np M L (by omega) rfl) rfl (zin_nI (by omega) (by decide)) ?_
      iterate 3 refine ev_s rfl ?_
      refine ev_s (ls' := [some (.ref 21), some (.int ((jcS M k) + (((M 33 k) * (M 34 k)) * (M 35 k)))), some (.long (jlS M k)), none, some (.int (nI k))]) rfl ?_
      iterate 2 refine ev_s rfl ?_
      refine ev_gf (rd np M L (by omega) rfl) rfl rfl rfl ?_
      refine ev_s rfl ?_
      refine ev_ba (rd np M L (by omega) rfl) rfl (zin_nI (by omega) (by decide)) ?_
      refine ev_if rfl rfl ?_
      rw [show zbr .eq (M 29 k) 0 87 67 = 67 from if_neg c1]
      refine ev_s rfl ?_
      refine ev_gf (rd np M L (by omega) rfl) rfl rfl rfl ?_
      refine ev_s rfl ?_
      refine ev_ia (rd np M L (by omega) rfl) rfl (zin_nI (by omega) (by decide)) ?_
      iterate 2 refine ev_s rfl ?_
      refine ev_gf (rd np M L (by omega) rfl) rfl rfl rfl ?_
      refine ev_s rfl ?_
      refine ev_ia (rd np M L (by omega) rfl) rfl (zin_nI (by omega) (by decide)) ?_
      iterate 4 refine ev_s rfl ?_
      refine ev_s (ls' := [some (.ref 21), some (.int ((jcS M k) + (((M 33 k) * (M 34 k)) * (M 35 k)))), some (.long ((jlS M k) + (((M 25 k).toInt64) * ((M 31 k).toInt64)))), none, some (.int (nI k))]) rfl ?_
      refine ev_inc (y := 1) (v := nI (k + 1)) (ls' := [some (.ref 21), some (.int ((jcS M k) + (((M 33 k) * (M 34 k)) * (M 35 k)))), some (.long ((jlS M k) + (((M 25 k).toInt64) * ((M 31 k).toInt64)))), none, some (.int (nI (k + 1)))]) rfl rfl (by decide) (nI_1 _) rfl ?_
      refine ev_s rfl ?_
      rw [show jcS M (k + 1) = jcS M k + (if M 29 k = 0 then 0 else M 33 k * M 34 k * M 35 k) from rfl, show jlS M (k + 1) = jlS M k + (if M 29 k = 0 then 0 else (M 25 k).toInt64 * (M 31 k).toInt64) from rfl, if_neg c1, if_neg c1] at e9
      exact e9
set_option maxHeartbeats 4000000 in
theorem rn_judge {np : Nat} {M : Nat → Nat → Int32} {L : Nat → Int64} {n : Nat} (hn : n ≤ 6) (h3 : M 21 3 = nI n) (d : Nat) : Rn (d) mX6_judge [(.ref 21)] (mk np M L) none (mk np (jgM n M L) (jgL n M L)) := by
  unfold Rn
  refine ev_ik (v := 0) rfl (by decide) ?_
  refine ev_s (ls' := [some (.ref 21), some (.int 0), none, none, none]) rfl ?_
  refine ev_lk (v := 0) rfl (by decide) ?_
  refine ev_s (ls' := [some (.ref 21), some (.int 0), some (.long 0), none, none]) rfl ?_
  refine ev_ik (v := 0) rfl (by decide) ?_
  refine ev_s (ls' := [some (.ref 21), some (.int 0), some (.long 0), none, some (.int 0)]) rfl ?_
  refine lp_js (M := M) hn h3 d ?_ n 0 (by omega)
  refine ev_s rfl ?_
  refine ev_gf (rd np M L (by omega) rfl) rfl rfl rfl ?_
  refine ev_if rfl rfl (ev_br (zb_eq _ _ _ _) (fun c1 => ?_) (fun c1 => ?_))
  · show Ev _ _ 129 _ _ _ _
    refine ev_s rfl ?_
    refine ev_ik (v := 1) rfl (by decide) ?_
    refine ev_pf (hp' := (mk np (up2 M 21 34 1) L)) (rd np M L (by omega) rfl) rfl rfl (by simp) rfl rfl (mk_setr rfl rfl rfl) ?_
    iterate 2 refine ev_s rfl ?_
    refine ev_pf (hp' := (mk np (up2 (up2 M 21 34 1) 21 32 (jcS M n)) L)) (rd np (up2 M 21 34 1) L (by omega) ((congrArg (fun r => cel np 21 r (L 21)) ((up2_s _ _ _ _).trans (congrArg (fun r => upd r 34 1) rfl))).trans rfl)) rfl rfl (by simp) rfl rfl (mk_setr ((up2_s _ _ _ _).trans (congrArg (fun r => upd r 34 1) rfl)) rfl rfl) ?_
    iterate 2 refine ev_s rfl ?_
    refine ev_pf (hp' := (mk np (up2 (up2 M 21 34 1) 21 32 (jcS M n)) (upL L 21 (jlS M n)))) (rd np (up2 (up2 M 21 34 1) 21 32 (jcS M n)) L (by omega) ((congrArg (fun r => cel np 21 r (L 21)) ((up2_s _ _ _ _).trans (congrArg (fun r => upd r 32 (jcS M n)) ((up2_s _ _ _ _).trans (congrArg (fun r => upd r 34 1) rfl))))).trans rfl)) rfl rfl (by simp) rfl rfl (mk_setL rfl) ?_
    refine ev_ik (v := 0) rfl (by decide) ?_
    refine ev_s (ls' := [some (.ref 21), some (.int (jcS M n)), some (.long (jlS M n)), none, some (.int 0)]) rfl ?_
    have hb : ¬ jbt n M L := fun h => h.1 c1
    rw [show jgM n M L = jcM n (up2 (up2 M 21 34 1) 21 32 (jcS M n)) 6 from cIf_f hb _ _, show jgL n M L = upL L 21 (jlS M n) from cIf_f hb _ _]
    exact lp_jc (M0 := up2 (up2 M 21 34 1) 21 32 (jcS M n)) hn h3 d (ev_rv rfl rfl rfl rfl) 6 0 (by omega)
  · show Ev _ _ 103 _ _ _ _
    iterate 2 refine ev_s rfl ?_
    refine ev_gf (rd np M L (by omega) rfl) rfl rfl rfl ?_
    refine ev_ic rfl rfl (ev_br (zb_lt _ _ _ _) (fun c2 => ?_) (fun c2 => ?_))
    · show Ev _ _ 128 _ _ _ _
      refine ev_rv rfl rfl ?_ ?_
      · rfl
      · rw [show jgM n M L = M from cIf_t (show jbt n M L from ⟨c1, Or.inl c2⟩) _ _, show jgL n M L = L from cIf_t (show jbt n M L from ⟨c1, Or.inl c2⟩) _ _]
    · show Ev _ _ 111 _ _ _ _
      iterate 2 refine ev_s rfl ?_
      refine ev_gf (rd np M L (by omega) rfl) rfl rfl rfl ?_
      refine ev_ic rfl rfl (ev_bn (fun c3 => ?_) (fun c3 => ?_))
      · show Ev _ _ 129 _ _ _ _
        refine ev_s rfl ?_
        refine ev_ik (v := 1) rfl (by decide) ?_
        refine ev_pf (hp' := (mk np (up2 M 21 34 1) L)) (rd np M L (by omega) rfl) rfl rfl (by simp) rfl rfl (mk_setr rfl rfl rfl) ?_
        iterate 2 refine ev_s rfl ?_
        refine ev_pf (hp' := (mk np (up2 (up2 M 21 34 1) 21 32 (jcS M n)) L)) (rd np (up2 M 21 34 1) L (by omega) ((congrArg (fun r => cel np 21 r (L 21)) ((up2_s _ _ _ _).trans (congrArg (fun r => upd r 34 1) rfl))).trans rfl)) rfl rfl (by simp) rfl rfl (mk_setr ((up2_s _ _ _ _).trans (congrArg (fun r => upd r 34 1) rfl)) rfl rfl) ?_
        iterate 2 refine ev_s rfl ?_
        refine ev_pf (hp' := (mk np (up2 (up2 M 21 34 1) 21 32 (jcS M n)) (upL L 21 (jlS M n)))) (rd np (up2 (up2 M 21 34 1) 21 32 (jcS M n)) L (by omega) ((congrArg (fun r => cel np 21 r (L 21)) ((up2_s _ _ _ _).trans (congrArg (fun r => upd r 32 (jcS M n)) ((up2_s _ _ _ _).trans (congrArg (fun r => upd r 34 1) rfl))))).trans rfl)) rfl rfl (by simp) rfl rfl (mk_setL rfl) ?_
        refine ev_ik (v := 0) rfl (by decide) ?_
        refine ev_s (ls' := [some (.ref 21), some (.int (jcS M n)), some (.long (jlS M n)), none, some (.int 0)]) rfl ?_
        have hb : ¬ jbt n M L := fun h => h.2.elim c2 (fun q => c3 q.1)
        rw [show jgM n M L = jcM n (up2 (up2 M 21 34 1) 21 32 (jcS M n)) 6 from cIf_f hb _ _, show jgL n M L = upL L 21 (jlS M n) from cIf_f hb _ _]
        exact lp_jc (M0 := up2 (up2 M 21 34 1) 21 32 (jcS M n)) hn h3 d (ev_rv rfl rfl rfl rfl) 6 0 (by omega)
      · show Ev _ _ 119 _ _ _ _
        iterate 2 refine ev_s rfl ?_
        refine ev_gf (rd np M L (by omega) rfl) rfl rfl rfl ?_
        refine ev_s rfl ?_
        refine ev_if rfl rfl (ev_br (zb_lt _ _ _ _) (fun c4 => ?_) (fun c4 => ?_))
        · show Ev _ _ 129 _ _ _ _
          refine ev_s rfl ?_
          refine ev_ik (v := 1) rfl (by decide) ?_
          refine ev_pf (hp' := (mk np (up2 M 21 34 1) L)) (rd np M L (by omega) rfl) rfl rfl (by simp) rfl rfl (mk_setr rfl rfl rfl) ?_
          iterate 2 refine ev_s rfl ?_
          refine ev_pf (hp' := (mk np (up2 (up2 M 21 34 1) 21 32 (jcS M n)) L)) (rd np (up2 M 21 34 1) L (by omega) ((congrArg (fun r => cel np 21 r (L 21)) ((up2_s _ _ _ _).trans (congrArg (fun r => upd r 34 1) rfl))).trans rfl)) rfl rfl (by simp) rfl rfl (mk_setr ((up2_s _ _ _ _).trans (congrArg (fun r => upd r 34 1) rfl)) rfl rfl) ?_
          iterate 2 refine ev_s rfl ?_
          refine ev_pf (hp' := (mk np (up2 (up2 M 21 34 1) 21 32 (jcS M n)) (upL L 21 (jlS M n)))) (rd np (up2 (up2 M 21 34 1) 21 32 (jcS M n)) L (by omega) ((congrArg (fun r => cel np 21 r (L 21)) ((up2_s _ _ _ _).trans (congrArg (fun r => upd r 32 (jcS M n)) ((up2_s _ _ _ _).trans (congrArg (fun r => upd r 34 1) rfl))))).trans rfl)) rfl rfl (by simp) rfl rfl (mk_setL rfl) ?_
          refine ev_ik (v := 0) rfl (by decide) ?_
          refine ev_s (ls' := [some (.ref 21), some (.int (jcS M n)), some (.long (jlS M n)), none, some (.int 0)]) rfl ?_
          have hb : ¬ jbt n M L := fun h => h.2.elim c2 (fun q => q.2 c4)
          rw [show jgM n M L = jcM n (up2 (up2 M 21 34 1) 21 32 (jcS M n)) 6 from cIf_f hb _ _, show jgL n M L = upL L 21 (jlS M n) from cIf_f hb _ _]
          exact lp_jc (M0 := up2 (up2 M 21 34 1) 21 32 (jcS M n)) hn h3 d (ev_rv rfl rfl rfl rfl) 6 0 (by omega)
        · show Ev _ _ 128 _ _ _ _
          refine ev_rv rfl rfl ?_ ?_
          · rfl
          · rw [show jgM n M L = M from cIf_t (show jbt n M L from ⟨c1, Or.inr ⟨c3, c4⟩⟩) _ _, show jgL n M L = L from cIf_t (show jbt n M L from ⟨c1, Or.inr ⟨c3, c4⟩⟩) _ _]
