-- lk: 28 29
/-! ===== LoadSpaceModel: pack, a round of its loop ===== -/
theorem zne_t {i n t f : Nat} {x y : Int32} (hx : x = nI i) (hy : y = nI n) (h : i ≠ n) (hi : i < 2 ^ 31) (hn : n < 2 ^ 31) : zbr .ne x y t f = t := by
  subst hx; subst hy
  exact if_neg (fun e => h ((nI_eq hi hn).mp e))
theorem zne_f {i n t f : Nat} {x y : Int32} (hx : x = nI i) (hy : y = nI n) (h : i = n) : zbr .ne x y t f = f := by
  subst hx; subst hy; subst h
  exact if_pos rfl
theorem nI_m1 {n : Nat} (h : 0 < n) : nI n - 1 = nI (n - 1) := by
  obtain ⟨k, rfl⟩ : ∃ k, n = k + 1 := ⟨n - 1, by omega⟩
  exact nI_pred k
set_option maxHeartbeats 4000000 in
theorem sg_A {d : Nat} {np : Nat} {M : Nat → Nat → Int32} {L : Nat → Int64} {j n al c all a b cc e : Nat} (hj : j < 6) (h48 : M 48 j = nI a) (h50 : M 50 j = nI b) (h51 : M 51 j = nI cc) (h52 : M 52 j = nI e) (hall : a * b * cc * e = all) (ha31 : all < 2 ^ 30) (h47 : M 47 j = nI c) (hc : c < all) {M2 : Nat → Nat → Int32} {mm : Nat} (hm31 : mm < 2 ^ 30) (hal31 : al < 2 ^ 30) (hl : M2 21 5 = nI mm) (hS : Rn (d + 4) mX6_setBox [.ref 21, .int (nI j), .int (nI c)] (mk np (up2 (up2 M 29 j 0) 47 j (nI (c + 1))) L) none (mk np M2 L)) (hF : Rn (d + 4) mX6_fits [.ref 21, .int (nI j)] (mk np M2 L) (some (.int 0)) (mk np M2 L)) {v3 v4 v5 v6 : Option Value} {Q : zCf → Prop} (hK : ∀ v3 v4 v5 v6, Ev (d + 5) mX6_pack 77 [some (.ref 21), some (.int (nI al)), some (.int (nI j)), v3, v4, v5, v6] [] (mk np (up2 (up2 M2 29 j 0) 21 5 (nI mm)) L) Q) : Ev (d + 5) mX6_pack 77 [some (.ref 21), some (.int (nI al)), some (.int (nI j)), v3, v4, v5, v6] [] (mk np M L) Q := by
  refine ev_s rfl ?_
  refine ev_if rfl rfl ?_
  rw [show zbr .lt (nI j) 0 280 81 = 81 from zlt_f (by omega)]
  refine ev_s rfl ?_
  refine ev_gf (rd np M L (by omega) rfl) rfl rfl rfl ?_
  refine ev_s rfl ?_
  refine ev_ia (rd np M L (by omega) rfl) rfl (zin_nI (by omega) (by decide)) ?_
  rw [h48]
  refine ev_s rfl ?_
  refine ev_gf (rd np M L (by omega) rfl) rfl rfl rfl ?_
  refine ev_s rfl ?_
  refine ev_ia (rd np M L (by omega) rfl) rfl (zin_nI (by omega) (by decide)) ?_
  rw [h50]
  iterate 2 refine ev_s rfl ?_
  refine ev_gf (rd np M L (by omega) rfl) rfl rfl rfl ?_
  refine ev_s rfl ?_
  refine ev_ia (rd np M L (by omega) rfl) rfl (zin_nI (by omega) (by decide)) ?_
  rw [h51]
  iterate 2 refine ev_s rfl ?_
  refine ev_gf (rd np M L (by omega) rfl) rfl rfl rfl ?_
  refine ev_s rfl ?_
  refine ev_ia (rd np M L (by omega) rfl) rfl (zin_nI (by omega) (by decide)) ?_
  rw [h52]
  refine ev_s rfl ?_
  rw [pk_mul, pk_mul, pk_mul, hall]
  refine ev_s (ls' := [some (.ref 21), some (.int (nI al)), some (.int (nI j)), some (.int (nI all)), v4, v5, v6]) rfl ?_
  refine ev_s rfl ?_
  refine ev_gf (rd np M L (by omega) rfl) rfl rfl rfl ?_
  refine ev_s rfl ?_
  refine ev_ik (v := 0) rfl (by decide) ?_
  refine ev_bs (hp' := (mk np (up2 M 29 j 0) L)) (rd np M L (by omega) rfl) rfl (zin_nI (by omega) (by decide)) (by decide) (mk_setr rfl rfl rfl) ?_
  refine ev_s rfl ?_
  refine ev_gf (rd np (up2 M 29 j 0) L (by omega) ((congrArg (fun r => cel np 21 r (L 21)) ((up2_n (by omega)).trans rfl)).trans rfl)) rfl rfl rfl ?_
  refine ev_s rfl ?_
  refine ev_ia (rd np (up2 M 29 j 0) L (by omega) ((congrArg (fun r => cel np 47 r (L 47)) ((up2_n (by omega)).trans rfl)).trans rfl)) rfl (zin_nI (by omega) (by decide)) ?_
  rw [h47]
  refine ev_s (ls' := [some (.ref 21), some (.int (nI al)), some (.int (nI j)), some (.int (nI all)), some (.int (nI c)), v5, v6]) rfl ?_
  refine ev_s rfl ?_
  refine ev_gf (rd np (up2 M 29 j 0) L (by omega) ((congrArg (fun r => cel np 21 r (L 21)) ((up2_n (by omega)).trans rfl)).trans rfl)) rfl rfl rfl ?_
  iterate 2 refine ev_s rfl ?_
  refine ev_ia (rd np (up2 M 29 j 0) L (by omega) ((congrArg (fun r => cel np 47 r (L 47)) ((up2_n (by omega)).trans rfl)).trans rfl)) rfl (zin_nI (by omega) (by decide)) ?_
  rw [h47]
  refine ev_ik (v := 1) rfl (by decide) ?_
  refine ev_s rfl ?_
  rw [nI_1]
  refine ev_is (hp' := (mk np (up2 (up2 M 29 j 0) 47 j (nI (c + 1))) L)) (rd np (up2 M 29 j 0) L (by omega) ((congrArg (fun r => cel np 47 r (L 47)) ((up2_n (by omega)).trans rfl)).trans rfl)) rfl (zin_nI (by omega) (by decide)) (mk_setr ((up2_n (by omega)).trans rfl) rfl rfl) ?_
  iterate 2 refine ev_s rfl ?_
  refine ev_ic rfl rfl ?_
  rw [show zbr .ne (nI c) (nI all) 144 140 = 144 from zne_t rfl rfl (by omega) (by omega) (by omega)]
  refine ev_ik (v := 0) rfl (by decide) ?_
  refine ev_s (ls' := [some (.ref 21), some (.int (nI al)), some (.int (nI j)), some (.int (nI all)), some (.int (nI c)), some (.int 0), v6]) rfl ?_
  iterate 2 refine ev_s rfl ?_
  refine ev_ic rfl rfl ?_
  rw [show zbr .ge (nI c) (nI all) 194 153 = 153 from zge_f (n := all) rfl hc (by omega)]
  iterate 3 refine ev_s rfl ?_
  refine ev_cv (vs := [(.ref 21), (.int (nI j)), (.int (nI c))]) (rest := []) (rv := none) (hp' := (mk np M2 L)) rfl rfl rfl (rd np (up2 (up2 M 29 j 0) 47 j (nI (c + 1))) L (by omega) ((congrArg (fun r => cel np 21 r (L 21)) ((up2_n (by omega)).trans ((up2_n (by omega)).trans rfl))).trans rfl)) rfl rfl rfl rfl hS ?_
  show Ev _ _ 160 _ [] _ _
  iterate 2 refine ev_s rfl ?_
  refine ev_cv (vs := [(.ref 21), (.int (nI j))]) (rest := []) (rv := (some (.int 0))) rfl rfl rfl (rd np M2 L (by omega) rfl) rfl rfl rfl rfl hF ?_
  show Ev _ _ 165 _ [(.int 0)] _ _
  refine ev_s (ls' := [some (.ref 21), some (.int (nI al)), some (.int (nI j)), some (.int (nI all)), some (.int (nI c)), some (.int 0), v6]) rfl ?_
  refine ev_s rfl ?_
  refine ev_gf (rd np M2 L (by omega) rfl) rfl rfl rfl ?_
  iterate 2 refine ev_s rfl ?_
  refine ev_bs (hp' := (mk np (up2 M2 29 j 0) L)) (rd np M2 L (by omega) rfl) rfl (zin_nI (by omega) (by decide)) (by decide) (mk_setr rfl rfl rfl) ?_
  iterate 2 refine ev_s rfl ?_
  refine ev_gf (rd np (up2 M2 29 j 0) L (by omega) ((congrArg (fun r => cel np 21 r (L 21)) ((up2_n (by omega)).trans rfl)).trans rfl)) rfl rfl rfl ?_
  rw [hl]
  refine ev_s rfl ?_
  refine ev_if rfl rfl ?_
  show Ev _ _ 189 _ _ _ _
  refine ev_ik (v := 0) rfl (by decide) ?_
  refine ev_s rfl ?_
  rw [Int32.add_zero]
  refine ev_pf (hp' := (mk np (up2 (up2 M2 29 j 0) 21 5 (nI mm)) L)) (rd np (up2 M2 29 j 0) L (by omega) ((congrArg (fun r => cel np 21 r (L 21)) ((up2_n (by omega)).trans rfl)).trans rfl)) rfl rfl (by simp) rfl rfl (mk_setr ((up2_n (by omega)).trans rfl) rfl rfl) ?_
  refine ev_s rfl ?_
  refine ev_gf (rd np (up2 (up2 M2 29 j 0) 21 5 (nI mm)) L (by omega) ((congrArg (fun r => cel np 21 r (L 21)) ((up2_s _ _ _ _).trans (congrArg (fun r => upd r 5 (nI mm)) ((up2_n (by omega)).trans rfl)))).trans rfl)) rfl rfl rfl ?_
  refine ev_s rfl ?_
  refine ev_ba (rd np (up2 (up2 M2 29 j 0) 21 5 (nI mm)) L (by omega) ((congrArg (fun r => cel np 29 r (L 29)) ((up2_n (by omega)).trans ((up2_s _ _ _ _).trans (congrArg (fun r => upd r j 0) rfl)))).trans rfl)) rfl (zin_nI (by omega) (by decide)) ?_
  rw [upd_s]
  refine ev_if rfl rfl ?_
  show Ev _ _ 215 _ _ _ _
  refine ev_ik (v := 0) rfl (by decide) ?_
  refine ev_s (ls' := [some (.ref 21), some (.int (nI al)), some (.int (nI j)), some (.int (nI all)), some (.int (nI c)), some (.int 0), some (.int 0)]) rfl ?_
  refine ev_s rfl ?_
  refine ev_if rfl rfl ?_
  show Ev _ _ 245 _ _ _ _
  refine ev_s rfl ?_
  refine ev_if rfl rfl ?_
  show Ev _ _ 258 _ _ _ _
  refine ev_s rfl ?_
  refine ev_if rfl rfl ?_
  show Ev _ _ 268 _ _ _ _
  iterate 2 refine ev_s rfl ?_
  refine ev_ic rfl rfl ?_
  rw [show zbr .le (nI c) (nI all) 277 274 = 277 from zle_t rfl rfl (by omega) (by omega)]
  refine ev_s rfl ?_
  exact hK _ _ _ _
set_option maxHeartbeats 4000000 in
theorem sg_B {d : Nat} {np : Nat} {M : Nat → Nat → Int32} {L : Nat → Int64} {j n al c all a b cc e : Nat} (hj : j < 6) (h48 : M 48 j = nI a) (h50 : M 50 j = nI b) (h51 : M 51 j = nI cc) (h52 : M 52 j = nI e) (hall : a * b * cc * e = all) (ha31 : all < 2 ^ 30) (h47 : M 47 j = nI c) (hc : c < all) {M2 : Nat → Nat → Int32} {mm : Nat} (hm31 : mm < 2 ^ 30) (hal31 : al < 2 ^ 30) (hl : M2 21 5 = nI mm) (hS : Rn (d + 4) mX6_setBox [.ref 21, .int (nI j), .int (nI c)] (mk np (up2 (up2 M 29 j 0) 47 j (nI (c + 1))) L) none (mk np M2 L)) (hF : Rn (d + 4) mX6_fits [.ref 21, .int (nI j)] (mk np M2 L) (some (.int 1)) (mk np M2 L)) (he : mm + 1 = al) {M5 : Nat → Nat → Int32} {L5 : Nat → Int64} (hJ : Rn (d + 4) mX6_judge [.ref 21] (mk np (up2 (up2 M2 29 j 1) 21 5 (nI (mm + 1))) L) none (mk np M5 L5)) {v3 v4 v5 v6 : Option Value} {Q : zCf → Prop} (hK : ∀ v3 v4 v5 v6, Ev (d + 5) mX6_pack 280 [some (.ref 21), some (.int (nI al)), some (.int (-1)), v3, v4, v5, v6] [] (mk np M5 L5) Q) : Ev (d + 5) mX6_pack 77 [some (.ref 21), some (.int (nI al)), some (.int (nI j)), v3, v4, v5, v6] [] (mk np M L) Q := by
  refine ev_s rfl ?_
  refine ev_if rfl rfl ?_
  rw [show zbr .lt (nI j) 0 280 81 = 81 from zlt_f (by omega)]
  refine ev_s rfl ?_
  refine ev_gf (rd np M L (by omega) rfl) rfl rfl rfl ?_
  refine ev_s rfl ?_
  refine ev_ia (rd np M L (by omega) rfl) rfl (zin_nI (by omega) (by decide)) ?_
  rw [h48]
  refine ev_s rfl ?_
  refine ev_gf (rd np M L (by omega) rfl) rfl rfl rfl ?_
  refine ev_s rfl ?_
  refine ev_ia (rd np M L (by omega) rfl) rfl (zin_nI (by omega) (by decide)) ?_
  rw [h50]
  iterate 2 refine ev_s rfl ?_
  refine ev_gf (rd np M L (by omega) rfl) rfl rfl rfl ?_
  refine ev_s rfl ?_
  refine ev_ia (rd np M L (by omega) rfl) rfl (zin_nI (by omega) (by decide)) ?_
  rw [h51]
  iterate 2 refine ev_s rfl ?_
  refine ev_gf (rd np M L (by omega) rfl) rfl rfl rfl ?_
  refine ev_s rfl ?_
  refine ev_ia (rd np M L (by omega) rfl) rfl (zin_nI (by omega) (by decide)) ?_
  rw [h52]
  refine ev_s rfl ?_
  rw [pk_mul, pk_mul, pk_mul, hall]
  refine ev_s (ls' := [some (.ref 21), some (.int (nI al)), some (.int (nI j)), some (.int (nI all)), v4, v5, v6]) rfl ?_
  refine ev_s rfl ?_
  refine ev_gf (rd np M L (by omega) rfl) rfl rfl rfl ?_
  refine ev_s rfl ?_
  refine ev_ik (v := 0) rfl (by decide) ?_
  refine ev_bs (hp' := (mk np (up2 M 29 j 0) L)) (rd np M L (by omega) rfl) rfl (zin_nI (by omega) (by decide)) (by decide) (mk_setr rfl rfl rfl) ?_
  refine ev_s rfl ?_
  refine ev_gf (rd np (up2 M 29 j 0) L (by omega) ((congrArg (fun r => cel np 21 r (L 21)) ((up2_n (by omega)).trans rfl)).trans rfl)) rfl rfl rfl ?_
  refine ev_s rfl ?_
  refine ev_ia (rd np (up2 M 29 j 0) L (by omega) ((congrArg (fun r => cel np 47 r (L 47)) ((up2_n (by omega)).trans rfl)).trans rfl)) rfl (zin_nI (by omega) (by decide)) ?_
  rw [h47]
  refine ev_s (ls' := [some (.ref 21), some (.int (nI al)), some (.int (nI j)), some (.int (nI all)), some (.int (nI c)), v5, v6]) rfl ?_
  refine ev_s rfl ?_
  refine ev_gf (rd np (up2 M 29 j 0) L (by omega) ((congrArg (fun r => cel np 21 r (L 21)) ((up2_n (by omega)).trans rfl)).trans rfl)) rfl rfl rfl ?_
  iterate 2 refine ev_s rfl ?_
  refine ev_ia (rd np (up2 M 29 j 0) L (by omega) ((congrArg (fun r => cel np 47 r (L 47)) ((up2_n (by omega)).trans rfl)).trans rfl)) rfl (zin_nI (by omega) (by decide)) ?_
  rw [h47]
  refine ev_ik (v := 1) rfl (by decide) ?_
  refine ev_s rfl ?_
  rw [nI_1]
  refine ev_is (hp' := (mk np (up2 (up2 M 29 j 0) 47 j (nI (c + 1))) L)) (rd np (up2 M 29 j 0) L (by omega) ((congrArg (fun r => cel np 47 r (L 47)) ((up2_n (by omega)).trans rfl)).trans rfl)) rfl (zin_nI (by omega) (by decide)) (mk_setr ((up2_n (by omega)).trans rfl) rfl rfl) ?_
  iterate 2 refine ev_s rfl ?_
  refine ev_ic rfl rfl ?_
  rw [show zbr .ne (nI c) (nI all) 144 140 = 144 from zne_t rfl rfl (by omega) (by omega) (by omega)]
  refine ev_ik (v := 0) rfl (by decide) ?_
  refine ev_s (ls' := [some (.ref 21), some (.int (nI al)), some (.int (nI j)), some (.int (nI all)), some (.int (nI c)), some (.int 0), v6]) rfl ?_
  iterate 2 refine ev_s rfl ?_
  refine ev_ic rfl rfl ?_
  rw [show zbr .ge (nI c) (nI all) 194 153 = 153 from zge_f (n := all) rfl hc (by omega)]
  iterate 3 refine ev_s rfl ?_
  refine ev_cv (vs := [(.ref 21), (.int (nI j)), (.int (nI c))]) (rest := []) (rv := none) (hp' := (mk np M2 L)) rfl rfl rfl (rd np (up2 (up2 M 29 j 0) 47 j (nI (c + 1))) L (by omega) ((congrArg (fun r => cel np 21 r (L 21)) ((up2_n (by omega)).trans ((up2_n (by omega)).trans rfl))).trans rfl)) rfl rfl rfl rfl hS ?_
  show Ev _ _ 160 _ [] _ _
  iterate 2 refine ev_s rfl ?_
  refine ev_cv (vs := [(.ref 21), (.int (nI j))]) (rest := []) (rv := (some (.int 1))) rfl rfl rfl (rd np M2 L (by omega) rfl) rfl rfl rfl rfl hF ?_
  show Ev _ _ 165 _ [(.int 1)] _ _
  refine ev_s (ls' := [some (.ref 21), some (.int (nI al)), some (.int (nI j)), some (.int (nI all)), some (.int (nI c)), some (.int 1), v6]) rfl ?_
  refine ev_s rfl ?_
  refine ev_gf (rd np M2 L (by omega) rfl) rfl rfl rfl ?_
  iterate 2 refine ev_s rfl ?_
  refine ev_bs (hp' := (mk np (up2 M2 29 j 1) L)) (rd np M2 L (by omega) rfl) rfl (zin_nI (by omega) (by decide)) (by decide) (mk_setr rfl rfl rfl) ?_
  iterate 2 refine ev_s rfl ?_
  refine ev_gf (rd np (up2 M2 29 j 1) L (by omega) ((congrArg (fun r => cel np 21 r (L 21)) ((up2_n (by omega)).trans rfl)).trans rfl)) rfl rfl rfl ?_
  rw [hl]
  refine ev_s rfl ?_
  refine ev_if rfl rfl ?_
  show Ev _ _ 185 _ _ _ _
  refine ev_ik (v := 1) rfl (by decide) ?_
  iterate 2 refine ev_s rfl ?_
  rw [nI_1]
  refine ev_pf (hp' := (mk np (up2 (up2 M2 29 j 1) 21 5 (nI (mm + 1))) L)) (rd np (up2 M2 29 j 1) L (by omega) ((congrArg (fun r => cel np 21 r (L 21)) ((up2_n (by omega)).trans rfl)).trans rfl)) rfl rfl (by simp) rfl rfl (mk_setr ((up2_n (by omega)).trans rfl) rfl rfl) ?_
  refine ev_s rfl ?_
  refine ev_gf (rd np (up2 (up2 M2 29 j 1) 21 5 (nI (mm + 1))) L (by omega) ((congrArg (fun r => cel np 21 r (L 21)) ((up2_s _ _ _ _).trans (congrArg (fun r => upd r 5 (nI (mm + 1))) ((up2_n (by omega)).trans rfl)))).trans rfl)) rfl rfl rfl ?_
  refine ev_s rfl ?_
  refine ev_ba (rd np (up2 (up2 M2 29 j 1) 21 5 (nI (mm + 1))) L (by omega) ((congrArg (fun r => cel np 29 r (L 29)) ((up2_n (by omega)).trans ((up2_s _ _ _ _).trans (congrArg (fun r => upd r j 1) rfl)))).trans rfl)) rfl (zin_nI (by omega) (by decide)) ?_
  rw [upd_s]
  refine ev_if rfl rfl ?_
  show Ev _ _ 203 _ _ _ _
  refine ev_s rfl ?_
  refine ev_gf (rd np (up2 (up2 M2 29 j 1) 21 5 (nI (mm + 1))) L (by omega) ((congrArg (fun r => cel np 21 r (L 21)) ((up2_s _ _ _ _).trans (congrArg (fun r => upd r 5 (nI (mm + 1))) ((up2_n (by omega)).trans rfl)))).trans rfl)) rfl rfl rfl ?_
  rw [upd_s]
  refine ev_s rfl ?_
  refine ev_ic rfl rfl ?_
  rw [show zbr .ne (nI (mm + 1)) (nI al) 215 211 = 211 from zne_f rfl rfl he]
  refine ev_ik (v := 1) rfl (by decide) ?_
  refine ev_s rfl ?_
  refine ev_s (ls' := [some (.ref 21), some (.int (nI al)), some (.int (nI j)), some (.int (nI all)), some (.int (nI c)), some (.int 1), some (.int 1)]) rfl ?_
  refine ev_s rfl ?_
  refine ev_if rfl rfl ?_
  show Ev _ _ 223 _ _ _ _
  refine ev_s rfl ?_
  refine ev_if rfl rfl ?_
  show Ev _ _ 238 _ _ _ _
  refine ev_s rfl ?_
  refine ev_cv (vs := [(.ref 21)]) (rest := []) (rv := none) (hp' := (mk np M5 L5)) rfl rfl rfl (rd np (up2 (up2 M2 29 j 1) 21 5 (nI (mm + 1))) L (by omega) ((congrArg (fun r => cel np 21 r (L 21)) ((up2_s _ _ _ _).trans (congrArg (fun r => upd r 5 (nI (mm + 1))) ((up2_n (by omega)).trans rfl)))).trans rfl)) rfl rfl rfl rfl hJ ?_
  show Ev _ _ 242 _ [] _ _
  iterate 2 refine ev_s rfl ?_
  refine ev_if rfl rfl ?_
  show Ev _ _ 263 _ _ _ _
  refine ev_ik (v := (-1)) rfl (by decide) ?_
  refine ev_s (ls' := [some (.ref 21), some (.int (nI al)), some (.int (-1)), some (.int (nI all)), some (.int (nI c)), some (.int 1), some (.int 1)]) rfl ?_
  iterate 3 refine ev_s rfl ?_
  refine ev_if rfl rfl ?_
  show Ev _ _ 280 _ _ _ _
  exact hK _ _ _ _
set_option maxHeartbeats 4000000 in
theorem sg_C {d : Nat} {np : Nat} {M : Nat → Nat → Int32} {L : Nat → Int64} {j n al c all a b cc e : Nat} (hj : j < 6) (h48 : M 48 j = nI a) (h50 : M 50 j = nI b) (h51 : M 51 j = nI cc) (h52 : M 52 j = nI e) (hall : a * b * cc * e = all) (ha31 : all < 2 ^ 30) (h47 : M 47 j = nI c) (hc : c < all) {M2 : Nat → Nat → Int32} {mm : Nat} (hm31 : mm < 2 ^ 30) (hal31 : al < 2 ^ 30) (hl : M2 21 5 = nI mm) (hS : Rn (d + 4) mX6_setBox [.ref 21, .int (nI j), .int (nI c)] (mk np (up2 (up2 M 29 j 0) 47 j (nI (c + 1))) L) none (mk np M2 L)) (hF : Rn (d + 4) mX6_fits [.ref 21, .int (nI j)] (mk np M2 L) (some (.int 1)) (mk np M2 L)) (he : mm + 1 ≠ al) (hn0 : 0 < n) (hn6 : n ≤ 6) (hn : M2 21 3 = nI n) (hnj : j = n - 1) {M5 : Nat → Nat → Int32} {L5 : Nat → Int64} (hJ : Rn (d + 4) mX6_judge [.ref 21] (mk np (up2 (up2 M2 29 j 1) 21 5 (nI (mm + 1))) L) none (mk np M5 L5)) {v3 v4 v5 v6 : Option Value} {Q : zCf → Prop} (hK : ∀ v3 v4 v5 v6, Ev (d + 5) mX6_pack 77 [some (.ref 21), some (.int (nI al)), some (.int (nI j)), v3, v4, v5, v6] [] (mk np M5 L5) Q) : Ev (d + 5) mX6_pack 77 [some (.ref 21), some (.int (nI al)), some (.int (nI j)), v3, v4, v5, v6] [] (mk np M L) Q := by
  refine ev_s rfl ?_
  refine ev_if rfl rfl ?_
  rw [show zbr .lt (nI j) 0 280 81 = 81 from zlt_f (by omega)]
  refine ev_s rfl ?_
  refine ev_gf (rd np M L (by omega) rfl) rfl rfl rfl ?_
  refine ev_s rfl ?_
  refine ev_ia (rd np M L (by omega) rfl) rfl (zin_nI (by omega) (by decide)) ?_
  rw [h48]
  refine ev_s rfl ?_
  refine ev_gf (rd np M L (by omega) rfl) rfl rfl rfl ?_
  refine ev_s rfl ?_
  refine ev_ia (rd np M L (by omega) rfl) rfl (zin_nI (by omega) (by decide)) ?_
  rw [h50]
  iterate 2 refine ev_s rfl ?_
  refine ev_gf (rd np M L (by omega) rfl) rfl rfl rfl ?_
  refine ev_s rfl ?_
  refine ev_ia (rd np M L (by omega) rfl) rfl (zin_nI (by omega) (by decide)) ?_
  rw [h51]
  iterate 2 refine ev_s rfl ?_
  refine ev_gf (rd np M L (by omega) rfl) rfl rfl rfl ?_
  refine ev_s rfl ?_
  refine ev_ia (rd np M L (by omega) rfl) rfl (zin_nI (by omega) (by decide)) ?_
  rw [h52]
  refine ev_s rfl ?_
  rw [pk_mul, pk_mul, pk_mul, hall]
  refine ev_s (ls' := [some (.ref 21), some (.int (nI al)), some (.int (nI j)), some (.int (nI all)), v4, v5, v6]) rfl ?_
  refine ev_s rfl ?_
  refine ev_gf (rd np M L (by omega) rfl) rfl rfl rfl ?_
  refine ev_s rfl ?_
  refine ev_ik (v := 0) rfl (by decide) ?_
  refine ev_bs (hp' := (mk np (up2 M 29 j 0) L)) (rd np M L (by omega) rfl) rfl (zin_nI (by omega) (by decide)) (by decide) (mk_setr rfl rfl rfl) ?_
  refine ev_s rfl ?_
  refine ev_gf (rd np (up2 M 29 j 0) L (by omega) ((congrArg (fun r => cel np 21 r (L 21)) ((up2_n (by omega)).trans rfl)).trans rfl)) rfl rfl rfl ?_
  refine ev_s rfl ?_
  refine ev_ia (rd np (up2 M 29 j 0) L (by omega) ((congrArg (fun r => cel np 47 r (L 47)) ((up2_n (by omega)).trans rfl)).trans rfl)) rfl (zin_nI (by omega) (by decide)) ?_
  rw [h47]
  refine ev_s (ls' := [some (.ref 21), some (.int (nI al)), some (.int (nI j)), some (.int (nI all)), some (.int (nI c)), v5, v6]) rfl ?_
  refine ev_s rfl ?_
  refine ev_gf (rd np (up2 M 29 j 0) L (by omega) ((congrArg (fun r => cel np 21 r (L 21)) ((up2_n (by omega)).trans rfl)).trans rfl)) rfl rfl rfl ?_
  iterate 2 refine ev_s rfl ?_
  refine ev_ia (rd np (up2 M 29 j 0) L (by omega) ((congrArg (fun r => cel np 47 r (L 47)) ((up2_n (by omega)).trans rfl)).trans rfl)) rfl (zin_nI (by omega) (by decide)) ?_
  rw [h47]
  refine ev_ik (v := 1) rfl (by decide) ?_
  refine ev_s rfl ?_
  rw [nI_1]
  refine ev_is (hp' := (mk np (up2 (up2 M 29 j 0) 47 j (nI (c + 1))) L)) (rd np (up2 M 29 j 0) L (by omega) ((congrArg (fun r => cel np 47 r (L 47)) ((up2_n (by omega)).trans rfl)).trans rfl)) rfl (zin_nI (by omega) (by decide)) (mk_setr ((up2_n (by omega)).trans rfl) rfl rfl) ?_
  iterate 2 refine ev_s rfl ?_
  refine ev_ic rfl rfl ?_
  rw [show zbr .ne (nI c) (nI all) 144 140 = 144 from zne_t rfl rfl (by omega) (by omega) (by omega)]
  refine ev_ik (v := 0) rfl (by decide) ?_
  refine ev_s (ls' := [some (.ref 21), some (.int (nI al)), some (.int (nI j)), some (.int (nI all)), some (.int (nI c)), some (.int 0), v6]) rfl ?_
  iterate 2 refine ev_s rfl ?_
  refine ev_ic rfl rfl ?_
  rw [show zbr .ge (nI c) (nI all) 194 153 = 153 from zge_f (n := all) rfl hc (by omega)]
  iterate 3 refine ev_s rfl ?_
  refine ev_cv (vs := [(.ref 21), (.int (nI j)), (.int (nI c))]) (rest := []) (rv := none) (hp' := (mk np M2 L)) rfl rfl rfl (rd np (up2 (up2 M 29 j 0) 47 j (nI (c + 1))) L (by omega) ((congrArg (fun r => cel np 21 r (L 21)) ((up2_n (by omega)).trans ((up2_n (by omega)).trans rfl))).trans rfl)) rfl rfl rfl rfl hS ?_
  show Ev _ _ 160 _ [] _ _
  iterate 2 refine ev_s rfl ?_
  refine ev_cv (vs := [(.ref 21), (.int (nI j))]) (rest := []) (rv := (some (.int 1))) rfl rfl rfl (rd np M2 L (by omega) rfl) rfl rfl rfl rfl hF ?_
  show Ev _ _ 165 _ [(.int 1)] _ _
  refine ev_s (ls' := [some (.ref 21), some (.int (nI al)), some (.int (nI j)), some (.int (nI all)), some (.int (nI c)), some (.int 1), v6]) rfl ?_
  refine ev_s rfl ?_
  refine ev_gf (rd np M2 L (by omega) rfl) rfl rfl rfl ?_
  iterate 2 refine ev_s rfl ?_
  refine ev_bs (hp' := (mk np (up2 M2 29 j 1) L)) (rd np M2 L (by omega) rfl) rfl (zin_nI (by omega) (by decide)) (by decide) (mk_setr rfl rfl rfl) ?_
  iterate 2 refine ev_s rfl ?_
  refine ev_gf (rd np (up2 M2 29 j 1) L (by omega) ((congrArg (fun r => cel np 21 r (L 21)) ((up2_n (by omega)).trans rfl)).trans rfl)) rfl rfl rfl ?_
  rw [hl]
  refine ev_s rfl ?_
  refine ev_if rfl rfl ?_
  show Ev _ _ 185 _ _ _ _
  refine ev_ik (v := 1) rfl (by decide) ?_
  iterate 2 refine ev_s rfl ?_
  rw [nI_1]
  refine ev_pf (hp' := (mk np (up2 (up2 M2 29 j 1) 21 5 (nI (mm + 1))) L)) (rd np (up2 M2 29 j 1) L (by omega) ((congrArg (fun r => cel np 21 r (L 21)) ((up2_n (by omega)).trans rfl)).trans rfl)) rfl rfl (by simp) rfl rfl (mk_setr ((up2_n (by omega)).trans rfl) rfl rfl) ?_
  refine ev_s rfl ?_
  refine ev_gf (rd np (up2 (up2 M2 29 j 1) 21 5 (nI (mm + 1))) L (by omega) ((congrArg (fun r => cel np 21 r (L 21)) ((up2_s _ _ _ _).trans (congrArg (fun r => upd r 5 (nI (mm + 1))) ((up2_n (by omega)).trans rfl)))).trans rfl)) rfl rfl rfl ?_
  refine ev_s rfl ?_
  refine ev_ba (rd np (up2 (up2 M2 29 j 1) 21 5 (nI (mm + 1))) L (by omega) ((congrArg (fun r => cel np 29 r (L 29)) ((up2_n (by omega)).trans ((up2_s _ _ _ _).trans (congrArg (fun r => upd r j 1) rfl)))).trans rfl)) rfl (zin_nI (by omega) (by decide)) ?_
  rw [upd_s]
  refine ev_if rfl rfl ?_
  show Ev _ _ 203 _ _ _ _
  refine ev_s rfl ?_
  refine ev_gf (rd np (up2 (up2 M2 29 j 1) 21 5 (nI (mm + 1))) L (by omega) ((congrArg (fun r => cel np 21 r (L 21)) ((up2_s _ _ _ _).trans (congrArg (fun r => upd r 5 (nI (mm + 1))) ((up2_n (by omega)).trans rfl)))).trans rfl)) rfl rfl rfl ?_
  rw [upd_s]
  refine ev_s rfl ?_
  refine ev_ic rfl rfl ?_
  rw [show zbr .ne (nI (mm + 1)) (nI al) 215 211 = 215 from zne_t rfl rfl he (by omega) (by omega)]
  refine ev_ik (v := 0) rfl (by decide) ?_
  refine ev_s (ls' := [some (.ref 21), some (.int (nI al)), some (.int (nI j)), some (.int (nI all)), some (.int (nI c)), some (.int 1), some (.int 0)]) rfl ?_
  refine ev_s rfl ?_
  refine ev_if rfl rfl ?_
  show Ev _ _ 223 _ _ _ _
  refine ev_s rfl ?_
  refine ev_if rfl rfl ?_
  show Ev _ _ 228 _ _ _ _
  iterate 2 refine ev_s rfl ?_
  refine ev_gf (rd np (up2 (up2 M2 29 j 1) 21 5 (nI (mm + 1))) L (by omega) ((congrArg (fun r => cel np 21 r (L 21)) ((up2_s _ _ _ _).trans (congrArg (fun r => upd r 5 (nI (mm + 1))) ((up2_n (by omega)).trans rfl)))).trans rfl)) rfl rfl rfl ?_
  rw [upd_n (show (3 : Nat) ≠ 5 by decide), hn]
  refine ev_ik (v := 1) rfl (by decide) ?_
  refine ev_s rfl ?_
  refine ev_ic rfl rfl ?_
  rw [show zbr .ne (nI j) ((nI n) - 1) 245 238 = 238 from zne_f rfl (nI_m1 hn0) hnj]
  refine ev_s rfl ?_
  refine ev_cv (vs := [(.ref 21)]) (rest := []) (rv := none) (hp' := (mk np M5 L5)) rfl rfl rfl (rd np (up2 (up2 M2 29 j 1) 21 5 (nI (mm + 1))) L (by omega) ((congrArg (fun r => cel np 21 r (L 21)) ((up2_s _ _ _ _).trans (congrArg (fun r => upd r 5 (nI (mm + 1))) ((up2_n (by omega)).trans rfl)))).trans rfl)) rfl rfl rfl rfl hJ ?_
  show Ev _ _ 242 _ [] _ _
  iterate 2 refine ev_s rfl ?_
  refine ev_if rfl rfl ?_
  show Ev _ _ 268 _ _ _ _
  iterate 2 refine ev_s rfl ?_
  refine ev_ic rfl rfl ?_
  rw [show zbr .le (nI c) (nI all) 277 274 = 277 from zle_t rfl rfl (by omega) (by omega)]
  refine ev_s rfl ?_
  exact hK _ _ _ _
set_option maxHeartbeats 4000000 in
theorem sg_D {d : Nat} {np : Nat} {M : Nat → Nat → Int32} {L : Nat → Int64} {j n al c all a b cc e : Nat} (hj : j < 6) (h48 : M 48 j = nI a) (h50 : M 50 j = nI b) (h51 : M 51 j = nI cc) (h52 : M 52 j = nI e) (hall : a * b * cc * e = all) (ha31 : all < 2 ^ 30) (h47 : M 47 j = nI c) (hc : c < all) {M2 : Nat → Nat → Int32} {mm : Nat} (hm31 : mm < 2 ^ 30) (hal31 : al < 2 ^ 30) (hl : M2 21 5 = nI mm) (hS : Rn (d + 4) mX6_setBox [.ref 21, .int (nI j), .int (nI c)] (mk np (up2 (up2 M 29 j 0) 47 j (nI (c + 1))) L) none (mk np M2 L)) (hF : Rn (d + 4) mX6_fits [.ref 21, .int (nI j)] (mk np M2 L) (some (.int 1)) (mk np M2 L)) (he : mm + 1 ≠ al) (hn0 : 0 < n) (hn6 : n ≤ 6) (hn : M2 21 3 = nI n) (hnj : j ≠ n - 1) {M5 : Nat → Nat → Int32} (hB : Rn (d + 4) mX6_begin [.ref 21, .int (nI (j + 1))] (mk np (up2 (up2 M2 29 j 1) 21 5 (nI (mm + 1))) L) none (mk np M5 L)) {v3 v4 v5 v6 : Option Value} {Q : zCf → Prop} (hK : ∀ v3 v4 v5 v6, Ev (d + 5) mX6_pack 77 [some (.ref 21), some (.int (nI al)), some (.int (nI (j + 1))), v3, v4, v5, v6] [] (mk np M5 L) Q) : Ev (d + 5) mX6_pack 77 [some (.ref 21), some (.int (nI al)), some (.int (nI j)), v3, v4, v5, v6] [] (mk np M L) Q := by
  refine ev_s rfl ?_
  refine ev_if rfl rfl ?_
  rw [show zbr .lt (nI j) 0 280 81 = 81 from zlt_f (by omega)]
  refine ev_s rfl ?_
  refine ev_gf (rd np M L (by omega) rfl) rfl rfl rfl ?_
  refine ev_s rfl ?_
  refine ev_ia (rd np M L (by omega) rfl) rfl (zin_nI (by omega) (by decide)) ?_
  rw [h48]
  refine ev_s rfl ?_
  refine ev_gf (rd np M L (by omega) rfl) rfl rfl rfl ?_
  refine ev_s rfl ?_
  refine ev_ia (rd np M L (by omega) rfl) rfl (zin_nI (by omega) (by decide)) ?_
  rw [h50]
  iterate 2 refine ev_s rfl ?_
  refine ev_gf (rd np M L (by omega) rfl) rfl rfl rfl ?_
  refine ev_s rfl ?_
  refine ev_ia (rd np M L (by omega) rfl) rfl (zin_nI (by omega) (by decide)) ?_
  rw [h51]
  iterate 2 refine ev_s rfl ?_
  refine ev_gf (rd np M L (by omega) rfl) rfl rfl rfl ?_
  refine ev_s rfl ?_
  refine ev_ia (rd np M L (by omega) rfl) rfl (zin_nI (by omega) (by decide)) ?_
  rw [h52]
  refine ev_s rfl ?_
  rw [pk_mul, pk_mul, pk_mul, hall]
  refine ev_s (ls' := [some (.ref 21), some (.int (nI al)), some (.int (nI j)), some (.int (nI all)), v4, v5, v6]) rfl ?_
  refine ev_s rfl ?_
  refine ev_gf (rd np M L (by omega) rfl) rfl rfl rfl ?_
  refine ev_s rfl ?_
  refine ev_ik (v := 0) rfl (by decide) ?_
  refine ev_bs (hp' := (mk np (up2 M 29 j 0) L)) (rd np M L (by omega) rfl) rfl (zin_nI (by omega) (by decide)) (by decide) (mk_setr rfl rfl rfl) ?_
  refine ev_s rfl ?_
  refine ev_gf (rd np (up2 M 29 j 0) L (by omega) ((congrArg (fun r => cel np 21 r (L 21)) ((up2_n (by omega)).trans rfl)).trans rfl)) rfl rfl rfl ?_
  refine ev_s rfl ?_
  refine ev_ia (rd np (up2 M 29 j 0) L (by omega) ((congrArg (fun r => cel np 47 r (L 47)) ((up2_n (by omega)).trans rfl)).trans rfl)) rfl (zin_nI (by omega) (by decide)) ?_
  rw [h47]
  refine ev_s (ls' := [some (.ref 21), some (.int (nI al)), some (.int (nI j)), some (.int (nI all)), some (.int (nI c)), v5, v6]) rfl ?_
  refine ev_s rfl ?_
  refine ev_gf (rd np (up2 M 29 j 0) L (by omega) ((congrArg (fun r => cel np 21 r (L 21)) ((up2_n (by omega)).trans rfl)).trans rfl)) rfl rfl rfl ?_
  iterate 2 refine ev_s rfl ?_
  refine ev_ia (rd np (up2 M 29 j 0) L (by omega) ((congrArg (fun r => cel np 47 r (L 47)) ((up2_n (by omega)).trans rfl)).trans rfl)) rfl (zin_nI (by omega) (by decide)) ?_
  rw [h47]
  refine ev_ik (v := 1) rfl (by decide) ?_
  refine ev_s rfl ?_
  rw [nI_1]
  refine ev_is (hp' := (mk np (up2 (up2 M 29 j 0) 47 j (nI (c + 1))) L)) (rd np (up2 M 29 j 0) L (by omega) ((congrArg (fun r => cel np 47 r (L 47)) ((up2_n (by omega)).trans rfl)).trans rfl)) rfl (zin_nI (by omega) (by decide)) (mk_setr ((up2_n (by omega)).trans rfl) rfl rfl) ?_
  iterate 2 refine ev_s rfl ?_
  refine ev_ic rfl rfl ?_
  rw [show zbr .ne (nI c) (nI all) 144 140 = 144 from zne_t rfl rfl (by omega) (by omega) (by omega)]
  refine ev_ik (v := 0) rfl (by decide) ?_
  refine ev_s (ls' := [some (.ref 21), some (.int (nI al)), some (.int (nI j)), some (.int (nI all)), some (.int (nI c)), some (.int 0), v6]) rfl ?_
  iterate 2 refine ev_s rfl ?_
  refine ev_ic rfl rfl ?_
  rw [show zbr .ge (nI c) (nI all) 194 153 = 153 from zge_f (n := all) rfl hc (by omega)]
  iterate 3 refine ev_s rfl ?_
  refine ev_cv (vs := [(.ref 21), (.int (nI j)), (.int (nI c))]) (rest := []) (rv := none) (hp' := (mk np M2 L)) rfl rfl rfl (rd np (up2 (up2 M 29 j 0) 47 j (nI (c + 1))) L (by omega) ((congrArg (fun r => cel np 21 r (L 21)) ((up2_n (by omega)).trans ((up2_n (by omega)).trans rfl))).trans rfl)) rfl rfl rfl rfl hS ?_
  show Ev _ _ 160 _ [] _ _
  iterate 2 refine ev_s rfl ?_
  refine ev_cv (vs := [(.ref 21), (.int (nI j))]) (rest := []) (rv := (some (.int 1))) rfl rfl rfl (rd np M2 L (by omega) rfl) rfl rfl rfl rfl hF ?_
  show Ev _ _ 165 _ [(.int 1)] _ _
  refine ev_s (ls' := [some (.ref 21), some (.int (nI al)), some (.int (nI j)), some (.int (nI all)), some (.int (nI c)), some (.int 1), v6]) rfl ?_
  refine ev_s rfl ?_
  refine ev_gf (rd np M2 L (by omega) rfl) rfl rfl rfl ?_
  iterate 2 refine ev_s rfl ?_
  refine ev_bs (hp' := (mk np (up2 M2 29 j 1) L)) (rd np M2 L (by omega) rfl) rfl (zin_nI (by omega) (by decide)) (by decide) (mk_setr rfl rfl rfl) ?_
  iterate 2 refine ev_s rfl ?_
  refine ev_gf (rd np (up2 M2 29 j 1) L (by omega) ((congrArg (fun r => cel np 21 r (L 21)) ((up2_n (by omega)).trans rfl)).trans rfl)) rfl rfl rfl ?_
  rw [hl]
  refine ev_s rfl ?_
  refine ev_if rfl rfl ?_
  show Ev _ _ 185 _ _ _ _
  refine ev_ik (v := 1) rfl (by decide) ?_
  iterate 2 refine ev_s rfl ?_
  rw [nI_1]
  refine ev_pf (hp' := (mk np (up2 (up2 M2 29 j 1) 21 5 (nI (mm + 1))) L)) (rd np (up2 M2 29 j 1) L (by omega) ((congrArg (fun r => cel np 21 r (L 21)) ((up2_n (by omega)).trans rfl)).trans rfl)) rfl rfl (by simp) rfl rfl (mk_setr ((up2_n (by omega)).trans rfl) rfl rfl) ?_
  refine ev_s rfl ?_
  refine ev_gf (rd np (up2 (up2 M2 29 j 1) 21 5 (nI (mm + 1))) L (by omega) ((congrArg (fun r => cel np 21 r (L 21)) ((up2_s _ _ _ _).trans (congrArg (fun r => upd r 5 (nI (mm + 1))) ((up2_n (by omega)).trans rfl)))).trans rfl)) rfl rfl rfl ?_
  refine ev_s rfl ?_
  refine ev_ba (rd np (up2 (up2 M2 29 j 1) 21 5 (nI (mm + 1))) L (by omega) ((congrArg (fun r => cel np 29 r (L 29)) ((up2_n (by omega)).trans ((up2_s _ _ _ _).trans (congrArg (fun r => upd r j 1) rfl)))).trans rfl)) rfl (zin_nI (by omega) (by decide)) ?_
  rw [upd_s]
  refine ev_if rfl rfl ?_
  show Ev _ _ 203 _ _ _ _
  refine ev_s rfl ?_
  refine ev_gf (rd np (up2 (up2 M2 29 j 1) 21 5 (nI (mm + 1))) L (by omega) ((congrArg (fun r => cel np 21 r (L 21)) ((up2_s _ _ _ _).trans (congrArg (fun r => upd r 5 (nI (mm + 1))) ((up2_n (by omega)).trans rfl)))).trans rfl)) rfl rfl rfl ?_
  rw [upd_s]
  refine ev_s rfl ?_
  refine ev_ic rfl rfl ?_
  rw [show zbr .ne (nI (mm + 1)) (nI al) 215 211 = 215 from zne_t rfl rfl he (by omega) (by omega)]
  refine ev_ik (v := 0) rfl (by decide) ?_
  refine ev_s (ls' := [some (.ref 21), some (.int (nI al)), some (.int (nI j)), some (.int (nI all)), some (.int (nI c)), some (.int 1), some (.int 0)]) rfl ?_
  refine ev_s rfl ?_
  refine ev_if rfl rfl ?_
  show Ev _ _ 223 _ _ _ _
  refine ev_s rfl ?_
  refine ev_if rfl rfl ?_
  show Ev _ _ 228 _ _ _ _
  iterate 2 refine ev_s rfl ?_
  refine ev_gf (rd np (up2 (up2 M2 29 j 1) 21 5 (nI (mm + 1))) L (by omega) ((congrArg (fun r => cel np 21 r (L 21)) ((up2_s _ _ _ _).trans (congrArg (fun r => upd r 5 (nI (mm + 1))) ((up2_n (by omega)).trans rfl)))).trans rfl)) rfl rfl rfl ?_
  rw [upd_n (show (3 : Nat) ≠ 5 by decide), hn]
  refine ev_ik (v := 1) rfl (by decide) ?_
  refine ev_s rfl ?_
  refine ev_ic rfl rfl ?_
  rw [show zbr .ne (nI j) ((nI n) - 1) 245 238 = 245 from zne_t rfl (nI_m1 hn0) hnj (by omega) (by omega)]
  refine ev_s rfl ?_
  refine ev_if rfl rfl ?_
  show Ev _ _ 250 _ _ _ _
  refine ev_inc (y := 1) (v := nI (j + 1)) (ls' := [some (.ref 21), some (.int (nI al)), some (.int (nI (j + 1))), some (.int (nI all)), some (.int (nI c)), some (.int 1), some (.int 0)]) rfl rfl (by decide) (nI_1 _) rfl ?_
  iterate 2 refine ev_s rfl ?_
  refine ev_cv (vs := [(.ref 21), (.int (nI (j + 1)))]) (rest := []) (rv := none) (hp' := (mk np M5 L)) rfl rfl rfl (rd np (up2 (up2 M2 29 j 1) 21 5 (nI (mm + 1))) L (by omega) ((congrArg (fun r => cel np 21 r (L 21)) ((up2_s _ _ _ _).trans (congrArg (fun r => upd r 5 (nI (mm + 1))) ((up2_n (by omega)).trans rfl)))).trans rfl)) rfl rfl rfl rfl hB ?_
  show Ev _ _ 258 _ [] _ _
  refine ev_s rfl ?_
  refine ev_if rfl rfl ?_
  show Ev _ _ 268 _ _ _ _
  iterate 2 refine ev_s rfl ?_
  refine ev_ic rfl rfl ?_
  rw [show zbr .le (nI c) (nI all) 277 274 = 277 from zle_t rfl rfl (by omega) (by omega)]
  refine ev_s rfl ?_
  exact hK _ _ _ _
set_option maxHeartbeats 4000000 in
theorem sg_E {d : Nat} {np : Nat} {M : Nat → Nat → Int32} {L : Nat → Int64} {j n al c all a b cc e : Nat} (hj : j < 6) (h48 : M 48 j = nI a) (h50 : M 50 j = nI b) (h51 : M 51 j = nI cc) (h52 : M 52 j = nI e) (hall : a * b * cc * e = all) (ha31 : all < 2 ^ 30) (h47 : M 47 j = nI c) (hc : c = all) (hn0 : 0 < n) (hn6 : n ≤ 6) (hn : M 21 3 = nI n) (hnj : j = n - 1) {M5 : Nat → Nat → Int32} {L5 : Nat → Int64} (hJ : Rn (d + 4) mX6_judge [.ref 21] (mk np (up2 (up2 M 29 j 0) 47 j (nI (c + 1))) L) none (mk np M5 L5)) {v3 v4 v5 v6 : Option Value} {Q : zCf → Prop} (hK : ∀ v3 v4 v5 v6, Ev (d + 5) mX6_pack 77 [some (.ref 21), some (.int (nI al)), some (.int (nI j)), v3, v4, v5, v6] [] (mk np M5 L5) Q) : Ev (d + 5) mX6_pack 77 [some (.ref 21), some (.int (nI al)), some (.int (nI j)), v3, v4, v5, v6] [] (mk np M L) Q := by
  refine ev_s rfl ?_
  refine ev_if rfl rfl ?_
  rw [show zbr .lt (nI j) 0 280 81 = 81 from zlt_f (by omega)]
  refine ev_s rfl ?_
  refine ev_gf (rd np M L (by omega) rfl) rfl rfl rfl ?_
  refine ev_s rfl ?_
  refine ev_ia (rd np M L (by omega) rfl) rfl (zin_nI (by omega) (by decide)) ?_
  rw [h48]
  refine ev_s rfl ?_
  refine ev_gf (rd np M L (by omega) rfl) rfl rfl rfl ?_
  refine ev_s rfl ?_
  refine ev_ia (rd np M L (by omega) rfl) rfl (zin_nI (by omega) (by decide)) ?_
  rw [h50]
  iterate 2 refine ev_s rfl ?_
  refine ev_gf (rd np M L (by omega) rfl) rfl rfl rfl ?_
  refine ev_s rfl ?_
  refine ev_ia (rd np M L (by omega) rfl) rfl (zin_nI (by omega) (by decide)) ?_
  rw [h51]
  iterate 2 refine ev_s rfl ?_
  refine ev_gf (rd np M L (by omega) rfl) rfl rfl rfl ?_
  refine ev_s rfl ?_
  refine ev_ia (rd np M L (by omega) rfl) rfl (zin_nI (by omega) (by decide)) ?_
  rw [h52]
  refine ev_s rfl ?_
  rw [pk_mul, pk_mul, pk_mul, hall]
  refine ev_s (ls' := [some (.ref 21), some (.int (nI al)), some (.int (nI j)), some (.int (nI all)), v4, v5, v6]) rfl ?_
  refine ev_s rfl ?_
  refine ev_gf (rd np M L (by omega) rfl) rfl rfl rfl ?_
  refine ev_s rfl ?_
  refine ev_ik (v := 0) rfl (by decide) ?_
  refine ev_bs (hp' := (mk np (up2 M 29 j 0) L)) (rd np M L (by omega) rfl) rfl (zin_nI (by omega) (by decide)) (by decide) (mk_setr rfl rfl rfl) ?_
  refine ev_s rfl ?_
  refine ev_gf (rd np (up2 M 29 j 0) L (by omega) ((congrArg (fun r => cel np 21 r (L 21)) ((up2_n (by omega)).trans rfl)).trans rfl)) rfl rfl rfl ?_
  refine ev_s rfl ?_
  refine ev_ia (rd np (up2 M 29 j 0) L (by omega) ((congrArg (fun r => cel np 47 r (L 47)) ((up2_n (by omega)).trans rfl)).trans rfl)) rfl (zin_nI (by omega) (by decide)) ?_
  rw [h47]
  refine ev_s (ls' := [some (.ref 21), some (.int (nI al)), some (.int (nI j)), some (.int (nI all)), some (.int (nI c)), v5, v6]) rfl ?_
  refine ev_s rfl ?_
  refine ev_gf (rd np (up2 M 29 j 0) L (by omega) ((congrArg (fun r => cel np 21 r (L 21)) ((up2_n (by omega)).trans rfl)).trans rfl)) rfl rfl rfl ?_
  iterate 2 refine ev_s rfl ?_
  refine ev_ia (rd np (up2 M 29 j 0) L (by omega) ((congrArg (fun r => cel np 47 r (L 47)) ((up2_n (by omega)).trans rfl)).trans rfl)) rfl (zin_nI (by omega) (by decide)) ?_
  rw [h47]
  refine ev_ik (v := 1) rfl (by decide) ?_
  refine ev_s rfl ?_
  rw [nI_1]
  refine ev_is (hp' := (mk np (up2 (up2 M 29 j 0) 47 j (nI (c + 1))) L)) (rd np (up2 M 29 j 0) L (by omega) ((congrArg (fun r => cel np 47 r (L 47)) ((up2_n (by omega)).trans rfl)).trans rfl)) rfl (zin_nI (by omega) (by decide)) (mk_setr ((up2_n (by omega)).trans rfl) rfl rfl) ?_
  iterate 2 refine ev_s rfl ?_
  refine ev_ic rfl rfl ?_
  rw [show zbr .ne (nI c) (nI all) 144 140 = 140 from zne_f rfl rfl hc]
  refine ev_ik (v := 1) rfl (by decide) ?_
  refine ev_s rfl ?_
  refine ev_s (ls' := [some (.ref 21), some (.int (nI al)), some (.int (nI j)), some (.int (nI all)), some (.int (nI c)), some (.int 1), v6]) rfl ?_
  iterate 2 refine ev_s rfl ?_
  refine ev_ic rfl rfl ?_
  rw [show zbr .ge (nI c) (nI all) 194 153 = 194 from zge_t (n := all) rfl (by omega) (by omega)]
  refine ev_s rfl ?_
  refine ev_gf (rd np (up2 (up2 M 29 j 0) 47 j (nI (c + 1))) L (by omega) ((congrArg (fun r => cel np 21 r (L 21)) ((up2_n (by omega)).trans ((up2_n (by omega)).trans rfl))).trans rfl)) rfl rfl rfl ?_
  refine ev_s rfl ?_
  refine ev_ba (rd np (up2 (up2 M 29 j 0) 47 j (nI (c + 1))) L (by omega) ((congrArg (fun r => cel np 29 r (L 29)) ((up2_n (by omega)).trans ((up2_s _ _ _ _).trans (congrArg (fun r => upd r j 0) rfl)))).trans rfl)) rfl (zin_nI (by omega) (by decide)) ?_
  rw [upd_s]
  refine ev_if rfl rfl ?_
  show Ev _ _ 215 _ _ _ _
  refine ev_ik (v := 0) rfl (by decide) ?_
  refine ev_s (ls' := [some (.ref 21), some (.int (nI al)), some (.int (nI j)), some (.int (nI all)), some (.int (nI c)), some (.int 1), some (.int 0)]) rfl ?_
  refine ev_s rfl ?_
  refine ev_if rfl rfl ?_
  show Ev _ _ 223 _ _ _ _
  refine ev_s rfl ?_
  refine ev_if rfl rfl ?_
  show Ev _ _ 228 _ _ _ _
  iterate 2 refine ev_s rfl ?_
  refine ev_gf (rd np (up2 (up2 M 29 j 0) 47 j (nI (c + 1))) L (by omega) ((congrArg (fun r => cel np 21 r (L 21)) ((up2_n (by omega)).trans ((up2_n (by omega)).trans rfl))).trans rfl)) rfl rfl rfl ?_
  rw [hn]
  refine ev_ik (v := 1) rfl (by decide) ?_
  refine ev_s rfl ?_
  refine ev_ic rfl rfl ?_
  rw [show zbr .ne (nI j) ((nI n) - 1) 245 238 = 238 from zne_f rfl (nI_m1 hn0) hnj]
  refine ev_s rfl ?_
  refine ev_cv (vs := [(.ref 21)]) (rest := []) (rv := none) (hp' := (mk np M5 L5)) rfl rfl rfl (rd np (up2 (up2 M 29 j 0) 47 j (nI (c + 1))) L (by omega) ((congrArg (fun r => cel np 21 r (L 21)) ((up2_n (by omega)).trans ((up2_n (by omega)).trans rfl))).trans rfl)) rfl rfl rfl rfl hJ ?_
  show Ev _ _ 242 _ [] _ _
  iterate 2 refine ev_s rfl ?_
  refine ev_if rfl rfl ?_
  show Ev _ _ 268 _ _ _ _
  iterate 2 refine ev_s rfl ?_
  refine ev_ic rfl rfl ?_
  rw [show zbr .le (nI c) (nI all) 277 274 = 277 from zle_t rfl rfl (by omega) (by omega)]
  refine ev_s rfl ?_
  exact hK _ _ _ _
set_option maxHeartbeats 4000000 in
theorem sg_F {d : Nat} {np : Nat} {M : Nat → Nat → Int32} {L : Nat → Int64} {j n al c all a b cc e : Nat} (hj : j < 6) (h48 : M 48 j = nI a) (h50 : M 50 j = nI b) (h51 : M 51 j = nI cc) (h52 : M 52 j = nI e) (hall : a * b * cc * e = all) (ha31 : all < 2 ^ 30) (h47 : M 47 j = nI c) (hc : c = all) (hn0 : 0 < n) (hn6 : n ≤ 6) (hn : M 21 3 = nI n) (hnj : j ≠ n - 1) {M5 : Nat → Nat → Int32} (hB : Rn (d + 4) mX6_begin [.ref 21, .int (nI (j + 1))] (mk np (up2 (up2 M 29 j 0) 47 j (nI (c + 1))) L) none (mk np M5 L)) {v3 v4 v5 v6 : Option Value} {Q : zCf → Prop} (hK : ∀ v3 v4 v5 v6, Ev (d + 5) mX6_pack 77 [some (.ref 21), some (.int (nI al)), some (.int (nI (j + 1))), v3, v4, v5, v6] [] (mk np M5 L) Q) : Ev (d + 5) mX6_pack 77 [some (.ref 21), some (.int (nI al)), some (.int (nI j)), v3, v4, v5, v6] [] (mk np M L) Q := by
  refine ev_s rfl ?_
  refine ev_if rfl rfl ?_
  rw [show zbr .lt (nI j) 0 280 81 = 81 from zlt_f (by omega)]
  refine ev_s rfl ?_
  refine ev_gf (rd np M L (by omega) rfl) rfl rfl rfl ?_
  refine ev_s rfl ?_
  refine ev_ia (rd np M L (by omega) rfl) rfl (zin_nI (by omega) (by decide)) ?_
  rw [h48]
  refine ev_s rfl ?_
  refine ev_gf (rd np M L (by omega) rfl) rfl rfl rfl ?_
  refine ev_s rfl ?_
  refine ev_ia (rd np M L (by omega) rfl) rfl (zin_nI (by omega) (by decide)) ?_
  rw [h50]
  iterate 2 refine ev_s rfl ?_
  refine ev_gf (rd np M L (by omega) rfl) rfl rfl rfl ?_
  refine ev_s rfl ?_
  refine ev_ia (rd np M L (by omega) rfl) rfl (zin_nI (by omega) (by decide)) ?_
  rw [h51]
  iterate 2 refine ev_s rfl ?_
  refine ev_gf (rd np M L (by omega) rfl) rfl rfl rfl ?_
  refine ev_s rfl ?_
  refine ev_ia (rd np M L (by omega) rfl) rfl (zin_nI (by omega) (by decide)) ?_
  rw [h52]
  refine ev_s rfl ?_
  rw [pk_mul, pk_mul, pk_mul, hall]
  refine ev_s (ls' := [some (.ref 21), some (.int (nI al)), some (.int (nI j)), some (.int (nI all)), v4, v5, v6]) rfl ?_
  refine ev_s rfl ?_
  refine ev_gf (rd np M L (by omega) rfl) rfl rfl rfl ?_
  refine ev_s rfl ?_
  refine ev_ik (v := 0) rfl (by decide) ?_
  refine ev_bs (hp' := (mk np (up2 M 29 j 0) L)) (rd np M L (by omega) rfl) rfl (zin_nI (by omega) (by decide)) (by decide) (mk_setr rfl rfl rfl) ?_
  refine ev_s rfl ?_
  refine ev_gf (rd np (up2 M 29 j 0) L (by omega) ((congrArg (fun r => cel np 21 r (L 21)) ((up2_n (by omega)).trans rfl)).trans rfl)) rfl rfl rfl ?_
  refine ev_s rfl ?_
  refine ev_ia (rd np (up2 M 29 j 0) L (by omega) ((congrArg (fun r => cel np 47 r (L 47)) ((up2_n (by omega)).trans rfl)).trans rfl)) rfl (zin_nI (by omega) (by decide)) ?_
  rw [h47]
  refine ev_s (ls' := [some (.ref 21), some (.int (nI al)), some (.int (nI j)), some (.int (nI all)), some (.int (nI c)), v5, v6]) rfl ?_
  refine ev_s rfl ?_
  refine ev_gf (rd np (up2 M 29 j 0) L (by omega) ((congrArg (fun r => cel np 21 r (L 21)) ((up2_n (by omega)).trans rfl)).trans rfl)) rfl rfl rfl ?_
  iterate 2 refine ev_s rfl ?_
  refine ev_ia (rd np (up2 M 29 j 0) L (by omega) ((congrArg (fun r => cel np 47 r (L 47)) ((up2_n (by omega)).trans rfl)).trans rfl)) rfl (zin_nI (by omega) (by decide)) ?_
  rw [h47]
  refine ev_ik (v := 1) rfl (by decide) ?_
  refine ev_s rfl ?_
  rw [nI_1]
  refine ev_is (hp' := (mk np (up2 (up2 M 29 j 0) 47 j (nI (c + 1))) L)) (rd np (up2 M 29 j 0) L (by omega) ((congrArg (fun r => cel np 47 r (L 47)) ((up2_n (by omega)).trans rfl)).trans rfl)) rfl (zin_nI (by omega) (by decide)) (mk_setr ((up2_n (by omega)).trans rfl) rfl rfl) ?_
  iterate 2 refine ev_s rfl ?_
  refine ev_ic rfl rfl ?_
  rw [show zbr .ne (nI c) (nI all) 144 140 = 140 from zne_f rfl rfl hc]
  refine ev_ik (v := 1) rfl (by decide) ?_
  refine ev_s rfl ?_
  refine ev_s (ls' := [some (.ref 21), some (.int (nI al)), some (.int (nI j)), some (.int (nI all)), some (.int (nI c)), some (.int 1), v6]) rfl ?_
  iterate 2 refine ev_s rfl ?_
  refine ev_ic rfl rfl ?_
  rw [show zbr .ge (nI c) (nI all) 194 153 = 194 from zge_t (n := all) rfl (by omega) (by omega)]
  refine ev_s rfl ?_
  refine ev_gf (rd np (up2 (up2 M 29 j 0) 47 j (nI (c + 1))) L (by omega) ((congrArg (fun r => cel np 21 r (L 21)) ((up2_n (by omega)).trans ((up2_n (by omega)).trans rfl))).trans rfl)) rfl rfl rfl ?_
  refine ev_s rfl ?_
  refine ev_ba (rd np (up2 (up2 M 29 j 0) 47 j (nI (c + 1))) L (by omega) ((congrArg (fun r => cel np 29 r (L 29)) ((up2_n (by omega)).trans ((up2_s _ _ _ _).trans (congrArg (fun r => upd r j 0) rfl)))).trans rfl)) rfl (zin_nI (by omega) (by decide)) ?_
  rw [upd_s]
  refine ev_if rfl rfl ?_
  show Ev _ _ 215 _ _ _ _
  refine ev_ik (v := 0) rfl (by decide) ?_
  refine ev_s (ls' := [some (.ref 21), some (.int (nI al)), some (.int (nI j)), some (.int (nI all)), some (.int (nI c)), some (.int 1), some (.int 0)]) rfl ?_
  refine ev_s rfl ?_
  refine ev_if rfl rfl ?_
  show Ev _ _ 223 _ _ _ _
  refine ev_s rfl ?_
  refine ev_if rfl rfl ?_
  show Ev _ _ 228 _ _ _ _
  iterate 2 refine ev_s rfl ?_
  refine ev_gf (rd np (up2 (up2 M 29 j 0) 47 j (nI (c + 1))) L (by omega) ((congrArg (fun r => cel np 21 r (L 21)) ((up2_n (by omega)).trans ((up2_n (by omega)).trans rfl))).trans rfl)) rfl rfl rfl ?_
  rw [hn]
  refine ev_ik (v := 1) rfl (by decide) ?_
  refine ev_s rfl ?_
  refine ev_ic rfl rfl ?_
  rw [show zbr .ne (nI j) ((nI n) - 1) 245 238 = 245 from zne_t rfl (nI_m1 hn0) hnj (by omega) (by omega)]
  refine ev_s rfl ?_
  refine ev_if rfl rfl ?_
  show Ev _ _ 250 _ _ _ _
  refine ev_inc (y := 1) (v := nI (j + 1)) (ls' := [some (.ref 21), some (.int (nI al)), some (.int (nI (j + 1))), some (.int (nI all)), some (.int (nI c)), some (.int 1), some (.int 0)]) rfl rfl (by decide) (nI_1 _) rfl ?_
  iterate 2 refine ev_s rfl ?_
  refine ev_cv (vs := [(.ref 21), (.int (nI (j + 1)))]) (rest := []) (rv := none) (hp' := (mk np M5 L)) rfl rfl rfl (rd np (up2 (up2 M 29 j 0) 47 j (nI (c + 1))) L (by omega) ((congrArg (fun r => cel np 21 r (L 21)) ((up2_n (by omega)).trans ((up2_n (by omega)).trans rfl))).trans rfl)) rfl rfl rfl rfl hB ?_
  show Ev _ _ 258 _ [] _ _
  refine ev_s rfl ?_
  refine ev_if rfl rfl ?_
  show Ev _ _ 268 _ _ _ _
  iterate 2 refine ev_s rfl ?_
  refine ev_ic rfl rfl ?_
  rw [show zbr .le (nI c) (nI all) 277 274 = 277 from zle_t rfl rfl (by omega) (by omega)]
  refine ev_s rfl ?_
  exact hK _ _ _ _
set_option maxHeartbeats 4000000 in
theorem sg_G {d : Nat} {np : Nat} {M : Nat → Nat → Int32} {L : Nat → Int64} {j n al c all a b cc e : Nat} (hj : j < 6) (h48 : M 48 j = nI a) (h50 : M 50 j = nI b) (h51 : M 51 j = nI cc) (h52 : M 52 j = nI e) (hall : a * b * cc * e = all) (ha31 : all < 2 ^ 30) (h47 : M 47 j = nI c) (hc : c = all + 1) {v3 v4 v5 v6 : Option Value} {Q : zCf → Prop} (hK : ∀ v3 v4 v5 v6, Ev (d + 5) mX6_pack 77 [some (.ref 21), some (.int (nI al)), some (.int (nI j + (-1))), v3, v4, v5, v6] [] (mk np (up2 (up2 M 29 j 0) 47 j (nI (c + 1))) L) Q) : Ev (d + 5) mX6_pack 77 [some (.ref 21), some (.int (nI al)), some (.int (nI j)), v3, v4, v5, v6] [] (mk np M L) Q := by
  refine ev_s rfl ?_
  refine ev_if rfl rfl ?_
  rw [show zbr .lt (nI j) 0 280 81 = 81 from zlt_f (by omega)]
  refine ev_s rfl ?_
  refine ev_gf (rd np M L (by omega) rfl) rfl rfl rfl ?_
  refine ev_s rfl ?_
  refine ev_ia (rd np M L (by omega) rfl) rfl (zin_nI (by omega) (by decide)) ?_
  rw [h48]
  refine ev_s rfl ?_
  refine ev_gf (rd np M L (by omega) rfl) rfl rfl rfl ?_
  refine ev_s rfl ?_
  refine ev_ia (rd np M L (by omega) rfl) rfl (zin_nI (by omega) (by decide)) ?_
  rw [h50]
  iterate 2 refine ev_s rfl ?_
  refine ev_gf (rd np M L (by omega) rfl) rfl rfl rfl ?_
  refine ev_s rfl ?_
  refine ev_ia (rd np M L (by omega) rfl) rfl (zin_nI (by omega) (by decide)) ?_
  rw [h51]
  iterate 2 refine ev_s rfl ?_
  refine ev_gf (rd np M L (by omega) rfl) rfl rfl rfl ?_
  refine ev_s rfl ?_
  refine ev_ia (rd np M L (by omega) rfl) rfl (zin_nI (by omega) (by decide)) ?_
  rw [h52]
  refine ev_s rfl ?_
  rw [pk_mul, pk_mul, pk_mul, hall]
  refine ev_s (ls' := [some (.ref 21), some (.int (nI al)), some (.int (nI j)), some (.int (nI all)), v4, v5, v6]) rfl ?_
  refine ev_s rfl ?_
  refine ev_gf (rd np M L (by omega) rfl) rfl rfl rfl ?_
  refine ev_s rfl ?_
  refine ev_ik (v := 0) rfl (by decide) ?_
  refine ev_bs (hp' := (mk np (up2 M 29 j 0) L)) (rd np M L (by omega) rfl) rfl (zin_nI (by omega) (by decide)) (by decide) (mk_setr rfl rfl rfl) ?_
  refine ev_s rfl ?_
  refine ev_gf (rd np (up2 M 29 j 0) L (by omega) ((congrArg (fun r => cel np 21 r (L 21)) ((up2_n (by omega)).trans rfl)).trans rfl)) rfl rfl rfl ?_
  refine ev_s rfl ?_
  refine ev_ia (rd np (up2 M 29 j 0) L (by omega) ((congrArg (fun r => cel np 47 r (L 47)) ((up2_n (by omega)).trans rfl)).trans rfl)) rfl (zin_nI (by omega) (by decide)) ?_
  rw [h47]
  refine ev_s (ls' := [some (.ref 21), some (.int (nI al)), some (.int (nI j)), some (.int (nI all)), some (.int (nI c)), v5, v6]) rfl ?_
  refine ev_s rfl ?_
  refine ev_gf (rd np (up2 M 29 j 0) L (by omega) ((congrArg (fun r => cel np 21 r (L 21)) ((up2_n (by omega)).trans rfl)).trans rfl)) rfl rfl rfl ?_
  iterate 2 refine ev_s rfl ?_
  refine ev_ia (rd np (up2 M 29 j 0) L (by omega) ((congrArg (fun r => cel np 47 r (L 47)) ((up2_n (by omega)).trans rfl)).trans rfl)) rfl (zin_nI (by omega) (by decide)) ?_
  rw [h47]
  refine ev_ik (v := 1) rfl (by decide) ?_
  refine ev_s rfl ?_
  rw [nI_1]
  refine ev_is (hp' := (mk np (up2 (up2 M 29 j 0) 47 j (nI (c + 1))) L)) (rd np (up2 M 29 j 0) L (by omega) ((congrArg (fun r => cel np 47 r (L 47)) ((up2_n (by omega)).trans rfl)).trans rfl)) rfl (zin_nI (by omega) (by decide)) (mk_setr ((up2_n (by omega)).trans rfl) rfl rfl) ?_
  iterate 2 refine ev_s rfl ?_
  refine ev_ic rfl rfl ?_
  rw [show zbr .ne (nI c) (nI all) 144 140 = 144 from zne_t rfl rfl (by omega) (by omega) (by omega)]
  refine ev_ik (v := 0) rfl (by decide) ?_
  refine ev_s (ls' := [some (.ref 21), some (.int (nI al)), some (.int (nI j)), some (.int (nI all)), some (.int (nI c)), some (.int 0), v6]) rfl ?_
  iterate 2 refine ev_s rfl ?_
  refine ev_ic rfl rfl ?_
  rw [show zbr .ge (nI c) (nI all) 194 153 = 194 from zge_t (n := all) rfl (by omega) (by omega)]
  refine ev_s rfl ?_
  refine ev_gf (rd np (up2 (up2 M 29 j 0) 47 j (nI (c + 1))) L (by omega) ((congrArg (fun r => cel np 21 r (L 21)) ((up2_n (by omega)).trans ((up2_n (by omega)).trans rfl))).trans rfl)) rfl rfl rfl ?_
  refine ev_s rfl ?_
  refine ev_ba (rd np (up2 (up2 M 29 j 0) 47 j (nI (c + 1))) L (by omega) ((congrArg (fun r => cel np 29 r (L 29)) ((up2_n (by omega)).trans ((up2_s _ _ _ _).trans (congrArg (fun r => upd r j 0) rfl)))).trans rfl)) rfl (zin_nI (by omega) (by decide)) ?_
  rw [upd_s]
  refine ev_if rfl rfl ?_
  show Ev _ _ 215 _ _ _ _
  refine ev_ik (v := 0) rfl (by decide) ?_
  refine ev_s (ls' := [some (.ref 21), some (.int (nI al)), some (.int (nI j)), some (.int (nI all)), some (.int (nI c)), some (.int 0), some (.int 0)]) rfl ?_
  refine ev_s rfl ?_
  refine ev_if rfl rfl ?_
  show Ev _ _ 245 _ _ _ _
  refine ev_s rfl ?_
  refine ev_if rfl rfl ?_
  show Ev _ _ 258 _ _ _ _
  refine ev_s rfl ?_
  refine ev_if rfl rfl ?_
  show Ev _ _ 268 _ _ _ _
  iterate 2 refine ev_s rfl ?_
  refine ev_ic rfl rfl ?_
  rw [show zbr .le (nI c) (nI all) 277 274 = 274 from zle_f rfl rfl (by omega) (by omega)]
  refine ev_inc (y := (-1)) (v := (nI j) + (-1)) (ls' := [some (.ref 21), some (.int (nI al)), some (.int ((nI j) + (-1))), some (.int (nI all)), some (.int (nI c)), some (.int 0), some (.int 0)]) rfl rfl (by decide) rfl rfl ?_
  refine ev_s rfl ?_
  exact hK _ _ _ _
