/-! ===== Piece's loops, Place's writers ===== -/
theorem zge_f {i n t f : Nat} {y : Int32} (hy : y = nI n) (h : i < n) (hn : n < 2 ^ 31) : zbr .ge (nI i) y t f = f := by
  subst hy
  exact if_neg (nI_ge h hn)
theorem zge_t {i n t f : Nat} {y : Int32} (hy : y = nI n) (h : n ≤ i) (hn : i < 2 ^ 31) : zbr .ge (nI i) y t f = t := by
  subst hy
  exact if_pos (nI_le h hn)
theorem upd_s (f : Nat → Int32) (k : Nat) (v : Int32) : upd f k v k = v := if_pos rfl
theorem upd_n {f : Nat → Int32} {k j : Nat} {v : Int32} (h : j ≠ k) : upd f k v j = f j := if_neg h
theorem upd_upd (f : Nat → Int32) (k : Nat) (v w : Int32) : upd (upd f k v) k w = upd f k w := by
  funext j
  by_cases h : j = k
  · subst h; rw [upd_s, upd_s]
  · rw [upd_n h, upd_n h, upd_n h]
theorem up2_up2 (M : Nat → Nat → Int32) (h k : Nat) (v w : Int32) : up2 (up2 M h k v) h k w = up2 M h k w := by
  funext j
  by_cases hj : j = h
  · subst hj; rw [up2_s, up2_s, up2_s, upd_upd]
  · rw [up2_n hj, up2_n hj, up2_n hj]
theorem mk_setc {np : Nat} {M : Nat → Nat → Int32} {L : Nat → Int64} {h k : Nat} {v : Int32} {c c' : va_E} (hl : cel np h (upd (M h) k v) (L h) = c') (hc : c = c') : (mk np M L).set h c = mk np (up2 M h k v) L := mk_set (hc.trans hl.symm)
theorem zfits_b {x : Int32} (h : x = 0 ∨ x = 1) : zfits .boolean (.int x) = true := by
  rcases h with rfl | rfl <;> rfl
def smT (f : Nat → Int32) (b t : Nat) : Prop := tW f b = tW f t ∧ tH f b = tH f t ∧ tD f b = tD f t
def cMk (f : Nat → Int32) (t : Nat) : Prop := ∃ b, b < t ∧ smT f b t

set_option maxHeartbeats 4000000 in
theorem lp_mk {hp : zHp} {a : Nat} {f : Nat → Int32} (ha : hp[a]? = some (kcl f)) {t : Nat} (ht : t < 6) (d : Nat) : ∀ k b, b + k = t → (∀ j, j < b → ¬ smT f j t) → Ev (d + 1) mX1_makesWhatOneBeforeMakes 2 [some (.ref a), some (.int (nI t)), some (.int (nI b))] [] hp (Qr mX1_makesWhatOneBeforeMakes (some (.int (zi (cMk f t)))) hp) := by
  intro k
  induction k with
  | zero =>
    intro b hb hI
    iterate 2 refine ev_s rfl ?_
    refine ev_ic rfl rfl ?_
    rw [show zbr .ge (nI b) (nI t) 54 7 = 54 from zge_t (n := t) rfl (by omega) (by omega)]
    refine ev_ik (v := 0) rfl (by decide) ?_
    refine ev_rz rfl rfl (by decide) ?_ ?_
    · exact some_i (zi_f (fun ⟨j, hj, hs⟩ => hI j (by omega) hs)).symm
    · rfl
  | succ k ih =>
    intro b hb hI
    have hbt : b < t := by omega
    iterate 2 refine ev_s rfl ?_
    refine ev_ic rfl rfl ?_
    rw [show zbr .ge (nI b) (nI t) 54 7 = 7 from zge_f (n := t) rfl hbt (by omega)]
    iterate 2 refine ev_s rfl ?_
    refine ev_cv (vs := [(.ref a), (.int (nI b))]) (rest := []) (rv := (some (.int (tW f b)))) rfl rfl rfl ha rfl rfl rfl rfl (rn_tW ha (t := b) (by omega) _) ?_
    show Ev _ _ 12 _ [(.int (tW f b))] _ _
    iterate 2 refine ev_s rfl ?_
    refine ev_cv (vs := [(.ref a), (.int (nI t))]) (rest := [(.int (tW f b))]) (rv := (some (.int (tW f t)))) rfl rfl rfl ha rfl rfl rfl rfl (rn_tW ha (t := t) (by omega) _) ?_
    show Ev _ _ 17 _ [(.int (tW f t)), (.int (tW f b))] _ _
    refine ev_ic rfl rfl (ev_bn (fun c1 => ?_) (fun c1 => ?_))
    · show Ev _ _ 48 _ _ _ _
      refine ev_inc (y := 1) (v := nI (b + 1)) (ls' := [some (.ref a), some (.int (nI t)), some (.int (nI (b + 1)))]) rfl rfl (by decide) (nI_1 _) rfl ?_
      refine ev_s rfl ?_
      exact ih (b + 1) (by omega) (fun j hj hs => by
        rcases Nat.lt_or_ge j b with q | q
        · exact hI j q hs
        · obtain rfl : j = b := by omega
          exact c1 hs.1)
    · show Ev _ _ 20 _ _ _ _
      iterate 2 refine ev_s rfl ?_
      refine ev_cv (vs := [(.ref a), (.int (nI b))]) (rest := []) (rv := (some (.int (tH f b)))) rfl rfl rfl ha rfl rfl rfl rfl (rn_tH ha (t := b) (by omega) _) ?_
      show Ev _ _ 25 _ [(.int (tH f b))] _ _
      iterate 2 refine ev_s rfl ?_
      refine ev_cv (vs := [(.ref a), (.int (nI t))]) (rest := [(.int (tH f b))]) (rv := (some (.int (tH f t)))) rfl rfl rfl ha rfl rfl rfl rfl (rn_tH ha (t := t) (by omega) _) ?_
      show Ev _ _ 30 _ [(.int (tH f t)), (.int (tH f b))] _ _
      refine ev_ic rfl rfl (ev_bn (fun c2 => ?_) (fun c2 => ?_))
      · show Ev _ _ 48 _ _ _ _
        refine ev_inc (y := 1) (v := nI (b + 1)) (ls' := [some (.ref a), some (.int (nI t)), some (.int (nI (b + 1)))]) rfl rfl (by decide) (nI_1 _) rfl ?_
        refine ev_s rfl ?_
        exact ih (b + 1) (by omega) (fun j hj hs => by
          rcases Nat.lt_or_ge j b with q | q
          · exact hI j q hs
          · obtain rfl : j = b := by omega
            exact c2 hs.2.1)
      · show Ev _ _ 33 _ _ _ _
        iterate 2 refine ev_s rfl ?_
        refine ev_cv (vs := [(.ref a), (.int (nI b))]) (rest := []) (rv := (some (.int (tD f b)))) rfl rfl rfl ha rfl rfl rfl rfl (rn_tD ha (t := b) (by omega) _) ?_
        show Ev _ _ 38 _ [(.int (tD f b))] _ _
        iterate 2 refine ev_s rfl ?_
        refine ev_cv (vs := [(.ref a), (.int (nI t))]) (rest := [(.int (tD f b))]) (rv := (some (.int (tD f t)))) rfl rfl rfl ha rfl rfl rfl rfl (rn_tD ha (t := t) (by omega) _) ?_
        show Ev _ _ 43 _ [(.int (tD f t)), (.int (tD f b))] _ _
        refine ev_ic rfl rfl (ev_bn (fun c3 => ?_) (fun c3 => ?_))
        · show Ev _ _ 48 _ _ _ _
          refine ev_inc (y := 1) (v := nI (b + 1)) (ls' := [some (.ref a), some (.int (nI t)), some (.int (nI (b + 1)))]) rfl rfl (by decide) (nI_1 _) rfl ?_
          refine ev_s rfl ?_
          exact ih (b + 1) (by omega) (fun j hj hs => by
            rcases Nat.lt_or_ge j b with q | q
            · exact hI j q hs
            · obtain rfl : j = b := by omega
              exact c3 hs.2.2)
        · show Ev _ _ 46 _ _ _ _
          refine ev_ik (v := 1) rfl (by decide) ?_
          refine ev_rz rfl rfl (by decide) ?_ ?_
          · exact some_i (zi_t ⟨b, hbt, c1, c2, c3⟩).symm
          · rfl
set_option maxHeartbeats 4000000 in
theorem rn_mk {hp : zHp} {a : Nat} {f : Nat → Int32} (ha : hp[a]? = some (kcl f)) {t : Nat} (ht : t < 6) (d : Nat) : Rn (d + 1) mX1_makesWhatOneBeforeMakes [.ref a, .int (nI t)] hp (some (.int (zi (cMk f t)))) hp := by
  unfold Rn
  refine ev_ik (v := 0) rfl (by decide) ?_
  refine ev_s (ls' := [some (.ref a), some (.int (nI t)), some (.int 0)]) rfl ?_
  exact lp_mk ha ht d t 0 (by omega) (fun j hj => absurd hj (by omega))
def fitT (f g : Nat → Int32) (t : Nat) : Prop := cHt (f 7) (nI t) ∧ ¬ g 0 < tW f t ∧ ¬ g 1 < tH f t ∧ ¬ g 2 < tD f t
def cLg (f g : Nat → Int32) : Prop := ∀ t, t < 6 → ¬ fitT f g t
set_option maxHeartbeats 4000000 in
theorem lp_lg {hp : zHp} {a b : Nat} {f g : Nat → Int32} (ha : hp[a]? = some (kcl f)) (hb : hp[b]? = some (.inr (4, [.int (g 0), .int (g 1), .int (g 2)]))) (d : Nat) : ∀ k t, t + k = 6 → (∀ j, j < t → ¬ fitT f g j) → Ev (d + 1) mX1_isLargeFor 2 [some (.ref a), some (.ref b), some (.int (nI t))] [] hp (Qr mX1_isLargeFor (some (.int (zi (cLg f g)))) hp) := by
  intro k
  induction k with
  | zero =>
    intro t ht hI
    refine ev_s rfl ?_
    refine ev_bi (v := 6) rfl (by decide) ?_
    refine ev_ic rfl rfl ?_
    rw [show zbr .ge (nI t) 6 60 8 = 60 from zge_t (n := 6) (by decide) (by omega) (by omega)]
    refine ev_ik (v := 1) rfl (by decide) ?_
    refine ev_rz rfl rfl (by decide) ?_ ?_
    · exact some_i (zi_t (fun j hj => hI j (by omega))).symm
    · rfl
  | succ k ih =>
    intro t ht hI
    have htt : t < 6 := by omega
    refine ev_s rfl ?_
    refine ev_bi (v := 6) rfl (by decide) ?_
    refine ev_ic rfl rfl ?_
    rw [show zbr .ge (nI t) 6 60 8 = 8 from zge_f (n := 6) (by decide) htt (by decide)]
    iterate 2 refine ev_s rfl ?_
    refine ev_cv (vs := [(.ref a), (.int (nI t))]) (rest := []) (rv := (some (.int (zi (cHt (f 7) (nI t)))))) rfl rfl rfl ha rfl rfl rfl rfl (rn_hasTurn ha (t := nI t) _) ?_
    show Ev _ _ 13 _ [(.int (zi (cHt (f 7) (nI t))))] _ _
    refine ev_if rfl rfl (ev_bze (fun c1 => ?_) (fun c1 => ?_))
    · show Ev _ _ 54 _ _ _ _
      refine ev_inc (y := 1) (v := nI (t + 1)) (ls' := [some (.ref a), some (.ref b), some (.int (nI (t + 1)))]) rfl rfl (by decide) (nI_1 _) rfl ?_
      refine ev_s rfl ?_
      exact ih (t + 1) (by omega) (fun j hj hs => by
        rcases Nat.lt_or_ge j t with q | q
        · exact hI j q hs
        · obtain rfl : j = t := by omega
          exact c1 hs.1)
    · show Ev _ _ 16 _ _ _ _
      iterate 2 refine ev_s rfl ?_
      refine ev_cv (vs := [(.ref a), (.int (nI t))]) (rest := []) (rv := (some (.int (tW f t)))) rfl rfl rfl ha rfl rfl rfl rfl (rn_tW ha (t := t) (by omega) _) ?_
      show Ev _ _ 21 _ [(.int (tW f t))] _ _
      refine ev_s rfl ?_
      refine ev_gf hb rfl rfl rfl ?_
      refine ev_ic rfl rfl (ev_br (zb_gt _ _ _ _) (fun c2 => ?_) (fun c2 => ?_))
      · show Ev _ _ 54 _ _ _ _
        refine ev_inc (y := 1) (v := nI (t + 1)) (ls' := [some (.ref a), some (.ref b), some (.int (nI (t + 1)))]) rfl rfl (by decide) (nI_1 _) rfl ?_
        refine ev_s rfl ?_
        exact ih (t + 1) (by omega) (fun j hj hs => by
          rcases Nat.lt_or_ge j t with q | q
          · exact hI j q hs
          · obtain rfl : j = t := by omega
            exact hs.2.1 c2)
      · show Ev _ _ 28 _ _ _ _
        iterate 2 refine ev_s rfl ?_
        refine ev_cv (vs := [(.ref a), (.int (nI t))]) (rest := []) (rv := (some (.int (tH f t)))) rfl rfl rfl ha rfl rfl rfl rfl (rn_tH ha (t := t) (by omega) _) ?_
        show Ev _ _ 33 _ [(.int (tH f t))] _ _
        refine ev_s rfl ?_
        refine ev_gf hb rfl rfl rfl ?_
        refine ev_ic rfl rfl (ev_br (zb_gt _ _ _ _) (fun c3 => ?_) (fun c3 => ?_))
        · show Ev _ _ 54 _ _ _ _
          refine ev_inc (y := 1) (v := nI (t + 1)) (ls' := [some (.ref a), some (.ref b), some (.int (nI (t + 1)))]) rfl rfl (by decide) (nI_1 _) rfl ?_
          refine ev_s rfl ?_
          exact ih (t + 1) (by omega) (fun j hj hs => by
            rcases Nat.lt_or_ge j t with q | q
            · exact hI j q hs
            · obtain rfl : j = t := by omega
              exact hs.2.2.1 c3)
        · show Ev _ _ 40 _ _ _ _
          iterate 2 refine ev_s rfl ?_
          refine ev_cv (vs := [(.ref a), (.int (nI t))]) (rest := []) (rv := (some (.int (tD f t)))) rfl rfl rfl ha rfl rfl rfl rfl (rn_tD ha (t := t) (by omega) _) ?_
          show Ev _ _ 45 _ [(.int (tD f t))] _ _
          refine ev_s rfl ?_
          refine ev_gf hb rfl rfl rfl ?_
          refine ev_ic rfl rfl (ev_br (zb_gt _ _ _ _) (fun c4 => ?_) (fun c4 => ?_))
          · show Ev _ _ 54 _ _ _ _
            refine ev_inc (y := 1) (v := nI (t + 1)) (ls' := [some (.ref a), some (.ref b), some (.int (nI (t + 1)))]) rfl rfl (by decide) (nI_1 _) rfl ?_
            refine ev_s rfl ?_
            exact ih (t + 1) (by omega) (fun j hj hs => by
              rcases Nat.lt_or_ge j t with q | q
              · exact hI j q hs
              · obtain rfl : j = t := by omega
                exact hs.2.2.2 c4)
          · show Ev _ _ 52 _ _ _ _
            refine ev_ik (v := 0) rfl (by decide) ?_
            refine ev_rz rfl rfl (by decide) ?_ ?_
            · exact some_i (zi_f (fun h => h t htt ⟨c1, c2, c3, c4⟩)).symm
            · rfl
set_option maxHeartbeats 4000000 in
theorem rn_lg {hp : zHp} {a b : Nat} {f g : Nat → Int32} (ha : hp[a]? = some (kcl f)) (hb : hp[b]? = some (.inr (4, [.int (g 0), .int (g 1), .int (g 2)]))) (d : Nat) : Rn (d + 1) mX1_isLargeFor [.ref a, .ref b] hp (some (.int (zi (cLg f g)))) hp := by
  unfold Rn
  refine ev_ik (v := 0) rfl (by decide) ?_
  refine ev_s (ls' := [some (.ref a), some (.ref b), some (.int 0)]) rfl ?_
  exact lp_lg ha hb d 6 0 (by omega) (fun j hj => absurd hj (by omega))
def mvM (M : Nat → Nat → Int32) (h : Nat) (x y z : Int32) : Nat → Nat → Int32 := up2 (up2 (up2 M h 8 x) h 9 y) h 10 z
def yzM (M : Nat → Nat → Int32) (h : Nat) (y z : Int32) : Nat → Nat → Int32 := up2 (up2 M h 9 y) h 10 z
