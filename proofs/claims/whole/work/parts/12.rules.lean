/-! ===== rules for single instructions ===== -/
section ZR
variable {d mi pc len : Nat} {ls : zLs} {st r : List Value} {hp hp' : zHp} {Q : zCf → Prop}
theorem ev_ik {n : Int} {v : Int32} (hi : zI mi pc = some (.iconst n, len)) (hv : Int32.ofInt n = v) (K : Ev d mi (pc + 1) ls (.int v :: st) hp Q) : Ev d mi pc ls st hp Q := by
  subst hv
  exact ev_s (by simp only [zone, hi, zsp, zbrk, zcl, zst]) K
theorem ev_bi {n : Int} {v : Int32} (hi : zI mi pc = some (.bipush n, len)) (hv : (Int8.ofInt n).toInt32 = v) (K : Ev d mi (pc + 2) ls (.int v :: st) hp Q) : Ev d mi pc ls st hp Q := by
  subst hv
  exact ev_s (by simp only [zone, hi, zsp, zbrk, zcl, zst]) K
theorem ev_si {n : Int} {v : Int32} (hi : zI mi pc = some (.sipush n, len)) (hv : (Int16.ofInt n).toInt32 = v) (K : Ev d mi (pc + 3) ls (.int v :: st) hp Q) : Ev d mi pc ls st hp Q := by
  subst hv
  exact ev_s (by simp only [zone, hi, zsp, zbrk, zcl, zst]) K
theorem ev_lk {n : Fin 2} {v : Int64} (hi : zI mi pc = some (.lconst n, len)) (hv : Int64.ofNat (n : Nat) = v) (K : Ev d mi (pc + 1) ls (.long v :: st) hp Q) : Ev d mi pc ls st hp Q := by
  subst hv
  exact ev_s (by simp only [zone, hi, zsp, zbrk, zcl, zst]) K
theorem ev_inc {k : Nat} {n : Int} {x y v : Int32} {ls' : zLs} (hi : zI mi pc = some (.iinc k n, len)) (hl : zlo ls k = some (.int x)) (hn : Int32.ofInt n = y) (hv : x + y = v) (hs : zset ls k (.int v) = some ls') (K : Ev d mi (pc + 3) ls' st hp Q) : Ev d mi pc ls st hp Q := by
  subst hn
  subst hv
  exact ev_s (by simp only [zone, hi, zsp, zbrk, zcl, zst, hl, hs]) K
theorem ev_idiv {x y : Int32} (hi : zI mi pc = some (.idiv, len)) (hy : ¬ y = 0) (K : Ev d mi (pc + 1) ls (.int (x / y) :: st) hp Q) : Ev d mi pc ls (.int y :: .int x :: st) hp Q :=
  ev_s (by simp only [zone, hi, zsp, zbrk, zcl, zst, hy, if_false]) K
theorem ev_irem {x y : Int32} (hi : zI mi pc = some (.irem, len)) (hy : ¬ y = 0) (K : Ev d mi (pc + 1) ls (.int (x - x / y * y) :: st) hp Q) : Ev d mi pc ls (.int y :: .int x :: st) hp Q :=
  ev_s (by simp only [zone, hi, zsp, zbrk, zcl, zst, hy, if_false]) K
theorem ev_ldiv {x y : Int64} (hi : zI mi pc = some (.ldiv, len)) (hy : ¬ y = 0) (K : Ev d mi (pc + 1) ls (.long (x / y) :: st) hp Q) : Ev d mi pc ls (.long y :: .long x :: st) hp Q :=
  ev_s (by simp only [zone, hi, zsp, zbrk, zcl, zst, hy, if_false]) K
theorem ev_lrem {x y : Int64} (hi : zI mi pc = some (.lrem, len)) (hy : ¬ y = 0) (K : Ev d mi (pc + 1) ls (.long (x - x / y * y) :: st) hp Q) : Ev d mi pc ls (.long y :: .long x :: st) hp Q :=
  ev_s (by simp only [zone, hi, zsp, zbrk, zcl, zst, hy, if_false]) K
/-- a field is written -/
theorem ev_pf {idx a ci kk pp : Nat} {fs : List Value} {v : Value} {ty : Nat → FieldType} (hc : hp[a]? = some (.inr (ci, fs))) (hi : zI mi pc = some (.putfield idx, len)) (hf : zrow zFT (zC mi) idx = some (ci, kk, pp)) (hk : kk < fs.length) (hty : zTys[ci]? = some ty) (hz : zfits (ty kk) v = true) (hh : hp.set a (.inr (ci, fs.set kk v)) = hp') (K : Ev d mi (pc + 3) ls r hp' Q) : Ev d mi pc ls (v :: .ref a :: r) hp Q := by
  subst hh
  refine ev_s (pc' := pc + 3) (ls' := ls) (st' := r) ?_ K
  simp only [zone, hi, zsp, zbrk, zcl, zst, zputf, zcell, hc, hf, hk, and_self, if_true, hty, hz]
theorem zin_nI {k n : Nat} (h : k < n) (hn : n < 2 ^ 31) : zin (nI k) n = some k := by
  unfold zin
  rw [if_neg (nI_pos (by omega)), nI_clamp (by omega), if_pos h]
/-- rows -/
theorem ev_ia {a n k : Nat} {i : Int32} {f : Nat → Int32} (hc : hp[a]? = some (.inl (0, n, .inl f))) (hi : zI mi pc = some (.iaload, len)) (hk : zin i n = some k) (K : Ev d mi (pc + 1) ls (.int (f k) :: r) hp Q) : Ev d mi pc ls (.int i :: .ref a :: r) hp Q :=
  ev_s (by simp only [zone, hi, zsp, zbrk, zcl, zst, zald, zcell, hc, if_true, hk]) K
theorem ev_ba {a n k : Nat} {i : Int32} {f : Nat → Int32} (hc : hp[a]? = some (.inl (1, n, .inl f))) (hi : zI mi pc = some (.baload, len)) (hk : zin i n = some k) (K : Ev d mi (pc + 1) ls (.int (f k) :: r) hp Q) : Ev d mi pc ls (.int i :: .ref a :: r) hp Q :=
  ev_s (by simp only [zone, hi, zsp, zbrk, zcl, zst, zald, zcell, hc, if_true, hk]) K
theorem ev_aa {a n k t : Nat} {i : Int32} {C : String} {f : Nat → Option Nat} {v : Value} (hc : hp[a]? = some (.inl (t, n, .inr (.inr (.inr (.inr f)))))) (hi : zI mi pc = some (.aaload, len)) (ht : zTY[t]? = some (.object C)) (hk : zin i n = some k) (hv : va_rf (f k) = v) (K : Ev d mi (pc + 1) ls (v :: r) hp Q) : Ev d mi pc ls (.int i :: .ref a :: r) hp Q := by
  subst hv
  exact ev_s (by simp only [zone, hi, zsp, zbrk, zcl, zst, zald, zcell, hc, ht, if_true, hk]) K
theorem ev_is {a n k : Nat} {i x : Int32} {f : Nat → Int32} (hc : hp[a]? = some (.inl (0, n, .inl f))) (hi : zI mi pc = some (.iastore, len)) (hk : zin i n = some k) (hh : hp.set a (.inl (0, n, .inl (upd f k x))) = hp') (K : Ev d mi (pc + 1) ls r hp' Q) : Ev d mi pc ls (.int x :: .int i :: .ref a :: r) hp Q := by
  subst hh
  exact ev_s (by simp only [zone, hi, zsp, zbrk, zcl, zst, zast, zcell, hc, if_true, hk]) K
theorem znar_z {x : Int32} (h : x = 0 ∨ x = 1) : vp_nar .boolean x = x := by rcases h with rfl | rfl <;> decide
theorem ev_bs {a n k : Nat} {i x : Int32} {f : Nat → Int32} (hc : hp[a]? = some (.inl (1, n, .inl f))) (hi : zI mi pc = some (.bastore, len)) (hk : zin i n = some k) (hx : x = 0 ∨ x = 1) (hh : hp.set a (.inl (1, n, .inl (upd f k x))) = hp') (K : Ev d mi (pc + 1) ls r hp' Q) : Ev d mi pc ls (.int x :: .int i :: .ref a :: r) hp Q := by
  subst hh
  exact ev_s (by simp only [zone, hi, zsp, zbrk, zcl, zst, zast, zcell, hc, Nat.one_ne_zero, if_false, true_and, hk, znar_z hx, if_true]) K
theorem ev_as {a n k t b ci : Nat} {i : Int32} {f : Nat → Option Nat} {fs : List Value} {C : String} {q : vw_C} (hc : hp[a]? = some (.inl (t, n, .inr (.inr (.inr (.inr f)))))) (hi : zI mi pc = some (.aastore, len)) (hk : zin i n = some k) (hb : hp[b]? = some (.inr (ci, fs))) (ht : zTY[t]? = some (.object C)) (hq : zCl[ci]? = some q) (hC : C = q.1) (hh : hp.set a (.inl (t, n, .inr (.inr (.inr (.inr (va_up f k (some b))))))) = hp') (K : Ev d mi (pc + 1) ls r hp' Q) : Ev d mi pc ls (.ref b :: .int i :: .ref a :: r) hp Q := by
  subst hh
  exact ev_s (by simp only [zone, hi, zsp, zbrk, zcl, zst, zast, zcell, hc, hk, hb, ht, hq, hC, if_true]) K
theorem ev_al {a t : Nat} {x : vp_A} {ty : FieldType} {v : Int32} (hc : hp[a]? = some (.inl (t, x))) (hi : zI mi pc = some (.arraylength, len)) (ht : zTY[t]? = some ty) (hv : Int32.ofNat x.1 = v) (K : Ev d mi (pc + 1) ls (.int v :: r) hp Q) : Ev d mi pc ls (.ref a :: r) hp Q := by
  subst hv
  obtain ⟨n, y⟩ := x
  exact ev_s (by simp only [zone, hi, zsp, zbrk, zcl, zst, zcell, hc, ht]) K
/-- a call of a method of an object -/
theorem ev_cv {k mj h ci : Nat} {rr : Nat × Nat × Nat × Nat × Nat} {fs : List Value} {rest vs : List Value} {rv : Option Value} (hi : zI mi pc = some (.invokevirtual k, len)) (hr : zrow zVT (zC mi) k = some (mj, rr)) (hst : st[zN mj]? = some (.ref h)) (hc : hp[h]? = some (.inr (ci, fs))) (hci : ci = zC mj) (hvs : (st.take (zN mj + 1)).reverse = vs) (hre : st.drop (zN mj + 1) = rest)
    (hck : (decide (st.length < zN mj + 1) || decide (8 < (rest.map fun v => v.category).sum) || decide (zL mj < (zent0 vs).length)) = false) (hR : Rn d mj vs hp rv hp') (K : Ev (d + 1) mi (pc + 3) ls (rv.toList ++ rest) hp' Q) : Ev (d + 1) mi pc ls st hp Q := by
  subst hvs
  subst hre
  exact ev_call hi rfl (by simp only [zcl, hr, hst, hc, hci, if_true]) hck hR K
theorem ev_cs {k mj : Nat} {rr : Nat × Nat × Nat × Nat} {rest vs : List Value} {rv : Option Value} (hi : zI mi pc = some (.invokestatic k, len)) (hr : zrow zST (zC mi) k = some (mj, rr)) (hvs : (st.take (zN mj)).reverse = vs) (hre : st.drop (zN mj) = rest)
    (hck : (decide (st.length < zN mj) || decide (8 < (rest.map fun v => v.category).sum) || decide (zL mj < (zent0 vs).length)) = false) (hR : Rn d mj vs hp rv hp') (K : Ev (d + 1) mi (pc + 3) ls (rv.toList ++ rest) hp' Q) : Ev (d + 1) mi pc ls st hp Q := by
  subst hvs
  subst hre
  exact ev_call hi rfl (by simp only [zcl, hr]) hck hR K
theorem ev_ci {k mj h : Nat} {rr : Nat × Nat × Nat × Nat} {rest vs : List Value} {rv : Option Value} (hi : zI mi pc = some (.invokespecial k, len)) (hr : zrow zQT (zC mi) k = some (mj, rr)) (hst : st[zN mj]? = some (.ref h)) (hvs : (st.take (zN mj + 1)).reverse = vs) (hre : st.drop (zN mj + 1) = rest)
    (hck : (decide (st.length < zN mj + 1) || decide (8 < (rest.map fun v => v.category).sum) || decide (zL mj < (zent0 vs).length)) = false) (hR : Rn d mj vs hp rv hp') (K : Ev (d + 1) mi (pc + 3) ls (rv.toList ++ rest) hp' Q) : Ev (d + 1) mi pc ls st hp Q := by
  subst hvs
  subst hre
  exact ev_call hi rfl (by simp only [zcl, hr, hst]) hck hR K
end ZR
/-! ===== the rows of the class and of the reference ===== -/
abbrev pcl (f : Nat → Int32) : va_E := .inr (2, [.int (f 0), .int (f 1), .int (f 2), .int (f 3), .int (f 4), .int (f 5), .int (f 6), .int (f 7), .int (f 8), .int (f 9), .int (f 10)])
abbrev kcl (f : Nat → Int32) : va_E := .inr (1, [.int (f 0), .int (f 1), .int (f 2), .int (f 3), .int (f 4), .int (f 5), .int (f 6), .int (f 7)])
abbrev icl (n : Nat) (f : Nat → Int32) : va_E := .inl (0, n, .inl f)
abbrev bcl (n : Nat) (f : Nat → Int32) : va_E := .inl (1, n, .inl f)
abbrev qcl (t n : Nat) (f : Nat → Option Nat) : va_E := .inl (t, n, .inr (.inr (.inr (.inr f))))
def mcl (f : Nat → Int32) (g : Int64) : va_E := .inr (6, [.int (f 0), .int (f 1), .int (f 2), .int (f 3), .int (f 4), .int (f 5), .int (f 6),
  .ref 22, .ref 23, .ref 24, .ref 25, .ref 26, .ref 27, .ref 28, .ref 29, .ref 30, .ref 31, .ref 32, .ref 33, .ref 34, .ref 35, .ref 36, .ref 37, .ref 38, .ref 39, .ref 40, .ref 41, .ref 42, .ref 43, .ref 44, .ref 45, .ref 46,
  .int (f 32), .long g, .int (f 34), .ref 47, .ref 48, .ref 49, .ref 50, .ref 51, .ref 52, .ref 53, .ref 54, .ref 55, .int (f 44)])
/-- the cell of a handle: np pieces, its numbers f, its long g -/
def cel (np h : Nat) (f : Nat → Int32) (g : Int64) : va_E :=
  if h < 22 then
    if h < 5 then
      if h = 0 then .inr (5, [.ref 1, .ref 2, .int (f 2), .ref 3, .ref 11, .int (f 5)])
      else if h = 1 then .inr (4, [.int (f 0), .int (f 1), .int (f 2)])
      else if h = 2 then qcl 3 6 (fun i => if i < np then some (57 + i) else none)
      else if h = 3 then .inr (0, [.ref 4])
      else qcl 4 6 (fun i => if i < 6 then some (5 + i) else none)
    else if h < 11 then pcl f
    else if h < 14 then
      if h = 11 then .inr (3, [.ref 1, .ref 2, .ref 12, .ref 3, .ref 20, .int (f 5), .int (f 6), .int (f 7), .int (f 8)])
      else if h = 12 then .inr (0, [.ref 13])
      else qcl 4 6 (fun i => if i < 6 then some (14 + i) else none)
    else if h < 20 then pcl f
    else if h = 20 then icl 144 f
    else mcl f g
  else if h < 57 then
    if h = 29 then bcl 6 f
    else if h = 37 then bcl 6 f
    else if h = 49 then icl 36 f
    else if h < 53 then icl 6 f
    else if h < 56 then icl 42 f
    else .inl (2, 1, .inr (.inl (fun _ => g)))
  else kcl f
def mk (np : Nat) (M : Nat → Nat → Int32) (L : Nat → Int64) : zHp := (List.range (57 + np)).map (fun h => cel np h (M h) (L h))
theorem rd (np : Nat) (M : Nat → Nat → Int32) (L : Nat → Int64) {h : Nat} (hh : h < 57 + np) {c : va_E} (hc : cel np h (M h) (L h) = c) : (mk np M L)[h]? = some c := by
  subst hc
  simp [mk, hh]
theorem rl (np : Nat) (M : Nat → Nat → Int32) (L : Nat → Int64) (h : Nat) (hh : h < 57) {c : va_E} (hc : cel np h (M h) (L h) = c) : (mk np M L)[h]? = some c := rd np M L (by omega) hc
def up2 (M : Nat → Nat → Int32) (h k : Nat) (v : Int32) : Nat → Nat → Int32 := fun h' => if h' = h then upd (M h) k v else M h'
theorem up2_s (M : Nat → Nat → Int32) (h k : Nat) (v : Int32) : up2 M h k v h = upd (M h) k v := if_pos rfl
theorem up2_n {M : Nat → Nat → Int32} {h h' k : Nat} {v : Int32} (hn : h' ≠ h) : up2 M h k v h' = M h' := if_neg hn
theorem mk_set {np : Nat} {M : Nat → Nat → Int32} {L : Nat → Int64} {h k : Nat} {v : Int32} {c : va_E} (hc : c = cel np h (upd (M h) k v) (L h)) : (mk np M L).set h c = mk np (up2 M h k v) L := by
  apply List.ext_getElem?
  intro j
  rw [List.getElem?_set]
  by_cases hj : h = j
  · subst hj
    rw [if_pos rfl, hc]
    simp only [mk, List.length_map, List.length_range, List.getElem?_map]
    by_cases hl : h < 57 + np
    · simp [hl, up2_s]
    · simp [hl]
  · rw [if_neg hj]
    simp only [mk, List.getElem?_map]
    by_cases hl : j < 57 + np
    · simp [hl, up2_n (Ne.symm hj)]
    · simp [hl]
theorem cel_best {np i : Nat} (hi : i < 6) (f : Nat → Int32) (g : Int64) : cel np (5 + i) f g = pcl f := by
  unfold cel
  rw [if_pos (by omega), if_neg (by omega), if_pos (by omega)]
theorem cel_trial {np i : Nat} (hi : i < 6) (f : Nat → Int32) (g : Int64) : cel np (14 + i) f g = pcl f := by
  unfold cel
  rw [if_pos (by omega), if_neg (by omega), if_neg (by omega), if_neg (by omega), if_pos (by omega)]
theorem cel_piece {np i : Nat} (f : Nat → Int32) (g : Int64) : cel np (57 + i) f g = kcl f := by
  unfold cel
  rw [if_neg (by omega), if_neg (by omega)]
