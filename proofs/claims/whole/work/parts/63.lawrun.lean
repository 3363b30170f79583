-- lk: 62
/-! ===== calls out of the law ===== -/
theorem rn_met {d mj : Nat} {vs : List Value} {hp hp' : zHp} {r : Option Value} (l : Launch) (h : Rn d mj vs hp r hp') (hj : mj < zMT.length) (hl : (zent0 vs).length ≤ zL mj) : zMet l mj d vs hp r hp' ∧ hp.length ≤ hp'.length ∧ zhs hp ≤ zhs hp' := by
  obtain ⟨n, ⟨pc, ls, st, hp1⟩, h1, h2, h3⟩ := h
  cases h3
  have a := zgo_mono _ _ _ _ _ _ _ _ h1
  exact ⟨zMA_all n l d mj _ _ _ r h1 hj hl h2, a.1, a.2⟩
section LAW
variable {p : Program} {l : Launch} {e : Env} {R : Room} {s : State} {m : MethodId} {args : Array Value} {below : List Frame} {meth : Method} {c : Code} {H : Heap} {locs : List Loc} {cells slots : Nat} {Q : State → Prop}
variable {dC : Nat → ClassId} {dI : Nat → Nat → Nat} {dA : Nat → ClassId} {ad : Nat → Nat} {A : Nat → Prop} {H0 : Heap}
/-- behind a call -/
theorem lc_go {pc : Nat} {arr : Array Slot} {hp hp1 : zHp} {r : Option Value} {st0 rest : List Value} {a : Array Value} (hA : ∀ q, H0.size ≤ q → A q)
    (hD : va_D A (zw dA ad hp)) (hS : va_S A H0 H locs)
    (hr : va_Run p l e R s m args below meth c H locs cells slots (hp1.length - hp.length) (zhs hp1 - zhs hp) (F0 m pc arr st0) rest (zQc dC dI dA ad hp H.size r hp1 a) (va_A (zw dA ad hp) H.size))
    (K : ∀ (H' : Heap) (locs' : List Loc), va_P (dC, dI) zCl (zw dA ad hp1) H' → va_D A (zw dA ad hp1) → va_S A H0 H' locs' → H'.size = H.size + (hp1.length - hp.length) → W p l e R s m args below meth c H' locs' (cells + (hp1.length - hp.length)) (slots + (zhs hp1 - zhs hp)) Q (F0 m (pc + 3) arr ((r.map (zv ad)).toList ++ rest))) : W p l e R s m args below meth c H locs cells slots Q (F0 m pc arr st0) := by
  intro T hT X
  obtain ⟨v, st₀, t, T', L, e0, X', hLc, e1, e2, ⟨hv, hsz, hP1, hD1, hF1⟩, stp⟩ := hr T hT X
  cases hv
  have hAA : ∀ q, va_A (zw dA ad hp) H.size q → A q := by
    intro q hq
    rcases hq with ⟨k, x, hk⟩ | hq
    · exact hD.2 k _ hk
    · exact hA q (Nat.le_trans hS.1 hq)
  have k := K T'.heap (locs ++ L) (by rw [e1]; exact hP1) (hD1.weaken (fun _ q _ h => hAA q.1 h)) ⟨?_, ?_, ?_⟩ (by rw [e1]; exact hsz)
  · obtain ⟨t2, a1, b1⟩ := k T' rfl X'
    exact ⟨t2, stp t2 a1, b1⟩
  · rw [e1, hsz]
    have := hS.1
    omega
  · intro q hq hA
    rw [e1, hF1.2 q (by rw [e0]; exact Nat.lt_of_lt_of_le hq hS.1) (fun z => hA (hAA q z)), e0]
    exact hS.2.1 q hq hA
  · intro q hq
    rcases List.mem_append.mp hq with h | h
    · exact hS.2.2 q h
    · exact hAA _ (hLc q h)
theorem lc_gi {ws : List Cond} (h : ∀ w ∈ ws, w ∈ zG) : GoodIn lw_tbl ws := fun w hw => zG_in w (h w hw)
theorem lc_gts {Ts ws : List Cond} (hT : ∀ w ∈ zG, w ∈ Ts) (h : ∀ w ∈ ws, w ∈ zG) : GoodIn Ts ws := fun w hw => ⟨hT w (h w hw), good_of_word (zG_good (h w hw))⟩
theorem lc_tbl : ∀ w ∈ zG, w ∈ lw_tbl := fun _ h => (List.mem_filter.mp h).1
/-- a method of an object, called out of a body over the law's words -/
theorem lc_V {cc : ByteArray} {nL idx mj h ci d pc : Nat} {Ts : List Cond} {rr : Nat × Nat × Nat × Nat} {arr : Array Slot} {hp hp1 : zHp} {r : Option Value} {vs rest : List Value} {fs : List Value} (hTs : ∀ w ∈ zG, w ∈ Ts) (hrow : (idx, mj, rr) ∈ lawV) (hA : ∀ q, H0.size ≤ q → A q)
    (CF : CallFix p m c cc nL s args Ts R_law) (hK : va_K (dC, dI) zCl (zty dA) s) (hX : zX s) (hP : va_P (dC, dI) zCl (zw dA ad hp) H) (hD : va_D A (zw dA ad hp)) (hS : va_S A H0 H locs)
    (had : ∀ j, ad (hp.length + j) = H.size + j) (hR : Rn d mj (.ref h :: vs) hp r hp1) (hc : hp[h]? = some (.inr (ci, fs))) (hci : ci = zC mj) (hn : vs.length = zN mj) (hl : (zent0 (.ref h :: vs)).length ≤ zL mj) (hz : arr.size = nL) (hcat : ((rest.map fun v => v.category)).sum ≤ 8)
    (hdg : decode cc pc = .ok (.invokevirtual idx, 3)) (hfr : d + 2 ≤ R.frames) (hlo : 40 * (d + 2) ≤ R.locals) (hrc : cells + (hp1.length - hp.length) ≤ R.cells) (hrs : slots + (zhs hp1 - zhs hp) ≤ R.slots)
    (K : ∀ (H' : Heap) (locs' : List Loc), va_P (dC, dI) zCl (zw dA ad hp1) H' → va_D A (zw dA ad hp1) → va_S A H0 H' locs' → H'.size = H.size + (hp1.length - hp.length) → W p l e R s m args below meth c H' locs' (cells + (hp1.length - hp.length)) (slots + (zhs hp1 - zhs hp)) Q (F0 m (pc + 3) arr ((r.map (zv ad)).toList ++ rest))) : W p l e R s m args below meth c H locs cells slots Q (F0 m pc arr ((vs.map (zv ad)).reverse ++ .ref (ad h) :: rest)) := by
  obtain ⟨hj, w1, w2, w3, w4, w5⟩ := lV_ok hrow
  obtain ⟨m1, m2, m3, m4, m5, m6⟩ := zM_ok hj
  obtain ⟨hM, -, -⟩ := rn_met l hR (by rw [zMT_len]; exact hj) hl
  have hPre : ∀ U : State, U.heap = H → s.WarmedH U.vm → zPc dC dI dA ad hp H.size (.ref h :: vs) (Value.ref (ad h) :: vs.map (zv ad)).toArray U := fun U hU hW => ⟨rfl, by rw [hU], by rw [hU]; exact hP, va_K.moved hW.alike hK, hD.weaken (fun _ _ _ _ => trivial), zX.warm hW hX⟩
  refine lc_go hA hD hS (va_runV (As := vs.map (zv ad)) (rest := rest) (b := ad h) CF (hM dC dI dA ad H.size had) (cwV (zN mj) CF.2.2.2.2 (lc_gts hTs ?_) rfl rfl rfl ⟨rfl, m3, m4, m5⟩ ⟨?_, ?_⟩) ⟨zPc_blind, ?_, hPre⟩ rfl (by simp; omega) hz rfl (lv_room hcat) hdg ⟨hrc, hrs⟩) K
  · intro w hw
    unfold wsV at hw
    rcases List.mem_append.mp hw with hw | hw
    · simp only [List.mem_cons, List.not_mem_nil, or_false] at hw
      rcases hw with rfl | rfl | rfl | rfl
      · exact w1
      · exact w2
      · exact w3
      · exact w4
    · rcases List.mem_cons.mp hw with rfl | hw
      · exact w5
      · exact hw
  · show d + 1 + 1 ≤ R.frames
    omega
  · show 8 + (zL mj + 11) + 40 * (d + 1) ≤ R.locals
    omega
  · have hlt : zC mj < zCl.length := by
      rcases Nat.lt_or_ge (zC mj) zCl.length with q | q
      · exact q
      · exfalso
        obtain ⟨r9, h9, -⟩ := hP h _ (zw_get hc)
        subst hci
        simp only [zc] at h9
        rw [List.getElem?_eq_none (by omega)] at h9
        cases h9
    have e7 : zCl[zC mj]? = some zCl[zC mj] := List.getElem?_eq_getElem hlt
    have e8 : (zY mj).cls = (zCl[zC mj]).1 := by rw [m1]; unfold zCN; rw [e7]
    rw [e8]
    exact va_recv hK hP (ci := zC mj) (q0 := h) e7 (by rw [← hci]; exact zw_get (c := .inr (ci, fs)) hc)
/-- a constructor, called out of the law -/
theorem lc_I {cc : ByteArray} {nL idx mj h d pc : Nat} {rr : Nat × Nat × Nat} {arr : Array Slot} {hp hp1 : zHp} {vs rest : List Value} (hrow : (idx, mj, rr) ∈ lawI) (hA : ∀ q, H0.size ≤ q → A q)
    (CF : CallFix p m c cc nL s args lw_tbl R_law) (hK : va_K (dC, dI) zCl (zty dA) s) (hX : zX s) (hP : va_P (dC, dI) zCl (zw dA ad hp) H) (hD : va_D A (zw dA ad hp)) (hS : va_S A H0 H locs)
    (had : ∀ j, ad (hp.length + j) = H.size + j) (hR : Rn d mj (.ref h :: vs) hp none hp1) (hn : vs.length = zN mj) (hl : (zent0 (.ref h :: vs)).length ≤ zL mj) (hz : arr.size = nL) (hcat : ((rest.map fun v => v.category)).sum ≤ 8)
    (hdg : decode cc pc = .ok (.invokespecial idx, 3)) (hfr : d + 2 ≤ R.frames) (hlo : 40 * (d + 2) ≤ R.locals) (hrc : cells + (hp1.length - hp.length) ≤ R.cells) (hrs : slots + (zhs hp1 - zhs hp) ≤ R.slots)
    (K : ∀ (H' : Heap) (locs' : List Loc), va_P (dC, dI) zCl (zw dA ad hp1) H' → va_D A (zw dA ad hp1) → va_S A H0 H' locs' → H'.size = H.size + (hp1.length - hp.length) → W p l e R s m args below meth c H' locs' (cells + (hp1.length - hp.length)) (slots + (zhs hp1 - zhs hp)) Q (F0 m (pc + 3) arr rest)) : W p l e R s m args below meth c H locs cells slots Q (F0 m pc arr ((vs.map (zv ad)).reverse ++ .ref (ad h) :: rest)) := by
  obtain ⟨hj, w0, w00, w1, w2, w3, w4⟩ := lI_ok hrow
  obtain ⟨m1, m2, m3, m4, m5, m6⟩ := zM_ok hj
  obtain ⟨hM, -, -⟩ := rn_met l hR (by rw [zMT_len]; exact hj) hl
  have hts := CF.2.2.2.2
  have hG : ∀ w ∈ zG, w.before args s = true := fun w hw => hts w (List.mem_filter.mp hw).1
  have hPre : ∀ U : State, U.heap = H → s.WarmedH U.vm → zPc dC dI dA ad hp H.size (.ref h :: vs) (Value.ref (ad h) :: vs.map (zv ad)).toArray U := fun U hU hW => ⟨rfl, by rw [hU], by rw [hU]; exact hP, va_K.moved hW.alike hK, hD.weaken (fun _ _ _ _ => trivial), zX.warm hW hX⟩
  refine lc_go (r := none) hA hD hS (va_runI (As := vs.map (zv ad)) (rest := rest) (b := ad h) CF (hM dC dI dA ad H.size had) (cwI (zN mj) (maxL := zL mj) (bytes := zB mj) hts (lc_gi ?_) (by unfold zws; rw [w00]) rfl rfl (hG _ w3) (hG _ w1) (hG _ w2) w0 ⟨m3, m4, m5⟩ ⟨?_, ?_⟩) ⟨zPc_blind, hPre⟩ rfl (by simp; omega) hz rfl (lv_room hcat) hdg ⟨hrc, hrs⟩) K
  · intro w hw
    rcases List.mem_cons.mp hw with rfl | hw
    · exact w4
    · exact hw
  · show d + 1 + 1 ≤ R.frames
    omega
  · show 8 + (zL mj + 11) + 40 * (d + 1) ≤ R.locals
    omega
end LAW
