/-! ===== a run of the small machine is a contract of the machine ===== -/
theorem zputf_len {mi : Nat} {hp hp' : zHp} {k : Nat} {o v : Value} (h : zputf mi hp k o v = some hp') : hp'.length = hp.length ∧ zhs hp' = zhs hp := by
  unfold zputf at h
  split at h
  · rename_i h0 ci fs hc
    split at h
    · split at h
      · split at h
        · split at h
          · cases h
            exact ⟨List.length_set, zhs_set (zcell_ok hc).2 (by simp [zsz])⟩
          · cases h
        · cases h
      · cases h
    · cases h
  · cases h
theorem zast_len {hp hp' : zHp} {i : Int32} {o v : Value} (h : zast hp o i v = some hp') : hp'.length = hp.length ∧ zhs hp' = zhs hp := by
  unfold zast at h
  split at h
  · rename_i h0 t n d hc
    split at h
    · split at h
      · split at h
        · cases h
          exact ⟨List.length_set, zhs_set (zcell_ok hc).2 rfl⟩
        · split at h
          · cases h
            exact ⟨List.length_set, zhs_set (zcell_ok hc).2 rfl⟩
          · cases h
      · split at h
        · cases h
          exact ⟨List.length_set, zhs_set (zcell_ok hc).2 rfl⟩
        · cases h
      · split at h
        · split at h
          · split at h
            · cases h
              exact ⟨List.length_set, zhs_set (zcell_ok hc).2 rfl⟩
            · cases h
          · cases h
        · cases h
      · cases h
    · cases h
  · cases h
theorem zle2 {a b : zHp} (h : b.length = a.length ∧ zhs b = zhs a) : a.length ≤ b.length ∧ zhs a ≤ zhs b := ⟨by omega, by omega⟩
theorem zle3 (a : zHp) (x : va_E) : a.length ≤ (a ++ [x]).length ∧ zhs a ≤ zhs (a ++ [x]) := ⟨by simp, by rw [zhs_push]; omega⟩
set_option maxHeartbeats 4000000 in
theorem zst_mono {mi : Nat} {i : Instr} {pc : Nat} {ls : zLs} {st : List Value} {hp : zHp} {x : zCf} (h : zst mi i pc ls st hp = some x) : hp.length ≤ x.2.2.2.length ∧ zhs hp ≤ zhs x.2.2.2 := by
  cases i <;> simp only [zst, reduceCtorEq] at h
  all_goals (repeat' split at h)
  all_goals first
    | (cases h; done)
    | (cases h; exact ⟨Nat.le_refl _, Nat.le_refl _⟩)
    | (cases h; exact zle3 _ _)
    | (cases h; exact zle2 (zputf_len (by assumption)))
    | (cases h; exact zle2 (zast_len (by assumption)))
set_option maxHeartbeats 1000000 in
theorem zgo_mono : ∀ (n d mi pc : Nat) (ls : zLs) (st : List Value) (hp : zHp) (x : zCf), zgo n d mi pc ls st hp = some x → hp.length ≤ x.2.2.2.length ∧ zhs hp ≤ zhs x.2.2.2 := by
  intro n
  induction n with
  | zero => intro d mi pc ls st hp x h; simp [zgo] at h
  | succ n ih =>
    intro d mi pc ls st hp x h
    simp only [zgo] at h
    split at h
    · cases h
    · split at h
      · cases h; exact ⟨Nat.le_refl _, Nat.le_refl _⟩
      · split at h
        · split at h
          · cases h
          · split at h
            · cases h
            · split at h
              · cases h
              · rename_i h1
                split at h
                · cases h
                · have a := ih _ _ _ _ _ _ _ h1
                  have b := ih _ _ _ _ _ _ _ h
                  exact ⟨Nat.le_trans a.1 b.1, Nat.le_trans a.2 b.2⟩
        · split at h
          · cases h
          · rename_i h1
            have a := zst_mono h1
            have b := ih _ _ _ _ _ _ _ h
            exact ⟨Nat.le_trans a.1 b.1, Nat.le_trans a.2 b.2⟩
def zrm (d mc ms : Nat) : Room := { frames := d + 1, cells := mc, slots := ms, locals := 40 * (d + 1) }
def zPc (dC : Nat → ClassId) (dI : Nat → Nat → Nat) (dA : Nat → ClassId) (ad : Nat → Nat) (hp : zHp) (sz : Nat) (vs : List Value) : Array Value → State → Prop := va_Pc (vs.map (zv ad)) (fun U => U.heap.size = sz ∧ va_P (dC, dI) zCl (zw dA ad hp) U.heap ∧ va_K (dC, dI) zCl (zty dA) U ∧ va_D (fun _ => True) (zw dA ad hp) ∧ zX U)
def zQc (dC : Nat → ClassId) (dI : Nat → Nat → Nat) (dA : Nat → ClassId) (ad : Nat → Nat) (hp : zHp) (sz : Nat) (r : Option Value) (hp' : zHp) : Array Value → State → Outcome → State → Prop := fun _ st oc t =>
  oc = .returned (r.map (zv ad)) ∧ t.heap.size = sz + (hp'.length - hp.length) ∧ va_P (dC, dI) zCl (zw dA ad hp') t.heap ∧ va_D (va_A (zw dA ad hp) sz) (zw dA ad hp') ∧ va_F (va_A (zw dA ad hp) sz) st t
def zMet (l : Launch) (mi d : Nat) (vs : List Value) (hp : zHp) (r : Option Value) (hp' : zHp) : Prop := ∀ (dC : Nat → ClassId) (dI : Nat → Nat → Nat) (dA : Nat → ClassId) (ad : Nat → Nat) (sz : Nat), (∀ j, ad (hp.length + j) = sz + j) →
  Met l (zY mi) (zws mi) (zrm d (hp'.length - hp.length) (zhs hp' - zhs hp)) (zPc dC dI dA ad hp sz vs) (zQc dC dI dA ad hp sz r hp') (hp'.length - hp.length) (zhs hp' - zhs hp) (va_A (zw dA ad hp) sz)
theorem zPc_blind {dC : Nat → ClassId} {dI : Nat → Nat → Nat} {dA : Nat → ClassId} {ad : Nat → Nat} {hp : zHp} {sz : Nat} {vs : List Value} : FrameBlind (zPc dC dI dA ad hp sz vs) := by
  intro a U g mk q
  obtain ⟨q0, q1, qP, qK, qD, qX⟩ := q
  exact ⟨q0, q1, qP, va_K.moved (u := U) (U := U.calling g mk a) (Vm.Alike.refl U.vm) qK, qD, qX⟩
theorem zGI {mi : Nat} {ws : List Cond} (h : ∀ w ∈ ws, w ∈ zG) : GoodIn (zws mi) ws := fun w hw => ⟨List.mem_cons_of_mem _ (h w hw), good_of_word (zG_good (h w hw))⟩
section ZGO
variable {p : Program} {l : Launch} {e : Env} {R : Room} {s : State} {m : MethodId} {args : Array Value} {below : List Frame} {meth : Method} {c : Code} {H : Heap} {locs : List Loc} {cells slots : Nat} {Q : State → Prop}
variable {dC : Nat → ClassId} {dI : Nat → Nat → Nat} {dA : Nat → ClassId} {ad : Nat → Nat} {A : Nat → Prop} {n0 g0 : Nat}
/-- behind a call -/
theorem zcallg {mi pc : Nat} {ls : zLs} {arr : Array Slot} {hp hp1 : zHp} {r : Option Value} {st0 : List Value} {rest : List Value} {a : Array Value} (hF : zFx s dA ad A n0) (hI : zIn dC dI dA ad A s n0 g0 hp H locs cells slots) (hL : zHl arr (zL mi) ad ls)
    (h1 : hp.length ≤ hp1.length) (h2 : zhs hp ≤ zhs hp1)
    (hr : va_Run p l e R s m args below meth c H locs cells slots (hp1.length - hp.length) (zhs hp1 - zhs hp) (F0 m pc arr st0) (rest.map (zv ad)) (zQc dC dI dA ad hp H.size r hp1 a) (va_A (zw dA ad hp) H.size))
    (K : zWs p l e R s m args below meth c Q dC dI dA ad A n0 g0 mi (pc + 3, ls, r.toList ++ rest, hp1)) : W p l e R s m args below meth c H locs cells slots Q (F0 m pc arr st0) := by
  intro T hT X
  obtain ⟨v, st₀, t, T', L, e0, X', hLc, e1, e2, ⟨hv, hsz, hP1, hD1, hF1⟩, stp⟩ := hr T hT X
  cases hv
  have hAA : ∀ q, va_A (zw dA ad hp) H.size q → A q := by
    intro q hq
    rcases hq with ⟨k, x, hk⟩ | hq
    · exact hI.2.1.2 k _ hk
    · exact hF.2.1 q (by have := hI.2.2.2.1; omega)
  have hI' : zIn dC dI dA ad A s n0 g0 hp1 T'.heap (locs ++ L) (cells + (hp1.length - hp.length)) (slots + (zhs hp1 - zhs hp)) := by
    refine ⟨by rw [e1]; exact hP1, hD1.weaken (fun _ q _ h => hAA q.1 h), ⟨?_, ?_, ?_⟩, ?_, ?_, ?_⟩
    · rw [e1, hsz]
      have := hI.2.2.1.1
      omega
    · intro q hq hA
      have hs := hI.2.2.1
      rw [e1, hF1.2 q (by rw [e0]; exact Nat.lt_of_lt_of_le hq hs.1) (fun z => hA (hAA q z)), e0]
      exact hs.2.1 q hq hA
    · intro q hq
      rcases List.mem_append.mp hq with h | h
      · exact hI.2.2.1.2.2 q h
      · exact hAA _ (hLc q h)
    · rw [e1, hsz, hI.2.2.2.1]
      omega
    · have := hI.2.2.2.2.1
      omega
    · have := hI.2.2.2.2.2
      omega
  have k := K T'.heap (locs ++ L) _ _ arr hI' hL
  have e5 : (r.toList ++ rest).map (zv ad) = (r.map (zv ad)).toList ++ rest.map (zv ad) := by cases r <;> rfl
  dsimp only at k
  rw [e5] at k
  obtain ⟨t2, a1, b1⟩ := k T' rfl X'
  exact ⟨t2, stp t2 a1, b1⟩
theorem ztake {st : List Value} {n : Nat} {v : Value} (h : st[n]? = some v) : (st.take (n + 1)).reverse = v :: (st.take n).reverse ∧ st = st.take n ++ v :: st.drop (n + 1) ∧ (st.take n).length = n := by
  obtain ⟨hl, he⟩ := List.getElem?_eq_some_iff.mp h
  refine ⟨?_, ?_, ?_⟩
  · rw [List.take_succ, h]
    simp
  · rw [← he]
    simp
  · rw [List.length_take]
    omega
set_option maxHeartbeats 2000000 in
theorem zcall_sound {mi : Nat} {i : Instr} {len pc : Nat} {ls : zLs} {st : List Value} {hp hp1 : zHp} {mj k d' : Nat} {r : Option Value} (hcl : zcl mi i st hp = some (mj, k)) (hi : zI mi pc = some (i, len)) (CX : zCx p s m args meth c mi dC dI dA) (hF : zFx s dA ad A n0)
    (hst : ¬ (st.length < k ∨ 8 < ((st.drop k).map fun v => v.category).sum ∨ zL mj < (zent0 (st.take k).reverse).length))
    (hfr : d' + 2 ≤ R.frames) (hlo : 40 * (d' + 2) ≤ R.locals) (h1 : hp.length ≤ hp1.length) (h2 : zhs hp ≤ zhs hp1) (hrc : hp1.length ≤ n0 + R.cells) (hrs : zhs hp1 ≤ g0 + R.slots)
    (hM : mj < zMT.length → zMet l mj d' (st.take k).reverse hp r hp1)
    (K : zWs p l e R s m args below meth c Q dC dI dA ad A n0 g0 mi (pc + 3, ls, r.toList ++ st.drop k, hp1)) : zWs p l e R s m args below meth c Q dC dI dA ad A n0 g0 mi (pc, ls, st, hp) := by
  obtain ⟨hx, hb, hml, hown, hts, hret, hlk, hnm, hK, hX⟩ := CX
  obtain ⟨hmi, hd, hlen⟩ := zI_ok hi
  have hd' : zlen i ≠ 0 → decode (zB mi) pc = .ok (i, zlen i) := fun hz => by
    rcases hlen with q | q
    · rw [q]; exact hd
    · exact absurd q hz
  have hG : ∀ w ∈ zG, w.before args s = true := fun w hw => hts w (List.mem_cons_of_mem _ hw)
  intro H locs cells slots arr hI hL
  dsimp only at hI hL ⊢
  have hP := hI.1
  have hD := hI.2.1
  have hS := hI.2.2.1
  have hz4 := hI.2.2.2.1
  have hz5 := hI.2.2.2.2.1
  have hz6 := hI.2.2.2.2.2
  have hcat : ((st.drop k).map fun v => v.category).sum ≤ 8 := Nat.not_lt.mp fun q => hst (Or.inr (Or.inl q))
  have hcat' : (((st.drop k).map (zv ad)).map fun v => v.category).sum ≤ 8 := by rw [zmapcat]; exact hcat
  have had : ∀ j, ad (hp.length + j) = H.size + j := by
    intro j
    have := hF.1 (cells + j)
    rw [hz5, hz4, Nat.add_assoc, this]
    omega
  have hPre : ∀ U : State, U.heap = H → s.WarmedH U.vm → zPc dC dI dA ad hp H.size (st.take k).reverse (((st.take k).reverse).map (zv ad)).toArray U := fun U hU hW => ⟨rfl, by rw [hU], by rw [hU]; exact hP, va_K.moved hW.alike hK, hD.weaken (fun _ _ _ _ => trivial), zX.warm hW hX⟩
  unfold zcl at hcl
  split at hcl
  · rename_i kx
    split at hcl
    · rename_i mj' rr hr
      split at hcl
      · rename_i b hb1
        split at hcl
        · rename_i ci fs hb2
          split at hcl
          · rename_i hci
            cases hcl
            obtain ⟨hj, w1, w2, w3, w4, w5⟩ := zV_ok hr
            obtain ⟨m1, m2, m3, m4, m5, m6⟩ := zM_ok hj
            obtain ⟨t1, t2, t3⟩ := ztake hb1
            rw [t1] at hPre hM
            refine zcallg hF hI hL h1 h2 (va_runV (As := ((st.take (zN mj)).reverse).map (zv ad)) (rest := (st.drop (zN mj + 1)).map (zv ad)) (b := ad b) ⟨hx, hb, hml, hown, hts⟩ (hM (by rw [zMT_len]; exact hj) dC dI dA ad H.size had) (cwV (zN mj) hts (zGI ?_) rfl rfl rfl ⟨rfl, m3, m4, m5⟩ ⟨?_, ?_⟩) ⟨zPc_blind, ?_, hPre⟩ rfl (by simp; omega) hL.1 ?_ (lv_room hcat') (hd' (by simp [zlen])) ⟨?_, ?_⟩) K
            · intro w hw
              unfold wsV at hw
              rcases List.mem_append.mp hw with hw | hw
              · simp only [List.mem_cons, List.not_mem_nil, or_false] at hw
                rcases hw with rfl | rfl | rfl | rfl
                · exact w1
                · exact w2
                · exact w3
                · exact w4
              · rcases List.mem_cons.mp hw with rfl | hw
                · exact w5
                · exact hw
            · show d' + 1 + 1 ≤ R.frames
              omega
            · show 8 + (zL mj + 11) + 40 * (d' + 1) ≤ R.locals
              omega
            · have hlt : zC mj < zCl.length := by
                rcases Nat.lt_or_ge (zC mj) zCl.length with q | q
                · exact q
                · exfalso
                  obtain ⟨r9, h9, -⟩ := hP b _ (zw_get hb2)
                  subst hci
                  simp only [zc] at h9
                  rw [List.getElem?_eq_none (by omega)] at h9
                  cases h9
              have e7 : zCl[zC mj]? = some zCl[zC mj] := List.getElem?_eq_getElem hlt
              have e8 : (zY mj).cls = (zCl[zC mj]).1 := by rw [m1]; unfold zCN; rw [e7]
              rw [e8]
              exact va_recv hK hP (ci := zC mj) (q0 := b) e7 (by rw [← hci]; exact zw_get (c := .inr (ci, fs)) hb2)
            · conv => lhs; rw [t2]
              simp [zv]
            · omega
            · omega
          · cases hcl
        · cases hcl
      · cases hcl
    · cases hcl
  · rename_i kx
    split at hcl
    · rename_i mj' rr hr
      cases hcl
      obtain ⟨hj, w0, w1, w2, w3, w4⟩ := zS_ok hr
      obtain ⟨m1, m2, m3, m4, m5, m6⟩ := zM_ok hj
      have hlt : zN mj ≤ st.length := Nat.not_lt.mp fun q => hst (Or.inl q)
      refine zcallg hF hI hL h1 h2 (va_runS (As := ((st.take (zN mj)).reverse).map (zv ad)) (rest := (st.drop (zN mj)).map (zv ad)) ⟨hx, hb, hml, hown, hts⟩ (hM (by rw [zMT_len]; exact hj) dC dI dA ad H.size had) (cwS (zN mj) hts (zGI ?_) rfl rfl rfl ⟨w0, m3, m4, m5⟩ ⟨?_, ?_⟩) ⟨zPc_blind, hPre⟩ rfl (by simp; omega) hL.1 ?_ (lv_room hcat') (hd' (by simp [zlen])) ⟨?_, ?_⟩) K
      · intro w hw
        unfold wsS at hw
        rcases List.mem_append.mp hw with hw | hw
        · simp only [List.mem_cons, List.not_mem_nil, or_false] at hw
          rcases hw with rfl | rfl | rfl
          · exact w1
          · exact w2
          · rw [← w0]; exact w3
        · rcases List.mem_cons.mp hw with rfl | hw
          · exact w4
          · exact hw
      · show d' + 1 + 1 ≤ R.frames
        omega
      · show 8 + (zL mj + 11) + 40 * (d' + 1) ≤ R.locals
        omega
      · rw [← List.map_reverse, List.reverse_reverse, ← List.map_append, List.take_append_drop]
      · omega
      · omega
    · cases hcl
  · rename_i kx
    split at hcl
    · rename_i mj' rr hr
      split at hcl
      · rename_i b hb1
        cases hcl
        obtain ⟨hj, w0, w00, w1, w2, w3, w4⟩ := zQ_ok hr
        obtain ⟨m1, m2, m3, m4, m5, m6⟩ := zM_ok hj
        obtain ⟨t1, t2, t3⟩ := ztake hb1
        rw [t1] at hPre hM
        refine zcallg hF hI hL h1 h2 (va_runI (As := ((st.take (zN mj)).reverse).map (zv ad)) (rest := (st.drop (zN mj + 1)).map (zv ad)) (b := ad b) ⟨hx, hb, hml, hown, hts⟩ (hM (by rw [zMT_len]; exact hj) dC dI dA ad H.size had) (cwI (zN mj) (maxL := zL mj) (bytes := zB mj) hts (zGI ?_) (by unfold zws; rw [w00]) rfl rfl (hG _ w3) (hG _ w1) (hG _ w2) w0 ⟨m3, m4, m5⟩ ⟨?_, ?_⟩) ⟨zPc_blind, hPre⟩ rfl (by simp; omega) hL.1 ?_ (lv_room hcat') (hd' (by simp [zlen])) ⟨?_, ?_⟩) K
        · intro w hw
          rcases List.mem_cons.mp hw with rfl | hw
          · exact w4
          · exact hw
        · show d' + 1 + 1 ≤ R.frames
          omega
        · show 8 + (zL mj + 11) + 40 * (d' + 1) ≤ R.locals
          omega
        · conv => lhs; rw [t2]
          simp [zv]
        · omega
        · omega
      · cases hcl
    · split at hcl
      · rename_i mj' rr hr
        split at hcl
        · rename_i b hb1
          cases hcl
          obtain ⟨hs0, r0⟩ := rr
          obtain ⟨hj, w0, w00, w1, w2, w3, w4⟩ := zW_ok hr
          obtain ⟨m1, m2, m3, m4, m5, m6⟩ := zM_ok hj
          obtain ⟨t1, t2, t3⟩ := ztake hb1
          rw [t1] at hPre hM
          refine zcallg hF hI hL h1 h2 (va_runIN (As := ((st.take (zN mj)).reverse).map (zv ad)) (rest := (st.drop (zN mj + 1)).map (zv ad)) (b := ad b) ⟨hx, hb, hml, hown, hts⟩ (hM (by rw [zMT_len]; exact hj) dC dI dA ad H.size had) ⟨va_cnB (zN mj) (maxL := zL mj) (bytes := zB mj) hts (zGI ?_) (by unfold zws; rw [w00]) rfl rfl (hX.1 _ _ _ _ _ hr) (hG _ w3) ⟨m3, m4, m5⟩ ⟨?_, ?_⟩, w0, hG _ w2⟩ ⟨zPc_blind, hPre⟩ rfl (by simp; omega) hL.1 ?_ (lv_room hcat') (hd' (by simp [zlen])) ⟨?_, ?_⟩) K
          · intro w hw
            rcases List.mem_cons.mp hw with rfl | hw
            · exact w4
            · exact hw
          · show d' + 1 + 1 ≤ R.frames
            omega
          · show 8 + (zL mj + 11) + 40 * (d' + 1) ≤ R.locals
            omega
          · conv => lhs; rw [t2]
            simp [zv]
          · omega
          · omega
        · cases hcl
      · cases hcl
  · cases hcl
end ZGO
/-! the induction -/
def zWL (n : Nat) : Prop := ∀ (d mi pc : Nat) (ls : zLs) (st : List Value) (hp : zHp) (x : zCf), zgo n d mi pc ls st hp = some x →
  ∀ (p : Program) (l : Launch) (e : Env) (R : Room) (s : State) (m : MethodId) (args : Array Value) (below : List Frame) (meth : Method) (c : Code) (Q : State → Prop) (dC : Nat → ClassId) (dI : Nat → Nat → Nat) (dA : Nat → ClassId) (ad : Nat → Nat) (A : Nat → Prop) (n0 g0 : Nat),
  zCx p s m args meth c mi dC dI dA → zFx s dA ad A n0 → d + 1 ≤ R.frames → 40 * (d + 1) ≤ R.locals → x.2.2.2.length ≤ n0 + R.cells → zhs x.2.2.2 ≤ g0 + R.slots →
  zWs p l e R s m args below meth c Q dC dI dA ad A n0 g0 mi x → zWs p l e R s m args below meth c Q dC dI dA ad A n0 g0 mi (pc, ls, st, hp)
def zMA (n : Nat) : Prop := ∀ (l : Launch) (d mj : Nat) (vs : List Value) (hp : zHp) (x : zCf) (r : Option Value), zgo n d mj 0 (zent mj vs) [] hp = some x → mj < zMT.length → (zent0 vs).length ≤ zL mj → zrt mj x.1 x.2.2.1 = some r → zMet l mj d vs hp r x.2.2.2
set_option maxHeartbeats 2000000 in
theorem zMA_of {n : Nat} (hw : zWL n) : zMA n := by
  intro l d mj vs hp x r hgo hj hvs hrt dC dI dA ad sz had
  rw [zMT_len] at hj
  obtain ⟨m1, m2, m3, m4, m5, m6⟩ := zM_ok hj
  have hmono := zgo_mono _ _ _ _ _ _ _ _ hgo
  refine Met.ofW (cc := zB mj) (maxL := zL mj) (ret := zR mj) m2 rfl ?_
  intro p e s m args below meth c s₁ B hml hv
  obtain ⟨rfl, hsz, hP, hK, hD0, hX⟩ := hv
  subst hsz
  have hts := atoms_spec (ws := zws mj) B.pre
  have hown : s.vm.findClass (zY mj).cls = some m.cls := findClass_of_methodNamed B.named
  rw [m1] at hown
  have CX : zCx p s m (vs.map (zv ad)).toArray meth c mj dC dI dA := ⟨B.exec, B.bytes, hml, hown, hts, B.returns, B.notSynchronized, (name_of_methodNamed B.named B.method).1, hK, hX⟩
  have hF : zFx s dA ad (va_A (zw dA ad hp) s.heap.size) hp.length := by
    refine ⟨had, fun q hq => Or.inr hq, fun q hq hlt => ?_⟩
    rcases hq with ⟨k, x9, hk⟩ | hq
    · obtain ⟨c9, h1, h2⟩ := zw_got hk
      have h3 : q = ad k := congrArg Prod.fst h2
      exact ⟨k, (List.getElem?_eq_some_iff.mp h1).1, h3⟩
    · omega
  have hI : zIn dC dI dA ad (va_A (zw dA ad hp) s.heap.size) s hp.length (zhs hp) hp s.heap [] 0 0 := ⟨hP, hD0.self, va_S.rf, rfl, rfl, rfl⟩
  rw [lg_entry_eq]
  refine hw d mj 0 (zent mj vs) [] hp x hgo p l e _ s m _ below meth c _ dC dI dA ad (va_A (zw dA ad hp) s.heap.size) hp.length (zhs hp) CX hF (Nat.le_refl _) (Nat.le_refl _) (by show _ ≤ hp.length + (x.2.2.2.length - hp.length); omega) (by show _ ≤ zhs hp + (zhs x.2.2.2 - zhs hp); omega) ?_ s.heap [] 0 0 _ hI (zHl_entry hvs)
  intro H locs cells slots arr hI1 hL1
  obtain ⟨hP1, hD1, hS1, hz4, hz5, hz6⟩ := hI1
  have hc1 : cells = x.2.2.2.length - hp.length := by omega
  have hc2 : slots = zhs x.2.2.2 - zhs hp := by omega
  have hq : ∀ t : State, t.heap = H → s.WarmedH t.vm → zQc dC dI dA ad hp s.heap.size r x.2.2.2 (vs.map (zv ad)).toArray s (.returned (r.map (zv ad))) t := fun t ht hW => ⟨rfl, by rw [ht, hz4, hc1], by rw [ht]; exact hP1, hD1, hS1.F ht⟩
  have hf : ∀ q ∈ locs, va_A (zw dA ad hp) s.heap.size q.base := hS1.2.2
  unfold zrt at hrt
  rw [← hc1, ← hc2]
  split at hrt
  · rename_i ln hi
    obtain ⟨-, hdd, hll⟩ := zI_ok hi
    have hln : ln = 1 := hll.elim (fun q => q.symm) (fun q => by simp [zlen] at q)
    subst hln
    split at hrt
    · rename_i v ty hst hty
      split at hrt
      · rename_i hn
        cases hrt
        rw [hst]
        exact W.zret B.exec B.bytes (by rw [B.returns]; exact hty) hn hq hf hdd
      · cases hrt
    · cases hrt
  · rename_i ln hi
    obtain ⟨-, hdd, hll⟩ := zI_ok hi
    have hln : ln = 1 := hll.elim (fun q => q.symm) (fun q => by simp [zlen] at q)
    subst hln
    split at hrt
    · rename_i v hst hty
      cases hrt
      rw [hst]
      exact W.lret B.exec B.bytes (by rw [B.returns]; exact hty) hq hf hdd
    · cases hrt
  · rename_i ln hi
    obtain ⟨-, hdd, hll⟩ := zI_ok hi
    have hln : ln = 1 := hll.elim (fun q => q.symm) (fun q => by simp [zlen] at q)
    subst hln
    split at hrt
    · rename_i a C hst hty
      cases hrt
      rw [hst]
      exact W.aret B.exec B.bytes (by rw [B.returns]; exact hty) (Or.inl ⟨_, rfl⟩) (Or.inr ⟨_, rfl⟩) hq hf hdd
    · rename_i C hst hty
      cases hrt
      rw [hst]
      exact W.aret B.exec B.bytes (by rw [B.returns]; exact hty) (Or.inl ⟨_, rfl⟩) (Or.inl rfl) hq hf hdd
    · cases hrt
  · rename_i ln hi
    obtain ⟨-, hdd, hll⟩ := zI_ok hi
    have hln : ln = 1 := hll.elim (fun q => q.symm) (fun q => by simp [zlen] at q)
    subst hln
    split at hrt
    · rename_i hst hty
      cases hrt
      rw [hst]
      exact W.vret B.exec B.bytes (by rw [B.returns]; exact hty) hq hf hdd
    · cases hrt
  · cases hrt
theorem zWL_0 : zWL 0 := by
  intro d mi pc ls st hp x h
  simp [zgo] at h
set_option maxHeartbeats 2000000 in
theorem zWL_s {n : Nat} (hw : zWL n) (hm : zMA n) : zWL (n + 1) := by
  intro d mi pc ls st hp x h p l e R s m args below meth c Q dC dI dA ad A n0 g0 CX hF hfr hlo hrc hrs K
  simp only [zgo] at h
  split at h
  · cases h
  · rename_i i len hi
    split at h
    · cases h; exact K
    · split at h
      · rename_i mj k hcl
        split at h
        · cases h
        · rename_i d'
          split at h
          · cases h
          · rename_i hst
            split at h
            · cases h
            · rename_i pc1 ls1 st1 hp1 h1
              split at h
              · cases h
              · rename_i r hr
                have a := zgo_mono _ _ _ _ _ _ _ _ h1
                have b := zgo_mono _ _ _ _ _ _ _ _ h
                exact zcall_sound hcl hi CX hF hst (by omega) (by omega) a.1 a.2 (Nat.le_trans b.1 hrc) (Nat.le_trans b.2 hrs) (fun hj => hm l d' mj _ hp _ r h1 hj (Nat.not_lt.mp fun q => hst (Or.inr (Or.inr q))) hr)
                  (hw _ _ _ _ _ _ _ h p l e R s m args below meth c Q dC dI dA ad A n0 g0 CX hF hfr hlo hrc hrs K)
      · split at h
        · cases h
        · rename_i y hy
          have b := zgo_mono _ _ _ _ _ _ _ _ h
          exact zst_sound hy hi CX hF (by omega) (by omega) (Nat.le_trans b.1 hrc) (Nat.le_trans b.2 hrs) (hw _ _ _ _ _ _ _ h p l e R s m args below meth c Q dC dI dA ad A n0 g0 CX hF hfr hlo hrc hrs K)
theorem zWL_all : ∀ n, zWL n
  | 0 => zWL_0
  | n + 1 => zWL_s (zWL_all n) (zMA_of (zWL_all n))
theorem zMA_all (n : Nat) : zMA n := zMA_of (zWL_all n)
