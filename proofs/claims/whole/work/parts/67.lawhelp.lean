-- lk: 66
/-! ===== helpers of the law's walk ===== -/
theorem and15 (x : Int32) : ∃ t, t < 16 ∧ x &&& 15 = nI t := by
  refine ⟨(x.toBitVec &&& 15#32).toNat, ?_, ?_⟩
  · rw [BitVec.toNat_and]
    exact Nat.lt_of_le_of_lt Nat.and_le_right (by decide)
  · apply Int32.toBitVec_inj.mp
    rw [Int32.toBitVec_and]
    show _ = (Int32.ofNat _).toBitVec
    rw [Int32.toBitVec_ofNat']
    simp
theorem zsz_le {np h : Nat} {f : Nat → Int32} {g : Int64} : zsz (cel np h f g) ≤ 144 := by
  unfold cel
  repeat' split
  all_goals first | (simp [zsz]; done) | (simp [zsz, mcl]; done)
theorem sum_le {l : List Nat} {b : Nat} (h : ∀ x ∈ l, x ≤ b) : l.sum ≤ b * l.length := by
  induction l with
  | nil => simp
  | cons a t ih =>
    rw [List.sum_cons, List.length_cons, Nat.mul_add, Nat.mul_one, Nat.add_comm]
    exact Nat.add_le_add (ih (fun x hx => h x (List.mem_cons_of_mem _ hx))) (h a List.mem_cons_self)
theorem zhs_mk {np : Nat} {M : Nat → Nat → Int32} {L : Nat → Int64} (h : np ≤ 6) : zhs (mk np M L) ≤ 9072 := by
  unfold zhs
  have e := sum_le (l := (mk np M L).map zsz) (b := 144) (fun x hx => by
    obtain ⟨c, hc, rfl⟩ := List.mem_map.mp hx
    unfold mk at hc
    obtain ⟨k, hk, rfl⟩ := List.mem_map.mp hc
    exact zsz_le)
  rw [List.length_map, mk_len] at e
  exact Nat.le_trans e (by omega)
def okv (N : Nat) : Value → Bool
  | .ref h => decide (h < N)
  | _ => true
theorem zv_cg {N : Nat} {ad ad' : Nat → Nat} (h : ∀ k, k < N → ad' k = ad k) {v : Value} (hv : okv N v = true) : zv ad' v = zv ad v := by
  cases v with
  | ref k => exact congrArg Value.ref (h k (by simpa [okv] using hv))
  | _ => rfl
theorem zc_fs {N ci : Nat} {ad ad' : Nat → Nat} {dA : Nat → ClassId} (h : ∀ k, k < N → ad' k = ad k) {fs : List Value} (hv : fs.all (okv N) = true) : zc dA ad' (.inr (ci, fs)) = zc dA ad (.inr (ci, fs)) := by
  show Sum.inr (ci, fs.map (zv ad')) = Sum.inr (ci, fs.map (zv ad))
  rw [List.map_congr_left (fun v hvm => zv_cg h (List.all_eq_true.mp hv v hvm))]
theorem zc_q {N t n : Nat} {ad ad' : Nat → Nat} {dA : Nat → ClassId} (h : ∀ k, k < N → ad' k = ad k) {f : Nat → Option Nat} (hf : ∀ i k, f i = some k → k < N) : zc dA ad' (qcl t n f) = zc dA ad (qcl t n f) := by
  have e : (fun i => (f i).map ad') = (fun i => (f i).map ad) := by
    funext i
    cases hi : f i with
    | none => rfl
    | some k => exact congrArg some (h k (hf i k hi))
  show Sum.inl (dA t, n, Sum.inr (Sum.inr (Sum.inr (Sum.inr (fun i => (f i).map ad'))))) = Sum.inl (dA t, n, Sum.inr (Sum.inr (Sum.inr (Sum.inr (fun i => (f i).map ad)))))
  rw [e]
theorem zc_cel {np h : Nat} {f : Nat → Int32} {g : Int64} {ad ad' : Nat → Nat} {dA : Nat → ClassId} (hh : ∀ k, k < 57 + np → ad' k = ad k) : zc dA ad' (cel np h f g) = zc dA ad (cel np h f g) := by
  have h57 : ∀ k, k < 57 → ad' k = ad k := fun k hk => hh k (by omega)
  unfold cel
  split
  · split
    · split
      · exact zc_fs h57 rfl
      · split
        · exact zc_fs h57 rfl
        · split
          · exact zc_q hh (fun i k q => by
              by_cases w : i < np
              · rw [if_pos w] at q; cases q; omega
              · rw [if_neg w] at q; cases q)
          · split
            · exact zc_fs h57 rfl
            · exact zc_q h57 (fun i k q => by
                by_cases w : i < 6
                · rw [if_pos w] at q; cases q; omega
                · rw [if_neg w] at q; cases q)
    · split
      · exact zc_fs h57 rfl
      · split
        · split
          · exact zc_fs h57 rfl
          · split
            · exact zc_fs h57 rfl
            · exact zc_q h57 (fun i k q => by
                by_cases w : i < 6
                · rw [if_pos w] at q; cases q; omega
                · rw [if_neg w] at q; cases q)
        · split
          · exact zc_fs h57 rfl
          · split
            · rfl
            · exact zc_fs (ci := 6) h57 rfl
  · split
    · repeat' split
      all_goals rfl
    · exact zc_fs h57 rfl
/-- handles that are not yet given lie where the next cells will come -/
theorem re_ad (dA : Nat → ClassId) (ad : Nat → Nat) (np : Nat) (M : Nat → Nat → Int32) (L : Nat → Int64) (sz : Nat) : ∃ ad', (∀ k, k < 57 + np → ad' k = ad k) ∧ (∀ j, ad' ((mk np M L).length + j) = sz + j) ∧ zw dA ad' (mk np M L) = zw dA ad (mk np M L) := by
  refine ⟨fun k => if k < 57 + np then ad k else sz + (k - (57 + np)), fun k hk => if_pos hk, fun j => ?_, ?_⟩
  · rw [mk_len]
    show (if 57 + np + j < 57 + np then _ else _) = _
    rw [if_neg (by omega)]
    omega
  · apply List.ext_getElem?
    intro j
    unfold zw
    rw [List.getElem?_mapIdx, List.getElem?_mapIdx]
    rcases Nat.lt_or_ge j (57 + np) with hj | hj
    · rw [rd np M L hj rfl]
      have e1 : zc dA (fun k => if k < 57 + np then ad k else sz + (k - (57 + np))) (cel np j (M j) (L j)) = zc dA ad (cel np j (M j) (L j)) := zc_cel (fun k hk => if_pos hk)
      have e2 : (fun k => if k < 57 + np then ad k else sz + (k - (57 + np))) j = ad j := if_pos hj
      exact congrArg some (Prod.ext e2 e1)
    · rw [List.getElem?_eq_none (by rw [mk_len]; exact hj)]
      rfl
theorem lw_ml {np : Nat} {M : Nat → Nat → Int32} {L : Nat → Int64} : ∃ fs, (mk np M L)[21]? = some (.inr (6, fs)) := ⟨_, rd np M L (h := 21) (by omega) rfl⟩
/-- three lengths -/
theorem nrL_I (x : Int32) : ∃ v, (1 ≤ v ∧ v ≤ 12) ∧ nrL x = nI v := by
  have h : mW (nrL x) 1 12 := by
    unfold nrL mW
    simp only [Int32.lt_iff_toInt_lt, Int32.le_iff_toInt_le]
    have e12 : (12 : Int32).toInt = 12 := by decide
    have e1 : (1 : Int32).toInt = 1 := by decide
    split
    · split
      · rw [e12, e1] at *; omega
      · rw [e12, e1]; omega
    · rw [e12, e1]; omega
  exact num12 h
theorem iv_0 (x y z : Int32) : IVx 0 (M0 x y z) := by
  obtain ⟨a, ha, ea⟩ := nrL_I x
  obtain ⟨b, hb, eb⟩ := nrL_I y
  obtain ⟨c, hc, ec⟩ := nrL_I z
  refine ⟨fun r k => if r = 8 then (if k = 0 then a else if k = 1 then b else c) else 0, fun _ _ => 0, fun _ => 0, fun _ => 0, 0, ⟨by omega, rfl, ls3 ha hb hc, fun i hi => absurd hi (by omega)⟩, ⟨rfl, ls3 ?_ ?_ ?_, fun i hi => absurd hi (by omega)⟩, ⟨⟨?_, ?_, ?_, rfl⟩, fun i hi => absurd hi (Nat.not_lt_zero i)⟩, ⟨by omega, rfl, rfl, rfl, ?_⟩, ⟨fun i hi => ?_, fun _ _ _ _ => rfl⟩, ⟨fun i => ⟨Or.inl rfl, fun w => absurd w (by simp)⟩, fun _ _ _ w => absurd w (by simp)⟩, fun i hi => ⟨?_, rfl, fun w => absurd w (by simp)⟩⟩
  · exact ea
  · exact eb
  · exact ec
  · exact ea
  · exact eb
  · exact ec
  · exact (zi_f (show ¬ ¬ (0 : Int32) ≤ 0 by decide)).symm
  · match i, hi with
    | 0, _ => rfl
    | 1, _ => rfl
    | 2, _ => rfl
    | 3, _ => rfl
    | 4, _ => rfl
    | 5, _ => rfl
  · match i, hi with
    | 0, _ => rfl
    | 1, _ => rfl
    | 2, _ => rfl
    | 3, _ => rfl
    | 4, _ => rfl
    | 5, _ => rfl

theorem la_w : GoodIn lw_tbl (va_wsS R_law 86 y_laxle ws_la) := lc_gi (fun w hw => by
  unfold va_wsS ws_la at hw
  simp only [List.cons_append, List.nil_append, List.mem_cons, List.not_mem_nil, or_false] at hw
  rcases hw with rfl | rfl | rfl | rfl | hw
  · exact zG_at (p := 474) (by decide +kernel) (by decide +kernel)
  · exact zG_at (p := 475) (by decide +kernel) (by decide +kernel)
  · exact zG_at (p := 24) (by decide +kernel) (by decide +kernel)
  · exact zG_at (p := 476) (by decide +kernel) (by decide +kernel)
  · exact hw)
section LAW
variable {p : Program} {l : Launch} {e : Env} {R : Room} {s : State} {m : MethodId} {args : Array Value} {below : List Frame} {meth : Method} {c : Code} {H : Heap} {locs : List Loc} {cells slots : Nat} {Q : State → Prop}
variable {dC : Nat → ClassId} {dI : Nat → Nat → Nat} {dA : Nat → ClassId} {ad : Nat → Nat} {A : Nat → Prop}
/-- LoadSpaceLaw.axle, called out of the law -/
theorem lc_la {cc : ByteArray} {nL pc d sa : Nat} {arr : Array Slot} {hp hp1 : zHp} {p0 p1 k : Int32} {rest : List Value} (hA : ∀ q, s.heap.size ≤ q → A q)
    (CF : CallFix p m c cc nL s args lw_tbl R_law) (hK : va_K (dC, dI) zCl (zty dA) s) (hX : zX s) (hP : va_P (dC, dI) zCl (zw dA ad hp) H) (hD : va_D A (zw dA ad hp)) (hS : va_S A s.heap H locs) (hH : xH A sa s s.heap)
    (hM : Met l y_laxle ws_la (zrm (d + 1) 1 6) (pLA dC dI dA ad hp H.size sa [.ref 0, .int p0, .int p1, .ref 56]) (qLA dC dI dA ad hp hp1 H.size k) 1 6 (va_A (zw dA ad hp) H.size)) (hz : arr.size = nL) (hcat : ((rest.map fun v => v.category)).sum ≤ 8)
    (hdg : decode cc pc = .ok (.invokestatic 86, 3)) (hfr : d + 3 ≤ R.frames) (hlo : 40 * (d + 3) ≤ R.locals) (hrc : cells + 1 ≤ R.cells) (hrs : slots + 6 ≤ R.slots)
    (K : ∀ (H' : Heap) (locs' : List Loc), va_P (dC, dI) zCl (zw dA ad hp1) H' → va_D A (zw dA ad hp1) → va_S A s.heap H' locs' → W p l e R s m args below meth c H' locs' (cells + 1) (slots + 6) Q (F0 m (pc + 3) arr (.int k :: rest))) : W p l e R s m args below meth c H locs cells slots Q (F0 m pc arr (.ref (ad 56) :: .int p1 :: .int p0 :: .ref (ad 0) :: rest)) := by
  have hAA : ∀ q, va_A (zw dA ad hp) H.size q → A q := by
    intro q hq
    rcases hq with ⟨k, x, hk⟩ | hq
    · exact hD.2 k _ hk
    · exact hA q (Nat.le_trans hS.1 hq)
  have hPre : ∀ U : State, U.heap = H → s.WarmedH U.vm → pLA dC dI dA ad hp H.size sa [.ref 0, .int p0, .int p1, .ref 56] [Value.ref (ad 0), .int p0, .int p1, .ref (ad 56)].toArray U := fun U hU hW => ⟨⟨rfl, by rw [hU], by rw [hU]; exact hP, va_K.moved hW.alike hK, hD.weaken (fun _ _ _ _ => trivial), zX.warm hW hX⟩, by rw [hU]; exact xH.narrow (xH.kept (xH.warm hW hH) hS.2.1) hAA⟩
  have hr : va_Run p l e R s m args below meth c H locs cells slots 1 6 (F0 m pc arr (.ref (ad 56) :: .int p1 :: .int p0 :: .ref (ad 0) :: rest)) rest (qLA dC dI dA ad hp hp1 H.size k [Value.ref (ad 0), .int p0, .int p1, .ref (ad 56)].toArray) (va_A (zw dA ad hp) H.size) :=
    vx_runSW (As := [Value.ref (ad 0), .int p0, .int p1, .ref (ad 56)]) (rest := rest) CF hM (vx_cwSW (hh := [(0, 9, 12, 13)]) (bytes := cL_axle) (maxL := 5) (ret := some .int) 4 CF.2.2.2.2 la_w rfl rfl rfl ⟨by decide, by decide, by decide⟩ ⟨by show d + 1 + 1 + 1 ≤ _; omega, by show 8 + (5 + 11) + 40 * (d + 1 + 1) ≤ _; omega⟩) ⟨pLA_blind, hPre⟩ rfl rfl hz rfl (lv_room hcat) hdg ⟨hrc, hrs⟩
  intro T hT X
  obtain ⟨v, st₀, t, T', L', e0, X', hLc, e1, e2, ⟨hv, hP1, hD1, hF1⟩, stp⟩ := hr T hT X
  cases hv
  have k := K T'.heap (locs ++ L') (by rw [e1]; exact hP1) (hD1.weaken (fun _ q _ h => hAA q.1 h)) ⟨?_, ?_, ?_⟩
  · obtain ⟨t2, a1, b1⟩ := k T' rfl X'
    exact ⟨t2, stp t2 a1, b1⟩
  · rw [e1]
    have := hF1.1
    rw [e0] at this
    exact Nat.le_trans hS.1 this
  · intro q hq hA
    rw [e1, hF1.2 q (by rw [e0]; exact Nat.lt_of_lt_of_le hq hS.1) (fun z => hA (hAA q z)), e0]
    exact hS.2.1 q hq hA
  · intro q hq
    rcases List.mem_append.mp hq with h | h
    · exact hS.2.2 q h
    · exact hAA _ (hLc q h)
/-- an object made by the law, at its start -/
theorem lc_new {nL idx ci pc : Nat} {cc : ByteArray} {arr : Array Slot} {hp : zHp} {rest : List Value} {q : vw_C} {fs : List Value} (hq : zCl[ci]? = some q) (hfs : zDF[ci]? = some fs) (w1 : Cond.classLink R_law idx q.1 ∈ zG) (w2 : Cond.instantiable q.1 q.2.2 ∈ zG) (w3 : Cond.initialized q.1 ∈ zG)
    (CF : CallFix p m c cc nL s args lw_tbl R_law) (hK : va_K (dC, dI) zCl (zty dA) s) (hF : zFx s dA ad A 0) (hI : zIn dC dI dA ad A s 0 0 hp H locs cells slots) (hrc : cells + 1 ≤ R.cells) (hrs : slots + fs.length ≤ R.slots) (hdg : decode cc pc = .ok (.new idx, 3))
    (K : ∀ H1, zIn dC dI dA ad A s 0 0 (hp ++ [.inr (ci, fs)]) H1 locs (cells + 1) (slots + fs.length) → W p l e R s m args below meth c H1 locs (cells + 1) (slots + fs.length) Q (F0 m (pc + 3) arr (.ref (ad hp.length) :: rest))) : W p l e R s m args below meth c H locs cells slots Q (F0 m pc arr rest) := by
  obtain ⟨hx, hb, hml, hown, hts⟩ := CF
  have hG : ∀ w ∈ zG, w.before args s = true := fun w hw => hts w (List.mem_filter.mp hw).1
  obtain ⟨ty, hty, hpd, hnmq, fs', hfs', hfl, hdef⟩ := zT_ok hq
  obtain rfl : fs' = fs := Option.some.inj (hfs'.symm.trans hfs)
  obtain ⟨q1, q2, q3⟩ := q
  dsimp only at hfl hpd hdef
  obtain rfl : q3 = fs'.length := hfl.symm
  refine va_new (D := (dC, dI)) (ci := ci) (fs := fs'.map (zv ad)) (C := q1) (T := q2) (N := fs'.length) hx hb hG (zU_ok hq) ty hpd hown (hG _ w1) (hG _ w2) (hG _ w3) hK hI.1 hI.2.1 hI.2.2.1 hF.2.1 hq (fun j hj => ?_) hrc hrs hdg (fun a H1 hP1 hD1 hS1 => zW_size (fun hle => ?_))
  · rw [hdef j hj]
    have e8 : vp_V (fs'.map (zv ad)) j = zv ad (vp_V fs' j) := by
      unfold vp_V
      rw [List.getD_eq_getElem?_getD, List.getD_eq_getElem?_getD, List.getElem?_map]
      cases fs'[j]? <;> rfl
    rw [e8, ← hdef j hj, zdef_zv]
  · obtain ⟨rfl, hI1⟩ := zIn_push (x := .inr (ci, fs')) hF hI hP1 hD1 hS1 hle
    exact K H1 hI1
/-- the long[1] -/
theorem lc_newL {nL pc : Nat} {cc : ByteArray} {arr : Array Slot} {hp : zHp} {rest : List Value}
    (CF : CallFix p m c cc nL s args lw_tbl R_law) (hK : va_K (dC, dI) zCl (zty dA) s) (hF : zFx s dA ad A 0) (hI : zIn dC dI dA ad A s 0 0 hp H locs cells slots) (hrc : cells + 1 ≤ R.cells) (hrs : slots + 1 ≤ R.slots) (hdg : decode cc pc = .ok (.newarray .long, 2))
    (K : ∀ H1, zIn dC dI dA ad A s 0 0 (hp ++ [.inl (2, 1, .inr (.inl (fun _ => 0)))]) H1 locs (cells + 1) (slots + 1) → W p l e R s m args below meth c H1 locs (cells + 1) (slots + 1) Q (F0 m (pc + 2) arr (.ref (ad hp.length) :: rest))) : W p l e R s m args below meth c H locs cells slots Q (F0 m pc arr (.int 1 :: rest)) := by
  obtain ⟨hx, hb, hml, hown, hts⟩ := CF
  have hG : ∀ w ∈ zG, w.before args s = true := fun w hw => hts w (List.mem_filter.mp hw).1
  refine va_newa (a0 := (1, .inr (.inl (fun _ => 0)))) (atype := .long) (ty := .long) (N' := 1) hx hb (hG _ zac_l) rfl hK hI.1 hI.2.1 hI.2.2.1 hF.2.1 (fun _ => rfl) (by decide) (by decide) (by simp only [componentBytes]; omega) hrc hrs hdg (fun q cA H1 hK1 hP1 hD1 hS1 => zW_size (fun hle => ?_))
  have hcA : cA = dA 2 := zRA_inj (hK1.2 (zty dA).length (cA, .long) (by simp)).2 (hK.2 2 _ (zty_get zTY_2)).2
  subst hcA
  obtain ⟨rfl, hI1⟩ := zIn_push (x := .inl (2, 1, .inr (.inl (fun _ => 0)))) hF hI hP1 hD1 hS1 hle
  exact K H1 hI1
end LAW

