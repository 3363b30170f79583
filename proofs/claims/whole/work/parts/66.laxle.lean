-- lk: 65
/-! ===== LoadSpaceLaw.axle ===== -/
def y_laxle : MethodName := ⟨R_law, "axle", "(LLoadSpace;II[J)I"⟩
def ws_la : List Cond := .codeWith y_laxle cL_axle 5 (some .int) [(0, 9, 12, 13)] :: zG
def qLA (dC : Nat → ClassId) (dI : Nat → Nat → Nat) (dA : Nat → ClassId) (ad : Nat → Nat) (hp hp' : zHp) (sz : Nat) (k : Int32) : Array Value → State → Outcome → State → Prop := fun _ st oc t => oc = .returned (some (.int k)) ∧ va_P (dC, dI) zCl (zw dA ad hp') t.heap ∧ va_D (va_A (zw dA ad hp) sz) (zw dA ad hp') ∧ va_F (va_A (zw dA ad hp) sz) st t
def pLA (dC : Nat → ClassId) (dI : Nat → Nat → Nat) (dA : Nat → ClassId) (ad : Nat → Nat) (hp : zHp) (sz sa : Nat) (vs : List Value) : Array Value → State → Prop := fun a U => zPc dC dI dA ad hp sz vs a U ∧ xH (va_A (zw dA ad hp) sz) sa U U.heap
theorem pLA_blind {dC : Nat → ClassId} {dI : Nat → Nat → Nat} {dA : Nat → ClassId} {ad : Nat → Nat} {hp : zHp} {sz sa : Nat} {vs : List Value} : FrameBlind (pLA dC dI dA ad hp sz sa vs) := by
  intro a U g mk q
  exact ⟨zPc_blind a U g mk q.1, xH.warm (s := U) (State.WarmedH.refl U) q.2⟩
theorem ow_ofWH {l : Launch} {y : MethodName} {ws ws' : List Cond} {rm : Room} {Pc : Array Value → State → Prop} {Qc : Array Value → State → Outcome → State → Prop} {mc ms : Nat} {free : Addr → Prop} {cc : ByteArray} {maxL : Nat} {ret : Option FieldType} {hh : List (Nat × Nat × Nat × Nat)}
    (hy : plainName y.cls = true) (hw : ws = Cond.codeWith y cc maxL ret hh :: ws')
    (body : ∀ p e s m args below meth c s₁, BodyLoose p l y (headSpec ws rm) cc maxL ret e s m args below meth c s₁ → c.maxLocals = maxL → Pc args s →
      W p l e (headSpec ws rm).room s m args below meth c s.heap [] 0 0 (MQ below Qc args s mc ms free) (entryFrame m args maxL)) : Met l y ws rm Pc Qc mc ms free := by
  refine MetFree.of_bodyS (code := cc) (maxLocals := maxL) (ret := ret) hy ?_ ?_
  · intro args s m h hn
    obtain ⟨m9, meth, c, hn9, h1, h2, h3, h4, -, h5, h6, -⟩ := Cond.codeWith_spec (atoms_spec (ws := ws) h _ (by rw [hw]; exact List.mem_cons_self))
    cases hn.symm.trans hn9
    exact ⟨meth, c, h1, h2, h3, h4, h5, h6⟩
  · intro p e s m args below meth c s₁ B hml hP _
    have hh0 : s₁.heap = s.heap := by rw [B.state]; rfl
    obtain ⟨t, a1, o, b1, b2, b3⟩ := body p e s m args below meth c s₁ B hml hP s₁ hh0 (Stand.of_body B)
    exact ⟨t, o, a1, b1, b2, ⟨b3.1, b3.2⟩⟩
theorem w56 {dC : Nat → ClassId} {dI : Nat → Nat → Nat} {dA : Nat → ClassId} {ad : Nat → Nat} {A : Nat → Prop} {np : Nat} {M : Nat → Nat → Int32} {L : Nat → Int64} {v : Int64} {f : Nat → Int64} {H : Heap} (hP : va_P (dC, dI) zCl ((zw dA ad (mk np M L)).set 56 (ad 56, .inl (dA 2, 1, .inr (.inl (vp_updL f 0 v))))) H) (hD : va_D A ((zw dA ad (mk np M L)).set 56 (ad 56, .inl (dA 2, 1, .inr (.inl (vp_updL f 0 v)))))) :
    va_P (dC, dI) zCl (zw dA ad (mk np M (upL L 56 v))) H ∧ va_D A (zw dA ad (mk np M (upL L 56 v))) := by
  have e : zw dA ad (mk np M (upL L 56 v)) = (zw dA ad (mk np M L)).set 56 (ad 56, .inl (dA 2, 1, .inr (.inl (fun _ => v)))) := by
    rw [← mk_setL (M := M) (np := np) (L := L) (h := 56) (v := v) rfl, ← zw_set]
    rfl
  have hl : 56 < (zw dA ad (mk np M L)).length := by rw [zw_len, mk_len]; omega
  rw [e]
  have key : ∀ (k : Nat) (q : Nat × va_E), ((zw dA ad (mk np M L)).set 56 (ad 56, .inl (dA 2, 1, .inr (.inl (fun _ => v)))))[k]? = some q → ∃ q', ((zw dA ad (mk np M L)).set 56 (ad 56, .inl (dA 2, 1, .inr (.inl (vp_updL f 0 v)))))[k]? = some q' ∧ q'.1 = q.1 ∧ (q' = q ∨ q = (ad 56, .inl (dA 2, 1, .inr (.inl (fun _ => v)))) ∧ k = 56) := by
    intro k q hq
    rw [List.getElem?_set] at hq ⊢
    by_cases hk : 56 = k
    · rw [if_pos hk, if_pos hl] at hq
      cases hq
      rw [if_pos hk, if_pos hl]
      exact ⟨_, rfl, rfl, Or.inr ⟨rfl, hk.symm⟩⟩
    · rw [if_neg hk] at hq ⊢
      exact ⟨q, hq, rfl, Or.inl rfl⟩
  refine ⟨fun k q hq => ?_, fun i j x y hx hy hxy => ?_, fun k q hq => ?_⟩
  · obtain ⟨q', h1, h2, h3⟩ := key k q hq
    have h4 := hP k q' h1
    rcases h3 with rfl | ⟨rfl, rfl⟩
    · exact h4
    · rw [List.getElem?_set, if_pos rfl, if_pos hl] at h1
      cases h1
      exact h4
  · obtain ⟨x', a1, a2, -⟩ := key i x hx
    obtain ⟨y', b1, b2, -⟩ := key j y hy
    exact hD.1 i j x' y' a1 b1 (by rw [a2, b2]; exact hxy)
  · obtain ⟨q', h1, h2, -⟩ := key k q hq
    rw [← h2]
    exact hD.2 k q' h1
theorem row_ax : ∃ rr, (7, mX5_axle, rr) ∈ lawV := ⟨_, List.mem_of_getElem? (i := 30) rfl⟩

section LA
variable {dC : Nat → ClassId} {dI : Nat → Nat → Nat} {dA : Nat → ClassId} {ad : Nat → Nat}
theorem lw_cl {np : Nat} {M : Nat → Nat → Int32} {L : Nat → Int64} : (mk np M L)[0]? = some (.inr (5, [.ref 1, .ref 2, .int (M 0 2), .ref 3, .ref 11, .int (M 0 5)])) := rd np M L (by omega) rfl
set_option maxHeartbeats 4000000 in
/-- where LoadSpace.axle answers v -/
theorem c_laA (l : Launch) {d np : Nat} {M : Nat → Nat → Int32} {L : Nat → Int64} {p0 p1 : Int32} {v : Int64} (hR : Rn d mX5_axle [.ref 0, .int p0, .int p1] (mk np M L) (some (.long v)) (mk np M L)) (sz sa : Nat) (had : ∀ j, ad ((mk np M L).length + j) = sz + j) :
    Met l y_laxle ws_la (zrm (d + 1) 1 6) (pLA dC dI dA ad (mk np M L) sz sa [.ref 0, .int p0, .int p1, .ref 56]) (qLA dC dI dA ad (mk np M L) (mk np M (upL L 56 v)) sz 0) 1 6 (va_A (zw dA ad (mk np M L)) sz) := by
  refine ow_ofWH (cc := cL_axle) (maxL := 5) (ret := some .int) (hh := [(0, 9, 12, 13)]) (by decide) rfl ?_
  intro p e s m args below meth c s₁ B hml hv
  obtain ⟨⟨rfl, hsz, hP, hK, hD0, hX⟩, hH⟩ := hv
  subst hsz
  have hx := B.exec
  have hb := B.bytes
  have hr := B.returns
  have hlocks := B.notSynchronized
  have hts := atoms_spec (ws := ws_la) B.pre
  have hown : s.vm.findClass R_law = some m.cls := findClass_of_methodNamed B.named
  have hD := hD0.self (sz := s.heap.size)
  have hA : ∀ q : Nat, s.heap.size ≤ q → va_A (zw dA ad (mk np M L)) s.heap.size q := fun q h => Or.inr h
  have hS : va_S (va_A (zw dA ad (mk np M L)) s.heap.size) s.heap s.heap [] := va_S.rf
  have hl := lv_entry ([.ref (ad 0), .int p0, .int p1, .ref (ad 56)]) (n := 5) (Nat.le_of_ble_eq_true rfl)
  rw [show ([Value.ref 0, .int p0, .int p1, .ref 56].map (zv ad)) = [.ref (ad 0), .int p0, .int p1, .ref (ad 56)] from rfl, lg_entry_eq]
  generalize (lg_sl ([.ref (ad 0), .int p0, .int p1, .ref (ad 56)]) ++ List.replicate (5 - (lg_sl ([.ref (ad 0), .int p0, .int p1, .ref (ad 56)])).length) Slot.unset).toArray = ls at hl ⊢
  have hl : lv_has ls 5 [(0, .ref (ad 0)), (1, .int p0), (2, .int p1), (3, .ref (ad 56))] := hl
  refine lv_aload_n hx hb dw_axle_0 rfl (lv_at hl 3 rfl) ?_
  refine lv_iconst (v := 0) hx hb dw_axle_1 (by decide) ?_
  refine lv_aload_n hx hb dw_axle_2 rfl (lv_at hl 0 rfl) ?_
  refine lv_iload_n hx hb dw_axle_3 rfl (lv_at hl 1 rfl) ?_
  refine lv_iload_n hx hb dw_axle_4 rfl (lv_at hl 2 rfl) ?_
  obtain ⟨rr, hrow⟩ := row_ax
  refine lc_V (vs := [.int p0, .int p1]) (rest := [.int 0, .ref (ad 56)]) (Ts := ws_la) (fun w h => List.mem_cons_of_mem _ h) hrow hA ⟨hx, hb, hml, hown, hts⟩ hK hX hP hD hS had hR lw_cl rfl rfl (Nat.le_of_ble_eq_true rfl) hl.1 (Nat.le_of_ble_eq_true rfl) dw_axle_5 (Nat.le_refl _) (Nat.le_refl _) (by rw [Nat.sub_self]; exact Nat.zero_le _) (by rw [Nat.sub_self]; exact Nat.zero_le _) (fun H' locs' hP' hD' hS' _ => ?_)
  rw [Nat.sub_self, Nat.sub_self]
  have ha : (zw dA ad (mk np M L))[56]? = some (ad 56, .inl (dA 2, 1, .inr (.inl (fun _ => L 56)))) := zw_get (dA := dA) (ad := ad) (k := 56) (rd np M L (h := 56) (by omega) rfl)
  refine va_last hx hb hK hP' hD' hS' 56 2 ha (zty_get (dA := dA) (t := 2) rfl) (show vp_in (nI 0) 1 from vp_in_nI (by omega) (by omega)) dw_axle_8 (fun H1 locs1 hP1 hD1 hS1 => ?_)
  obtain ⟨hP2, hD2⟩ := w56 hP1 hD1
  refine lv_goto (tgt := 16) hx hb dw_axle_9 (by decide) ?_
  refine lv_iconst (v := 0) hx hb dw_axle_16 (by decide) ?_
  refine W.widen (k := 1) (n := 6) (by omega) (by omega) ?_
  exact W.iret (v := 0) hx hb hr (fun t ht hW => ⟨rfl, by rw [ht]; exact hP2, hD2, hS1.F ht⟩) hS1.2.2 dw_axle_17
theorem wx_13 : Cond.classLink R_law 13 sAE ∈ zG := zG_at (p := 477) (by decide +kernel) (by decide +kernel)
def xEn : ExceptionTableEntry := { startPc := 0, endPc := 9, handlerPc := 12, catchType := 13 }
set_option maxHeartbeats 4000000 in
/-- where LoadSpace.axle throws -/
theorem c_laB (l : Launch) (hlt : l.stackTraces = false) {d np : Nat} {M : Nat → Nat → Int32} {L : Nat → Int64} {p0 p1 : Int32} (hd : 5 ≤ d) (hE : Ev d mX5_axle 0 (zent mX5_axle [.ref 0, .int p0, .int p1]) [] (mk np M L) (fun x => x.1 = 50 ∧ x.2.2.1 = [] ∧ x.2.2.2 = mk np M L)) (sz sa : Nat) (had : ∀ j, ad ((mk np M L).length + j) = sz + j) :
    Met l y_laxle ws_la (zrm (d + 1) 1 6) (pLA dC dI dA ad (mk np M L) sz sa [.ref 0, .int p0, .int p1, .ref 56]) (qLA dC dI dA ad (mk np M L) (mk np M L) sz 1) 1 6 (va_A (zw dA ad (mk np M L)) sz) := by
  refine ow_ofWH (cc := cL_axle) (maxL := 5) (ret := some .int) (hh := [(0, 9, 12, 13)]) (by decide) rfl ?_
  intro p e s m args below meth c s₁ B hml hv
  obtain ⟨⟨rfl, hsz, hP, hK, hD0, hX⟩, hH⟩ := hv
  subst hsz
  have hx := B.exec
  have hb := B.bytes
  have hr := B.returns
  have hlocks := B.notSynchronized
  have hts := atoms_spec (ws := ws_la) B.pre
  have hown : s.vm.findClass R_law = some m.cls := findClass_of_methodNamed B.named
  have htab : c.exceptionTable.toList = [] ++ xEn :: [] := vx_table (x := y_laxle) B (hts _ List.mem_cons_self)
  have hD := hD0.self (sz := s.heap.size)
  have hA : ∀ q : Nat, s.heap.size ≤ q → va_A (zw dA ad (mk np M L)) s.heap.size q := fun q h => Or.inr h
  have hS : va_S (va_A (zw dA ad (mk np M L)) s.heap.size) s.heap s.heap [] := va_S.rf
  have hl := lv_entry ([.ref (ad 0), .int p0, .int p1, .ref (ad 56)]) (n := 5) (Nat.le_of_ble_eq_true rfl)
  rw [show ([Value.ref 0, .int p0, .int p1, .ref 56].map (zv ad)) = [.ref (ad 0), .int p0, .int p1, .ref (ad 56)] from rfl, lg_entry_eq]
  generalize (lg_sl ([.ref (ad 0), .int p0, .int p1, .ref (ad 56)]) ++ List.replicate (5 - (lg_sl ([.ref (ad 0), .int p0, .int p1, .ref (ad 56)])).length) Slot.unset).toArray = ls at hl ⊢
  have hl : lv_has ls 5 [(0, .ref (ad 0)), (1, .int p0), (2, .int p1), (3, .ref (ad 56))] := hl
  refine lv_aload_n hx hb dw_axle_0 rfl (lv_at hl 3 rfl) ?_
  refine lv_iconst (v := 0) hx hb dw_axle_1 (by decide) ?_
  refine lv_aload_n hx hb dw_axle_2 rfl (lv_at hl 0 rfl) ?_
  refine lv_iload_n hx hb dw_axle_3 rfl (lv_at hl 1 rfl) ?_
  refine lv_iload_n hx hb dw_axle_4 rfl (lv_at hl 2 rfl) ?_
  obtain ⟨rr, hrow⟩ := row_ax
  obtain ⟨hj, w1, w2, w3, w4, w5⟩ := lV_ok hrow
  obtain ⟨m1, m2, m3, m4, m5, m6⟩ := zM_ok hj
  have hPre : ∀ U : State, U.heap = s.heap → s.WarmedH U.vm → (fun a U => zPc dC dI dA ad (mk np M L) s.heap.size [.ref 0, .int p0, .int p1] a U ∧ xH (va_A (zw dA ad (mk np M L)) s.heap.size) sa U U.heap) (Value.ref (ad 0) :: [.int p0, .int p1]).toArray U := fun U hU hW => ⟨⟨rfl, by rw [hU], by rw [hU]; exact hP, va_K.moved hW.alike hK, hD.weaken (fun _ _ _ _ => trivial), zX.warm hW hX⟩, by rw [hU]; exact xH.warm hW hH⟩
  have hrun := vx_runV (p := p) (e := e) (below := below) (meth := meth) (locs := []) (cells := 0) (slots := 0) (R := zrm (d + 1) 1 6) (H := s.heap) (As := [.int p0, .int p1]) (rest := [.int 0, .ref (ad 56)]) (b := ad 0) (g := F0 m 5 ls [.int p1, .int p0, .ref (ad 0), .int 0, .ref (ad 56)]) (Ts := ws_la) (own := R_law) (C := (zY mX5_axle).cls) (index := 7) (n := zN mX5_axle) (cc := cL_axle) (nL := 5) ⟨hx, hb, hml, hown, hts⟩ (c_axT l hlt hd (Nat.le_of_ble_eq_true rfl) hE dC dI dA ad s.heap.size sa had)
    (cwV (zN mX5_axle) hts (lc_gts (fun w h => List.mem_cons_of_mem _ h) ?_) rfl rfl rfl ⟨rfl, m3, m4, m5⟩ ⟨Nat.le_refl _, ?_⟩) ⟨fun a U g mk q => ⟨zPc_blind a U g mk q.1, xH.warm (s := U) (State.WarmedH.refl U) q.2⟩, ?_, hPre⟩ rfl rfl hl.1 rfl (lv_room (Nat.le_of_ble_eq_true rfl)) dw_axle_5 ⟨Nat.le_refl _, Nat.le_refl _⟩
  · intro T hT X
    rcases hrun T hT X with ⟨v, st₀, t, T', L', h0, X', hL, e1, e2, hq, st⟩ | ⟨q, st₀, t, T', L', E, ce, h0, X', hL, e1, e2, ⟨rfl, hPx, hFx⟩, hce, hcv, hcl, st⟩
    · exact hq.elim
    · have hSx : va_S (va_A (zw dA ad (mk np M L)) s.heap.size) s.heap T'.heap L' := ⟨by rw [e1, ← h0]; exact hFx.1, fun q h1 h2 => by rw [e1, hFx.2 q (by rw [h0]; exact h1) h2, h0], hL⟩
      have hPx' : va_P (dC, dI) zCl (zw dA ad (mk np M L)) T'.heap := by rw [e1]; exact hPx
      have hcat : vx_W p l e (zrm (d + 1) 1 6) s m [.ref (ad 0), .int p0, .int p1, .ref (ad 56)].toArray below meth c T'.heap L' (0 + 1) (0 + 6) (MQ below (qLA dC dI dA ad (mk np M L) (mk np M L) s.heap.size 1) [.ref (ad 0), .int p0, .int p1, .ref (ad 56)].toArray s 1 6 (va_A (zw dA ad (mk np M L)) s.heap.size)) (F0 m 5 ls [.int 0, .ref (ad 56)]) q := by
        refine vx_catch (E := sAE) (name := sAE) (ce := ce) hown [] xEn [] htab (fun z hz => nomatch hz) rfl (by decide) (hts _ (List.mem_cons_of_mem _ wx_13)) (va_Nw.use rfl (hH.1 _ (by unfold xB; exact List.mem_cons_self))) (by rw [e1]; exact hce) hcv hcl ?_
        refine lv_astore (lv' := [(4, .ref q), (0, .ref (ad 0)), (1, .int p0), (2, .int p1), (3, .ref (ad 56))]) hx hb dw_axle_12 hl (by decide) rfl (fun ls hl => ?_)
        refine lv_iconst (v := 1) hx hb dw_axle_14 (by decide) ?_
        exact W.iret (v := 1) hx hb hr (fun t ht hW => ⟨rfl, by rw [ht]; exact hPx', hD, hSx.F ht⟩) hSx.2.2 dw_axle_15
      obtain ⟨t2, a1, b1⟩ := hcat T' rfl X'
      exact ⟨t2, st.trans a1, b1⟩
  · intro w hw
    unfold wsV at hw
    rcases List.mem_append.mp hw with hw | hw
    · simp only [List.mem_cons, List.not_mem_nil, or_false] at hw
      rcases hw with rfl | rfl | rfl | rfl
      · exact w1
      · exact w2
      · exact w3
      · exact w4
    · rcases List.mem_cons.mp hw with rfl | hw
      · exact w5
      · exact hw
  · show 8 + (zL mX5_axle + 11) + 40 * (d + 1) ≤ 40 * (d + 1 + 1)
    have : zL mX5_axle = 11 := rfl
    omega
  · exact va_recv hK hP (ci := 5) (q0 := 0) rfl (zw_get (c := .inr (5, [.ref 1, .ref 2, .int (M 0 2), .ref 3, .ref 11, .int (M 0 5)])) lw_cl)
end LA
