-- lk: 69
/-! ===== the law's start ===== -/

theorem ins_0 : Cond.instantiable RX0 1 ∈ zG := zG_at (p := 81) (by decide +kernel) (by decide +kernel)
theorem ini_0 : Cond.initialized RX0 ∈ zG := zG_at (p := 28) (by decide +kernel) (by decide +kernel)
theorem ins_1 : Cond.instantiable RX1 8 ∈ zG := zG_at (p := 214) (by decide +kernel) (by decide +kernel)
theorem ini_1 : Cond.initialized RX1 ∈ zG := zG_at (p := 32) (by decide +kernel) (by decide +kernel)
theorem ins_2 : Cond.instantiable RX2 11 ∈ zG := zG_at (p := 88) (by decide +kernel) (by decide +kernel)
theorem ini_2 : Cond.initialized RX2 ∈ zG := zG_at (p := 29) (by decide +kernel) (by decide +kernel)
theorem ins_3 : Cond.instantiable RX3 9 ∈ zG := zG_at (p := 147) (by decide +kernel) (by decide +kernel)
theorem ini_3 : Cond.initialized RX3 ∈ zG := zG_at (p := 30) (by decide +kernel) (by decide +kernel)
theorem ins_4 : Cond.instantiable RX4 3 ∈ zG := zG_at (p := 46) (by decide +kernel) (by decide +kernel)
theorem ini_4 : Cond.initialized RX4 ∈ zG := zG_at (p := 26) (by decide +kernel) (by decide +kernel)
theorem ins_5 : Cond.instantiable RX5 6 ∈ zG := zG_at (p := 38) (by decide +kernel) (by decide +kernel)
theorem ini_5 : Cond.initialized RX5 ∈ zG := zG_at (p := 25) (by decide +kernel) (by decide +kernel)
theorem ins_6 : Cond.instantiable RX6 45 ∈ zG := zG_at (p := 562) (by decide +kernel) (by decide +kernel)
theorem ini_6 : Cond.initialized RX6 ∈ zG := zG_at (p := 31) (by decide +kernel) (by decide +kernel)
theorem cl_5 : Cond.classLink R_law 8 RX5 ∈ zG := zG_at (p := 37) (by decide +kernel) (by decide +kernel)
theorem cl_6 : Cond.classLink R_law 24 RX6 ∈ zG := zG_at (p := 561) (by decide +kernel) (by decide +kernel)
theorem st_K {args : Array Value} {s : State} (hts : ∀ w ∈ lw_tbl, w.before args s = true) : ∃ (dC : Nat → ClassId) (dI : Nat → Nat → Nat) (dA : Nat → ClassId), va_K (dC, dI) zCl (zty dA) s ∧ zX s := by
  have hG : ∀ w ∈ zG, w.before args s = true := fun w hw => hts w (List.mem_filter.mp hw).1
  have hk : ∀ k : Nat, ∃ x : ClassId × (Nat → Nat), ∀ q, zCl[k]? = some q → u_Kn s q.1 q.2.1 q.2.2 x.1 x.2 := by
    intro k
    cases hq : zCl[k]? with
    | none => exact ⟨(0, fun _ => 0), fun q h => by cases h⟩
    | some q =>
      have hi : Cond.instantiable q.1 q.2.2 ∈ zG := by
        match k, hq with
        | 0, hq => cases hq; exact ins_0
        | 1, hq => cases hq; exact ins_1
        | 2, hq => cases hq; exact ins_2
        | 3, hq => cases hq; exact ins_3
        | 4, hq => cases hq; exact ins_4
        | 5, hq => cases hq; exact ins_5
        | 6, hq => cases hq; exact ins_6
        | k + 7, hq => exact absurd (List.getElem?_eq_some_iff.mp hq).1 (by show ¬ k + 7 < 7; omega)
      obtain ⟨c, i, h⟩ := u_known hG (zU_ok hq) (hG _ hi)
      exact ⟨(c, i), fun q' h' => by cases h'; exact h⟩
  obtain ⟨f, hf⟩ := Classical.axiomOfChoice hk
  have pr : ∀ ty : FieldType, Cond.arrayClass ty ∈ zG → (∀ C, ty ≠ .object C) → ∃ cA, ArrOfT s cA ty ∧ va_RA s cA ty := by
    intro ty hw hn
    obtain ⟨c, k, comp, h1, h2, h3⟩ := Cond.arrayClass_spec (hG _ hw)
    refine ⟨c, fun N z => ⟨(fun k h => by cases h), k, h2, comp, h3⟩, ?_⟩
    cases ty with
    | object C => exact absurd rfl (hn C)
    | _ => exact h1
  have ob : ∀ C : String, Cond.arrayOver (.object C) ∈ lw_tbl → ∃ cA, ArrOfT s cA (.object C) ∧ va_RA s cA (.object C) := by
    intro C hw
    obtain ⟨comp, c, k, h1, h2, h3, h4, h5⟩ := Cond.arrayOver_spec (hts _ hw)
    exact ⟨c, fun N z => ⟨(fun k h => by cases h), k, h3, comp, h4⟩, k, comp, h3, h4, h1, h5⟩
  obtain ⟨c0, a0⟩ := pr .int zac_i (fun C h => by cases h)
  obtain ⟨c1, a1⟩ := pr .boolean zac_z (fun C h => by cases h)
  obtain ⟨c2, a2⟩ := pr .long zac_l (fun C h => by cases h)
  obtain ⟨c3, a3⟩ := ob RX1 (List.mem_of_getElem? (i := 79) (by decide +kernel))
  obtain ⟨c4, a4⟩ := ob RX2 (List.mem_of_getElem? (i := 87) (by decide +kernel))
  refine ⟨fun k => (f k).1, fun k => (f k).2, fun t => match t with | 0 => c0 | 1 => c1 | 2 => c2 | 3 => c3 | _ => c4, ⟨fun k q hq => hf k q hq, fun k q hq => ?_⟩, ?_, ?_⟩
  · match k, hq with
    | 0, hq => cases hq; exact a0
    | 1, hq => cases hq; exact a1
    | 2, hq => cases hq; exact a2
    | 3, hq => cases hq; exact a3
    | 4, hq => cases hq; exact a4
    | k + 5, hq => exact absurd (List.getElem?_eq_some_iff.mp hq).1 (by show ¬ k + 5 < 5; omega)
  · intro c idx mj hs r hr
    obtain ⟨_, _, _, hw, _⟩ := zW_ok hr
    exact va_Nw.of rfl (hts _ hw)
  · intro c idx t ci r q hr hq
    obtain ⟨q', hq', _, _, hw⟩ := zA_ok hr
    cases Option.some.inj (hq.symm.trans hq')
    exact va_AO.of (hts _ hw)
theorem st_H {b : Nat} {s : State} (hts : ∀ w ∈ lw_tbl, w.before #[Value.ref b] s = true) (hgv : (Jvm.Cond.and given_1 narrow_1).before #[Value.ref b] s = true) : ∃ sa, xH (fun q : Nat => s.heap.size ≤ q) sa s s.heap := by
  have hs := flat_of_before _ hgv
  have h1 : (Cond.isRef (.static Bundle.tN "UNASSIGNED_STACK" Bundle.steD)).before #[Value.ref b] s = true := hs _ (by decide +kernel)
  have h2 : (Cond.isRef (.static Bundle.tN "SUPPRESSED_SENTINEL" Bundle.listD)).before #[Value.ref b] s = true := hs _ (by decide +kernel)
  have h3 : (Cond.exactly (.string "LoadSpace" 138) "java/lang/String").before #[Value.ref b] s = true := hs _ (by decide +kernel)
  obtain ⟨sa, c9, cell9, k9, he, -⟩ := Cond.exactly_spec h3
  refine ⟨sa, fun w hw => ?_, vk_R.of (A := #[Value.ref b]) (hts _ (List.mem_of_getElem? (i := 527) (by decide +kernel))) he, vx_Zqof (hts _ (List.mem_of_getElem? (i := 515) (by decide +kernel))) (hts _ (List.mem_of_getElem? (i := 33) (by decide +kernel))) h1 (fun a h => Nat.not_le.mpr h), vx_Zqof (hts _ (List.mem_of_getElem? (i := 517) (by decide +kernel))) (hts _ (List.mem_of_getElem? (i := 33) (by decide +kernel))) h2 (fun a h => Nat.not_le.mpr h)⟩
  have hm : w ∈ lw_tbl := by
    have : ∀ w ∈ xB, w ∈ lw_tbl := by decide +kernel
    exact this w hw
  unfold xB at hw
  simp only [List.mem_cons, List.not_mem_nil, or_false] at hw
  rcases hw with rfl | rfl | rfl | rfl
  · exact va_Nw.of rfl (hts _ hm)
  · exact va_Nw.of rfl (hts _ hm)
  · exact va_Nw.of rfl (hts _ hm)
  · exact va_Nw.of rfl (hts _ hm)

set_option maxHeartbeats 40000000 in
set_option maxRecDepth 100000 in
theorem whole_start {p : Program} {e : Env} {s : State} {m : MethodId} {below : List Frame} {meth : Method} {c : Code} (l : Launch) (hlt : l.stackTraces = false) {b L : Nat} {xs : Nat → Int32} (hL : L ≤ 2563) (C0 : lw_At p s m meth c b L xs) : W p l e room_1 s m #[Value.ref b] below meth c s.heap [] 0 0 (lw_Z below #[Value.ref b] s) (entryFrame m ([Value.ref b] : List Value).toArray 8) := by
  have C1 := C0
  obtain ⟨hx, hb, hr, hml, hown, hts, hXs, hbl, hlocks, hgv⟩ := C0
  have CF : CallFix p m c code 8 s #[Value.ref b] lw_tbl R_law := ⟨hx, hb, hml, hown, hts⟩
  obtain ⟨dC, dI, dA, hK, hX⟩ := st_K hts
  obtain ⟨sa, hH⟩ := st_H hts hgv
  have hA : ∀ q : Nat, s.heap.size ≤ q → (fun q : Nat => s.heap.size ≤ q) q := fun _ h => h
  have hbA : ¬ (fun q : Nat => s.heap.size ≤ q) b := Nat.not_le.mpr hbl
  obtain ⟨ad, had⟩ : ∃ ad : Nat → Nat, ∀ j, ad j = s.heap.size + j := ⟨fun j => s.heap.size + j, fun _ => rfl⟩
  have hF : zFx s dA ad (fun q : Nat => s.heap.size ≤ q) 0 := ⟨fun j => by rw [Nat.zero_add]; exact had j, fun q h => h, fun q h h2 => absurd h2 (Nat.not_lt.mpr h)⟩
  have hI : zIn dC dI dA ad (fun q : Nat => s.heap.size ≤ q) s 0 0 [] s.heap [] 0 0 := ⟨fun k q h => by simp [zw] at h, ⟨fun i j p q h => by simp [zw] at h, fun k q h => by simp [zw] at h⟩, va_S.rf, rfl, rfl, rfl⟩
  have hl := lv_entry ([.ref b]) (n := 8) (Nat.le_of_ble_eq_true rfl)
  rw [lg_entry_eq]
  generalize (lg_sl ([.ref b]) ++ List.replicate (8 - (lg_sl ([.ref b])).length) Slot.unset).toArray = ls at hl ⊢
  have hl : lv_has ls 8 [(0, .ref b)] := hl
  have hadj : ∀ {hp : zHp} {H : Heap} {locs : List Loc} {cells slots : Nat}, zIn dC dI dA ad (fun q : Nat => s.heap.size ≤ q) s 0 0 hp H locs cells slots → ∀ j, ad (hp.length + j) = H.size + j := fun {hp H locs cells slots} h j => by rw [had, h.2.2.2.1, h.2.2.2.2.1]; omega
  have hcell : ∀ {hp : zHp} {H : Heap} {locs locs' : List Loc} {cells slots : Nat}, zIn dC dI dA ad (fun q : Nat => s.heap.size ≤ q) s 0 0 hp H locs cells slots → va_S (fun q : Nat => s.heap.size ≤ q) s.heap H locs' → zIn dC dI dA ad (fun q : Nat => s.heap.size ≤ q) s 0 0 hp H locs' cells slots := fun {hp H locs locs' cells slots} h hS => ⟨h.1, h.2.1, hS, h.2.2.2⟩
  refine lc_new (idx := 8) (ci := 5) (fs := DF5) rfl rfl cl_5 ins_5 ini_5 CF hK hF hI (by show 0 + 1 ≤ 601024; omega) (by show 0 + 6 ≤ 7293000; omega) dw_0 (fun H hI => ?_)
  show W p l e room_1 s m #[Value.ref b] below meth c H [] 1 6 (lw_Z below #[Value.ref b] s) (F0 m 3 ls [.ref (ad 0)])
  have hI : zIn dC dI dA ad (fun q : Nat => s.heap.size ≤ q) s 0 0 [.inr (5, DF5)] H [] 1 6 := hI
  refine lv_dup hx hb dw_3 rfl ?_
  refine lv_aload_n hx hb dw_4 rfl (lv_at hl 0 rfl) ?_
  refine lv_iconst (v := nI 0) hx hb dw_5 (by decide) ?_
  refine lc_cell (k := 0) (rest := [.ref (ad 0), .ref (ad 0)]) (by omega) hL CF hXs hbl hbA hI.2.2.1 hl.1 (Nat.le_of_ble_eq_true rfl) dw_6 (by show 2 ≤ 2048; omega) (by show 80 ≤ 84000; omega) (by show _ ≤ 601024; omega) (by show _ ≤ 7293000; omega) hI.2.2.2.1 (fun locs hS => ?_)
  have hI := hcell hI hS
  refine lv_aload_n hx hb dw_9 rfl (lv_at hl 0 rfl) ?_
  refine lv_iconst (v := nI 1) hx hb dw_10 (by decide) ?_
  refine lc_cell (k := 1) (rest := [.int (cv xs L 0), .ref (ad 0), .ref (ad 0)]) (by omega) hL CF hXs hbl hbA hI.2.2.1 hl.1 (Nat.le_of_ble_eq_true rfl) dw_11 (by show 2 ≤ 2048; omega) (by show 80 ≤ 84000; omega) (by show _ ≤ 601024; omega) (by show _ ≤ 7293000; omega) hI.2.2.2.1 (fun locs hS => ?_)
  have hI := hcell hI hS
  refine lv_aload_n hx hb dw_14 rfl (lv_at hl 0 rfl) ?_
  refine lv_iconst (v := nI 2) hx hb dw_15 (by decide) ?_
  refine lc_cell (k := 2) (rest := [.int (cv xs L 1), .int (cv xs L 0), .ref (ad 0), .ref (ad 0)]) (by omega) hL CF hXs hbl hbA hI.2.2.1 hl.1 (Nat.le_of_ble_eq_true rfl) dw_16 (by show 2 ≤ 2048; omega) (by show 80 ≤ 84000; omega) (by show _ ≤ 601024; omega) (by show _ ≤ 7293000; omega) hI.2.2.2.1 (fun locs hS => ?_)
  have hI := hcell hI hS
  refine lc_I (vs := [.int (cv xs L 0), .int (cv xs L 1), .int (cv xs L 2)]) (rest := [.ref (ad 0)]) (h := 0) (hp1 := iniC (cv xs L 0) (cv xs L 1) (cv xs L 2)) (show (21, mX5_init, _) ∈ lawI from List.mem_of_getElem? (i := 0) rfl) hA CF hK hX hI.1 hI.2.1 hI.2.2.1 (hadj hI) (rn_lsinit 0) rfl (Nat.le_of_ble_eq_true rfl) hl.1 (Nat.le_of_ble_eq_true rfl) dw_19 (by show 5 ≤ 2048; omega) (by show 200 ≤ 84000; omega) (by rw [iniC_len]; show 1 + (21 - 1) ≤ 601024; omega) (by rw [iniC_hs]; show 6 + (314 - 6) ≤ 7293000; omega) (fun H1 locs1 hP1 hD1 hS1 hz1 => ?_)
  rw [iniC_len, iniC_hs]
  rw [iniC_len] at hz1
  show W p l e room_1 s m #[Value.ref b] below meth c H1 locs1 21 314 (lw_Z below #[Value.ref b] s) (F0 m 22 ls [.ref (ad 0)])
  have hI : zIn dC dI dA ad (fun q : Nat => s.heap.size ≤ q) s 0 0 (iniC (cv xs L 0) (cv xs L 1) (cv xs L 2)) H1 locs1 21 314 := ⟨hP1, hD1, hS1, by rw [hz1, hI.2.2.2.1, Nat.add_assoc]; rfl, by rw [iniC_len], by rw [iniC_hs]⟩
  refine lv_astore_n (lv' := [(1, .ref (ad 0)), (0, .ref b)]) hx hb dw_22 rfl hl (by decide) rfl (fun ls hl => ?_)
  refine lc_new (idx := 24) (ci := 6) (fs := DF6) rfl rfl cl_6 ins_6 ini_6 CF hK hF hI (by show 21 + 1 ≤ 601024; omega) (by show 314 + 45 ≤ 7293000; omega) dw_23 (fun H hI => ?_)
  rw [iniC_len]
  show W p l e room_1 s m #[Value.ref b] below meth c H locs1 22 359 (lw_Z below #[Value.ref b] s) (F0 m 26 ls [.ref (ad 21)])
  have hI : zIn dC dI dA ad (fun q : Nat => s.heap.size ≤ q) s 0 0 (iniC (cv xs L 0) (cv xs L 1) (cv xs L 2) ++ [.inr (6, DF6)]) H locs1 22 359 := hI
  have eL : (iniC (cv xs L 0) (cv xs L 1) (cv xs L 2) ++ [.inr (6, DF6)] : zHp).length = 22 := by rw [List.length_append, iniC_len]; rfl
  have eS : zhs (iniC (cv xs L 0) (cv xs L 1) (cv xs L 2) ++ [.inr (6, DF6)]) = 359 := by rw [zhs_push, iniC_hs]; rfl
  refine lv_dup hx hb dw_26 rfl ?_
  refine lv_aload_n hx hb dw_27 rfl (lv_at hl 1 rfl) ?_
  refine lv_iconst (v := nI 0) hx hb dw_28 (by decide) ?_
  refine lc_cell (k := 0) (rest := [.ref (ad 21), .ref (ad 21)]) (by omega) hL CF hXs hbl hbA hI.2.2.1 hl.1 (Nat.le_of_ble_eq_true rfl) dw_29 (by show 2 ≤ 2048; omega) (by show 80 ≤ 84000; omega) (by show _ ≤ 601024; omega) (by show _ ≤ 7293000; omega) hI.2.2.2.1 (fun locs hS => ?_)
  have hI := hcell hI hS
  refine lv_aload_n hx hb dw_32 rfl (lv_at hl 1 rfl) ?_
  refine lv_iconst (v := nI 1) hx hb dw_33 (by decide) ?_
  refine lc_cell (k := 1) (rest := [.int (cv xs L 0), .ref (ad 21), .ref (ad 21)]) (by omega) hL CF hXs hbl hbA hI.2.2.1 hl.1 (Nat.le_of_ble_eq_true rfl) dw_34 (by show 2 ≤ 2048; omega) (by show 80 ≤ 84000; omega) (by show _ ≤ 601024; omega) (by show _ ≤ 7293000; omega) hI.2.2.2.1 (fun locs hS => ?_)
  have hI := hcell hI hS
  refine lv_aload_n hx hb dw_37 rfl (lv_at hl 1 rfl) ?_
  refine lv_iconst (v := nI 2) hx hb dw_38 (by decide) ?_
  refine lc_cell (k := 2) (rest := [.int (cv xs L 1), .int (cv xs L 0), .ref (ad 21), .ref (ad 21)]) (by omega) hL CF hXs hbl hbA hI.2.2.1 hl.1 (Nat.le_of_ble_eq_true rfl) dw_39 (by show 2 ≤ 2048; omega) (by show 80 ≤ 84000; omega) (by show _ ≤ 601024; omega) (by show _ ≤ 7293000; omega) hI.2.2.2.1 (fun locs hS => ?_)
  have hI := hcell hI hS
  refine lc_I (vs := [.int (cv xs L 0), .int (cv xs L 1), .int (cv xs L 2)]) (rest := [.ref (ad 21)]) (h := 21) (hp1 := iniM (iniC (cv xs L 0) (cv xs L 1) (cv xs L 2)) (cv xs L 0) (cv xs L 1) (cv xs L 2)) (show (26, mX6_init, _) ∈ lawI from List.mem_of_getElem? (i := 1) rfl) hA CF hK hX hI.1 hI.2.1 hI.2.2.1 (hadj hI) (rn_minit2 0) rfl (Nat.le_of_ble_eq_true rfl) hl.1 (Nat.le_of_ble_eq_true rfl) dw_42 (by show 3 ≤ 2048; omega) (by show 120 ≤ 84000; omega) (by rw [iniM_len, iniC_len, eL]; show 22 + (21 + 35 - 22) ≤ 601024; omega) (by rw [iniM_hs, iniC_hs, eS]; show 359 + (314 + 387 - 359) ≤ 7293000; omega) (fun H1 locs1 hP1 hD1 hS1 hz1 => ?_)
  rw [iniM_len, iniM_hs, iniC_len, iniC_hs, eL, eS]
  rw [iniM_len, iniC_len, eL] at hz1
  show W p l e room_1 s m #[Value.ref b] below meth c H1 locs1 56 701 (lw_Z below #[Value.ref b] s) (F0 m 45 ls [.ref (ad 21)])
  have hI : zIn dC dI dA ad (fun q : Nat => s.heap.size ≤ q) s 0 0 (iniM (iniC (cv xs L 0) (cv xs L 1) (cv xs L 2)) (cv xs L 0) (cv xs L 1) (cv xs L 2)) H1 locs1 56 701 := ⟨hP1, hD1, hS1, by rw [hz1, hI.2.2.2.1, Nat.add_assoc], by rw [iniM_len, iniC_len], by rw [iniM_hs, iniC_hs]⟩
  refine lv_astore_n (lv' := [(2, .ref (ad 21)), (1, .ref (ad 0)), (0, .ref b)]) hx hb dw_45 rfl hl (by decide) rfl (fun ls hl => ?_)
  refine lv_iconst (v := 1) hx hb dw_46 (by decide) ?_
  refine lc_newL CF hK hF hI (by show 56 + 1 ≤ 601024; omega) (by show 701 + 1 ≤ 7293000; omega) dw_47 (fun H hI => ?_)
  rw [iniM_len, iniC_len]
  show W p l e room_1 s m #[Value.ref b] below meth c H locs1 57 702 (lw_Z below #[Value.ref b] s) (F0 m 49 ls [.ref (ad 56)])
  rw [ini_mk] at hI
  refine lv_astore_n (lv' := [(3, .ref (ad 56)), (2, .ref (ad 21)), (1, .ref (ad 0)), (0, .ref b)]) hx hb dw_49 rfl hl (by decide) rfl (fun ls hl => ?_)
  refine lv_iconst (v := 3) hx hb dw_50 (by decide) ?_
  refine lv_istore (lv' := [(4, .int 3), (3, .ref (ad 56)), (2, .ref (ad 21)), (1, .ref (ad 0)), (0, .ref b)]) hx hb dw_51 hl (by decide) rfl (fun ls hl => ?_)
  exact law_loop hL C1 hlt hK hX hH (L + 4) 3 (by omega) (by omega) 3 rfl 0 (M0 (cv xs L 0) (cv xs L 1) (cv xs L 2)) L0 ad 0 0 H _ _ _ (iv_0 _ _ _) hI.1 hI.2.1 hI.2.2.1 rfl (by have := hI.2.2.2.2.2; omega) (by omega) (by omega) ls (lv_sub hl [4, 3, 2, 1, 0] rfl)
set_option maxHeartbeats 4000000 in
theorem lw_walk (l : Launch) (hlt : l.stackTraces = false) (b : Addr) (xs : List Int32) : MetFree l x (headSpec (Jvm.Cond.code x code maxLocals ret :: tables_1) room_1) (lw_P b xs) (fun _ _ _ _ _ => True) lw_Q := by
  refine MetFree.of_bodyS (code := code) (maxLocals := maxLocals) (ret := ret) (by decide) ?_ ?_
  · intro args s m h hn
    obtain ⟨meth, c, h1, h2, h3, h4, h5, h6, -, -⟩ := Cond.code_spec hn (atoms_spec (ws := Jvm.Cond.code x code maxLocals ret :: tables_1) h _ List.mem_cons_self)
    exact ⟨meth, c, h1, h2, h3, h4, h5, h6⟩
  · intro p e s m args below meth c s₁ B hml0 hP _
    obtain ⟨rfl, hx, hbd, hgv⟩ := hP
    obtain ⟨scr, harrAt, hlist, hof, hsmall⟩ := hx
    obtain ⟨hcb, hkn, -, -⟩ := State.arrayAt?_spec harrAt
    have hown : s.vm.findClass R_law = some m.cls := findClass_of_methodNamed B.named
    have hts0 : ∀ c ∈ (Jvm.Cond.code x code maxLocals ret :: tables_1), c.before #[Value.ref b] s = true := atoms_spec (ws := Jvm.Cond.code x code maxLocals ret :: tables_1) B.pre
    have hts : ∀ w ∈ lw_tbl, w.before #[Value.ref b] s = true := k2_hts_sels lw_privs (fun w hw => hts0 w (List.mem_cons_of_mem _ hw)) lw_privs_ok
    have hml : c.maxLocals = 8 := B.maxLocals_eq (hts0 _ List.mem_cons_self)
    have X₀ : Stand p l e room_1 s m #[Value.ref b] below meth c s₁ [] 0 0 := Stand.of_body B
    have hh0 : s₁.heap = s.heap := by rw [B.state]; rfl
    have hsz : scr.slots.size = xs.length := by rw [← Array.length_toList, hlist, List.length_map]
    have hval : ∀ j : Nat, j < xs.length → scr.slots[j]? = some (.int (xs.getD j 0)) := fun j hj => by
      rw [← Array.getElem?_toList, hlist]
      simp [hj]
    have hbl : b < s.heap.size := (Array.getElem?_eq_some_iff.mp hcb).1
    have hX : va_X b xs.length (fun j => xs.getD j 0) s s.heap := ⟨scr, hcb, hof, hkn, hsz, hval⟩
    have K : W p l e room_1 s m #[Value.ref b] below meth c s₁.heap [] 0 0 (lw_Z below #[Value.ref b] s) (entryFrame m ([Value.ref b] : List Value).toArray 8) := by
      rw [hh0]
      exact whole_start l hlt hbd ⟨B.exec, B.bytes, B.returns, hml, hown, hts, hX, hbl, B.notSynchronized, hgv⟩
    obtain ⟨t, a1, o, b1, b2, b3⟩ := K s₁ rfl X₀
    exact ⟨t, o, a1, b1, b2, b3⟩
theorem lw_pre_spec {args : Array Value} {s : State} (h : (Jvm.Cond.and given_1 narrow_1).before args s = true) (hr : rest_1_c.before args s = true) : ∃ (b : Addr) (xs : List Int32), lw_P b xs args s := by
  have hs := flat_of_before _ h
  have hq := flat_of_before _ hr
  have hc : (Cond.count 1).before args s = true := hs _ (by decide +kernel)
  have harr : (Cond.arrayOf (.arg 0) .int).before args s = true := hs _ (by decide +kernel)
  have hle : (Cond.le (.length (.arg 0)) (.int 2563)).before args s = true := hs _ (by decide +kernel)
  have hlen : (Cond.isInt (.length (.arg 0))).before args s = true := hq _ (by decide +kernel)
  have hall : (Cond.all (.arg 0) (.isInt (.elem (.arg 0) (.index 0)))).before args s = true := hq _ (by decide +kernel)
  obtain ⟨b, xs, hb, hx⟩ := State.ints_of_pre rfl harr hlen hall
  have hsm : xs.length < 2 ^ 31 := hx.choose_spec.2.2.2
  have hev : (Term.length (.arg 0)).eval args s none [] s = some (.int xs.length.toInt32) := hx.length_eval hb
  have hv := Cond.le_ints hev (show (Term.int 2563).eval args s none [] s = some (.int 2563) from rfl)
  have hd : xs.length.toInt32 ≤ 2563 := by
    simpa [Cond.before, Cond.holds, hv] using hle
  have hN : xs.length ≤ 2563 := (Int32.ofNat_le_ofNat hsm (by decide)).mp (show Int32.ofNat xs.length ≤ Int32.ofNat 2563 from hd)
  exact ⟨b, xs, Cond.one_arg hc (show args[0]? = some (.ref b) from hb), hx, hN, h⟩
theorem lw_comes (l : Launch) (hlt : l.stackTraces = false) : Comes l x (Jvm.Cond.code x code maxLocals ret :: tables_1) room_1 (fun tb e args s => Calls_1 tb e args s ∧ rest_1 tb e args s ∧ Pre_1 tb e args s)
    (fun _ _ args s o t => lw_Q args s o t) := by
  intro p e ha hc hk s m args below hf hfit hheap happ hpre
  obtain ⟨b, xs, hP⟩ := lw_pre_spec hpre.2.2 hpre.2.1
  obtain ⟨k, o, h1, h2, h3, hQ⟩ := lw_walk l hlt b xs p e ha hc hk s m args below hf ((Spec.applies_iff_loose hf).mp happ).1 hP trivial
  exact ⟨k, o, h1, h2, h3, hQ⟩
theorem lw_frame {s t : State} {o : Outcome} {args : Array Value} (h : Framed s o t [] 601024 7293000) :
    Framed s o t (fieldLocs frame_1_writes args s ++ arrayLocs frame_1_arrays args s ++ staticLocs frame_1_statics s) 601024 7293000 := h
theorem lw_limb (L : Cond) (hL : ∀ (args : Array Value) (s t : State), L.after args s (.returned (some (.int 1))) t = true) :
    ArmFor flags0 classFile x code maxLocals ret World_1 tables_1 room_1 Calls_1 rest_1 Pre_1
      (fun tb e a s o t => postC L tb e a s o t ∧ Framed s o t (fieldLocs frame_1_writes a s ++ arrayLocs frame_1_arrays a s ++ staticLocs frame_1_statics s) 601024 7293000) := by
  intro l hfl _ _ p e ha hc hk s m args below hf hfit hheap happ hpre
  obtain ⟨k, o, h1, h2, h3, rfl, hF⟩ := lw_comes l (by unfold Launch.stackTraces; rw [hfl]; decide) p e ha hc hk s m args below hf hfit hheap happ hpre
  exact ⟨k, _, h1, h2, h3, hL args s _, lw_frame hF⟩
theorem i_vc : Claimed_1_1 ∧ Claimed_1_2 := ⟨lw_limb limb_1_1 (fun args s t => by simp [limb_1_1, Cond.after, Cond.holds, Cond.value]), lw_limb limb_1_2 (fun args s t => Cond.after_iff.mpr (by
  first | (rw [show limb_1_2 = Cond.eq .result (.int 1) from rfl, Cond.eq_ints (x := 1) (y := 1) rfl rfl]; simp; done) | (simp [limb_1_2, Cond.value, Term.eval]; done)))⟩

