-- lk: 64
/-! ===== LoadSpace.axle where it throws ===== -/
def sAE : String := "java/lang/ArithmeticException"
def sNm : List String := ["java/lang/RuntimeException", "java/lang/Exception"]
def iS_ (c : String) : MethodName := ⟨c, "<init>", "(Ljava/lang/String;)V"⟩
def xB : List Cond := [.castable sAE sAE, .declares (iS_ "java/lang/RuntimeException"), .declares (iS_ "java/lang/Exception"), .declares (iS_ "java/lang/Throwable")]
/-- what a throw needs of the machine -/
def xH (A : Nat → Prop) (sa : Nat) (U : State) (H : Heap) : Prop := (∀ w ∈ xB, va_Nw w U) ∧ vk_R "LoadSpace" 138 "nothing is in the packing" sa U ∧ vx_Zq Bundle.tN "UNASSIGNED_STACK" Bundle.steD A U H ∧ vx_Zq Bundle.tN "SUPPRESSED_SENTINEL" Bundle.listD A U H
theorem xH.warm {A : Nat → Prop} {sa : Nat} {s U : State} {H : Heap} (hW : s.WarmedH U.vm) (h : xH A sa s H) : xH A sa U H := by
  refine ⟨fun w hw => ?_, vk_R.warm hW h.2.1, vx_Zq.moved hW.alike h.2.2.1, vx_Zq.moved hW.alike h.2.2.2⟩
  have h1 := h.1 w hw
  unfold xB at hw
  simp only [List.mem_cons, List.not_mem_nil, or_false] at hw
  rcases hw with rfl | rfl | rfl | rfl
  · exact va_Nw.warmC hW h1
  · exact va_Nw.warmD hW h1
  · exact va_Nw.warmD hW h1
  · exact va_Nw.warmD hW h1
theorem xH.kept {A : Nat → Prop} {sa : Nat} {U : State} {H H1 : Heap} (h : xH A sa U H) (hq : ∀ a : Nat, a < H.size → ¬ A a → H1[a]? = H[a]?) : xH A sa U H1 := ⟨h.1, h.2.1, h.2.2.1.kept hq, h.2.2.2.kept hq⟩
theorem xH.narrow {A B : Nat → Prop} {sa : Nat} {U : State} {H : Heap} (h : xH A sa U H) (hAB : ∀ q, B q → A q) : xH B sa U H := ⟨h.1, h.2.1, h.2.2.1.narrow hAB, h.2.2.2.narrow hAB⟩
theorem xat_good : ∀ w ∈ (vx_atS "LoadSpace" 140 sAE sNm).filter goodWord, w ∈ lw_tbl := by decide +kernel
theorem xat_bad : ∀ w ∈ (vx_atS "LoadSpace" 140 sAE sNm).filter (fun w => !goodWord w), w ∈ xB := by decide +kernel
theorem xat_ot : ∀ w ∈ Cond.classLink "LoadSpace" 136 sAE :: Cond.initialized sAE :: vx_atS "LoadSpace" 140 sAE sNm, vx_ot w = true := by decide +kernel
theorem dx_50 : decode (zB mX5_axle) 50 = .ok (.new 136, 3) := by decide +kernel
theorem dx_53 : decode (zB mX5_axle) (50 + 3) = .ok (.dup, 1) := by decide +kernel
theorem dx_54 : decode (zB mX5_axle) (50 + 4) = .ok (.ldc 138, 2) := by decide +kernel
theorem dx_56 : decode (zB mX5_axle) (50 + 6) = .ok (.invokespecial 140, 3) := by decide +kernel
theorem dx_59 : decode (zB mX5_axle) (50 + 9) = .ok (.athrow, 1) := by decide +kernel
theorem wx_1 : Cond.classLink "LoadSpace" 136 sAE ∈ zG := zG_at (p := 488) (by decide +kernel) (by decide +kernel)
theorem wx_2 : Cond.initialized sAE ∈ zG := zG_at (p := 36) (by decide +kernel) (by decide +kernel)
def XA (dC : Nat → ClassId) (dI : Nat → Nat → Nat) (dA : Nat → ClassId) (ad : Nat → Nat) (hp : zHp) (sz : Nat) : String → State → State → Prop := fun E st t => E = sAE ∧ va_P (dC, dI) zCl (zw dA ad hp) t.heap ∧ va_F (va_A (zw dA ad hp) sz) st t
set_option maxHeartbeats 4000000 in
theorem c_axT (l : Launch) (hl : l.stackTraces = false) {d : Nat} {hp : zHp} {vs : List Value} (hd : 5 ≤ d) (hvs : (zent0 vs).length ≤ zL mX5_axle) (hE : Ev d mX5_axle 0 (zent mX5_axle vs) [] hp (fun x => x.1 = 50 ∧ x.2.2.1 = [] ∧ x.2.2.2 = hp)) (dC : Nat → ClassId) (dI : Nat → Nat → Nat) (dA : Nat → ClassId) (ad : Nat → Nat) (sz sa : Nat) (had : ∀ j, ad (hp.length + j) = sz + j) :
    vx_Met l (zY mX5_axle) (zws mX5_axle) (zrm d 1 6) (fun a U => zPc dC dI dA ad hp sz vs a U ∧ xH (va_A (zw dA ad hp) sz) sa U U.heap) (fun _ _ _ _ => False) (XA dC dI dA ad hp sz) 1 6 (va_A (zw dA ad hp) sz) := by
  obtain ⟨n, x, hgo, hx1, hx2, hx3⟩ := hE
  obtain ⟨m1, m2, m3, m4, m5, m6⟩ := zM_ok (show mX5_axle < 102 by decide)
  refine vx_ofW (cc := zB mX5_axle) (maxL := zL mX5_axle) (ret := zR mX5_axle) m2 rfl ?_
  intro p e s m args below meth c s₁ B hml htab hv
  obtain ⟨⟨rfl, hsz, hP, hK, hD0, hX⟩, hH⟩ := hv
  subst hsz
  have hts := atoms_spec (ws := zws mX5_axle) B.pre
  have hown : s.vm.findClass (zY mX5_axle).cls = some m.cls := findClass_of_methodNamed B.named
  rw [m1] at hown
  have CX : zCx p s m (vs.map (zv ad)).toArray meth c mX5_axle dC dI dA := ⟨B.exec, B.bytes, hml, hown, hts, B.returns, B.notSynchronized, (name_of_methodNamed B.named B.method).1, hK, hX⟩
  have hF : zFx s dA ad (va_A (zw dA ad hp) s.heap.size) hp.length := by
    refine ⟨had, fun q hq => Or.inr hq, fun q hq hlt => ?_⟩
    rcases hq with ⟨k, x9, hk⟩ | hq
    · obtain ⟨c9, h1, h2⟩ := zw_got hk
      have h3 : q = ad k := congrArg Prod.fst h2
      exact ⟨k, (List.getElem?_eq_some_iff.mp h1).1, h3⟩
    · omega
  have hI : zIn dC dI dA ad (va_A (zw dA ad hp) s.heap.size) s hp.length (zhs hp) hp s.heap [] 0 0 := ⟨hP, hD0.self, va_S.rf, rfl, rfl, rfl⟩
  rw [lg_entry_eq]
  refine zWL_all n d mX5_axle 0 (zent mX5_axle vs) [] hp x hgo p l e _ s m _ below meth c _ dC dI dA ad (va_A (zw dA ad hp) s.heap.size) hp.length (zhs hp) CX hF (Nat.le_refl _) (Nat.le_refl _) (by rw [hx3]; omega) (by rw [hx3]; omega) ?_ s.heap [] 0 0 _ hI (zHl_entry hvs)
  intro H locs cells slots arr hI1 hL1
  obtain ⟨hP1, hD1, hS1, hz4, hz5, hz6⟩ := hI1
  rw [hx3] at hz5 hz6
  obtain rfl : cells = 0 := by omega
  obtain rfl : slots = 0 := by omega
  rw [hx1, hx2]
  have hhat : ∀ w ∈ vx_atS "LoadSpace" 140 sAE sNm, w.before (vs.map (zv ad)).toArray s = true := vx_hat (B := xB) (fun w hw => hts w (List.mem_cons_of_mem _ (List.mem_filter.mpr ⟨xat_good w hw, (List.mem_filter.mp hw).2⟩))) xat_bad (fun w hw => va_Nw.use (by
    unfold xB at hw
    simp only [List.mem_cons, List.not_mem_nil, or_false] at hw
    rcases hw with rfl | rfl | rfl | rfl <;> rfl) (hH.1 w hw))
  refine vx_throwS (A := va_A (zw dA ad hp) s.heap.size) (names := sNm) (own := "LoadSpace") (cls := sAE) (text := "nothing is in the packing") (sa := sa) B.exec B.bytes hl hown (by decide +kernel) (by decide +kernel) (hts _ (List.mem_cons_of_mem _ wx_1)) (hts _ (List.mem_cons_of_mem _ wx_2)) hH.2.1 hhat xat_ot hH.2.2.1 hH.2.2.2 hS1 (by rw [hml]; exact hL1.1) dx_50 dx_53 dx_54 dx_56 dx_59 (fun x hx => (htab x hx).elim) ?_ ?_ ?_ ?_ B.notSynchronized ?_ hS1.2.2 (Nat.le_refl _) (Nat.le_refl _)
  · show 2 + 3 < d + 1
    omega
  · show 0 + (13 * (2 + 1) + 43) ≤ 40 * (d + 1)
    omega
  · show 0 + 1 ≤ 1
    omega
  · show 0 + 6 ≤ 6
    omega
  · intro t hvm h1 h2
    rw [hx3] at hP1
    refine ⟨rfl, fun k q hq => (hP1 k q hq).kept (h2 q.1 (hP1 k q hq).lt), Nat.le_trans hS1.1 h1, fun q hq hA => ?_⟩
    rw [h2 q (Nat.lt_of_lt_of_le hq hS1.1)]
    exact hS1.2.1 q hq hA
