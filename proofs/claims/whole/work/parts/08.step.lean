/-! ===== one instruction of the small machine is one of the machine ===== -/
def zty (dA : Nat → ClassId) : List (ClassId × FieldType) := zTY.mapIdx (fun t ty => (dA t, ty))
theorem zty_get {dA : Nat → ClassId} {t : Nat} {ty : FieldType} (h : zTY[t]? = some ty) : (zty dA)[t]? = some (dA t, ty) := by simp [zty, List.getElem?_mapIdx, h]
def zX (U : State) : Prop := (∀ (c idx mj : Nat) (hs : String) (r : Nat × Nat × Nat × Nat), zrow zWT c idx = some (mj, hs, r) → va_Nw (.methodLinkNest (zCN c) idx (zY mj) hs) U) ∧ ∀ (c idx t ci : Nat) (r : Nat × Nat) (q : vw_C), zrow zAT c idx = some (t, ci, r) → zCl[ci]? = some q → va_AO q.1 U
theorem zX.warm {s U : State} (hW : s.WarmedH U.vm) (h : zX s) : zX U := ⟨fun c idx mj hs r hr => va_Nw.warmM hW (h.1 c idx mj hs r hr), fun c idx t ci r q hr hq => va_AO.moved hW.alike (h.2 c idx t ci r q hr hq)⟩
def zws (mi : Nat) : List Cond := .code (zY mi) (zB mi) (zL mi) (zR mi) :: zG
/-- what holds of the machine in the body of method mi -/
def zCx (p : Program) (s : State) (m : MethodId) (args : Array Value) (meth : Method) (c : Code) (mi : Nat) (dC : Nat → ClassId) (dI : Nat → Nat → Nat) (dA : Nat → ClassId) : Prop :=
  p.tables.exec = Jvm.exec ∧ c.code = zB mi ∧ c.maxLocals = zL mi ∧ s.vm.findClass (zCN (zC mi)) = some m.cls ∧ (∀ w ∈ zws mi, w.before args s = true) ∧ meth.sig.returnType = zR mi ∧ meth.locks = false ∧ meth.name = (zY mi).name ∧ va_K (dC, dI) zCl (zty dA) s ∧ zX s
/-- the fixed of a body: where handles lie -/
def zFx (s : State) (dA : Nat → ClassId) (ad : Nat → Nat) (A : Nat → Prop) (n0 : Nat) : Prop :=
  (∀ j, ad (n0 + j) = s.heap.size + j) ∧ (∀ q, s.heap.size ≤ q → A q) ∧ ∀ q, A q → q < s.heap.size → ∃ k, k < n0 ∧ q = ad k
/-- the heap holds the rows -/
def zIn (dC : Nat → ClassId) (dI : Nat → Nat → Nat) (dA : Nat → ClassId) (ad : Nat → Nat) (A : Nat → Prop) (s : State) (n0 g0 : Nat) (hp : zHp) (H : Heap) (locs : List Loc) (cells slots : Nat) : Prop :=
  va_P (dC, dI) zCl (zw dA ad hp) H ∧ va_D A (zw dA ad hp) ∧ va_S A s.heap H locs ∧ H.size = s.heap.size + cells ∧ hp.length = n0 + cells ∧ zhs hp = g0 + slots
section ZST
variable {p : Program} {l : Launch} {e : Env} {R : Room} {s : State} {m : MethodId} {args : Array Value} {below : List Frame} {meth : Method} {c : Code} {H : Heap} {locs : List Loc} {cells slots : Nat} {Q : State → Prop}
variable {dC : Nat → ClassId} {dI : Nat → Nat → Nat} {dA : Nat → ClassId} {ad : Nat → Nat} {A : Nat → Prop} {n0 g0 : Nat}
theorem zW_size {g : JFrame} (k : H.size ≤ s.heap.size + cells → W p l e R s m args below meth c H locs cells slots Q g) : W p l e R s m args below meth c H locs cells slots Q g := by
  intro T hT X
  have h := X.same.2.2.1
  have e1 : (T.setVm s.vm).heap = H := hT
  rw [e1] at h
  exact k h T hT X
/-- the size stays where a cell of the world is written -/
theorem zsize_keep {hp' : zHp} {H1 : Heap} {locs1 : List Loc} (hF : zFx s dA ad A n0) (hl : hp'.length = n0 + cells) (hP : va_P (dC, dI) zCl (zw dA ad hp') H1) (hS : va_S A s.heap H1 locs1) (hle : H1.size ≤ s.heap.size + cells) : H1.size = s.heap.size + cells := by
  rcases Nat.eq_zero_or_pos cells with h0 | h0
  · have := hS.1
    omega
  · have hk : n0 + (cells - 1) < hp'.length := by omega
    have h1 := (hP _ _ (zw_get (dA := dA) (ad := ad) (List.getElem?_eq_getElem hk))).lt
    have h2 : ad (n0 + (cells - 1)) = s.heap.size + (cells - 1) := hF.1 (cells - 1)
    simp only [h2] at h1
    omega
/-- a new cell lies where its handle says -/
theorem znew_at {hp : zHp} {H1 : Heap} {q : Nat} {x : va_E} (hF : zFx s dA ad A n0) (hl : hp.length = n0 + cells) (hP : va_P (dC, dI) zCl (zw dA ad hp ++ [(q, x)]) H1) (hD : va_D A (zw dA ad hp ++ [(q, x)])) (hle : H1.size ≤ s.heap.size + (cells + 1)) : q = ad hp.length ∧ H1.size = s.heap.size + (cells + 1) := by
  have hlast : (zw dA ad hp ++ [(q, x)])[hp.length]? = some (q, x) := by
    rw [List.getElem?_append_right (by rw [zw_len]; exact Nat.le_refl _), zw_len]
    simp
  have hq : q < H1.size := (hP _ _ hlast).lt
  have hAq : A q := hD.2 _ _ hlast
  have hne : ∀ k, k < hp.length → q ≠ ad k := by
    intro k hk he
    have hg : (zw dA ad hp ++ [(q, x)])[k]? = some (ad k, zc dA ad hp[k]) := by
      rw [List.getElem?_append_left (by rw [zw_len]; exact hk)]
      exact zw_get (List.getElem?_eq_getElem hk)
    have := hD.1 k hp.length _ _ hg hlast he.symm
    omega
  have hge : s.heap.size ≤ q := by
    rcases Nat.lt_or_ge q s.heap.size with hlt | hge
    · obtain ⟨k, hk, e1⟩ := hF.2.2 q hAq hlt
      exact absurd e1 (hne k (by omega))
    · exact hge
  have hq2 : q = s.heap.size + cells := by
    rcases Nat.lt_or_ge q (s.heap.size + cells) with hlt | hge2
    · have h1 := hF.1 (q - s.heap.size)
      exact absurd (by rw [h1]; omega) (hne (n0 + (q - s.heap.size)) (by omega))
    · omega
  refine ⟨?_, by omega⟩
  rw [hl, hF.1 cells]
  exact hq2
theorem zRA_inj {U : State} {c1 c2 : ClassId} {ty : FieldType} (h1 : va_RA U c1 ty) (h2 : va_RA U c2 ty) : c1 = c2 := by
  cases ty with
  | object C =>
    obtain ⟨k1, q1, -, -, -, f1⟩ := h1
    obtain ⟨k2, q2, -, -, -, f2⟩ := h2
    exact Option.some.inj (f1.symm.trans f2)
  | _ => exact Option.some.inj (h1.symm.trans h2)
/-- from a state of the small machine on -/
def zWs (p : Program) (l : Launch) (e : Env) (R : Room) (s : State) (m : MethodId) (args : Array Value) (below : List Frame) (meth : Method) (c : Code) (Q : State → Prop) (dC : Nat → ClassId) (dI : Nat → Nat → Nat) (dA : Nat → ClassId) (ad : Nat → Nat) (A : Nat → Prop) (n0 g0 mi : Nat) (x : zCf) : Prop :=
  ∀ (H : Heap) (locs : List Loc) (cells slots : Nat) (arr : Array Slot), zIn dC dI dA ad A s n0 g0 x.2.2.2 H locs cells slots → zHl arr (zL mi) ad x.2.1 → W p l e R s m args below meth c H locs cells slots Q (F0 m x.1 arr (x.2.2.1.map (zv ad)))
theorem zin_ok {i : Int32} {n k : Nat} (h : zin i n = some k) : vp_in i n ∧ i.toNatClampNeg = k := by
  unfold zin at h
  split at h
  · cases h
  · next h1 =>
    split at h
    · next h2 =>
      cases h
      exact ⟨fun q => q.elim h1 (fun q => by omega), rfl⟩
    · cases h
theorem zcell_ok {hp : zHp} {v : Value} {h : Nat} {x : va_E} (hc : zcell hp v = some (h, x)) : v = .ref h ∧ hp[h]? = some x := by
  unfold zcell at hc
  split at hc
  · split at hc
    · next e he => cases hc; exact ⟨rfl, he⟩
    · cases hc
  · cases hc
/-- a cell of the rows is written -/
theorem zIn_set {hp : zHp} {H1 : Heap} {locs1 : List Loc} {k : Nat} {x x' : va_E} (hF : zFx s dA ad A n0) (hI : zIn dC dI dA ad A s n0 g0 hp H locs cells slots) (hk : hp[k]? = some x) (hs : zsz x' = zsz x)
    (hP : va_P (dC, dI) zCl ((zw dA ad hp).set k (ad k, zc dA ad x')) H1) (hD : va_D A ((zw dA ad hp).set k (ad k, zc dA ad x'))) (hS : va_S A s.heap H1 locs1) (hle : H1.size ≤ s.heap.size + cells) : zIn dC dI dA ad A s n0 g0 (hp.set k x') H1 locs1 cells slots := by
  rw [zw_set] at hP hD
  obtain ⟨-, -, -, -, h5, h6⟩ := hI
  exact ⟨hP, hD, hS, zsize_keep hF (by rw [List.length_set]; exact h5) hP hS hle, by rw [List.length_set]; exact h5, by rw [zhs_set hk hs]; exact h6⟩
/-- a cell comes -/
theorem zIn_push {hp : zHp} {H1 : Heap} {locs1 : List Loc} {q : Nat} {x : va_E} (hF : zFx s dA ad A n0) (hI : zIn dC dI dA ad A s n0 g0 hp H locs cells slots)
    (hP : va_P (dC, dI) zCl (zw dA ad hp ++ [(q, zc dA ad x)]) H1) (hD : va_D A (zw dA ad hp ++ [(q, zc dA ad x)])) (hS : va_S A s.heap H1 locs1) (hle : H1.size ≤ s.heap.size + (cells + 1)) : q = ad hp.length ∧ zIn dC dI dA ad A s n0 g0 (hp ++ [x]) H1 locs1 (cells + 1) (slots + zsz x) := by
  obtain ⟨-, -, -, -, h5, h6⟩ := hI
  obtain ⟨e1, e2⟩ := znew_at hF h5 hP hD hle
  subst e1
  rw [← zw_push] at hP hD
  exact ⟨rfl, hP, hD, hS, e2, by rw [List.length_append, h5]; rfl, by rw [zhs_push, h6]; omega⟩
end ZST
