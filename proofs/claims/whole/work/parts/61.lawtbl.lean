-- lk: 60 51 +JvmDerived
/-! ===== the law: its calls ===== -/
def R_law : String := "LoadSpaceLaw"
def lw_P (b : Addr) (xs : List Int32) (args : Array Value) (s : State) : Prop := args = #[.ref b] ∧ s.IntsAt b xs ∧ xs.length ≤ 2563 ∧ (Jvm.Cond.and given_1 narrow_1).before args s = true
def lw_Q (_ : Array Value) (s : State) (o : Outcome) (t : State) : Prop := o = .returned (some (.int 1)) ∧ Framed s o t [] 601024 7293000
def lw_Z (below : List Frame) (a : Array Value) (s : State) : State → Prop := fun t => ∃ o, t.status = .running ∧ Ended t below o ∧ lw_Q a s o t
theorem lw_ret {p : Program} {l : Launch} {e : Env} {s : State} {m : MethodId} {below : List Frame} {meth : Method} {c : Code} {b : Nat} (hx : p.tables.exec = Jvm.exec) (hb : c.code = code) (hr : meth.sig.returnType = ret) (hlocks : meth.locks = false) {pc : Nat} {H : Heap} {ls : Array Slot} (hdg : decode code pc = .ok (.ireturn, 1)) : W p l e room_1 s m #[Value.ref b] below meth c H [] 601024 7293000 (lw_Z below #[Value.ref b] s) (F0 m pc ls [.int 1]) := by
  intro T hT X
  obtain ⟨fs, hret, hrun, hended, hW, hframe⟩ := X.leave (v := some (.int 1)) (hlocks := hlocks) (fun h => by rw [hr] at h; cases h)
  have hmeth' : T.vm.method? m = some meth := X.method'
  refine ⟨T.setFrames fs, ?_, .returned (some (.int 1)), hrun, hended, rfl, ⟨_, rfl⟩, hW, hframe⟩
  jvm_step X.here [X.here.top, hx, hb, hdg, hmeth', hr, ret, narrow_b1]
  (try refine ⟨rfl, ?_⟩); (try refine ⟨rfl, ?_⟩)
  first | (intro acts; rw [hret _ acts rfl rfl rfl]) | rw [hret _ _ rfl rfl rfl]
  exact Steps.refl _
def lw_At (p : Program) (s : State) (m : MethodId) (meth : Method) (c : Code) (b L : Nat) (xs : Nat → Int32) : Prop :=
  p.tables.exec = Jvm.exec ∧ c.code = code ∧ meth.sig.returnType = ret ∧ c.maxLocals = 8 ∧ s.vm.findClass R_law = some m.cls ∧ (∀ w ∈ lw_tbl, w.before #[Value.ref b] s = true) ∧ va_X b L xs s s.heap ∧ b < s.heap.size ∧ meth.locks = false ∧ (Jvm.Cond.and given_1 narrow_1).before #[Value.ref b] s = true

def lawV : List (Nat × Nat × Nat × Nat × Nat × Nat) := [(27, 48, 204, 205, 206, 25), (31, 72, 707, 708, 709, 31), (32, 49, 249, 250, 251, 25), (36, 73, 714, 715, 716, 31), (37, 50, 277, 278, 279, 25), (40, 74, 722, 723, 724, 31), (41, 51, 281, 282, 283, 25), (44, 75, 726, 727, 728, 31), (45, 52, 285, 286, 287, 25), (49, 79, 730, 731, 732, 31), (50, 53, 297, 298, 299, 25), (53, 89, 745, 746, 747, 31), (54, 54, 406, 407, 408, 25), (58, 90, 783, 784, 785, 31), (59, 55, 410, 411, 412, 25), (63, 91, 787, 788, 789, 31), (64, 56, 414, 415, 416, 25), (67, 92, 791, 792, 793, 31), (68, 57, 423, 424, 425, 25), (72, 93, 795, 796, 797, 31), (73, 58, 431, 432, 433, 25), (76, 94, 799, 800, 801, 31), (77, 59, 443, 444, 445, 25), (81, 95, 803, 804, 805, 31), (82, 60, 451, 452, 453, 25), (85, 96, 807, 808, 809, 31), (89, 99, 815, 816, 817, 31), (90, 98, 811, 812, 813, 31), (93, 62, 459, 460, 461, 25), (96, 101, 824, 825, 826, 31), (7, 61, 478, 479, 480, 25)]
def lckV (e : Nat × Nat × Nat × Nat × Nat × Nat) : Bool := decide (e.2.1 < 102) && decide (lw_tbl[e.2.2.1]? = some (.methodLink R_law e.1 (zY e.2.1))) && decide (lw_tbl[e.2.2.2.1]? = some (.instanceMethod (zY e.2.1))) && decide (lw_tbl[e.2.2.2.2.1]? = some (.selects (zY e.2.1).cls (zY e.2.1) (zY e.2.1))) && decide (lw_tbl[e.2.2.2.2.2]? = some (.initialized (zY e.2.1).cls))
set_option maxRecDepth 100000 in
theorem lckV_0 : lawV.all lckV = true := by decide +kernel
theorem lV_ok {idx mj : Nat} {r : Nat × Nat × Nat × Nat} (h : (idx, mj, r) ∈ lawV) : mj < 102 ∧ Cond.methodLink R_law idx (zY mj) ∈ zG ∧ Cond.instanceMethod (zY mj) ∈ zG ∧ Cond.selects (zY mj).cls (zY mj) (zY mj) ∈ zG ∧ Cond.initialized (zY mj).cls ∈ zG ∧ Cond.code (zY mj) (zB mj) (zL mj) (zR mj) ∈ zG := by
  have := List.all_eq_true.mp lckV_0 _ h
  simp only [lckV, Bool.and_eq_true, decide_eq_true_eq] at this
  exact ⟨this.1.1.1.1, zG_at this.1.1.1.2 rfl, zG_at this.1.1.2 rfl, zG_at this.1.2 rfl, zG_at this.2 rfl, zcw this.1.1.1.1⟩
def lawI : List (Nat × Nat × Nat × Nat × Nat) := [(21, 47, 39, 40, 25), (26, 68, 563, 564, 31)]
def lckI (e : Nat × Nat × Nat × Nat × Nat) : Bool := decide (e.2.1 < 102) && decide ((zY e.2.1).name = "<init>") && decide (zR e.2.1 = none) && decide (lw_tbl[e.2.2.1]? = some (.methodLink R_law e.1 (zY e.2.1))) && decide (lw_tbl[e.2.2.2.1]? = some (.instanceMethod (zY e.2.1))) && decide (lw_tbl[e.2.2.2.2]? = some (.initialized (zY e.2.1).cls))
set_option maxRecDepth 100000 in
theorem lckI_0 : lawI.all lckI = true := by decide +kernel
theorem lI_ok {idx mj : Nat} {r : Nat × Nat × Nat} (h : (idx, mj, r) ∈ lawI) : mj < 102 ∧ (zY mj).name = "<init>" ∧ zR mj = none ∧ Cond.methodLink R_law idx (zY mj) ∈ zG ∧ Cond.instanceMethod (zY mj) ∈ zG ∧ Cond.initialized (zY mj).cls ∈ zG ∧ Cond.code (zY mj) (zB mj) (zL mj) (zR mj) ∈ zG := by
  have := List.all_eq_true.mp lckI_0 _ h
  simp only [lckI, Bool.and_eq_true, decide_eq_true_eq] at this
  exact ⟨this.1.1.1.1.1, this.1.1.1.1.2, this.1.1.1.2, zG_at this.1.1.2 rfl, zG_at this.1.2 rfl, zG_at this.2 rfl, zcw this.1.1.1.1.1⟩
