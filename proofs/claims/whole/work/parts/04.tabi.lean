/-! ===== the tables of the program are what the Statement's words and bytes say ===== -/
def zlen : Instr → Nat
  | .bipush _ | .iload _ | .lload _ | .aload _ | .istore _ | .lstore _ | .astore _ | .newarray _ | .ldc _ => 2
  | .sipush _ | .ldc2_w _ | .iinc _ _ | .goto _ | .ifCond _ _ | .if_icmp _ _ | .ifnull _ | .ifnonnull _ | .getfield _ | .putfield _ | .new _ | .anewarray _ | .invokevirtual _ | .invokestatic _ | .invokespecial _ => 3
  | .tableswitch _ _ _ _ | .lookupswitch _ _ => 0
  | _ => 1
def zck1 (b : ByteArray) : Nat → List (Option (Instr × Nat)) → Bool
  | _, [] => true
  | pc, none :: t => zck1 b (pc + 1) t
  | pc, some x :: t => decide (decode b pc = .ok x) && (decide (zlen x.1 = x.2) || decide (zlen x.1 = 0)) && zck1 b (pc + 1) t
def zck2 (b : ByteArray) : Nat → List (List (Option (Instr × Nat))) → Bool
  | _, [] => true
  | r, l :: t => zck1 b r l && zck2 b (r + 8) t
theorem zck1_use {b : ByteArray} {x : Instr × Nat} : ∀ {l : List (Option (Instr × Nat))} {pc k : Nat}, zck1 b pc l = true → l[k]? = some (some x) → decode b (pc + k) = .ok x ∧ (zlen x.1 = x.2 ∨ zlen x.1 = 0)
  | [], _, _, _, h => by simp at h
  | o :: t, pc, 0, h, hk => by
    simp at hk
    subst hk
    simp only [zck1, Bool.and_eq_true, Bool.or_eq_true, decide_eq_true_eq] at h
    exact h.1
  | o :: t, pc, k + 1, h, hk => by
    have h2 : zck1 b (pc + 1) t = true := by
      cases o with
      | none => exact h
      | some y =>
        simp only [zck1, Bool.and_eq_true] at h
        exact h.2
    have := zck1_use (k := k) h2 (by simpa using hk)
    rwa [show pc + 1 + k = pc + (k + 1) by omega] at this
theorem zck2_use {b : ByteArray} {l : List (Option (Instr × Nat))} : ∀ {T : List (List (Option (Instr × Nat)))} {r k : Nat}, zck2 b r T = true → T[k]? = some l → zck1 b (r + 8 * k) l = true
  | [], _, _, _, h => by simp at h
  | o :: t, r, 0, h, hk => by
    simp at hk
    subst hk
    simp only [zck2, Bool.and_eq_true] at h
    exact h.1
  | o :: t, r, k + 1, h, hk => by
    simp only [zck2, Bool.and_eq_true] at h
    have := zck2_use (k := k) h.2 (by simpa using hk)
    rwa [show r + 8 + 8 * k = r + 8 * (k + 1) by omega] at this
def zckI (mi : Nat) : Bool := zck2 (zB mi) 0 (zIT.getD mi [])

set_option maxRecDepth 100000 in
theorem zckI_0 : (List.range' 0 6).all zckI = true := by decide +kernel
set_option maxRecDepth 100000 in
theorem zckI_6 : (List.range' 6 6).all zckI = true := by decide +kernel
set_option maxRecDepth 100000 in
theorem zckI_12 : (List.range' 12 6).all zckI = true := by decide +kernel
set_option maxRecDepth 100000 in
theorem zckI_18 : (List.range' 18 6).all zckI = true := by decide +kernel
set_option maxRecDepth 100000 in
theorem zckI_24 : (List.range' 24 6).all zckI = true := by decide +kernel
set_option maxRecDepth 100000 in
theorem zckI_30 : (List.range' 30 6).all zckI = true := by decide +kernel
set_option maxRecDepth 100000 in
theorem zckI_36 : (List.range' 36 6).all zckI = true := by decide +kernel
set_option maxRecDepth 100000 in
theorem zckI_42 : (List.range' 42 6).all zckI = true := by decide +kernel
set_option maxRecDepth 100000 in
theorem zckI_48 : (List.range' 48 6).all zckI = true := by decide +kernel
set_option maxRecDepth 100000 in
theorem zckI_54 : (List.range' 54 6).all zckI = true := by decide +kernel
set_option maxRecDepth 100000 in
theorem zckI_60 : (List.range' 60 6).all zckI = true := by decide +kernel
set_option maxRecDepth 100000 in
theorem zckI_66 : (List.range' 66 6).all zckI = true := by decide +kernel
set_option maxRecDepth 100000 in
theorem zckI_72 : (List.range' 72 6).all zckI = true := by decide +kernel
set_option maxRecDepth 100000 in
theorem zckI_78 : (List.range' 78 6).all zckI = true := by decide +kernel
set_option maxRecDepth 100000 in
theorem zckI_84 : (List.range' 84 6).all zckI = true := by decide +kernel
set_option maxRecDepth 100000 in
theorem zckI_90 : (List.range' 90 6).all zckI = true := by decide +kernel
set_option maxRecDepth 100000 in
theorem zckI_96 : (List.range' 96 6).all zckI = true := by decide +kernel
theorem zckI_all {mi : Nat} (h : mi < 102) : zckI mi = true := by
  by_cases h0 : mi < 6
  · exact List.all_eq_true.mp zckI_0 mi (List.mem_range'_1.mpr ⟨by omega, by omega⟩)
  by_cases h6 : mi < 12
  · exact List.all_eq_true.mp zckI_6 mi (List.mem_range'_1.mpr ⟨by omega, by omega⟩)
  by_cases h12 : mi < 18
  · exact List.all_eq_true.mp zckI_12 mi (List.mem_range'_1.mpr ⟨by omega, by omega⟩)
  by_cases h18 : mi < 24
  · exact List.all_eq_true.mp zckI_18 mi (List.mem_range'_1.mpr ⟨by omega, by omega⟩)
  by_cases h24 : mi < 30
  · exact List.all_eq_true.mp zckI_24 mi (List.mem_range'_1.mpr ⟨by omega, by omega⟩)
  by_cases h30 : mi < 36
  · exact List.all_eq_true.mp zckI_30 mi (List.mem_range'_1.mpr ⟨by omega, by omega⟩)
  by_cases h36 : mi < 42
  · exact List.all_eq_true.mp zckI_36 mi (List.mem_range'_1.mpr ⟨by omega, by omega⟩)
  by_cases h42 : mi < 48
  · exact List.all_eq_true.mp zckI_42 mi (List.mem_range'_1.mpr ⟨by omega, by omega⟩)
  by_cases h48 : mi < 54
  · exact List.all_eq_true.mp zckI_48 mi (List.mem_range'_1.mpr ⟨by omega, by omega⟩)
  by_cases h54 : mi < 60
  · exact List.all_eq_true.mp zckI_54 mi (List.mem_range'_1.mpr ⟨by omega, by omega⟩)
  by_cases h60 : mi < 66
  · exact List.all_eq_true.mp zckI_60 mi (List.mem_range'_1.mpr ⟨by omega, by omega⟩)
  by_cases h66 : mi < 72
  · exact List.all_eq_true.mp zckI_66 mi (List.mem_range'_1.mpr ⟨by omega, by omega⟩)
  by_cases h72 : mi < 78
  · exact List.all_eq_true.mp zckI_72 mi (List.mem_range'_1.mpr ⟨by omega, by omega⟩)
  by_cases h78 : mi < 84
  · exact List.all_eq_true.mp zckI_78 mi (List.mem_range'_1.mpr ⟨by omega, by omega⟩)
  by_cases h84 : mi < 90
  · exact List.all_eq_true.mp zckI_84 mi (List.mem_range'_1.mpr ⟨by omega, by omega⟩)
  by_cases h90 : mi < 96
  · exact List.all_eq_true.mp zckI_90 mi (List.mem_range'_1.mpr ⟨by omega, by omega⟩)
  by_cases h96 : mi < 102
  · exact List.all_eq_true.mp zckI_96 mi (List.mem_range'_1.mpr ⟨by omega, by omega⟩)
  omega
theorem zIT_len : zIT.length = 102 := rfl
theorem zMT_len : zMT.length = 102 := rfl
theorem zI_ok {mi pc : Nat} {i : Instr} {len : Nat} (h : zI mi pc = some (i, len)) : mi < 102 ∧ decode (zB mi) pc = .ok (i, len) ∧ (zlen i = len ∨ zlen i = 0) := by
  unfold zI at h
  split at h
  · cases h
  · next t ht =>
    split at h
    · cases h
    · next r hr =>
      split at h
      · cases h
      · next x hx =>
        have hm : mi < 102 := by
          have := (List.getElem?_eq_some_iff.mp ht).1
          rwa [zIT_len] at this
        have hc := zckI_all hm
        unfold zckI at hc
        have ht' : zIT.getD mi [] = t := by rw [List.getD_eq_getElem?_getD, ht]; rfl
        rw [ht'] at hc
        have h1 := zck2_use hc hr
        subst h
        have h2 := zck1_use h1 hx
        rw [show 0 + 8 * (pc / 8) + pc % 8 = pc by omega] at h2
        exact ⟨hm, h2⟩
