/-! ===== the small machine and the machine: values, cells, locals ===== -/
def zv (ad : Nat → Nat) : Value → Value
  | .ref h => .ref (ad h)
  | v => v
def zc (dA : Nat → ClassId) (ad : Nat → Nat) : va_E → va_E
  | .inl (t, n, .inr (.inr (.inr (.inr f)))) => .inl (dA t, n, .inr (.inr (.inr (.inr (fun i => (f i).map ad)))))
  | .inl (t, n, .inl f) => .inl (dA t, n, .inl f)
  | .inl (t, n, .inr (.inl f)) => .inl (dA t, n, .inr (.inl f))
  | .inl (t, n, .inr (.inr (.inl f))) => .inl (dA t, n, .inr (.inr (.inl f)))
  | .inl (t, n, .inr (.inr (.inr (.inl f)))) => .inl (dA t, n, .inr (.inr (.inr (.inl f))))
  | .inr (ci, fs) => .inr (ci, fs.map (zv ad))
def zw (dA : Nat → ClassId) (ad : Nat → Nat) (hp : zHp) : va_W := hp.mapIdx (fun k c => (ad k, zc dA ad c))
def zsz : va_E → Nat
  | .inl (_, n, _) => n
  | .inr (_, fs) => fs.length
def zhs (hp : zHp) : Nat := (hp.map zsz).sum
theorem zv_cat (ad : Nat → Nat) (v : Value) : (zv ad v).category = v.category := by cases v <;> rfl
theorem zw_get {dA : Nat → ClassId} {ad : Nat → Nat} {hp : zHp} {k : Nat} {c : va_E} (h : hp[k]? = some c) : (zw dA ad hp)[k]? = some (ad k, zc dA ad c) := by
  simp [zw, List.getElem?_mapIdx, h]
theorem zw_got {dA : Nat → ClassId} {ad : Nat → Nat} {hp : zHp} {k : Nat} {q : Nat × va_E} (h : (zw dA ad hp)[k]? = some q) : ∃ c, hp[k]? = some c ∧ q = (ad k, zc dA ad c) := by
  simp only [zw, List.getElem?_mapIdx, Option.map_eq_some_iff] at h
  obtain ⟨c, h1, h2⟩ := h
  exact ⟨c, h1, h2.symm⟩
theorem zw_len (dA : Nat → ClassId) (ad : Nat → Nat) (hp : zHp) : (zw dA ad hp).length = hp.length := by simp [zw]
theorem zw_set (dA : Nat → ClassId) (ad : Nat → Nat) (hp : zHp) (k : Nat) (c : va_E) : (zw dA ad hp).set k (ad k, zc dA ad c) = zw dA ad (hp.set k c) := by
  apply List.ext_getElem?
  intro j
  simp only [zw, List.getElem?_set, List.getElem?_mapIdx, List.length_mapIdx]
  by_cases hj : k = j
  · subst hj
    by_cases hl : k < hp.length <;> simp [hl]
  · simp [hj]
theorem zw_push (dA : Nat → ClassId) (ad : Nat → Nat) (hp : zHp) (c : va_E) : zw dA ad (hp ++ [c]) = zw dA ad hp ++ [(ad hp.length, zc dA ad c)] := by
  simp [zw, List.mapIdx_append]
theorem zhs_push (hp : zHp) (c : va_E) : zhs (hp ++ [c]) = zhs hp + zsz c := by simp [zhs]
theorem zhs_set {hp : zHp} {k : Nat} {c c' : va_E} (h : hp[k]? = some c) (hs : zsz c' = zsz c) : zhs (hp.set k c') = zhs hp := by
  unfold zhs
  rw [List.map_set, hs]
  congr 1
  apply List.ext_getElem?
  intro j
  rw [List.getElem?_set]
  by_cases hj : k = j
  · subst hj
    obtain ⟨hl, he⟩ := List.getElem?_eq_some_iff.mp h
    simp [hl, he]
  · simp [hj]
-- locals
def zHl (arr : Array Slot) (nL : Nat) (ad : Nat → Nat) (ls : zLs) : Prop := arr.size = nL ∧ lv_wf arr ∧ ls.length = nL ∧ ∀ (j : Nat) (w : Value), ls[j]? = some (some w) → arr[j]? = some (.val (zv ad w))
def zpr (ad : Nat → Nat) (ls : zLs) : List (Nat × Value) := (List.range ls.length).filterMap (fun j => (zlo ls j).map (fun w => (j, zv ad w)))
theorem zlo_iff {ls : zLs} {j : Nat} {w : Value} : zlo ls j = some w ↔ ls[j]? = some (some w) := by
  unfold zlo
  split
  · next v h => rw [h]; simp
  · next h =>
    constructor
    · intro q; cases q
    · intro q; exact absurd q (h w)
theorem zpr_mem {ad : Nat → Nat} {ls : zLs} {q : Nat × Value} : q ∈ zpr ad ls ↔ ∃ w, ls[q.1]? = some (some w) ∧ q.2 = zv ad w := by
  unfold zpr
  rw [List.mem_filterMap]
  constructor
  · rintro ⟨j, -, h⟩
    rw [Option.map_eq_some_iff] at h
    obtain ⟨w, h1, h2⟩ := h
    subst h2
    exact ⟨w, zlo_iff.mp h1, rfl⟩
  · rintro ⟨w, h1, h2⟩
    refine ⟨q.1, List.mem_range.mpr (List.getElem?_eq_some_iff.mp h1).1, ?_⟩
    rw [Option.map_eq_some_iff]
    exact ⟨w, zlo_iff.mpr h1, by rw [← h2]⟩
theorem zHl.lo {arr : Array Slot} {nL : Nat} {ad : Nat → Nat} {ls : zLs} (h : zHl arr nL ad ls) {k : Nat} {v : Value} (hk : zlo ls k = some v) : arr[k]? = some (.val (zv ad v)) := h.2.2.2 k v (zlo_iff.mp hk)
theorem zHl.has {arr : Array Slot} {nL : Nat} {ad : Nat → Nat} {ls : zLs} (h : zHl arr nL ad ls) : lv_has arr nL (zpr ad ls) := by
  refine ⟨h.1, h.2.1, fun q hq => ?_⟩
  obtain ⟨w, h1, h2⟩ := zpr_mem.mp hq
  rw [h2]
  exact h.2.2.2 _ _ h1
theorem zkill_len (ls : zLs) (k : Nat) : (zkill ls k).length = ls.length := by
  cases k with
  | zero => rfl
  | succ k =>
    simp only [zkill]
    split
    · split <;> simp
    · rfl
theorem zkill_at {ls : zLs} {k j : Nat} {w : Value} (h : (zkill ls k)[j]? = some (some w)) : ls[j]? = some (some w) ∧ (j + 1 = k → ¬ w.category = 2) := by
  cases k with
  | zero => exact ⟨h, fun q => by omega⟩
  | succ k =>
    simp only [zkill] at h
    split at h
    · next u hu =>
      split at h
      · next hc =>
        rw [List.getElem?_set] at h
        split at h
        · split at h <;> cases h
        · next hne => exact ⟨h, fun q => absurd (by omega) hne⟩
      · next hc =>
        refine ⟨h, fun q => ?_⟩
        have : j = k := by omega
        subst this
        rw [hu] at h
        cases h
        exact hc
    · next hu =>
      refine ⟨h, fun q => ?_⟩
      have : j = k := by omega
      subst this
      exact absurd h (hu w)
theorem zHl_set {arr : Array Slot} {nL : Nat} {ad : Nat → Nat} {ls ls' : zLs} {k : Nat} {v : Value} {lv : List (Nat × Value)} (hs : zset ls k v = some ls') (hl : ls.length = nL) (h : lv_has arr nL lv)
    (hm : ∀ q : Nat × Value, q = (k, zv ad v) ∨ (q ∈ zpr ad ls ∧ (!(q.1 == k) && !(q.1 + 1 == k && q.2.category == 2)) = true) → q ∈ lv) : zHl arr nL ad ls' ∧ k < nL := by
  unfold zset at hs
  split at hs
  · next hk =>
    cases hs
    refine ⟨⟨h.1, h.2.1, by simp [zkill_len, hl], fun j w hj => ?_⟩, by omega⟩
    by_cases hjk : k = j
    · subst hjk
      rw [List.getElem?_set_self (by rw [zkill_len]; exact hk)] at hj
      cases hj
      exact h.2.2 (k, zv ad v) (hm _ (Or.inl rfl))
    · rw [List.getElem?_set_ne hjk] at hj
      obtain ⟨h1, h2⟩ := zkill_at hj
      refine h.2.2 (j, zv ad w) (hm _ (Or.inr ⟨zpr_mem.mpr ⟨w, h1, rfl⟩, ?_⟩))
      have e1 : (j == k) = false := by simp; omega
      simp only [e1, Bool.not_false, Bool.true_and, zv_cat]
      by_cases hq : j + 1 = k
      · simp [hq, h2 hq]
      · simp [hq]
  · cases hs
theorem zHl_setL {arr : Array Slot} {nL : Nat} {ad : Nat → Nat} {ls ls' : zLs} {k : Nat} {v : Value} {lv : List (Nat × Value)} (hs : zsetL ls k v = some ls') (hl : ls.length = nL) (h : lv_has arr nL lv)
    (hm : ∀ q : Nat × Value, q = (k, zv ad v) ∨ (q ∈ zpr ad ls ∧ (!(q.1 == k) && (!(q.1 == k + 1) && !(q.1 + 1 == k && q.2.category == 2))) = true) → q ∈ lv) : zHl arr nL ad ls' ∧ k + 1 < nL := by
  unfold zsetL at hs
  split at hs
  · next hk =>
    cases hs
    refine ⟨⟨h.1, h.2.1, by simp [zkill_len, hl], fun j w hj => ?_⟩, by omega⟩
    by_cases hj1 : k + 1 = j
    · subst hj1
      rw [List.getElem?_set_self (by simp [zkill_len]; omega)] at hj
      cases hj
    · rw [List.getElem?_set_ne hj1] at hj
      by_cases hjk : k = j
      · subst hjk
        rw [List.getElem?_set_self (by rw [zkill_len]; omega)] at hj
        cases hj
        exact h.2.2 (k, zv ad v) (hm _ (Or.inl rfl))
      · rw [List.getElem?_set_ne hjk] at hj
        obtain ⟨h1, h2⟩ := zkill_at hj
        refine h.2.2 (j, zv ad w) (hm _ (Or.inr ⟨zpr_mem.mpr ⟨w, h1, rfl⟩, ?_⟩))
        have e1 : (j == k) = false := by simp; omega
        have e2 : (j == k + 1) = false := by simp; omega
        simp only [e1, e2, Bool.not_false, Bool.true_and, zv_cat]
        by_cases hq : j + 1 = k
        · simp [hq, h2 hq]
        · simp [hq]
  · cases hs
theorem zset_lt {ls ls' : zLs} {k : Nat} {v : Value} (hs : zset ls k v = some ls') : k < ls.length := by
  unfold zset at hs
  split at hs
  · assumption
  · cases hs
theorem zsetL_lt {ls ls' : zLs} {k : Nat} {v : Value} (hs : zsetL ls k v = some ls') : k + 1 < ls.length := by
  unfold zsetL at hs
  split at hs
  · assumption
  · cases hs
-- the locals at a method's start
theorem zent_args {ad : Nat → Nat} {w : Value} : ∀ (vs : List Value) (i j : Nat), (zent0 vs)[j]? = some (some w) → (i + j, zv ad w) ∈ lv_args i (vs.map (zv ad))
  | [], _, _, h => by simp [zent0] at h
  | v :: t, i, j, h => by
    unfold zent0 at h
    simp only [List.map_cons, lv_args, zv_cat]
    split at h
    · next hc =>
      rw [if_pos hc]
      match j, h with
      | 0, h => simp at h; subst h; exact List.mem_cons_self
      | 1, h => simp at h
      | j + 2, h =>
        have := zent_args (ad := ad) t (i + 2) j (by simpa using h)
        rw [show i + 2 + j = i + (j + 2) by omega] at this
        exact List.mem_cons_of_mem _ this
    · next hc =>
      rw [if_neg hc]
      match j, h with
      | 0, h => simp at h; subst h; exact List.mem_cons_self
      | j + 1, h =>
        have := zent_args (ad := ad) t (i + 1) j (by simpa using h)
        rw [show i + 1 + j = i + (j + 1) by omega] at this
        exact List.mem_cons_of_mem _ this
theorem zent_len (ad : Nat → Nat) : ∀ vs : List Value, (lg_sl (vs.map (zv ad))).length = (zent0 vs).length
  | [] => rfl
  | v :: t => by
    have ih := zent_len ad t
    unfold lg_sl at ih
    simp only [List.map_cons, lg_sl, List.flatMap_cons, List.length_append, zv_cat, zent0]
    rw [ih]
    split <;> simp <;> omega
theorem zHl_entry {ad : Nat → Nat} {mi : Nat} {vs : List Value} (h : (zent0 vs).length ≤ zL mi) : zHl ((lg_sl (vs.map (zv ad)) ++ List.replicate (zL mi - (lg_sl (vs.map (zv ad))).length) Slot.unset).toArray) (zL mi) ad (zent mi vs) := by
  obtain ⟨h1, h2, h3⟩ := lv_entry (vs.map (zv ad)) (n := zL mi) (by rw [zent_len]; exact h)
  refine ⟨h1, h2, by simp [zent]; omega, fun j w hj => ?_⟩
  unfold zent at hj
  rw [List.getElem?_append] at hj
  split at hj
  · have := zent_args (ad := ad) vs 0 j hj
    rw [Nat.zero_add] at this
    exact h3 (j, zv ad w) this
  · rw [List.getElem?_replicate] at hj
    split at hj <;> cases hj
