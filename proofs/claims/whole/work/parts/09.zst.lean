section ZST2
variable {p : Program} {l : Launch} {e : Env} {R : Room} {s : State} {m : MethodId} {args : Array Value} {below : List Frame} {meth : Method} {c : Code} {H : Heap} {locs : List Loc} {cells slots : Nat} {Q : State → Prop}
variable {dC : Nat → ClassId} {dI : Nat → Nat → Nat} {dA : Nat → ClassId} {ad : Nat → Nat} {A : Nat → Prop} {n0 g0 : Nat}
theorem zmapcat (r : List Value) : ((r.map (zv ad)).map fun v => v.category).sum = (r.map fun v => v.category).sum := by
  rw [List.map_map]
  congr 1
  apply List.map_congr_left
  intro v _
  exact zv_cat ad v
theorem zv_rf (r : Option Nat) : zv ad (va_rf r) = va_rf (r.map ad) := by cases r <;> rfl
theorem zmem {q a : Nat × Value} {l : List (Nat × Value)} {F : Nat × Value → Bool} (h : q = a ∨ (q ∈ l ∧ F q = true)) : q ∈ a :: l.filter F := h.elim (fun e => by rw [e]; exact List.mem_cons_self) (fun h => List.mem_cons_of_mem _ (List.mem_filter.mpr h))
theorem zmem2 {q a b : Nat × Value} {l : List (Nat × Value)} {F : Nat × Value → Bool} (h : q = a ∨ (q ∈ l ∧ F q = true)) : q ∈ a :: (b :: l).filter F := h.elim (fun e => by rw [e]; exact List.mem_cons_self) (fun h => List.mem_cons_of_mem _ (List.mem_filter.mpr ⟨List.mem_cons_of_mem _ h.1, h.2⟩))
def zckP (mi : Nat) (x : Option (Instr × Nat)) : Bool := match x with
  | some (.putfield k, _) => match zrow zFT (zC mi) k with
    | some (ci, kk, _) => match zCl[ci]? with
      | some q => !(q.2.1 kk).2.2.2 || (decide ((zY mi).name = "<init>") && decide ((q.2.1 kk).1 = zCN (zC mi)))
      | none => true
    | none => true
  | _ => true
set_option maxRecDepth 100000 in
theorem zckP_0 : (List.range zIT.length).all (fun mi => (zIT.getD mi []).all (fun r => r.all (zckP mi))) = true := by decide +kernel
theorem zPf_ok {mi pc k len ci kk pp : Nat} {q : vw_C} (hi : zI mi pc = some (.putfield k, len)) (hr : zrow zFT (zC mi) k = some (ci, kk, pp)) (hq : zCl[ci]? = some q) (hf : (q.2.1 kk).2.2.2 = true) : (zY mi).name = "<init>" ∧ (q.2.1 kk).1 = zCN (zC mi) := by
  unfold zI at hi
  split at hi
  · cases hi
  · next t ht =>
    split at hi
    · cases hi
    · next r hr2 =>
      split at hi
      · cases hi
      · next x hx =>
        subst hi
        have h1 := List.all_eq_true.mp zckP_0 mi (List.mem_range.mpr (List.getElem?_eq_some_iff.mp ht).1)
        have ht' : zIT.getD mi [] = t := by rw [List.getD_eq_getElem?_getD, ht]; rfl
        rw [ht'] at h1
        have h2 := List.all_eq_true.mp (List.all_eq_true.mp h1 r (List.mem_of_getElem? hr2)) _ (List.mem_of_getElem? hx)
        simp only [zckP, hr, hq, hf, Bool.not_true, Bool.false_or, Bool.and_eq_true, decide_eq_true_eq] at h2
        exact h2
theorem zdef_zv (ty : FieldType) : zv ad (defaultValue ty) = defaultValue ty := by cases ty <;> rfl
theorem zTY_0 : zTY[0]? = some .int := rfl
theorem zTY_1 : zTY[1]? = some .boolean := rfl
theorem zTY_2 : zTY[2]? = some .long := rfl
theorem znar {ty : FieldType} {v : Value} (h : narrow ty v = v) : narrow ty (zv ad v) = zv ad v := by
  cases v <;> first | exact h | (cases ty <;> rfl)
theorem zfit {ty : FieldType} {v : Value} (h : fits ty v = true) : fits ty (zv ad v) = true := by
  cases v <;> first | exact h | (cases ty <;> first | exact h | rfl)

set_option maxHeartbeats 4000000 in
theorem zst_sound {mi : Nat} {i : Instr} {len pc : Nat} {ls : zLs} {st : List Value} {hp : zHp} {x : zCf} (h : zst mi i pc ls st hp = some x) (hi : zI mi pc = some (i, len)) (CX : zCx p s m args meth c mi dC dI dA) (hF : zFx s dA ad A n0) (hfr : 1 ≤ R.frames) (hlo : 40 ≤ R.locals)
    (hrc : x.2.2.2.length ≤ n0 + R.cells) (hrs : zhs x.2.2.2 ≤ g0 + R.slots) (K : zWs p l e R s m args below meth c Q dC dI dA ad A n0 g0 mi x) : zWs p l e R s m args below meth c Q dC dI dA ad A n0 g0 mi (pc, ls, st, hp) := by
  obtain ⟨hx, hb, hml, hown, hts, hret, hlk, hnm, hK, hX⟩ := CX
  obtain ⟨hmi, hd, hlen⟩ := zI_ok hi
  have hd' : zlen i ≠ 0 → decode (zB mi) pc = .ok (i, zlen i) := fun hz => by
    rcases hlen with q | q
    · rw [q]; exact hd
    · exact absurd q hz
  have hG : ∀ w ∈ zG, w.before args s = true := fun w hw => hts w (List.mem_cons_of_mem _ hw)
  intro H locs cells slots arr hI hL
  dsimp only at hI hL ⊢
  have hP := hI.1
  have hD := hI.2.1
  have hS := hI.2.2.1
  cases i with
  | iconst n =>
    cases h
    exact lv_iconst hx hb (hd' (by simp [zlen])) rfl (K H locs cells slots arr hI hL)
  | bipush n =>
    cases h
    exact lv_bipush hx hb (hd' (by simp [zlen])) rfl (K H locs cells slots arr hI hL)
  | sipush n =>
    cases h
    exact lv_sipush hx hb (hd' (by simp [zlen])) rfl (K H locs cells slots arr hI hL)
  | lconst n =>
    cases h
    exact lv_lconst hx hb (hd' (by simp [zlen])) rfl (K H locs cells slots arr hI hL)
  | aconst_null =>
    cases h
    exact lv_null hx hb (hd' (by simp [zlen])) (K H locs cells slots arr hI hL)
  | ldc2_w k =>
    simp only [zst] at h
    split at h
    · rename_i v w hr
      cases h
      exact lv_ldc2 hx hb hown (hG _ (zK_ok hr)) (hd' (by simp [zlen])) (K H locs cells slots arr hI hL)
    · cases h
  | iload_n k =>
    simp only [zst] at h
    split at h
    · rename_i v hr
      cases h
      exact lv_iload_n hx hb (hd' (by simp [zlen])) rfl (hL.lo hr) (K H locs cells slots arr hI hL)
    · cases h
  | iload k =>
    simp only [zst] at h
    split at h
    · rename_i v hr
      cases h
      exact lv_iload hx hb (hd' (by simp [zlen])) (hL.lo hr) (K H locs cells slots arr hI hL)
    · cases h
  | lload_n k =>
    simp only [zst] at h
    split at h
    · rename_i v hr
      cases h
      exact lv_lload_n hx hb (hd' (by simp [zlen])) rfl (hL.lo hr) (K H locs cells slots arr hI hL)
    · cases h
  | lload k =>
    simp only [zst] at h
    split at h
    · rename_i v hr
      cases h
      exact lv_lload hx hb (hd' (by simp [zlen])) (hL.lo hr) (K H locs cells slots arr hI hL)
    · cases h
  | aload_n k =>
    simp only [zst] at h
    split at h
    · rename_i v hr
      cases h
      exact lv_aload_n hx hb (hd' (by simp [zlen])) rfl (hL.lo hr) (K H locs cells slots arr hI hL)
    · rename_i hr
      cases h
      exact lv_aload_nN hx hb (hd' (by simp [zlen])) rfl (hL.lo hr) (K H locs cells slots arr hI hL)
    · cases h
  | aload k =>
    simp only [zst] at h
    split at h
    · rename_i v hr
      cases h
      exact lv_aload hx hb (hd' (by simp [zlen])) (hL.lo hr) (K H locs cells slots arr hI hL)
    · rename_i hr
      cases h
      exact lv_aloadN hx hb (hd' (by simp [zlen])) (hL.lo hr) (K H locs cells slots arr hI hL)
    · cases h
  | istore_n k =>
    simp only [zst] at h
    split at h
    · rename_i v r
      split at h
      · rename_i ls' hr
        cases h
        exact lv_istore_n hx hb (hd' (by simp [zlen])) rfl hL.has (by rw [← hL.2.2.1]; exact zset_lt hr) rfl (fun arr' ha => K H locs cells slots arr' hI (zHl_set hr hL.2.2.1 ha (fun q hq => zmem hq)).1)
      · cases h
    · cases h
  | istore k =>
    simp only [zst] at h
    split at h
    · rename_i v r
      split at h
      · rename_i ls' hr
        cases h
        exact lv_istore hx hb (hd' (by simp [zlen])) hL.has (by rw [← hL.2.2.1]; exact zset_lt hr) rfl (fun arr' ha => K H locs cells slots arr' hI (zHl_set hr hL.2.2.1 ha (fun q hq => zmem hq)).1)
      · cases h
    · cases h
  | lstore_n k =>
    simp only [zst] at h
    split at h
    · rename_i v r
      split at h
      · rename_i ls' hr
        cases h
        exact lv_lstore_n hx hb (hd' (by simp [zlen])) rfl hL.has (by rw [← hL.2.2.1]; exact zsetL_lt hr) rfl (fun arr' ha => K H locs cells slots arr' hI (zHl_setL hr hL.2.2.1 ha (fun q hq => zmem hq)).1)
      · cases h
    · cases h
  | lstore k =>
    simp only [zst] at h
    split at h
    · rename_i v r
      split at h
      · rename_i ls' hr
        cases h
        exact lv_lstore hx hb (hd' (by simp [zlen])) hL.has (by rw [← hL.2.2.1]; exact zsetL_lt hr) rfl (fun arr' ha => K H locs cells slots arr' hI (zHl_setL hr hL.2.2.1 ha (fun q hq => zmem hq)).1)
      · cases h
    · cases h
  | astore_n k =>
    simp only [zst] at h
    split at h
    · rename_i v r
      split at h
      · rename_i ls' hr
        cases h
        exact lv_astore_n hx hb (hd' (by simp [zlen])) rfl hL.has (by rw [← hL.2.2.1]; exact zset_lt hr) rfl (fun arr' ha => K H locs cells slots arr' hI (zHl_set hr hL.2.2.1 ha (fun q hq => zmem hq)).1)
      · cases h
    · rename_i r
      split at h
      · rename_i ls' hr
        cases h
        exact lv_astore_nN hx hb (hd' (by simp [zlen])) rfl hL.has (by rw [← hL.2.2.1]; exact zset_lt hr) rfl (fun arr' ha => K H locs cells slots arr' hI (zHl_set hr hL.2.2.1 ha (fun q hq => zmem hq)).1)
      · cases h
    · cases h
  | astore k =>
    simp only [zst] at h
    split at h
    · rename_i v r
      split at h
      · rename_i ls' hr
        cases h
        exact lv_astore hx hb (hd' (by simp [zlen])) hL.has (by rw [← hL.2.2.1]; exact zset_lt hr) rfl (fun arr' ha => K H locs cells slots arr' hI (zHl_set hr hL.2.2.1 ha (fun q hq => zmem hq)).1)
      · cases h
    · rename_i r
      split at h
      · rename_i ls' hr
        cases h
        exact lv_astoreN hx hb (hd' (by simp [zlen])) hL.has (by rw [← hL.2.2.1]; exact zset_lt hr) rfl (fun arr' ha => K H locs cells slots arr' hI (zHl_set hr hL.2.2.1 ha (fun q hq => zmem hq)).1)
      · cases h
    · cases h
  | iinc k n =>
    simp only [zst] at h
    split at h
    · rename_i v hv
      split at h
      · rename_i ls' hr
        cases h
        have hh : lv_has arr (zL mi) ((k, .int v) :: zpr ad ls) := ⟨hL.1, hL.2.1, fun q hq => by
          rcases List.mem_cons.mp hq with rfl | hq
          · exact hL.lo hv
          · exact hL.has.2.2 q hq⟩
        exact lv_iinc hx hb (hd' (by simp [zlen])) hh (k := 0) rfl rfl (by rw [← hL.2.2.1]; exact zset_lt hr) rfl (fun arr' ha => K H locs cells slots arr' hI (zHl_set hr hL.2.2.1 ha (fun q hq => zmem2 hq)).1)
      · cases h
    · cases h
  | iadd =>
    simp only [zst] at h
    split at h
    · cases h
      exact lv_iadd hx hb (hd' (by simp [zlen])) (K H locs cells slots arr hI hL)
    · cases h
  | isub =>
    simp only [zst] at h
    split at h
    · cases h
      exact lv_isub hx hb (hd' (by simp [zlen])) (K H locs cells slots arr hI hL)
    · cases h
  | imul =>
    simp only [zst] at h
    split at h
    · cases h
      exact lv_imul hx hb (hd' (by simp [zlen])) (K H locs cells slots arr hI hL)
    · cases h
  | iand =>
    simp only [zst] at h
    split at h
    · cases h
      exact lv_iand hx hb (hd' (by simp [zlen])) (K H locs cells slots arr hI hL)
    · cases h
  | ior =>
    simp only [zst] at h
    split at h
    · cases h
      exact lv_ior hx hb (hd' (by simp [zlen])) (K H locs cells slots arr hI hL)
    · cases h
  | ishl =>
    simp only [zst] at h
    split at h
    · cases h
      exact lv_ishl hx hb (hd' (by simp [zlen])) (K H locs cells slots arr hI hL)
    · cases h
  | ishr =>
    simp only [zst] at h
    split at h
    · cases h
      exact lv_ishr hx hb (hd' (by simp [zlen])) (K H locs cells slots arr hI hL)
    · cases h
  | ladd =>
    simp only [zst] at h
    split at h
    · cases h
      exact lv_ladd hx hb (hd' (by simp [zlen])) (K H locs cells slots arr hI hL)
    · cases h
  | lsub =>
    simp only [zst] at h
    split at h
    · cases h
      exact lv_lsub hx hb (hd' (by simp [zlen])) (K H locs cells slots arr hI hL)
    · cases h
  | lmul =>
    simp only [zst] at h
    split at h
    · cases h
      exact lv_lmul hx hb (hd' (by simp [zlen])) (K H locs cells slots arr hI hL)
    · cases h
  | idiv =>
    simp only [zst] at h
    split at h
    · split at h
      · cases h
      · rename_i hne
        cases h
        exact lv_idiv hx hb (hd' (by simp [zlen])) hne (K H locs cells slots arr hI hL)
    · cases h
  | irem =>
    simp only [zst] at h
    split at h
    · split at h
      · cases h
      · rename_i hne
        cases h
        exact lv_irem hx hb (hd' (by simp [zlen])) hne (K H locs cells slots arr hI hL)
    · cases h
  | ldiv =>
    simp only [zst] at h
    split at h
    · split at h
      · cases h
      · rename_i hne
        cases h
        exact lv_ldiv hx hb (hd' (by simp [zlen])) hne (K H locs cells slots arr hI hL)
    · cases h
  | lrem =>
    simp only [zst] at h
    split at h
    · split at h
      · cases h
      · rename_i hne
        cases h
        exact lv_lrem hx hb (hd' (by simp [zlen])) hne (K H locs cells slots arr hI hL)
    · cases h
  | ineg =>
    simp only [zst] at h
    split at h
    · cases h
      exact lv_ineg hx hb (hd' (by simp [zlen])) (K H locs cells slots arr hI hL)
    · cases h
  | lcmp =>
    simp only [zst] at h
    split at h
    · cases h
      exact W.lcmp hx hb (hd' (by simp [zlen])) (K H locs cells slots arr hI hL)
    · cases h
  | i2l =>
    simp only [zst] at h
    split at h
    · cases h
      exact lv_i2l hx hb (hd' (by simp [zlen])) rfl (K H locs cells slots arr hI hL)
    · cases h
  | l2i =>
    simp only [zst] at h
    split at h
    · cases h
      exact lv_l2i hx hb (hd' (by simp [zlen])) rfl (K H locs cells slots arr hI hL)
    · cases h
  | dup =>
    simp only [zst] at h
    split at h
    · split at h
      · rename_i hc
        cases h
        exact lv_dup hx hb (hd' (by simp [zlen])) (by rw [zv_cat]; exact hc) (K H locs cells slots arr hI hL)
      · cases h
    · cases h
  | pop =>
    simp only [zst] at h
    split at h
    · split at h
      · rename_i hc
        cases h
        exact lv_pop hx hb (hd' (by simp [zlen])) (by rw [zv_cat]; exact hc) (K H locs cells slots arr hI hL)
      · cases h
    · cases h
  | dup2 =>
    simp only [zst] at h
    split at h
    · split at h
      · rename_i hc
        cases h
        exact lv_dup2_11 hx hb (hd' (by simp [zlen])) (by rw [zv_cat]; exact hc.1) (by rw [zv_cat]; exact hc.2) (K H locs cells slots arr hI hL)
      · cases h
    · cases h
  | dup_x1 =>
    simp only [zst] at h
    split at h
    · split at h
      · rename_i hc
        cases h
        exact lv_dup_x1 hx hb (hd' (by simp [zlen])) (by rw [zv_cat]; exact hc.1) (by rw [zv_cat]; exact hc.2) (K H locs cells slots arr hI hL)
      · cases h
    · cases h
  | goto off =>
    simp only [zst] at h
    split at h
    · rename_i t ht
      cases h
      exact lv_goto hx hb (hd' (by simp [zlen])) (ztg_ok ht) (K H locs cells slots arr hI hL)
    · cases h
  | ifCond cd off =>
    simp only [zst] at h
    split at h
    · rename_i t ht
      split at h
      · cases h
        cases cd with
        | eq =>
          refine lv_if_eq hx hb (hd' (by simp [zlen])) (ztg_ok ht) (fun hc => ?_) (fun hc => ?_)
          · have k := K H locs cells slots arr hI hL
            simp only [zbr, if_pos hc] at k
            exact k
          · have k := K H locs cells slots arr hI hL
            simp only [zbr, if_neg hc] at k
            exact k
        | ne =>
          refine lv_if_ne hx hb (hd' (by simp [zlen])) (ztg_ok ht) (fun hc => ?_) (fun hc => ?_)
          · have k := K H locs cells slots arr hI hL
            simp only [zbr, if_neg hc] at k
            exact k
          · have k := K H locs cells slots arr hI hL
            simp only [zbr, if_pos hc] at k
            exact k
        | lt =>
          refine lv_if_lt hx hb (hd' (by simp [zlen])) (ztg_ok ht) (fun hc => ?_) (fun hc => ?_)
          · have k := K H locs cells slots arr hI hL
            simp only [zbr, if_pos hc] at k
            exact k
          · have k := K H locs cells slots arr hI hL
            simp only [zbr, if_neg hc] at k
            exact k
        | ge =>
          refine lv_if_ge hx hb (hd' (by simp [zlen])) (ztg_ok ht) (fun hc => ?_) (fun hc => ?_)
          · have k := K H locs cells slots arr hI hL
            simp only [zbr, if_pos hc] at k
            exact k
          · have k := K H locs cells slots arr hI hL
            simp only [zbr, if_neg hc] at k
            exact k
        | gt =>
          refine lv_if_gt hx hb (hd' (by simp [zlen])) (ztg_ok ht) (fun hc => ?_) (fun hc => ?_)
          · have k := K H locs cells slots arr hI hL
            simp only [zbr, if_pos hc] at k
            exact k
          · have k := K H locs cells slots arr hI hL
            simp only [zbr, if_neg hc] at k
            exact k
        | le =>
          refine lv_if_le hx hb (hd' (by simp [zlen])) (ztg_ok ht) (fun hc => ?_) (fun hc => ?_)
          · have k := K H locs cells slots arr hI hL
            simp only [zbr, if_pos hc] at k
            exact k
          · have k := K H locs cells slots arr hI hL
            simp only [zbr, if_neg hc] at k
            exact k
      · cases h
    · cases h
  | if_icmp cd off =>
    simp only [zst] at h
    split at h
    · rename_i t ht
      split at h
      · cases h
        cases cd with
        | eq =>
          refine lv_icmp_eq hx hb (hd' (by simp [zlen])) (ztg_ok ht) (fun hc => ?_) (fun hc => ?_)
          · have k := K H locs cells slots arr hI hL
            simp only [zbr, if_pos hc] at k
            exact k
          · have k := K H locs cells slots arr hI hL
            simp only [zbr, if_neg hc] at k
            exact k
        | ne =>
          refine lv_icmp_ne hx hb (hd' (by simp [zlen])) (ztg_ok ht) (fun hc => ?_) (fun hc => ?_)
          · have k := K H locs cells slots arr hI hL
            simp only [zbr, if_neg hc] at k
            exact k
          · have k := K H locs cells slots arr hI hL
            simp only [zbr, if_pos hc] at k
            exact k
        | lt =>
          refine lv_icmp_lt hx hb (hd' (by simp [zlen])) (ztg_ok ht) (fun hc => ?_) (fun hc => ?_)
          · have k := K H locs cells slots arr hI hL
            simp only [zbr, if_pos hc] at k
            exact k
          · have k := K H locs cells slots arr hI hL
            simp only [zbr, if_neg hc] at k
            exact k
        | ge =>
          refine lv_icmp_ge hx hb (hd' (by simp [zlen])) (ztg_ok ht) (fun hc => ?_) (fun hc => ?_)
          · have k := K H locs cells slots arr hI hL
            simp only [zbr, if_pos hc] at k
            exact k
          · have k := K H locs cells slots arr hI hL
            simp only [zbr, if_neg hc] at k
            exact k
        | gt =>
          refine lv_icmp_gt hx hb (hd' (by simp [zlen])) (ztg_ok ht) (fun hc => ?_) (fun hc => ?_)
          · have k := K H locs cells slots arr hI hL
            simp only [zbr, if_pos hc] at k
            exact k
          · have k := K H locs cells slots arr hI hL
            simp only [zbr, if_neg hc] at k
            exact k
        | le =>
          refine lv_icmp_le hx hb (hd' (by simp [zlen])) (ztg_ok ht) (fun hc => ?_) (fun hc => ?_)
          · have k := K H locs cells slots arr hI hL
            simp only [zbr, if_pos hc] at k
            exact k
          · have k := K H locs cells slots arr hI hL
            simp only [zbr, if_neg hc] at k
            exact k
      · cases h
    · cases h
  | ifnull off =>
    simp only [zst] at h
    split at h
    · rename_i t ht
      split at h
      · cases h
        exact lv_ifnull hx hb (hd' (by simp [zlen])) (K H locs cells slots arr hI hL)
      · cases h
        exact lv_ifnullN hx hb (hd' (by simp [zlen])) (ztg_ok ht) (K H locs cells slots arr hI hL)
      · cases h
    · cases h
  | ifnonnull off =>
    simp only [zst] at h
    split at h
    · rename_i t ht
      split at h
      · cases h
        exact lv_ifnonnull hx hb (hd' (by simp [zlen])) (ztg_ok ht) (K H locs cells slots arr hI hL)
      · cases h
        exact lv_ifnonnullN hx hb (hd' (by simp [zlen])) (K H locs cells slots arr hI hL)
      · cases h
    · cases h
  | tableswitch dflt lo hi offs =>
    simp only [zst] at h
    split at h
    · rename_i v r
      split at h
      · rename_i off ho
        split at h
        · rename_i t ht
          cases h
          unfold zsw at ho
          split at ho
          · rename_i h1
            cases ho
            exact lv_tableOut hx hb hd (Or.inl h1) (ztg_ok ht) (K H locs cells slots arr hI hL)
          · rename_i h1
            split at ho
            · rename_i h2
              cases ho
              exact lv_tableOut hx hb hd (Or.inr h2) (ztg_ok ht) (K H locs cells slots arr hI hL)
            · rename_i h2
              exact lv_tableIn hx hb hd h1 h2 ho (ztg_ok ht) (K H locs cells slots arr hI hL)
        · cases h
      · cases h
    · cases h
  | getfield k =>
    simp only [zst] at h
    split at h
    · rename_i o r
      split at h
      · rename_i v hv
        cases h
        unfold zgetf at hv
        split at hv
        · rename_i h0 ci fs hc
          split at hv
          · rename_i cj kk pp hr
            split at hv
            · rename_i he
              subst he
              obtain ⟨rfl, hc2⟩ := zcell_ok hc
              obtain ⟨q, hq, hk, hw⟩ := zF_ok hr
              obtain ⟨q1, q2, q3⟩ := q
              exact va_get (D := (dC, dI)) (ci := ci) (v := zv ad v) (C := q1) (T := q2) (N := q3) hx hb hG (zU_ok hq) hown hK hP h0 (zw_get (c := .inr (ci, fs)) hc2) hq kk hk (hG _ hw) (fun _ h9 => h9) (by rw [List.getElem?_map, hv]; rfl) (hd' (by simp [zlen])) (K H locs cells slots arr hI hL)
            · cases hv
          · cases hv
        · cases hv
      · cases h
    · cases h
  | putfield k =>
    simp only [zst] at h
    split at h
    · rename_i v o r
      split at h
      · rename_i hp' hv
        cases h
        unfold zputf at hv
        split at hv
        · rename_i h0 ci fs hc
          split at hv
          · rename_i cj kk pp hr
            split at hv
            · rename_i he
              obtain ⟨he, hkl⟩ := he
              subst he
              split at hv
              · rename_i ty hty
                split at hv
                · rename_i hfit
                  cases hv
                  obtain ⟨rfl, hc2⟩ := zcell_ok hc
                  obtain ⟨q, hq, hk, hw⟩ := zF_ok hr
                  obtain ⟨ty', hty', hpd, hnmq, -⟩ := zT_ok hq
                  have hte : ty' = ty := Option.some.inj (hty'.symm.trans hty)
                  subst hte
                  replace hfit := zfits_ok hfit
                  obtain ⟨q1, q2, q3⟩ := q
                  by_cases hfin : (q2 kk).2.2.2 = false
                  · refine va_put (D := (dC, dI)) (ci := ci) (v := zv ad v) (ty := ty' kk) (C := q1) (T := q2) (N := q3) hx hb hG (zU_ok hq) ty' hpd hnmq hown hK hP hD hS h0 (zw_get (c := .inr (ci, fs)) hc2) hq kk hk (hG _ hw) (fun _ h9 => h9) hfin (hpd kk hk) (znar hfit.1) (zfit hfit.2) (by rw [List.length_map]; exact hkl) (hd' (by simp [zlen])) (fun H1 locs1 hP1 hD1 hS1 => zW_size (fun hle => ?_))
                    rw [← List.map_set] at hP1 hD1
                    exact K H1 locs1 cells slots arr (zIn_set (x' := .inr (ci, fs.set kk v)) hF hI hc2 (by simp [zsz]) hP1 hD1 hS1 hle) hL
                  · by_cases hini : (zY mi).name = "<init>" ∧ (q2 kk).1 = zCN (zC mi)
                    · refine va_putF (D := (dC, dI)) (ci := ci) (v := zv ad v) (ty := ty' kk) (C := q1) (T := q2) (N := q3) hx hb hG (zU_ok hq) ty' hpd hnmq hown hK hP hD hS h0 (zw_get (c := .inr (ci, fs)) hc2) hq kk hk (hG _ hw) (fun _ h9 => h9) (by simpa using hfin) (by rw [hnm]; exact hini.1) hini.2 (hpd kk hk) (znar hfit.1) (zfit hfit.2) (by rw [List.length_map]; exact hkl) (hd' (by simp [zlen])) (fun H1 locs1 hP1 hD1 hS1 => zW_size (fun hle => ?_))
                      rw [← List.map_set] at hP1 hD1
                      exact K H1 locs1 cells slots arr (zIn_set (x' := .inr (ci, fs.set kk v)) hF hI hc2 (by simp [zsz]) hP1 hD1 hS1 hle) hL
                    · exact absurd (zPf_ok hi hr hq (by simpa using hfin)) hini
                · cases hv
              · cases hv
            · cases hv
          · cases hv
        · cases hv
      · cases h
    · cases h
  | iaload =>
    simp only [zst] at h
    split at h
    · rename_i i o r
      split at h
      · rename_i v hv
        cases h
        unfold zald at hv
        split at hv
        · rename_i h0 t n d hc
          split at hv
          · rename_i ht
            subst ht
            split at hv
            · rename_i k hk
              obtain ⟨rfl, hc2⟩ := zcell_ok hc
              obtain ⟨hin, rfl⟩ := zin_ok hk
              rcases d with f | f | f | f | f
              · cases hv; exact va_iald (cA := dA 0) hx hb hK hP h0 0 (zw_get (c := .inl (0, n, .inl f)) hc2) (zty_get zTY_0) hin (hd' (by simp [zlen])) (K H locs cells slots arr hI hL)
              · cases hv
              · cases hv
              · cases hv
              · dsimp only at hv; cases hf : f i.toNatClampNeg <;> (rw [hf] at hv; cases hv)
            · cases hv
          · cases hv
        · cases hv
      · cases h
    · cases h
  | baload =>
    simp only [zst] at h
    split at h
    · rename_i i o r
      split at h
      · rename_i v hv
        cases h
        unfold zald at hv
        split at hv
        · rename_i h0 t n d hc
          split at hv
          · rename_i ht
            subst ht
            split at hv
            · rename_i k hk
              obtain ⟨rfl, hc2⟩ := zcell_ok hc
              obtain ⟨hin, rfl⟩ := zin_ok hk
              rcases d with f | f | f | f | f
              · cases hv; exact va_zald (cA := dA 1) hx hb hK hP h0 1 (zw_get (c := .inl (1, n, .inl f)) hc2) (zty_get zTY_1) hin (hd' (by simp [zlen])) (K H locs cells slots arr hI hL)
              · cases hv
              · cases hv
              · cases hv
              · dsimp only at hv; cases hf : f i.toNatClampNeg <;> (rw [hf] at hv; cases hv)
            · cases hv
          · cases hv
        · cases hv
      · cases h
    · cases h
  | laload =>
    simp only [zst] at h
    split at h
    · rename_i i o r
      split at h
      · rename_i v hv
        cases h
        unfold zald at hv
        split at hv
        · rename_i h0 t n d hc
          split at hv
          · rename_i ht
            subst ht
            split at hv
            · rename_i k hk
              obtain ⟨rfl, hc2⟩ := zcell_ok hc
              obtain ⟨hin, rfl⟩ := zin_ok hk
              rcases d with f | f | f | f | f
              · cases hv
              · cases hv; exact va_lald (cA := dA 2) hx hb hK hP h0 2 (zw_get (c := .inl (2, n, .inr (.inl f))) hc2) (zty_get zTY_2) hin (hd' (by simp [zlen])) (K H locs cells slots arr hI hL)
              · cases hv
              · cases hv
              · dsimp only at hv; cases hf : f i.toNatClampNeg <;> (rw [hf] at hv; cases hv)
            · cases hv
          · cases hv
        · cases hv
      · cases h
    · cases h
  | aaload =>
    simp only [zst] at h
    split at h
    · rename_i i o r
      split at h
      · rename_i h0 t n f hc
        split at h
        · rename_i C hty
          split at h
          · rename_i v hv
            cases h
            unfold zald at hv
            rw [hc] at hv
            simp only [if_true] at hv
            obtain ⟨rfl, hc2⟩ := zcell_ok hc
            split at hv
            · rename_i k hk
              obtain ⟨hin, rfl⟩ := zin_ok hk
              cases hv
              have k := K H locs cells slots arr hI hL
              simp only [List.map_cons, zv_rf] at k
              exact va_aldq (cA := dA t) (C := C) hx hb hK hP h0 t (zw_get (c := .inl (t, n, .inr (.inr (.inr (.inr f))))) hc2) (zty_get hty) hin (hd' (by simp [zlen])) k
            · cases hv
          · cases h
        · cases h
      · cases h
    · cases h
  | iastore =>
    simp only [zst] at h
    split at h
    · rename_i x i o r
      split at h
      · rename_i h0 n d hc
        split at h
        · rename_i hp' hv
          cases h
          unfold zast at hv
          rw [hc] at hv
          obtain ⟨rfl, hc2⟩ := zcell_ok hc
          dsimp only at hv
          split at hv
          · rename_i k hk
            obtain ⟨hin, rfl⟩ := zin_ok hk
            rcases d with f | f | f | f | f
            · simp only [if_true] at hv
              
              cases hv
              
              refine va_iast (cA := dA 0) hx hb hK hP hD hS h0 0 (zw_get (c := .inl (0, n, .inl f)) hc2) (zty_get zTY_0) hin (hd' (by simp [zlen])) (fun H1 locs1 hP1 hD1 hS1 => zW_size (fun hle => ?_))
              
              exact K H1 locs1 cells slots arr (zIn_set (x' := .inl (0, n, .inl (upd f i.toNatClampNeg x))) hF hI hc2 rfl hP1 hD1 hS1 hle) hL
              
            · exact absurd hv (by simp)
            · exact absurd hv (by simp)
            · exact absurd hv (by simp)
            · exact absurd hv (by simp)
          · cases hv
        · cases h
      · cases h
    · cases h
  | bastore =>
    simp only [zst] at h
    split at h
    · rename_i x i o r
      split at h
      · rename_i h0 n d hc
        split at h
        · rename_i hp' hv
          cases h
          unfold zast at hv
          rw [hc] at hv
          obtain ⟨rfl, hc2⟩ := zcell_ok hc
          dsimp only at hv
          split at hv
          · rename_i k hk
            obtain ⟨hin, rfl⟩ := zin_ok hk
            rcases d with f | f | f | f | f
            · simp only [Nat.one_ne_zero, if_false, true_and] at hv
              split at hv
              · rename_i hnr
                cases hv
                refine va_zast (cA := dA 1) hx hb hK hP hD hS h0 1 (zw_get (c := .inl (1, n, .inl f)) hc2) (zty_get zTY_1) hin (hd' (by simp [zlen])) (fun H1 locs1 hP1 hD1 hS1 => zW_size (fun hle => ?_))
                rw [hnr] at hP1 hD1
                exact K H1 locs1 cells slots arr (zIn_set (x' := .inl (1, n, .inl (upd f i.toNatClampNeg x))) hF hI hc2 rfl hP1 hD1 hS1 hle) hL
              · cases hv
            · exact absurd hv (by simp)
            · exact absurd hv (by simp)
            · exact absurd hv (by simp)
            · exact absurd hv (by simp)
          · cases hv
        · cases h
      · cases h
    · cases h
  | lastore =>
    simp only [zst] at h
    split at h
    · rename_i x i o r
      split at h
      · rename_i hp' hv
        cases h
        unfold zast at hv
        split at hv
        · rename_i h0 t n d hc
          obtain ⟨rfl, hc2⟩ := zcell_ok hc
          split at hv
          · rename_i k hk
            obtain ⟨hin, rfl⟩ := zin_ok hk
            rcases d with f | f | f | f | f
            · exact absurd hv (by simp)
            · dsimp only at hv
              split at hv
              · rename_i ht
                subst ht
                cases hv
                refine va_last (cA := dA 2) hx hb hK hP hD hS h0 2 (zw_get (c := .inl (2, n, .inr (.inl f))) hc2) (zty_get zTY_2) hin (hd' (by simp [zlen])) (fun H1 locs1 hP1 hD1 hS1 => zW_size (fun hle => ?_))
                exact K H1 locs1 cells slots arr (zIn_set (x' := .inl (2, n, .inr (.inl (vp_updL f i.toNatClampNeg x)))) hF hI hc2 rfl hP1 hD1 hS1 hle) hL
              · cases hv
            · exact absurd hv (by simp)
            · exact absurd hv (by simp)
            · exact absurd hv (by simp)
          · cases hv
        · cases hv
      · cases h
    · cases h
  | aastore =>
    simp only [zst] at h
    split at h
    · rename_i b i o r
      split at h
      · rename_i hp' hv
        cases h
        unfold zast at hv
        split at hv
        · rename_i h0 t n d hc
          obtain ⟨rfl, hc2⟩ := zcell_ok hc
          split at hv
          · rename_i k hk
            obtain ⟨hin, rfl⟩ := zin_ok hk
            rcases d with f | f | f | f | f
            · exact absurd hv (by simp)
            · exact absurd hv (by simp)
            · exact absurd hv (by simp)
            · exact absurd hv (by simp)
            · dsimp only at hv
              split at hv
              · rename_i ci vs hbv
                split at hv
                · rename_i C q hty hq
                  split at hv
                  · rename_i hC
                    subst hC
                    cases hv
                    refine va_astq (cA := dA t) hx hb hK hP hD hS h0 t b ci (zw_get (c := .inl (t, n, .inr (.inr (.inr (.inr f))))) hc2) (zty_get hty) (zw_get (c := .inr (ci, vs)) hbv) hq hin (hd' (by simp [zlen])) (fun H1 locs1 hP1 hD1 hS1 => zW_size (fun hle => ?_))
                    have e9 : (va_up (fun i => (f i).map ad) i.toNatClampNeg (some (ad b))) = fun j => (va_up f i.toNatClampNeg (some b) j).map ad := by
                      funext j
                      unfold va_up
                      split <;> rfl
                    rw [e9] at hP1 hD1
                    exact K H1 locs1 cells slots arr (zIn_set (x' := .inl (t, n, .inr (.inr (.inr (.inr (va_up f i.toNatClampNeg (some b))))))) hF hI hc2 rfl hP1 hD1 hS1 hle) hL
                  · cases hv
                · cases hv
              · cases hv
          · cases hv
        · cases hv
      · cases h
    · cases h
  | arraylength =>
    simp only [zst] at h
    split at h
    · rename_i o r
      split at h
      · rename_i h0 t n d hc
        split at h
        · rename_i ty hty
          cases h
          obtain ⟨rfl, hc2⟩ := zcell_ok hc
          have k := K H locs cells slots arr hI hL
          rcases d with f | f | f | f | f
          · exact va_alen (cA := dA t) hx hb hK hP h0 t (zw_get (c := .inl (t, n, .inl f)) hc2) (zty_get hty) rfl (hd' (by simp [zlen])) k
          · exact va_alen (cA := dA t) hx hb hK hP h0 t (zw_get (c := .inl (t, n, .inr (.inl f))) hc2) (zty_get hty) rfl (hd' (by simp [zlen])) k
          · exact va_alen (cA := dA t) hx hb hK hP h0 t (zw_get (c := .inl (t, n, .inr (.inr (.inl f)))) hc2) (zty_get hty) rfl (hd' (by simp [zlen])) k
          · exact va_alen (cA := dA t) hx hb hK hP h0 t (zw_get (c := .inl (t, n, .inr (.inr (.inr (.inl f))))) hc2) (zty_get hty) rfl (hd' (by simp [zlen])) k
          · exact va_alen (cA := dA t) hx hb hK hP h0 t (zw_get (c := .inl (t, n, .inr (.inr (.inr (.inr f))))) hc2) (zty_get hty) rfl (hd' (by simp [zlen])) k
        · cases h
      · cases h
    · cases h
  | new k =>
    simp only [zst] at h
    split at h
    · rename_i ci rr hr
      split at h
      · rename_i fs hfs
        cases h
        obtain ⟨q, hq, hw1, hw2, hw3⟩ := zN_ok hr
        obtain ⟨ty, hty, hpd, hnmq, fs', hfs', hfl, hdef⟩ := zT_ok hq
        have hfe : fs' = fs := Option.some.inj (hfs'.symm.trans hfs)
        subst hfe
        obtain ⟨q1, q2, q3⟩ := q
        have hlen5 := hI.2.2.2.2.1
        have hsl6 := hI.2.2.2.2.2
        dsimp only at hrc hrs
        rw [List.length_append] at hrc
        rw [zhs_push] at hrs
        simp only [List.length_cons, List.length_nil, zsz] at hrc hrs
        refine va_new (D := (dC, dI)) (ci := ci) (fs := fs'.map (zv ad)) (C := q1) (T := q2) (N := q3) hx hb hG (zU_ok hq) ty hpd hown (hG _ hw1) (hG _ hw2) (hG _ hw3) hK hP hD hS hF.2.1 hq (fun j hj => ?_) (by omega) (by dsimp only at hfl; omega) (hd' (by simp [zlen])) (fun a H1 hP1 hD1 hS1 => zW_size (fun hle => ?_))
        · rw [hdef j hj]
          have e8 : vp_V (fs'.map (zv ad)) j = zv ad (vp_V fs' j) := by
            unfold vp_V
            rw [List.getD_eq_getElem?_getD, List.getD_eq_getElem?_getD, List.getElem?_map]
            cases fs'[j]? <;> rfl
          rw [e8, ← hdef j hj, zdef_zv]
        · obtain ⟨rfl, hI1⟩ := zIn_push (x := .inr (ci, fs')) hF hI hP1 hD1 hS1 hle
          have k := K H1 locs (cells + 1) (slots + q3) arr (by dsimp only [zsz] at hI1; dsimp only at hfl; rw [hfl] at hI1; exact hI1) hL
          exact k
      · cases h
    · cases h
  | newarray aty =>
    simp only [zst] at h
    split at h
    · rename_i n r
      split at h
      · cases h
      · rename_i hn
        have hn0 : ¬ n < 0 := fun q => hn (Or.inl q)
        have hn1 : n.toNatClampNeg ≤ 1000000 := Nat.not_lt.mp fun q => hn (Or.inr q)
        have hlen5 := hI.2.2.2.2.1
        have hsl6 := hI.2.2.2.2.2
        split at h
        · cases h
          dsimp only at hrc hrs
          rw [List.length_append] at hrc
          rw [zhs_push] at hrs
          simp only [List.length_cons, List.length_nil, zsz] at hrc hrs
          refine va_newa (a0 := (n.toNatClampNeg, .inl (fun _ => 0))) (atype := .int) (ty := .int) hx hb (hG _ zac_i) rfl hK hP hD hS hF.2.1 (fun _ => rfl) hn0 rfl (by simp only [componentBytes]; omega) (by omega) (by omega) (hd' (by simp [zlen])) (fun q cA H1 hK1 hP1 hD1 hS1 => zW_size (fun hle => ?_))
          have hcA : cA = dA 0 := zRA_inj (hK1.2 (zty dA).length (cA, .int) (by simp)).2 (hK.2 0 _ (zty_get zTY_0)).2
          subst hcA
          obtain ⟨rfl, hI1⟩ := zIn_push (x := .inl (0, n.toNatClampNeg, .inl (fun _ => 0))) hF hI hP1 hD1 hS1 hle
          exact K H1 locs (cells + 1) (slots + n.toNatClampNeg) arr hI1 hL
        · cases h
          dsimp only at hrc hrs
          rw [List.length_append] at hrc
          rw [zhs_push] at hrs
          simp only [List.length_cons, List.length_nil, zsz] at hrc hrs
          refine va_newa (a0 := (n.toNatClampNeg, .inl (fun _ => 0))) (atype := .boolean) (ty := .boolean) hx hb (hG _ zac_z) rfl hK hP hD hS hF.2.1 (fun _ => rfl) hn0 rfl (by simp only [componentBytes]; omega) (by omega) (by omega) (hd' (by simp [zlen])) (fun q cA H1 hK1 hP1 hD1 hS1 => zW_size (fun hle => ?_))
          have hcA : cA = dA 1 := zRA_inj (hK1.2 (zty dA).length (cA, .boolean) (by simp)).2 (hK.2 1 _ (zty_get zTY_1)).2
          subst hcA
          obtain ⟨rfl, hI1⟩ := zIn_push (x := .inl (1, n.toNatClampNeg, .inl (fun _ => 0))) hF hI hP1 hD1 hS1 hle
          exact K H1 locs (cells + 1) (slots + n.toNatClampNeg) arr hI1 hL
        · cases h
          dsimp only at hrc hrs
          rw [List.length_append] at hrc
          rw [zhs_push] at hrs
          simp only [List.length_cons, List.length_nil, zsz] at hrc hrs
          refine va_newa (a0 := (n.toNatClampNeg, .inr (.inl (fun _ => 0)))) (atype := .long) (ty := .long) hx hb (hG _ zac_l) rfl hK hP hD hS hF.2.1 (fun _ => rfl) hn0 rfl (by simp only [componentBytes]; omega) (by omega) (by omega) (hd' (by simp [zlen])) (fun q cA H1 hK1 hP1 hD1 hS1 => zW_size (fun hle => ?_))
          have hcA : cA = dA 2 := zRA_inj (hK1.2 (zty dA).length (cA, .long) (by simp)).2 (hK.2 2 _ (zty_get zTY_2)).2
          subst hcA
          obtain ⟨rfl, hI1⟩ := zIn_push (x := .inl (2, n.toNatClampNeg, .inr (.inl (fun _ => 0)))) hF hI hP1 hD1 hS1 hle
          exact K H1 locs (cells + 1) (slots + n.toNatClampNeg) arr hI1 hL
        · cases h
    · cases h
  | anewarray k =>
    simp only [zst] at h
    split at h
    · rename_i n r
      split at h
      · cases h
      · rename_i hn
        have hn0 : ¬ n < 0 := fun q => hn (Or.inl q)
        have hn1 : n.toNatClampNeg ≤ 1000000 := Nat.not_lt.mp fun q => hn (Or.inr q)
        have hlen5 := hI.2.2.2.2.1
        have hsl6 := hI.2.2.2.2.2
        split at h
        · rename_i t rr hr
          cases h
          obtain ⟨ci, r2⟩ := rr
          obtain ⟨q, hq, hty, hw1, hw2⟩ := zA_ok hr
          dsimp only at hrc hrs
          rw [List.length_append] at hrc
          rw [zhs_push] at hrs
          simp only [List.length_cons, List.length_nil, zsz] at hrc hrs
          refine va_newq (C := q.1) hx hb hown (hG _ hw1) (hX.2 _ _ _ _ _ _ hr hq) hK hP hD hS hF.2.1 hn0 rfl (by omega) (by omega) (by omega) (hd' (by simp [zlen])) (fun a cA H1 hK1 hP1 hD1 hS1 => zW_size (fun hle => ?_))
          have hcA : cA = dA t := zRA_inj (hK1.2 (zty dA).length (cA, .object q.1) (by simp)).2 (hK.2 t _ (zty_get hty)).2
          subst hcA
          obtain ⟨rfl, hI1⟩ := zIn_push (x := .inl (t, n.toNatClampNeg, .inr (.inr (.inr (.inr (fun _ => none)))))) hF hI hP1 hD1 hS1 hle
          exact K H1 locs (cells + 1) (slots + n.toNatClampNeg) arr hI1 hL
        · cases h
    · cases h
  | invokespecial k =>
    simp only [zst] at h
    split at h
    · rename_i rr hr
      split at h
      · rename_i a r
        split at h
        · rename_i hc
          cases h
          obtain ⟨w1, w2, w3⟩ := zO_ok hr
          refine W.objInit (g := F0 m pc arr ((.ref (ad a)) :: r.map (zv ad))) hx hb hown (hG _ w1) (hG _ w2) (hG _ w3) rfl (by rw [hml]; exact hL.1) rfl (hd' (by simp [zlen])) hfr ?_ (K H locs cells slots arr hI hL)
          show 2 * 0 + ((r.map (zv ad)).map fun v => v.category).sum + 12 ≤ R.locals
          rw [zmapcat]
          omega
        · cases h
      · cases h
    · cases h
  | invokestatic k =>
    simp only [zst] at h
    split at h
    · rename_i w rr hr
      split at h
      · rename_i y x r
        split at h
        · rename_i hc
          cases h
          obtain ⟨w1, w2, w3, w4⟩ := zX_ok hr
          have hlen5 := hI.2.2.2.2.1
          have hsl6 := hI.2.2.2.2.2
          dsimp only at hrc hrs
          have hcat := zmapcat (ad := ad) r
          have k := K H locs cells slots arr hI hL
          by_cases hw0 : w = 0
          · simp only [hw0, zmn, zmc, if_true] at w1 w2 w4
            simp only [hw0, if_true] at k
            exact va_mmin hx hb (by rw [hml]; exact hL.1.symm) hown (hG _ w1) (hG _ w2) (hG _ w3) (hG _ w4) hfr (by rw [hcat]; omega) (by omega) (by omega) (hd' (by simp [zlen])) k
          · simp only [hw0, zmn, zmc, if_false] at w1 w2 w4
            simp only [hw0, if_false] at k
            exact va_mmax hx hb (by rw [hml]; exact hL.1.symm) hown (hG _ w1) (hG _ w2) (hG _ w3) (hG _ w4) hfr (by rw [hcat]; omega) (by omega) (by omega) (hd' (by simp [zlen])) k
        · cases h
      · cases h
    · cases h
  | _ => exact absurd h (by simp [zst])
end ZST2
