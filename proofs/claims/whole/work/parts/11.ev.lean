/-! ===== runs of the small machine, goal first ===== -/
set_option maxHeartbeats 1000000 in
theorem zgo_more : ∀ (n d mi pc : Nat) (ls : zLs) (st : List Value) (hp : zHp) (x : zCf), zgo n d mi pc ls st hp = some x → zgo (n + 1) d mi pc ls st hp = some x := by
  intro n
  induction n with
  | zero => intro d mi pc ls st hp x h; simp [zgo] at h
  | succ n ih =>
    intro d mi pc ls st hp x h
    rw [zgo] at h ⊢
    split at h
    · cases h
    · split at h
      · next hs => rw [if_pos hs]; exact h
      · next hs =>
        rw [if_neg hs]
        split at h
        · split at h
          · cases h
          · split at h
            · cases h
            · next hst =>
              rw [if_neg hst]
              split at h
              · cases h
              · next h1 =>
                split at h
                · cases h
                · next h2 =>
                  rw [ih _ _ _ _ _ _ _ h1]
                  simp only [h2]
                  exact ih _ _ _ _ _ _ _ h
        · split at h
          · cases h
          · exact ih _ _ _ _ _ _ _ h
theorem zgo_le {n k d mi pc : Nat} {ls : zLs} {st : List Value} {hp : zHp} {x : zCf} (h : zgo n d mi pc ls st hp = some x) (hk : n ≤ k) : zgo k d mi pc ls st hp = some x := by
  obtain ⟨j, rfl⟩ := Nat.exists_eq_add_of_le hk
  clear hk
  induction j with
  | zero => exact h
  | succ j ih => exact zgo_more _ _ _ _ _ _ _ _ ih
def Ev (d mi pc : Nat) (ls : zLs) (st : List Value) (hp : zHp) (Q : zCf → Prop) : Prop := ∃ n x, zgo n d mi pc ls st hp = some x ∧ Q x
/-- method mj, called with the words vs, answers r and leaves the rows hp' -/
def Qr (mj : Nat) (r : Option Value) (hp' : zHp) : zCf → Prop := fun x => zrt mj x.1 x.2.2.1 = some r ∧ x.2.2.2 = hp'
def Rn (d mj : Nat) (vs : List Value) (hp : zHp) (r : Option Value) (hp' : zHp) : Prop := Ev d mj 0 (zent mj vs) [] hp (Qr mj r hp')
def zbrk : Instr → Bool
  | .ifCond _ _ | .if_icmp _ _ | .tableswitch _ _ _ _ => true
  | _ => false
/-- one step that is no call, no branch and no end -/
def zone (mi pc : Nat) (ls : zLs) (st : List Value) (hp : zHp) : Option zCf := match zI mi pc with
  | none => none
  | some (i, _) => match zsp mi i with
    | true => none
    | false => match zbrk i with
      | true => none
      | false => match zcl mi i st hp with
        | some _ => none
        | none => zst mi i pc ls st hp
theorem ev_s {d mi pc pc' : Nat} {ls ls' : zLs} {st st' : List Value} {hp hp' : zHp} {Q : zCf → Prop} (h : zone mi pc ls st hp = some (pc', ls', st', hp')) (K : Ev d mi pc' ls' st' hp' Q) : Ev d mi pc ls st hp Q := by
  obtain ⟨n, x, hx, hq⟩ := K
  refine ⟨n + 1, x, ?_, hq⟩
  unfold zone at h
  split at h
  · cases h
  · next i len hi =>
    rw [zgo, hi]
    split at h
    · cases h
    · next hs =>
      split at h
      · cases h
      · split at h
        · cases h
        · next hc =>
          simp only [hs, hc, h, Bool.false_eq_true, if_false]
          exact hx
theorem ev_ret {d mi pc : Nat} {ls : zLs} {st : List Value} {hp : zHp} {Q : zCf → Prop} {i : Instr} {len : Nat} (hi : zI mi pc = some (i, len)) (hs : zsp mi i = true) (K : Q (pc, ls, st, hp)) : Ev d mi pc ls st hp Q :=
  ⟨1, _, by rw [zgo, hi]; simp only [hs, if_true], K⟩
theorem ev_if {d mi pc t len : Nat} {ls : zLs} {st : List Value} {hp : zHp} {Q : zCf → Prop} {c : ClassFile.Cond} {off : Int} {x : Int32} (hi : zI mi pc = some (.ifCond c off, len)) (ht : ztg pc off = some t) (K : Ev d mi (zbr c x 0 t (pc + 3)) ls st hp Q) : Ev d mi pc ls (.int x :: st) hp Q := by
  obtain ⟨n, y, hy, hq⟩ := K
  refine ⟨n + 1, y, ?_, hq⟩
  rw [zgo, hi]
  simp only [zsp, zcl, zst, ht, Bool.false_eq_true, if_false]
  exact hy
theorem ev_ic {d mi pc t len : Nat} {ls : zLs} {st : List Value} {hp : zHp} {Q : zCf → Prop} {c : ClassFile.Cond} {off : Int} {x y : Int32} (hi : zI mi pc = some (.if_icmp c off, len)) (ht : ztg pc off = some t) (K : Ev d mi (zbr c x y t (pc + 3)) ls st hp Q) : Ev d mi pc ls (.int y :: .int x :: st) hp Q := by
  obtain ⟨n, z, hz, hq⟩ := K
  refine ⟨n + 1, z, ?_, hq⟩
  rw [zgo, hi]
  simp only [zsp, zcl, zst, ht, Bool.false_eq_true, if_false]
  exact hz
theorem ev_sw {d mi pc t len : Nat} {ls : zLs} {st : List Value} {hp : zHp} {Q : zCf → Prop} {df lo hi off : Int} {offs : Array Int} {x : Int32} (hI : zI mi pc = some (.tableswitch df lo hi offs, len)) (ho : zsw df lo hi offs x.toInt = some off) (ht : ztg pc off = some t) (K : Ev d mi t ls st hp Q) : Ev d mi pc ls (.int x :: st) hp Q := by
  obtain ⟨n, z, hz, hq⟩ := K
  refine ⟨n + 1, z, ?_, hq⟩
  rw [zgo, hI]
  simp only [zsp, zcl, zst, ho, ht, Bool.false_eq_true, if_false]
  exact hz
/-- the branch taken or not -/
theorem ev_br {d mi t f : Nat} {ls : zLs} {st : List Value} {hp : zHp} {Q : zCf → Prop} {x y : Int32} {c : ClassFile.Cond} {P : Prop} (hP : zbr c x y t f = t ∧ P ∨ zbr c x y t f = f ∧ ¬ P) (kt : P → Ev d mi t ls st hp Q) (kf : ¬ P → Ev d mi f ls st hp Q) : Ev d mi (zbr c x y t f) ls st hp Q := by
  rcases hP with ⟨e, h⟩ | ⟨e, h⟩
  · rw [e]; exact kt h
  · rw [e]; exact kf h
theorem zb_eq (x y : Int32) (t f : Nat) : zbr .eq x y t f = t ∧ x = y ∨ zbr .eq x y t f = f ∧ ¬ x = y := by
  by_cases h : x = y
  · exact Or.inl ⟨if_pos h, h⟩
  · exact Or.inr ⟨if_neg h, h⟩
theorem zb_ne (x y : Int32) (t f : Nat) : zbr .ne x y t f = t ∧ ¬ x = y ∨ zbr .ne x y t f = f ∧ ¬ ¬ x = y := by
  by_cases h : x = y
  · exact Or.inr ⟨if_pos h, fun q => q h⟩
  · exact Or.inl ⟨if_neg h, h⟩
theorem zb_lt (x y : Int32) (t f : Nat) : zbr .lt x y t f = t ∧ x < y ∨ zbr .lt x y t f = f ∧ ¬ x < y := by
  by_cases h : x < y
  · exact Or.inl ⟨if_pos h, h⟩
  · exact Or.inr ⟨if_neg h, h⟩
theorem zb_ge (x y : Int32) (t f : Nat) : zbr .ge x y t f = t ∧ y ≤ x ∨ zbr .ge x y t f = f ∧ ¬ y ≤ x := by
  by_cases h : y ≤ x
  · exact Or.inl ⟨if_pos h, h⟩
  · exact Or.inr ⟨if_neg h, h⟩
theorem zb_gt (x y : Int32) (t f : Nat) : zbr .gt x y t f = t ∧ y < x ∨ zbr .gt x y t f = f ∧ ¬ y < x := by
  by_cases h : y < x
  · exact Or.inl ⟨if_pos h, h⟩
  · exact Or.inr ⟨if_neg h, h⟩
theorem zb_le (x y : Int32) (t f : Nat) : zbr .le x y t f = t ∧ x ≤ y ∨ zbr .le x y t f = f ∧ ¬ x ≤ y := by
  by_cases h : x ≤ y
  · exact Or.inl ⟨if_pos h, h⟩
  · exact Or.inr ⟨if_neg h, h⟩
/-- a field of a cell that a hypothesis tells -/
theorem ev_gf {d mi pc idx len a ci kk pp : Nat} {ls : zLs} {r : List Value} {hp : zHp} {fs : List Value} {v : Value} {Q : zCf → Prop} (hc : hp[a]? = some (.inr (ci, fs))) (hi : zI mi pc = some (.getfield idx, len)) (hf : zrow zFT (zC mi) idx = some (ci, kk, pp)) (hv : fs[kk]? = some v) (K : Ev d mi (pc + 3) ls (v :: r) hp Q) : Ev d mi pc ls (.ref a :: r) hp Q := by
  refine ev_s (pc' := pc + 3) (ls' := ls) (st' := v :: r) (hp' := hp) ?_ K
  simp only [zone, hi, zsp, zbrk, zcl, zst, zgetf, zcell, hc, hf, if_true, hv]
/-- a call, by what its method does -/
theorem ev_call {d mi pc : Nat} {ls : zLs} {st : List Value} {hp hp' : zHp} {Q : zCf → Prop} {i : Instr} {len mj k : Nat} {r : Option Value} (hi : zI mi pc = some (i, len)) (hs : zsp mi i = false) (hc : zcl mi i st hp = some (mj, k)) (hst : (decide (st.length < k) || decide (8 < ((st.drop k).map fun v => v.category).sum) || decide (zL mj < (zent0 (st.take k).reverse).length)) = false)
    (hR : Rn d mj (st.take k).reverse hp r hp') (K : Ev (d + 1) mi (pc + 3) ls (r.toList ++ st.drop k) hp' Q) : Ev (d + 1) mi pc ls st hp Q := by
  obtain ⟨n1, x1, h1, h2, h3⟩ := hR
  obtain ⟨n2, x2, h4, h5⟩ := K
  refine ⟨max n1 n2 + 1, x2, ?_, h5⟩
  rw [zgo, hi]
  simp only [hs, Bool.false_eq_true, if_false, hc]
  have hst' : ¬ (st.length < k ∨ 8 < ((st.drop k).map fun v => v.category).sum ∨ zL mj < (zent0 (st.take k).reverse).length) := by
    simp only [Bool.or_eq_false_iff, decide_eq_false_iff_not] at hst
    rintro (q | q | q)
    · exact hst.1.1 q
    · exact hst.1.2 q
    · exact hst.2 q
  rw [if_neg hst', zgo_le h1 (Nat.le_max_left n1 n2)]
  simp only [h2]
  rw [h3]
  exact zgo_le h4 (Nat.le_max_right n1 n2)
theorem Ev.imp {d mi pc : Nat} {ls : zLs} {st : List Value} {hp : zHp} {Q Q' : zCf → Prop} (h : Ev d mi pc ls st hp Q) (hq : ∀ x, Q x → Q' x) : Ev d mi pc ls st hp Q' := by
  obtain ⟨n, x, h1, h2⟩ := h
  exact ⟨n, x, h1, hq x h2⟩
theorem ev_ri {d mi pc len : Nat} {ls : zLs} {v : Int32} {hp hp' : zHp} {r : Option Value} (hi : zI mi pc = some (.ireturn, len)) (hr : zR mi = some .int) (K : some (.int v) = r) (Kh : hp = hp') : Ev d mi pc ls [.int v] hp (Qr mi r hp') :=
  ev_ret hi rfl ⟨by
    simp only [zrt, hi]
    rw [hr]
    simp only [narrow, if_true, K], Kh⟩
theorem ev_rz {d mi pc len : Nat} {ls : zLs} {v : Int32} {hp hp' : zHp} {r : Option Value} (hi : zI mi pc = some (.ireturn, len)) (hr : zR mi = some .boolean) (hv : v = 0 ∨ v = 1) (K : some (.int v) = r) (Kh : hp = hp') : Ev d mi pc ls [.int v] hp (Qr mi r hp') :=
  ev_ret hi rfl ⟨by
    have hn : narrow .boolean (.int v) = .int v := by rcases hv with rfl | rfl <;> decide
    simp only [zrt, hi]
    rw [hr]
    simp only [hn, if_true, K], Kh⟩
theorem ev_rl {d mi pc len : Nat} {ls : zLs} {v : Int64} {hp hp' : zHp} {r : Option Value} (hi : zI mi pc = some (.lreturn, len)) (hr : zR mi = some .long) (K : some (.long v) = r) (Kh : hp = hp') : Ev d mi pc ls [.long v] hp (Qr mi r hp') :=
  ev_ret hi rfl ⟨by
    simp only [zrt, hi]
    rw [hr]
    simp only [K], Kh⟩
theorem ev_ra {d mi pc len : Nat} {ls : zLs} {a : Nat} {C : String} {hp hp' : zHp} {r : Option Value} (hi : zI mi pc = some (.areturn, len)) (hr : zR mi = some (.object C)) (K : some (.ref a) = r) (Kh : hp = hp') : Ev d mi pc ls [.ref a] hp (Qr mi r hp') :=
  ev_ret hi rfl ⟨by
    simp only [zrt, hi]
    rw [hr]
    simp only [K], Kh⟩
theorem ev_rn {d mi pc len : Nat} {ls : zLs} {C : String} {hp hp' : zHp} {r : Option Value} (hi : zI mi pc = some (.areturn, len)) (hr : zR mi = some (.object C)) (K : some .null = r) (Kh : hp = hp') : Ev d mi pc ls [.null] hp (Qr mi r hp') :=
  ev_ret hi rfl ⟨by
    simp only [zrt, hi]
    rw [hr]
    simp only [K], Kh⟩
theorem ev_rv {d mi pc len : Nat} {ls : zLs} {hp hp' : zHp} {r : Option Value} (hi : zI mi pc = some (.return_, len)) (hr : zR mi = none) (K : none = r) (Kh : hp = hp') : Ev d mi pc ls [] hp (Qr mi r hp') :=
  ev_ret hi rfl ⟨by
    simp only [zrt, hi]
    rw [hr]
    simp only [K], Kh⟩
