-- lk: 63
/-! ===== LoadSpaceLaw.cell ===== -/
def y_cell : MethodName := ⟨R_law, "cell", "([II)I"⟩
def ws_cell : List Cond := [.code y_cell cL_cell 2 (some .int)]
def cv (xs : Nat → Int32) (L k : Nat) : Int32 := if k < L then xs k else 0
set_option maxHeartbeats 4000000 in
theorem c_cell (l : Launch) (b L : Nat) (xs : Nat → Int32) (k : Nat) (hk : k < 3) (hL : L ≤ 2563) : Met l y_cell ws_cell (zrm 0 0 0) (va_Pc [.ref b, .int (nI k)] (fun U => va_X b L xs U U.heap ∧ b < U.heap.size)) (va_Qi (fun r (_ : Unit) => r = cv xs L k) (fun _ _ => True) (fun _ => False)) 0 0 (fun _ => False) := by
  refine Met.ofW (cc := cL_cell) (maxL := 2) (ret := some .int) (by decide) rfl ?_
  intro p e s m args below meth c s₁ B hml hv
  obtain ⟨rfl, hX, hbl⟩ := hv
  have hx := B.exec
  have hb := B.bytes
  have hr := B.returns
  have hlocks := B.notSynchronized
  have hS : va_S (fun _ => False) s.heap s.heap [] := va_S.rf
  have hl := lv_entry ([.ref b, .int (nI k)]) (n := 2) (Nat.le_of_ble_eq_true rfl)
  rw [lg_entry_eq]
  generalize (lg_sl ([.ref b, .int (nI k)]) ++ List.replicate (2 - (lg_sl ([.ref b, .int (nI k)])).length) Slot.unset).toArray = ls at hl ⊢
  have hl : lv_has ls 2 [(0, .ref b), (1, .int (nI k))] := hl
  have hn : Int32.ofNat L = nI L := rfl
  refine lv_iload_n hx hb dw_cell_0 rfl (lv_at hl 1 rfl) ?_
  refine lv_aload_n hx hb dw_cell_1 rfl (lv_at hl 0 rfl) ?_
  refine va_slen hx hb hX hbl (fun q => q) hS dw_cell_2 ?_
  refine lv_icmp_ge (tgt := 12) hx hb dw_cell_3 (by decide) (fun c1 => ?_) (fun c1 => ?_)
  · refine lv_iconst (v := 0) hx hb dw_cell_12 (by decide) ?_
    refine W.iret (v := 0) hx hb hr (fun t ht hW => ⟨⟨0, (), rfl, ?_, trivial⟩, hS.F ht⟩) hS.2.2 dw_cell_13
    unfold cv
    rw [if_neg]
    intro q
    rw [hn] at c1
    exact absurd c1 (by rw [nI_leI (by omega) (by omega)]; omega)
  · have hlt : k < L := by
      rw [hn] at c1
      rcases Nat.lt_or_ge k L with q | q
      · exact q
      · exact absurd ((nI_leI (by omega) (by omega)).mpr q) c1
    refine lv_aload_n hx hb dw_cell_6 rfl (lv_at hl 0 rfl) ?_
    refine lv_iload_n hx hb dw_cell_7 rfl (lv_at hl 1 rfl) ?_
    refine va_sld hx hb hX hbl (fun q => q) hS (vp_in_nI hlt (by omega)) dw_cell_8 ?_
    refine lv_goto (tgt := 13) hx hb dw_cell_9 (by decide) ?_
    refine W.iret (v := xs (nI k).toNatClampNeg) hx hb hr (fun t ht hW => ⟨⟨_, (), rfl, ?_, trivial⟩, hS.F ht⟩) hS.2.2 dw_cell_13
    rw [nI_clamp (by omega)]
    exact (if_pos hlt).symm

theorem cell_w : GoodIn lw_tbl (wsS R_law 15 y_cell ws_cell) := lc_gi (fun w hw => by
  unfold wsS ws_cell at hw
  simp only [List.cons_append, List.nil_append, List.mem_cons, List.not_mem_nil, or_false] at hw
  rcases hw with rfl | rfl | rfl | rfl
  · exact zG_at (p := 471) (by decide +kernel) (by decide +kernel)
  · exact zG_at (p := 472) (by decide +kernel) (by decide +kernel)
  · exact zG_at (p := 24) (by decide +kernel) (by decide +kernel)
  · exact zG_at (p := 473) (by decide +kernel) (by decide +kernel))
section LAW
variable {p : Program} {l : Launch} {e : Env} {R : Room} {s : State} {m : MethodId} {args : Array Value} {below : List Frame} {meth : Method} {c : Code} {H : Heap} {locs : List Loc} {cells slots : Nat} {Q : State → Prop}
variable {A : Nat → Prop}
theorem lc_cell {cc : ByteArray} {nL pc b L k : Nat} {xs : Nat → Int32} {arr : Array Slot} {rest : List Value} (hk : k < 3) (hL : L ≤ 2563) (CF : CallFix p m c cc nL s args lw_tbl R_law) (hX : va_X b L xs s s.heap) (hbl : b < s.heap.size) (hbA : ¬ A b) (hS : va_S A s.heap H locs) (hz : arr.size = nL) (hcat : ((rest.map fun v => v.category)).sum ≤ 8)
    (hdg : decode cc pc = .ok (.invokestatic 15, 3)) (hfr : 2 ≤ R.frames) (hlo : 80 ≤ R.locals) (hrc : cells ≤ R.cells) (hrs : slots ≤ R.slots) (hsz : H.size = s.heap.size + cells)
    (K : ∀ locs', va_S A s.heap H locs' → W p l e R s m args below meth c H locs' cells slots Q (F0 m (pc + 3) arr (.int (cv xs L k) :: rest))) : W p l e R s m args below meth c H locs cells slots Q (F0 m pc arr (.int (nI k) :: .ref b :: rest)) := by
  refine va_calli (va_runS (As := [.ref b, .int (nI k)]) (rest := rest) CF (c_cell l b L xs k hk hL) (cwS 2 CF.2.2.2.2 cell_w rfl rfl rfl ⟨rfl, by decide, by decide, by decide⟩ ⟨by show 0 + 1 + 1 ≤ _; omega, by show 8 + (2 + 11) + 40 * (0 + 1) ≤ _; omega⟩) ⟨fun a U g mk q => q, fun U hU hW => ⟨rfl, ?_, ?_⟩⟩ rfl rfl hz rfl (lv_room hcat) hdg ⟨hrc, hrs⟩) hS (fun _ _ h => h.elim) (fun _ h => h.elim) (fun r u t H1 locs1 ht hvm hw hB h1 h2 hS1 => ?_)
  · rw [hU]
    exact va_X.moved hW.alike (va_X.kept hX (hS.2.1 b hbl hbA))
  · rw [hU]
    exact Nat.lt_of_lt_of_le hbl hS.1
  · subst hw
    refine zW_size (fun hle => ?_)
    have hle : H1.size ≤ s.heap.size + cells := hle
    have e : H1 = H := by
      apply Array.ext_getElem?
      intro q
      rcases Nat.lt_or_ge q H.size with hq | hq
      · exact h2 q hq (fun z => z)
      · rw [Array.getElem?_eq_none (by omega), Array.getElem?_eq_none hq]
    subst e
    exact K locs1 hS1
end LAW

