-- lk: 50
/-! ===== axle: both ===== -/
section INV
variable {np : Nat} {g B : Nat → Nat → Nat} {wq sq : Nat → Nat} {mt : Nat} {M : Nat → Nat → Int32} {L : Nat → Int64}
theorem IV.axb (h : IV np g B wq sq mt M) : AxB (g 8 2) B wq ∧ AxC (g 8 2) B wq M ∧ AxM (g 8 2) B wq M ∧ 1 ≤ g 8 2 := by
  obtain ⟨hD, hC, hM, hS, hT, hB, hP⟩ := h
  have d2 := hD.2.2.1 2 (by omega)
  refine ⟨⟨d2.2, fun i hi => ⟨(hB.1 i).1, fun e => ?_⟩⟩, ⟨hC.2.1 2 (by omega), fun i hi => ⟨(hP i hi).1, fun e => ?_⟩⟩, ⟨hM.1.2.2.1, fun i hi => ⟨(hP i hi).2.1, fun e => ?_⟩⟩, d2.1⟩
  · obtain ⟨_, _, _, ho, hw, _⟩ := (hB.1 i).2 e
    exact ⟨ho.2.2, hw⟩
  · obtain ⟨⟨⟨_, _, _, f7, _, _, f10⟩, f1, _⟩, _⟩ := (hP i hi).2.2 e
    exact ⟨f10, f7, f1⟩
  · obtain ⟨_, ⟨_, _, q4, _, _, q7, _, q8, _⟩⟩ := (hP i hi).2.2 e
    exact ⟨q4, q7, q8⟩
/-- the reference's axle leaves what holds between calls -/
theorem IV.th (h : IV np g B wq sq mt M) (v : Int32) : IV np g B wq sq mt (up2 M 21 44 v) := by
  obtain ⟨hD, hC, hM, hS, hT, hB, hP⟩ := h
  refine ⟨hD, ?_, ?_, ?_, ?_, hB, ?_⟩
  · exact ⟨by rw [up2_n (by omega)]; exact hC.1, fun k hk => by rw [up2_n (by omega)]; exact hC.2.1 k hk, fun i hi => by rw [up2_n (by omega)]; exact hC.2.2 i hi⟩
  · refine ⟨by rw [up2_s, upd_n (by omega), upd_n (by omega), upd_n (by omega), upd_n (by omega)]; exact hM.1, fun i hi => ?_⟩
    obtain ⟨m1, m2⟩ := hM.2 i hi
    rw [up2_n (by omega), up2_n (by omega), up2_n (by omega), up2_n (by omega)]
    exact ⟨fun k hk => by rw [up2_n (by omega)]; exact m1 k hk, m2⟩
  · exact hS.cg (by rw [up2_s, upd_n (by omega)]) (by rw [up2_n (by omega)]) (by rw [up2_n (by omega)]) (by rw [up2_s, upd_n (by omega)]) (by rw [up2_s, upd_n (by omega)])
  · exact hT.cg (fun q a b => by rw [up2_n (by omega)])
  · exact hP.cg (fun q a => by rw [up2_n (by omega)]) (fun q a b => by rw [up2_n (by omega)])
/-- class and reference at axle -/
def AX (p0 p1 : Int32) (np : Nat) (M : Nat → Nat → Int32) : Prop :=
  (∃ v M2, (∀ L, Rn 60 mX5_axle [.ref 0, .int p0, .int p1] (mk np M L) (some (.long v)) (mk np M L)) ∧ (∀ L, Rn 60 mX6_axle [.ref 21, .int p0, .int p1] (mk np M L) (some (.long v)) (mk np M2 L)) ∧ M2 21 44 = 0 ∧ IVx np M2) ∨
  ((∀ L, Ev 60 mX5_axle 0 (zent mX5_axle [.ref 0, .int p0, .int p1]) [] (mk np M L) (fun x => x.1 = 50 ∧ x.2.2.1 = [] ∧ x.2.2.2 = mk np M L)) ∧ ∃ M2, (∀ L, Rn 60 mX6_axle [.ref 21, .int p0, .int p1] (mk np M L) (some (.long 0)) (mk np M2 L)) ∧ M2 21 44 = 1 ∧ IVx np M2)
theorem Ev_up {d mi pc : Nat} {ls : zLs} {st : List Value} {hp : zHp} {Q : zCf → Prop} (h : Ev d mi pc ls st hp Q) : Ev (d + 1) mi pc ls st hp Q := by
  obtain ⟨n, x, h1, h2⟩ := h
  exact ⟨n, x, zgo_deep _ _ _ _ _ _ _ _ h1, h2⟩
theorem Ev_le {d e mi pc : Nat} {ls : zLs} {st : List Value} {hp : zHp} {Q : zCf → Prop} (h : Ev d mi pc ls st hp Q) (hd : d ≤ e) : Ev e mi pc ls st hp Q := by
  obtain ⟨k, rfl⟩ := Nat.exists_eq_add_of_le hd
  clear hd
  induction k with
  | zero => exact h
  | succ k ih => exact Ev_up ih
theorem ax_all (h : IV np g B wq sq mt M) (p0 p1 : Int32) : AX p0 p1 np M := by
  obtain ⟨hB, hC, hM, hD1⟩ := h.axb
  by_cases hu : cW p0 0 1 ∧ cW p1 0 1
  · obtain ⟨a, ha, rfl⟩ := cW_of (m := 1) (k := 1) rfl (by decide) hu.1
    obtain ⟨b, hb, rfl⟩ := cW_of (m := 1) (k := 1) rfl (by decide) hu.2
    obtain ⟨a1, a2, a3⟩ := af_le hB 6 (by omega)
    rcases Nat.eq_zero_or_pos (awS B wq 6) with hw0 | hw0
    · refine Or.inr ?_
      have iv := ((h.th 0).th 1).x
      match a, ha, b, hb with
      | 0, _, 0, _ => exact ⟨fun L => Ev_le ((ev_axle_00 (L := L) hB hC hw0 0).imp (fun x hx => by rw [hx]; exact ⟨rfl, rfl, rfl⟩)) (by omega), _, fun L => Rn_le (rn_maxle_00z (L := L) hB hM hw0 0) (by omega), by rw [up2_s, upd_s], iv⟩
      | 0, _, 1, _ => exact ⟨fun L => Ev_le ((ev_axle_01 (L := L) hB hC hw0 0).imp (fun x hx => by rw [hx]; exact ⟨rfl, rfl, rfl⟩)) (by omega), _, fun L => Rn_le (rn_maxle_01z (L := L) hB hM hw0 0) (by omega), by rw [up2_s, upd_s], iv⟩
      | 1, _, 0, _ => exact ⟨fun L => Ev_le ((ev_axle_10 (L := L) hB hC hw0 0).imp (fun x hx => by rw [hx]; exact ⟨rfl, rfl, rfl⟩)) (by omega), _, fun L => Rn_le (rn_maxle_10z (L := L) hB hM hw0 0) (by omega), by rw [up2_s, upd_s], iv⟩
      | 1, _, 1, _ => exact ⟨fun L => Ev_le ((ev_axle_11 (L := L) hB hC hw0 0).imp (fun x hx => by rw [hx]; exact ⟨rfl, rfl, rfl⟩)) (by omega), _, fun L => Rn_le (rn_maxle_11z (L := L) hB hM hw0 0) (by omega), by rw [up2_s, upd_s], iv⟩
    · refine Or.inl ?_
      have iv := (h.th 0).x
      match a, ha, b, hb with
      | 0, _, 0, _ => exact ⟨_, _, fun L => Rn_le (rn_axle_00 (L := L) hB hC hD1 hw0 0) (by omega), fun L => Rn_le (by have e9 := rn_maxle_00 (np := np) (L := L) hB hM hD1 hw0 0; rw [a2, Nat.gcd_comm] at e9; exact e9) (by omega), by rw [up2_s, upd_s], iv⟩
      | 0, _, 1, _ => exact ⟨_, _, fun L => Rn_le (rn_axle_01 (L := L) hB hC hD1 hw0 0) (by omega), fun L => Rn_le (by have e9 := rn_maxle_01 (np := np) (L := L) hB hM hD1 hw0 0; rw [a2, Nat.gcd_comm] at e9; exact e9) (by omega), by rw [up2_s, upd_s], iv⟩
      | 1, _, 0, _ => exact ⟨_, _, fun L => Rn_le (rn_axle_10 (L := L) hB hC hD1 hw0 0) (by omega), fun L => Rn_le (by have e9 := rn_maxle_10 (np := np) (L := L) hB hM hD1 hw0 0; rw [Nat.gcd_comm] at e9; exact e9) (by omega), by rw [up2_s, upd_s], iv⟩
      | 1, _, 1, _ => exact ⟨_, _, fun L => Rn_le (rn_axle_11 (L := L) hB hC hD1 hw0 0) (by omega), fun L => Rn_le (by have e9 := rn_maxle_11 (np := np) (L := L) hB hM hD1 hw0 0; rw [Nat.gcd_comm] at e9; exact e9) (by omega), by rw [up2_s, upd_s], iv⟩
  · exact Or.inl ⟨-102, _, fun L => Rn_le (rn_axle_o (L := L) hu 0) (by omega), fun L => Rn_le (rn_maxle_o (L := L) hu 0) (by omega), by rw [up2_s, upd_s], (h.th 0).x⟩
end INV
