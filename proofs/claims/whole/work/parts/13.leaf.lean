/-! ===== leaves: Space, Piece, Place ===== -/
noncomputable def zi (P : Prop) : Int32 := @ite _ P (Classical.propDecidable P) 1 0
theorem zi_t {P : Prop} (h : P) : zi P = 1 := by unfold zi; exact if_pos h
theorem zi_f {P : Prop} (h : ¬ P) : zi P = 0 := by unfold zi; exact if_neg h
theorem zi_01 (P : Prop) : zi P = 0 ∨ zi P = 1 := by
  by_cases h : P
  · exact Or.inr (zi_t h)
  · exact Or.inl (zi_f h)
theorem ev_bn {d mi t f : Nat} {ls : zLs} {st : List Value} {hp : zHp} {Q : zCf → Prop} {x y : Int32} (kt : ¬ x = y → Ev d mi t ls st hp Q) (kf : x = y → Ev d mi f ls st hp Q) : Ev d mi (zbr .ne x y t f) ls st hp Q := by
  by_cases h : x = y
  · rw [show zbr .ne x y t f = f from if_pos h]; exact kf h
  · rw [show zbr .ne x y t f = t from if_neg h]; exact kt h
theorem ev_bze {d mi t f : Nat} {ls : zLs} {st : List Value} {hp : zHp} {Q : zCf → Prop} {P : Prop} (kt : ¬ P → Ev d mi t ls st hp Q) (kf : P → Ev d mi f ls st hp Q) : Ev d mi (zbr .eq (zi P) 0 t f) ls st hp Q := by
  by_cases h : P
  · rw [zi_t h]; exact kf h
  · rw [zi_f h]; exact kt h
theorem ev_bzn {d mi t f : Nat} {ls : zLs} {st : List Value} {hp : zHp} {Q : zCf → Prop} {P : Prop} (kt : P → Ev d mi t ls st hp Q) (kf : ¬ P → Ev d mi f ls st hp Q) : Ev d mi (zbr .ne (zi P) 0 t f) ls st hp Q := by
  by_cases h : P
  · rw [zi_t h]; exact kt h
  · rw [zi_f h]; exact kf h
theorem some_i {a b : Int32} (h : a = b) : some (Value.int a) = some (Value.int b) := by rw [h]

def cOv (f g : Nat → Int32) : Prop := ¬ ((g 8) + (g 5)) ≤ (f 8) ∧ ¬ ((f 8) + (f 5)) ≤ (g 8) ∧ ¬ ((g 9) + (g 6)) ≤ (f 9) ∧ ¬ ((f 9) + (f 6)) ≤ (g 9) ∧ ¬ ((g 10) + (g 7)) ≤ (f 10) ∧ ¬ ((f 10) + (f 7)) ≤ (g 10)
set_option maxHeartbeats 4000000 in
theorem rn_overlaps {hp : zHp} {a b : Nat} {f g : Nat → Int32} (ha : hp[a]? = some (pcl f)) (hb : hp[b]? = some (pcl g)) (d : Nat) : Rn d mX2_overlaps [(.ref a), (.ref b)] hp (some (.int (zi (cOv f g)))) hp := by
  unfold Rn
  refine ev_s rfl ?_
  refine ev_gf ha rfl rfl rfl ?_
  refine ev_s rfl ?_
  refine ev_gf hb rfl rfl rfl ?_
  refine ev_s rfl ?_
  refine ev_gf hb rfl rfl rfl ?_
  refine ev_s rfl ?_
  refine ev_ic rfl rfl (ev_br (zb_ge _ _ _ _) (fun c1 => ?_) (fun c1 => ?_))
  · show Ev _ _ 100 _ _ _ _
    refine ev_ik (v := 0) rfl (by decide) ?_
    refine ev_rz rfl rfl (by decide) ?_ ?_
    · exact some_i (zi_f (fun h => h.1 c1)).symm
    · rfl
  · show Ev _ _ 16 _ _ _ _
    refine ev_s rfl ?_
    refine ev_gf hb rfl rfl rfl ?_
    refine ev_s rfl ?_
    refine ev_gf ha rfl rfl rfl ?_
    refine ev_s rfl ?_
    refine ev_gf ha rfl rfl rfl ?_
    refine ev_s rfl ?_
    refine ev_ic rfl rfl (ev_br (zb_ge _ _ _ _) (fun c2 => ?_) (fun c2 => ?_))
    · show Ev _ _ 100 _ _ _ _
      refine ev_ik (v := 0) rfl (by decide) ?_
      refine ev_rz rfl rfl (by decide) ?_ ?_
      · exact some_i (zi_f (fun h => h.2.1 c2)).symm
      · rfl
    · show Ev _ _ 32 _ _ _ _
      refine ev_s rfl ?_
      refine ev_gf ha rfl rfl rfl ?_
      refine ev_s rfl ?_
      refine ev_gf hb rfl rfl rfl ?_
      refine ev_s rfl ?_
      refine ev_gf hb rfl rfl rfl ?_
      refine ev_s rfl ?_
      refine ev_ic rfl rfl (ev_br (zb_ge _ _ _ _) (fun c3 => ?_) (fun c3 => ?_))
      · show Ev _ _ 100 _ _ _ _
        refine ev_ik (v := 0) rfl (by decide) ?_
        refine ev_rz rfl rfl (by decide) ?_ ?_
        · exact some_i (zi_f (fun h => h.2.2.1 c3)).symm
        · rfl
      · show Ev _ _ 48 _ _ _ _
        refine ev_s rfl ?_
        refine ev_gf hb rfl rfl rfl ?_
        refine ev_s rfl ?_
        refine ev_gf ha rfl rfl rfl ?_
        refine ev_s rfl ?_
        refine ev_gf ha rfl rfl rfl ?_
        refine ev_s rfl ?_
        refine ev_ic rfl rfl (ev_br (zb_ge _ _ _ _) (fun c4 => ?_) (fun c4 => ?_))
        · show Ev _ _ 100 _ _ _ _
          refine ev_ik (v := 0) rfl (by decide) ?_
          refine ev_rz rfl rfl (by decide) ?_ ?_
          · exact some_i (zi_f (fun h => h.2.2.2.1 c4)).symm
          · rfl
        · show Ev _ _ 64 _ _ _ _
          refine ev_s rfl ?_
          refine ev_gf ha rfl rfl rfl ?_
          refine ev_s rfl ?_
          refine ev_gf hb rfl rfl rfl ?_
          refine ev_s rfl ?_
          refine ev_gf hb rfl rfl rfl ?_
          refine ev_s rfl ?_
          refine ev_ic rfl rfl (ev_br (zb_ge _ _ _ _) (fun c5 => ?_) (fun c5 => ?_))
          · show Ev _ _ 100 _ _ _ _
            refine ev_ik (v := 0) rfl (by decide) ?_
            refine ev_rz rfl rfl (by decide) ?_ ?_
            · exact some_i (zi_f (fun h => h.2.2.2.2.1 c5)).symm
            · rfl
          · show Ev _ _ 80 _ _ _ _
            refine ev_s rfl ?_
            refine ev_gf hb rfl rfl rfl ?_
            refine ev_s rfl ?_
            refine ev_gf ha rfl rfl rfl ?_
            refine ev_s rfl ?_
            refine ev_gf ha rfl rfl rfl ?_
            refine ev_s rfl ?_
            refine ev_ic rfl rfl (ev_br (zb_ge _ _ _ _) (fun c6 => ?_) (fun c6 => ?_))
            · show Ev _ _ 100 _ _ _ _
              refine ev_ik (v := 0) rfl (by decide) ?_
              refine ev_rz rfl rfl (by decide) ?_ ?_
              · exact some_i (zi_f (fun h => h.2.2.2.2.2 c6)).symm
              · rfl
            · show Ev _ _ 96 _ _ _ _
              refine ev_ik (v := 1) rfl (by decide) ?_
              refine ev_s rfl ?_
              refine ev_rz rfl rfl (by decide) ?_ ?_
              · exact some_i (zi_t ⟨c1, c2, c3, c4, c5, c6⟩).symm
              · rfl
def cAb (f g : Nat → Int32) : Prop := ¬ (g 9) < ((f 9) + (f 6)) ∧ ¬ ((g 8) + (g 5)) ≤ (f 8) ∧ ¬ ((f 8) + (f 5)) ≤ (g 8) ∧ ¬ ((g 10) + (g 7)) ≤ (f 10) ∧ ¬ ((f 10) + (f 7)) ≤ (g 10)
set_option maxHeartbeats 4000000 in
theorem rn_hasAbove {hp : zHp} {a b : Nat} {f g : Nat → Int32} (ha : hp[a]? = some (pcl f)) (hb : hp[b]? = some (pcl g)) (d : Nat) : Rn d mX2_hasAbove [(.ref a), (.ref b)] hp (some (.int (zi (cAb f g)))) hp := by
  unfold Rn
  refine ev_s rfl ?_
  refine ev_gf hb rfl rfl rfl ?_
  refine ev_s rfl ?_
  refine ev_gf ha rfl rfl rfl ?_
  refine ev_s rfl ?_
  refine ev_gf ha rfl rfl rfl ?_
  refine ev_s rfl ?_
  refine ev_ic rfl rfl (ev_br (zb_lt _ _ _ _) (fun c1 => ?_) (fun c1 => ?_))
  · show Ev _ _ 84 _ _ _ _
    refine ev_ik (v := 0) rfl (by decide) ?_
    refine ev_rz rfl rfl (by decide) ?_ ?_
    · exact some_i (zi_f (fun h => h.1 c1)).symm
    · rfl
  · show Ev _ _ 16 _ _ _ _
    refine ev_s rfl ?_
    refine ev_gf ha rfl rfl rfl ?_
    refine ev_s rfl ?_
    refine ev_gf hb rfl rfl rfl ?_
    refine ev_s rfl ?_
    refine ev_gf hb rfl rfl rfl ?_
    refine ev_s rfl ?_
    refine ev_ic rfl rfl (ev_br (zb_ge _ _ _ _) (fun c2 => ?_) (fun c2 => ?_))
    · show Ev _ _ 84 _ _ _ _
      refine ev_ik (v := 0) rfl (by decide) ?_
      refine ev_rz rfl rfl (by decide) ?_ ?_
      · exact some_i (zi_f (fun h => h.2.1 c2)).symm
      · rfl
    · show Ev _ _ 32 _ _ _ _
      refine ev_s rfl ?_
      refine ev_gf hb rfl rfl rfl ?_
      refine ev_s rfl ?_
      refine ev_gf ha rfl rfl rfl ?_
      refine ev_s rfl ?_
      refine ev_gf ha rfl rfl rfl ?_
      refine ev_s rfl ?_
      refine ev_ic rfl rfl (ev_br (zb_ge _ _ _ _) (fun c3 => ?_) (fun c3 => ?_))
      · show Ev _ _ 84 _ _ _ _
        refine ev_ik (v := 0) rfl (by decide) ?_
        refine ev_rz rfl rfl (by decide) ?_ ?_
        · exact some_i (zi_f (fun h => h.2.2.1 c3)).symm
        · rfl
      · show Ev _ _ 48 _ _ _ _
        refine ev_s rfl ?_
        refine ev_gf ha rfl rfl rfl ?_
        refine ev_s rfl ?_
        refine ev_gf hb rfl rfl rfl ?_
        refine ev_s rfl ?_
        refine ev_gf hb rfl rfl rfl ?_
        refine ev_s rfl ?_
        refine ev_ic rfl rfl (ev_br (zb_ge _ _ _ _) (fun c4 => ?_) (fun c4 => ?_))
        · show Ev _ _ 84 _ _ _ _
          refine ev_ik (v := 0) rfl (by decide) ?_
          refine ev_rz rfl rfl (by decide) ?_ ?_
          · exact some_i (zi_f (fun h => h.2.2.2.1 c4)).symm
          · rfl
        · show Ev _ _ 64 _ _ _ _
          refine ev_s rfl ?_
          refine ev_gf hb rfl rfl rfl ?_
          refine ev_s rfl ?_
          refine ev_gf ha rfl rfl rfl ?_
          refine ev_s rfl ?_
          refine ev_gf ha rfl rfl rfl ?_
          refine ev_s rfl ?_
          refine ev_ic rfl rfl (ev_br (zb_ge _ _ _ _) (fun c5 => ?_) (fun c5 => ?_))
          · show Ev _ _ 84 _ _ _ _
            refine ev_ik (v := 0) rfl (by decide) ?_
            refine ev_rz rfl rfl (by decide) ?_ ?_
            · exact some_i (zi_f (fun h => h.2.2.2.2 c5)).symm
            · rfl
          · show Ev _ _ 80 _ _ _ _
            refine ev_ik (v := 1) rfl (by decide) ?_
            refine ev_s rfl ?_
            refine ev_rz rfl rfl (by decide) ?_ ?_
            · exact some_i (zi_t ⟨c1, c2, c3, c4, c5⟩).symm
            · rfl
def cFr (f g : Nat → Int32) : Prop := ¬ (g 10) < ((f 10) + (f 7)) ∧ ¬ ((g 8) + (g 5)) ≤ (f 8) ∧ ¬ ((f 8) + (f 5)) ≤ (g 8) ∧ ¬ ((g 9) + (g 6)) ≤ (f 9) ∧ ¬ ((f 9) + (f 6)) ≤ (g 9)
set_option maxHeartbeats 4000000 in
theorem rn_hasInFront {hp : zHp} {a b : Nat} {f g : Nat → Int32} (ha : hp[a]? = some (pcl f)) (hb : hp[b]? = some (pcl g)) (d : Nat) : Rn d mX2_hasInFront [(.ref a), (.ref b)] hp (some (.int (zi (cFr f g)))) hp := by
  unfold Rn
  refine ev_s rfl ?_
  refine ev_gf hb rfl rfl rfl ?_
  refine ev_s rfl ?_
  refine ev_gf ha rfl rfl rfl ?_
  refine ev_s rfl ?_
  refine ev_gf ha rfl rfl rfl ?_
  refine ev_s rfl ?_
  refine ev_ic rfl rfl (ev_br (zb_lt _ _ _ _) (fun c1 => ?_) (fun c1 => ?_))
  · show Ev _ _ 84 _ _ _ _
    refine ev_ik (v := 0) rfl (by decide) ?_
    refine ev_rz rfl rfl (by decide) ?_ ?_
    · exact some_i (zi_f (fun h => h.1 c1)).symm
    · rfl
  · show Ev _ _ 16 _ _ _ _
    refine ev_s rfl ?_
    refine ev_gf ha rfl rfl rfl ?_
    refine ev_s rfl ?_
    refine ev_gf hb rfl rfl rfl ?_
    refine ev_s rfl ?_
    refine ev_gf hb rfl rfl rfl ?_
    refine ev_s rfl ?_
    refine ev_ic rfl rfl (ev_br (zb_ge _ _ _ _) (fun c2 => ?_) (fun c2 => ?_))
    · show Ev _ _ 84 _ _ _ _
      refine ev_ik (v := 0) rfl (by decide) ?_
      refine ev_rz rfl rfl (by decide) ?_ ?_
      · exact some_i (zi_f (fun h => h.2.1 c2)).symm
      · rfl
    · show Ev _ _ 32 _ _ _ _
      refine ev_s rfl ?_
      refine ev_gf hb rfl rfl rfl ?_
      refine ev_s rfl ?_
      refine ev_gf ha rfl rfl rfl ?_
      refine ev_s rfl ?_
      refine ev_gf ha rfl rfl rfl ?_
      refine ev_s rfl ?_
      refine ev_ic rfl rfl (ev_br (zb_ge _ _ _ _) (fun c3 => ?_) (fun c3 => ?_))
      · show Ev _ _ 84 _ _ _ _
        refine ev_ik (v := 0) rfl (by decide) ?_
        refine ev_rz rfl rfl (by decide) ?_ ?_
        · exact some_i (zi_f (fun h => h.2.2.1 c3)).symm
        · rfl
      · show Ev _ _ 48 _ _ _ _
        refine ev_s rfl ?_
        refine ev_gf ha rfl rfl rfl ?_
        refine ev_s rfl ?_
        refine ev_gf hb rfl rfl rfl ?_
        refine ev_s rfl ?_
        refine ev_gf hb rfl rfl rfl ?_
        refine ev_s rfl ?_
        refine ev_ic rfl rfl (ev_br (zb_ge _ _ _ _) (fun c4 => ?_) (fun c4 => ?_))
        · show Ev _ _ 84 _ _ _ _
          refine ev_ik (v := 0) rfl (by decide) ?_
          refine ev_rz rfl rfl (by decide) ?_ ?_
          · exact some_i (zi_f (fun h => h.2.2.2.1 c4)).symm
          · rfl
        · show Ev _ _ 64 _ _ _ _
          refine ev_s rfl ?_
          refine ev_gf hb rfl rfl rfl ?_
          refine ev_s rfl ?_
          refine ev_gf ha rfl rfl rfl ?_
          refine ev_s rfl ?_
          refine ev_gf ha rfl rfl rfl ?_
          refine ev_s rfl ?_
          refine ev_ic rfl rfl (ev_br (zb_ge _ _ _ _) (fun c5 => ?_) (fun c5 => ?_))
          · show Ev _ _ 84 _ _ _ _
            refine ev_ik (v := 0) rfl (by decide) ?_
            refine ev_rz rfl rfl (by decide) ?_ ?_
            · exact some_i (zi_f (fun h => h.2.2.2.2 c5)).symm
            · rfl
          · show Ev _ _ 80 _ _ _ _
            refine ev_ik (v := 1) rfl (by decide) ?_
            refine ev_s rfl ?_
            refine ev_rz rfl rfl (by decide) ?_ ?_
            · exact some_i (zi_t ⟨c1, c2, c3, c4, c5⟩).symm
            · rfl
def cOver (f : Nat → Int32) (x z : Int32) : Prop := ¬ x < (f 8) ∧ ¬ ((f 8) + (f 5)) ≤ x ∧ ¬ z < (f 10) ∧ ¬ ((f 10) + (f 7)) ≤ z
set_option maxHeartbeats 4000000 in
theorem rn_isOver {hp : zHp} {a : Nat} {f : Nat → Int32} (ha : hp[a]? = some (pcl f)) {x z : Int32} (d : Nat) : Rn d mX2_isOver [(.ref a), (.int x), (.int z)] hp (some (.int (zi (cOver f x z)))) hp := by
  unfold Rn
  refine ev_s rfl ?_
  refine ev_gf ha rfl rfl rfl ?_
  refine ev_s rfl ?_
  refine ev_ic rfl rfl (ev_br (zb_gt _ _ _ _) (fun c1 => ?_) (fun c1 => ?_))
  · show Ev _ _ 46 _ _ _ _
    refine ev_ik (v := 0) rfl (by decide) ?_
    refine ev_rz rfl rfl (by decide) ?_ ?_
    · exact some_i (zi_f (fun h => h.1 c1)).symm
    · rfl
  · show Ev _ _ 8 _ _ _ _
    iterate 2 refine ev_s rfl ?_
    refine ev_gf ha rfl rfl rfl ?_
    refine ev_s rfl ?_
    refine ev_gf ha rfl rfl rfl ?_
    refine ev_s rfl ?_
    refine ev_ic rfl rfl (ev_br (zb_ge _ _ _ _) (fun c2 => ?_) (fun c2 => ?_))
    · show Ev _ _ 46 _ _ _ _
      refine ev_ik (v := 0) rfl (by decide) ?_
      refine ev_rz rfl rfl (by decide) ?_ ?_
      · exact some_i (zi_f (fun h => h.2.1 c2)).symm
      · rfl
    · show Ev _ _ 21 _ _ _ _
      refine ev_s rfl ?_
      refine ev_gf ha rfl rfl rfl ?_
      refine ev_s rfl ?_
      refine ev_ic rfl rfl (ev_br (zb_gt _ _ _ _) (fun c3 => ?_) (fun c3 => ?_))
      · show Ev _ _ 46 _ _ _ _
        refine ev_ik (v := 0) rfl (by decide) ?_
        refine ev_rz rfl rfl (by decide) ?_ ?_
        · exact some_i (zi_f (fun h => h.2.2.1 c3)).symm
        · rfl
      · show Ev _ _ 29 _ _ _ _
        iterate 2 refine ev_s rfl ?_
        refine ev_gf ha rfl rfl rfl ?_
        refine ev_s rfl ?_
        refine ev_gf ha rfl rfl rfl ?_
        refine ev_s rfl ?_
        refine ev_ic rfl rfl (ev_br (zb_ge _ _ _ _) (fun c4 => ?_) (fun c4 => ?_))
        · show Ev _ _ 46 _ _ _ _
          refine ev_ik (v := 0) rfl (by decide) ?_
          refine ev_rz rfl rfl (by decide) ?_ ?_
          · exact some_i (zi_f (fun h => h.2.2.2 c4)).symm
          · rfl
        · show Ev _ _ 42 _ _ _ _
          refine ev_ik (v := 1) rfl (by decide) ?_
          refine ev_s rfl ?_
          refine ev_rz rfl rfl (by decide) ?_ ?_
          · exact some_i (zi_t ⟨c1, c2, c3, c4⟩).symm
          · rfl
def cW (x y z : Int32) : Prop := ¬ x < y ∧ ¬ z < x
set_option maxHeartbeats 4000000 in
theorem rn_isWithin {hp : zHp} {x y z : Int32} (d : Nat) : Rn d mX5_isWithin [(.int x), (.int y), (.int z)] hp (some (.int (zi (cW x y z)))) hp := by
  unfold Rn
  iterate 2 refine ev_s rfl ?_
  refine ev_ic rfl rfl (ev_br (zb_lt _ _ _ _) (fun c1 => ?_) (fun c1 => ?_))
  · show Ev _ _ 14 _ _ _ _
    refine ev_ik (v := 0) rfl (by decide) ?_
    refine ev_rz rfl rfl (by decide) ?_ ?_
    · exact some_i (zi_f (fun h => h.1 c1)).symm
    · rfl
  · show Ev _ _ 5 _ _ _ _
    iterate 2 refine ev_s rfl ?_
    refine ev_ic rfl rfl (ev_br (zb_gt _ _ _ _) (fun c2 => ?_) (fun c2 => ?_))
    · show Ev _ _ 14 _ _ _ _
      refine ev_ik (v := 0) rfl (by decide) ?_
      refine ev_rz rfl rfl (by decide) ?_ ?_
      · exact some_i (zi_f (fun h => h.2 c2)).symm
      · rfl
    · show Ev _ _ 10 _ _ _ _
      refine ev_ik (v := 1) rfl (by decide) ?_
      refine ev_s rfl ?_
      refine ev_rz rfl rfl (by decide) ?_ ?_
      · exact some_i (zi_t ⟨c1, c2⟩).symm
      · rfl
def mW (x y z : Int32) : Prop := ¬ x < y ∧ ¬ z < x
set_option maxHeartbeats 4000000 in
theorem rn_within {hp : zHp} {x y z : Int32} (d : Nat) : Rn d mX6_within [(.int x), (.int y), (.int z)] hp (some (.int (zi (mW x y z)))) hp := by
  unfold Rn
  iterate 2 refine ev_s rfl ?_
  refine ev_ic rfl rfl (ev_br (zb_lt _ _ _ _) (fun c1 => ?_) (fun c1 => ?_))
  · show Ev _ _ 14 _ _ _ _
    refine ev_ik (v := 0) rfl (by decide) ?_
    refine ev_rz rfl rfl (by decide) ?_ ?_
    · exact some_i (zi_f (fun h => h.1 c1)).symm
    · rfl
  · show Ev _ _ 5 _ _ _ _
    iterate 2 refine ev_s rfl ?_
    refine ev_ic rfl rfl (ev_br (zb_gt _ _ _ _) (fun c2 => ?_) (fun c2 => ?_))
    · show Ev _ _ 14 _ _ _ _
      refine ev_ik (v := 0) rfl (by decide) ?_
      refine ev_rz rfl rfl (by decide) ?_ ?_
      · exact some_i (zi_f (fun h => h.2 c2)).symm
      · rfl
    · show Ev _ _ 10 _ _ _ _
      refine ev_ik (v := 1) rfl (by decide) ?_
      refine ev_s rfl ?_
      refine ev_rz rfl rfl (by decide) ?_ ?_
      · exact some_i (zi_t ⟨c1, c2⟩).symm
      · rfl
set_option maxHeartbeats 4000000 in
theorem rn_pcells {hp : zHp} {a : Nat} {f : Nat → Int32} (ha : hp[a]? = some (pcl f)) (d : Nat) : Rn d mX2_cells [(.ref a)] hp (some (.int (f 5 * f 6 * f 7))) hp := by
  unfold Rn
  refine ev_s rfl ?_
  refine ev_gf ha rfl rfl rfl ?_
  refine ev_s rfl ?_
  refine ev_gf ha rfl rfl rfl ?_
  iterate 2 refine ev_s rfl ?_
  refine ev_gf ha rfl rfl rfl ?_
  refine ev_s rfl ?_
  refine ev_ri rfl rfl ?_ ?_
  · rfl
  · rfl
set_option maxHeartbeats 4000000 in
theorem rn_kcells {hp : zHp} {a : Nat} {f : Nat → Int32} (ha : hp[a]? = some (kcl f)) (d : Nat) : Rn d mX1_cells [(.ref a)] hp (some (.int (f 0 * f 1 * f 2))) hp := by
  unfold Rn
  refine ev_s rfl ?_
  refine ev_gf ha rfl rfl rfl ?_
  refine ev_s rfl ?_
  refine ev_gf ha rfl rfl rfl ?_
  iterate 2 refine ev_s rfl ?_
  refine ev_gf ha rfl rfl rfl ?_
  refine ev_s rfl ?_
  refine ev_ri rfl rfl ?_ ?_
  · rfl
  · rfl
set_option maxHeartbeats 4000000 in
theorem rn_scells {hp : zHp} {a : Nat} {f : Nat → Int32} (ha : hp[a]? = some (.inr (4, [.int (f 0), .int (f 1), .int (f 2)]))) (d : Nat) : Rn d mX4_cells [(.ref a)] hp (some (.int (f 0 * f 1 * f 2))) hp := by
  unfold Rn
  refine ev_s rfl ?_
  refine ev_gf ha rfl rfl rfl ?_
  refine ev_s rfl ?_
  refine ev_gf ha rfl rfl rfl ?_
  iterate 2 refine ev_s rfl ?_
  refine ev_gf ha rfl rfl rfl ?_
  refine ev_s rfl ?_
  refine ev_ri rfl rfl ?_ ?_
  · rfl
  · rfl
def cHt (b t : Int32) : Prop := ¬ (b >>> (t &&& 31)) &&& 1 = 0
set_option maxHeartbeats 4000000 in
theorem rn_hasTurn {hp : zHp} {a : Nat} {f : Nat → Int32} (ha : hp[a]? = some (kcl f)) {t : Int32} (d : Nat) : Rn d mX1_hasTurn [(.ref a), (.int t)] hp (some (.int (zi (cHt (f 7) t)))) hp := by
  unfold Rn
  refine ev_s rfl ?_
  refine ev_gf ha rfl rfl rfl ?_
  iterate 2 refine ev_s rfl ?_
  refine ev_ik (v := 1) rfl (by decide) ?_
  refine ev_s rfl ?_
  refine ev_if rfl rfl (ev_br (zb_eq _ _ _ _) (fun c1 => ?_) (fun c1 => ?_))
  · show Ev _ _ 15 _ _ _ _
    refine ev_ik (v := 0) rfl (by decide) ?_
    refine ev_rz rfl rfl (by decide) ?_ ?_
    · exact some_i (zi_f (fun h => h c1)).symm
    · rfl
  · show Ev _ _ 11 _ _ _ _
    refine ev_ik (v := 1) rfl (by decide) ?_
    refine ev_s rfl ?_
    refine ev_rz rfl rfl (by decide) ?_ ?_
    · exact some_i (zi_t c1).symm
    · rfl
set_option maxHeartbeats 4000000 in
theorem rn_hasBit {hp : zHp} {b t : Int32} (d : Nat) : Rn d mX3_hasBit [(.int b), (.int t)] hp (some (.int (zi (cHt b t)))) hp := by
  unfold Rn
  iterate 3 refine ev_s rfl ?_
  refine ev_ik (v := 1) rfl (by decide) ?_
  refine ev_s rfl ?_
  refine ev_if rfl rfl (ev_br (zb_eq _ _ _ _) (fun c1 => ?_) (fun c1 => ?_))
  · show Ev _ _ 12 _ _ _ _
    refine ev_ik (v := 0) rfl (by decide) ?_
    refine ev_rz rfl rfl (by decide) ?_ ?_
    · exact some_i (zi_f (fun h => h c1)).symm
    · rfl
  · show Ev _ _ 8 _ _ _ _
    refine ev_ik (v := 1) rfl (by decide) ?_
    refine ev_s rfl ?_
    refine ev_rz rfl rfl (by decide) ?_ ?_
    · exact some_i (zi_t c1).symm
    · rfl
def tW (f : Nat → Int32) (t : Nat) : Int32 := match t with | 1 => f 2 | 4 => f 2 | 3 => f 1 | 5 => f 1 | _ => f 0
def tH (f : Nat → Int32) (t : Nat) : Int32 := match t with | 2 => f 2 | 3 => f 2 | 4 => f 0 | 5 => f 0 | _ => f 1
def tD (f : Nat → Int32) (t : Nat) : Int32 := match t with | 1 => f 0 | 3 => f 0 | 2 => f 1 | 4 => f 1 | _ => f 2
set_option maxHeartbeats 4000000 in
theorem rn_tW {hp : zHp} {a : Nat} {f : Nat → Int32} (ha : hp[a]? = some (kcl f)) {t : Nat} (ht : t < 6) (d : Nat) : Rn d mX1_turnedWidth [.ref a, .int (nI t)] hp (some (.int (tW f t))) hp := by
  unfold Rn
  match t, ht with
  | 0, _ =>
    refine ev_s rfl ?_
    refine ev_sw (off := 45) rfl (by decide) rfl ?_
    show Ev _ _ 46 _ _ _ _
    refine ev_s rfl ?_
    refine ev_gf ha rfl rfl rfl ?_
    refine ev_ri rfl rfl ?_ ?_
    · rfl
    · rfl
  | 1, _ =>
    refine ev_s rfl ?_
    refine ev_sw (off := 35) rfl (by decide) rfl ?_
    show Ev _ _ 36 _ _ _ _
    refine ev_s rfl ?_
    refine ev_gf ha rfl rfl rfl ?_
    refine ev_ri rfl rfl ?_ ?_
    · rfl
    · rfl
  | 2, _ =>
    refine ev_s rfl ?_
    refine ev_sw (off := 45) rfl (by decide) rfl ?_
    show Ev _ _ 46 _ _ _ _
    refine ev_s rfl ?_
    refine ev_gf ha rfl rfl rfl ?_
    refine ev_ri rfl rfl ?_ ?_
    · rfl
    · rfl
  | 3, _ =>
    refine ev_s rfl ?_
    refine ev_sw (off := 40) rfl (by decide) rfl ?_
    show Ev _ _ 41 _ _ _ _
    refine ev_s rfl ?_
    refine ev_gf ha rfl rfl rfl ?_
    refine ev_ri rfl rfl ?_ ?_
    · rfl
    · rfl
  | 4, _ =>
    refine ev_s rfl ?_
    refine ev_sw (off := 35) rfl (by decide) rfl ?_
    show Ev _ _ 36 _ _ _ _
    refine ev_s rfl ?_
    refine ev_gf ha rfl rfl rfl ?_
    refine ev_ri rfl rfl ?_ ?_
    · rfl
    · rfl
  | 5, _ =>
    refine ev_s rfl ?_
    refine ev_sw (off := 40) rfl (by decide) rfl ?_
    show Ev _ _ 41 _ _ _ _
    refine ev_s rfl ?_
    refine ev_gf ha rfl rfl rfl ?_
    refine ev_ri rfl rfl ?_ ?_
    · rfl
    · rfl
  | t + 6, h => exact absurd h (by omega)
set_option maxHeartbeats 4000000 in
theorem rn_tH {hp : zHp} {a : Nat} {f : Nat → Int32} (ha : hp[a]? = some (kcl f)) {t : Nat} (ht : t < 6) (d : Nat) : Rn d mX1_turnedHeight [.ref a, .int (nI t)] hp (some (.int (tH f t))) hp := by
  unfold Rn
  match t, ht with
  | 0, _ =>
    refine ev_s rfl ?_
    refine ev_sw (off := 41) rfl (by decide) rfl ?_
    show Ev _ _ 42 _ _ _ _
    refine ev_s rfl ?_
    refine ev_gf ha rfl rfl rfl ?_
    refine ev_ri rfl rfl ?_ ?_
    · rfl
    · rfl
  | 1, _ =>
    refine ev_s rfl ?_
    refine ev_sw (off := 41) rfl (by decide) rfl ?_
    show Ev _ _ 42 _ _ _ _
    refine ev_s rfl ?_
    refine ev_gf ha rfl rfl rfl ?_
    refine ev_ri rfl rfl ?_ ?_
    · rfl
    · rfl
  | 2, _ =>
    refine ev_s rfl ?_
    refine ev_sw (off := 31) rfl (by decide) rfl ?_
    show Ev _ _ 32 _ _ _ _
    refine ev_s rfl ?_
    refine ev_gf ha rfl rfl rfl ?_
    refine ev_ri rfl rfl ?_ ?_
    · rfl
    · rfl
  | 3, _ =>
    refine ev_s rfl ?_
    refine ev_sw (off := 31) rfl (by decide) rfl ?_
    show Ev _ _ 32 _ _ _ _
    refine ev_s rfl ?_
    refine ev_gf ha rfl rfl rfl ?_
    refine ev_ri rfl rfl ?_ ?_
    · rfl
    · rfl
  | 4, _ =>
    refine ev_s rfl ?_
    refine ev_sw (off := 36) rfl (by decide) rfl ?_
    show Ev _ _ 37 _ _ _ _
    refine ev_s rfl ?_
    refine ev_gf ha rfl rfl rfl ?_
    refine ev_ri rfl rfl ?_ ?_
    · rfl
    · rfl
  | 5, _ =>
    refine ev_s rfl ?_
    refine ev_sw (off := 36) rfl (by decide) rfl ?_
    show Ev _ _ 37 _ _ _ _
    refine ev_s rfl ?_
    refine ev_gf ha rfl rfl rfl ?_
    refine ev_ri rfl rfl ?_ ?_
    · rfl
    · rfl
  | t + 6, h => exact absurd h (by omega)
set_option maxHeartbeats 4000000 in
theorem rn_tD {hp : zHp} {a : Nat} {f : Nat → Int32} (ha : hp[a]? = some (kcl f)) {t : Nat} (ht : t < 6) (d : Nat) : Rn d mX1_turnedDepth [.ref a, .int (nI t)] hp (some (.int (tD f t))) hp := by
  unfold Rn
  match t, ht with
  | 0, _ =>
    refine ev_s rfl ?_
    refine ev_sw (off := 41) rfl (by decide) rfl ?_
    show Ev _ _ 42 _ _ _ _
    refine ev_s rfl ?_
    refine ev_gf ha rfl rfl rfl ?_
    refine ev_ri rfl rfl ?_ ?_
    · rfl
    · rfl
  | 1, _ =>
    refine ev_s rfl ?_
    refine ev_sw (off := 31) rfl (by decide) rfl ?_
    show Ev _ _ 32 _ _ _ _
    refine ev_s rfl ?_
    refine ev_gf ha rfl rfl rfl ?_
    refine ev_ri rfl rfl ?_ ?_
    · rfl
    · rfl
  | 2, _ =>
    refine ev_s rfl ?_
    refine ev_sw (off := 36) rfl (by decide) rfl ?_
    show Ev _ _ 37 _ _ _ _
    refine ev_s rfl ?_
    refine ev_gf ha rfl rfl rfl ?_
    refine ev_ri rfl rfl ?_ ?_
    · rfl
    · rfl
  | 3, _ =>
    refine ev_s rfl ?_
    refine ev_sw (off := 31) rfl (by decide) rfl ?_
    show Ev _ _ 32 _ _ _ _
    refine ev_s rfl ?_
    refine ev_gf ha rfl rfl rfl ?_
    refine ev_ri rfl rfl ?_ ?_
    · rfl
    · rfl
  | 4, _ =>
    refine ev_s rfl ?_
    refine ev_sw (off := 36) rfl (by decide) rfl ?_
    show Ev _ _ 37 _ _ _ _
    refine ev_s rfl ?_
    refine ev_gf ha rfl rfl rfl ?_
    refine ev_ri rfl rfl ?_ ?_
    · rfl
    · rfl
  | 5, _ =>
    refine ev_s rfl ?_
    refine ev_sw (off := 41) rfl (by decide) rfl ?_
    show Ev _ _ 42 _ _ _ _
    refine ev_s rfl ?_
    refine ev_gf ha rfl rfl rfl ?_
    refine ev_ri rfl rfl ?_ ?_
    · rfl
    · rfl
  | t + 6, h => exact absurd h (by omega)
def nOn (f : Nat → Int32) (k : Nat) : Int32 := match k with | 0 => f 8 | 1 => f 9 | 2 => f 10 | _ => f 4
set_option maxHeartbeats 4000000 in
theorem rn_numberOn {hp : zHp} {a : Nat} {f : Nat → Int32} (ha : hp[a]? = some (pcl f)) {t : Nat} (ht : t < 4) (d : Nat) : Rn d mX2_numberOn [.ref a, .int (nI t)] hp (some (.int (nOn f t))) hp := by
  unfold Rn
  match t, ht with
  | 0, _ =>
    refine ev_s rfl ?_
    refine ev_sw (off := 27) rfl (by decide) rfl ?_
    show Ev _ _ 28 _ _ _ _
    refine ev_s rfl ?_
    refine ev_gf ha rfl rfl rfl ?_
    refine ev_ri rfl rfl ?_ ?_
    · rfl
    · rfl
  | 1, _ =>
    refine ev_s rfl ?_
    refine ev_sw (off := 32) rfl (by decide) rfl ?_
    show Ev _ _ 33 _ _ _ _
    refine ev_s rfl ?_
    refine ev_gf ha rfl rfl rfl ?_
    refine ev_ri rfl rfl ?_ ?_
    · rfl
    · rfl
  | 2, _ =>
    refine ev_s rfl ?_
    refine ev_sw (off := 37) rfl (by decide) rfl ?_
    show Ev _ _ 38 _ _ _ _
    refine ev_s rfl ?_
    refine ev_gf ha rfl rfl rfl ?_
    refine ev_ri rfl rfl ?_ ?_
    · rfl
    · rfl
  | 3, _ =>
    refine ev_s rfl ?_
    refine ev_sw (off := 42) rfl (by decide) rfl ?_
    show Ev _ _ 43 _ _ _ _
    refine ev_s rfl ?_
    refine ev_gf ha rfl rfl rfl ?_
    refine ev_ri rfl rfl ?_ ?_
    · rfl
    · rfl
  | t + 4, h => exact absurd h (by omega)
