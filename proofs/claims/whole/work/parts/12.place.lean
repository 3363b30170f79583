/-! ===== Place ===== -/
abbrev pcl (f : Nat → Int32) : va_E := .inr (2, [.int (f 0), .int (f 1), .int (f 2), .int (f 3), .int (f 4), .int (f 5), .int (f 6), .int (f 7), .int (f 8), .int (f 9), .int (f 10)])
/-- g is above f: it is higher, and they have a cell of the floor in common -/
def cAb (f g : Nat → Int32) : Prop := f 9 + f 6 ≤ g 9 ∧ f 8 < g 8 + g 5 ∧ g 8 < f 8 + f 5 ∧ f 10 < g 10 + g 7 ∧ g 10 < f 10 + f 7
set_option maxHeartbeats 4000000 in
theorem rn_hasAbove {hp : zHp} {a b : Nat} {f g : Nat → Int32} (ha : hp[a]? = some (pcl f)) (hb : hp[b]? = some (pcl g)) (d : Nat) {r : Int32} (h1 : cAb f g → r = 1) (h0 : ¬ cAb f g → r = 0) : Rn d mX2_hasAbove [.ref a, .ref b] hp (some (.int r)) hp := by
  unfold Rn
  refine ev_s rfl ?_
  refine ev_gf hb rfl rfl rfl ?_
  sorry
