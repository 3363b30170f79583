-- lk:
/-! ===== bits ===== -/
def bt (x : Int32) (i : Nat) : Bool := x.toBitVec.getLsbD i
theorem b_ext {x y : Int32} (h : ∀ i, i < 32 → bt x i = bt y i) : x = y := Int32.toBitVec_inj.mp (BitVec.eq_of_getLsbD_eq (fun i hi => h i hi))
theorem b_or (x y : Int32) (i : Nat) : bt (x ||| y) i = (bt x i || bt y i) := by unfold bt; rw [Int32.toBitVec_or, BitVec.getLsbD_or]
theorem b_and (x y : Int32) (i : Nat) : bt (x &&& y) i = (bt x i && bt y i) := by unfold bt; rw [Int32.toBitVec_and, BitVec.getLsbD_and]
theorem b_0 (i : Nat) : bt 0 i = false := BitVec.getLsbD_zero
theorem s_l : ∀ n, n < 32 → ((nI n &&& 31).toBitVec.smod 32).toNat = n := by decide +kernel
theorem b_shl (n : Nat) (hn : n < 32) (x : Int32) {i : Nat} (hi : i < 32) : bt (x <<< (nI n &&& 31)) i = (decide (n ≤ i) && bt x (i - n)) := by
  unfold bt
  rw [Int32.toBitVec_shiftLeft]
  show (x.toBitVec <<< ((nI n &&& 31).toBitVec.smod 32).toNat).getLsbD i = _
  rw [s_l n hn, BitVec.getLsbD_shiftLeft]
  rcases Nat.lt_or_ge i n with h | h
  · simp [h, Nat.not_le.mpr h]
  · simp [hi, h, Nat.not_lt.mpr h]
theorem b_sshr (n : Nat) (hn : n < 32) (x : Int32) {i : Nat} (hi : i < 32) : bt (x >>> (nI n &&& 31)) i = if n + i < 32 then bt x (n + i) else bt x 31 := by
  unfold bt
  rw [Int32.toBitVec_shiftRight]
  show (x.toBitVec.sshiftRight ((nI n &&& 31).toBitVec.smod 32).toNat).getLsbD i = _
  rw [s_l n hn, BitVec.getLsbD_sshiftRight, BitVec.msb_eq_getLsbD_last]
  simp [hi]
theorem cHt_bt {b : Int32} {t : Nat} (ht : t < 32) : cHt b (nI t) ↔ bt b t = true := by
  unfold cHt
  have e1 : ∀ i, i < 32 → bt (1 : Int32) i = decide (i = 0) := by decide +kernel
  have e2 : bt (b >>> (nI t &&& 31)) 0 = bt b t := by
    rw [b_sshr t ht b (by omega), if_pos (by omega), Nat.add_zero]
  constructor
  · intro h
    cases hb : bt b t with
    | true => rfl
    | false =>
      exfalso
      apply h
      apply b_ext
      intro i hi
      rw [b_and, b_0, e1 i hi]
      by_cases z : i = 0
      · subst z; rw [e2, hb]; rfl
      · simp [z]
  · intro h z
    have := congrArg (fun v => bt v 0) z
    simp only [b_and, b_0, e2, h, e1 0 (by omega)] at this
    simp at this
theorem cHt_or {b : Int32} {e x : Nat} (he : e < 32) (hx : x < 32) : cHt (b ||| ((1 : Int32) <<< (nI e &&& 31))) (nI x) ↔ cHt b (nI x) ∨ x = e := by
  have e1 : ∀ i, i < 32 → bt (1 : Int32) i = decide (i = 0) := by decide +kernel
  rw [cHt_bt hx, cHt_bt hx, b_or, b_shl e he _ hx, e1 (x - e) (by omega)]
  by_cases z : x = e
  · subst z; simp
  · by_cases w : e ≤ x
    · have : ¬ x - e = 0 := by omega
      simp [z, this]
    · simp [z, w]
theorem cHt_1 {x : Nat} (hx : x < 32) : cHt 1 (nI x) ↔ x = 0 := by
  have e1 : ∀ i, i < 32 → bt (1 : Int32) i = decide (i = 0) := by decide +kernel
  rw [cHt_bt hx, e1 x hx]
  simp
theorem cHt_0 {x : Nat} (hx : x < 32) : ¬ cHt 0 (nI x) := by
  rw [cHt_bt hx, b_0]
  simp
/-- the bits of the turns are the list of the turns -/
theorem tbl_mem {f : Nat → Int32} {t : Nat} (ht : t < 32) : ∀ n, n ≤ 32 → (cHt (tbl f n) (nI t) ↔ t ∈ tls f n)
  | 0, _ => ⟨fun h => absurd h (cHt_0 ht), fun h => by simp [tls] at h⟩
  | n + 1, hn => by
    have ih := tbl_mem (f := f) ht n (by omega)
    show cHt (@ite _ (cMk f n) (Classical.propDecidable _) (tbl f n) (tbl f n ||| ((1 : Int32) <<< (nI n &&& 31)))) (nI t) ↔ t ∈ cIf (cMk f n) (tls f n) (tls f n ++ [n])
    by_cases h : cMk f n
    · rw [if_pos h, cIf_t h]; exact ih
    · rw [if_neg h, cIf_f h, cHt_or (by omega) ht, ih]
      simp
