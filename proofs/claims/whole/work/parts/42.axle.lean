-- lk: 31 32 33 35
/-! ===== axle ===== -/
theorem lc_ne {v : Nat} (h : 0 < v) (hb : v < 2 ^ 63) : ¬ lg_cmp (lN v) 0 = 0 := by
  unfold lg_cmp
  rw [if_pos (show lN v > 0 from (pk_lLT (a := 0) (by omega) hb).mpr h)]
  decide
theorem lc_gt {v : Nat} (h : 0 < v) (hb : v < 2 ^ 63) : (0 : Int32) < lg_cmp (lN v) 0 := by
  unfold lg_cmp
  rw [if_pos (show lN v > 0 from (pk_lLT (a := 0) (by omega) hb).mpr h)]
  decide
theorem lc_0 : lg_cmp (lN 0) 0 = 0 := by decide
theorem lN_ne0 {v : Nat} (h : 0 < v) (hb : v < 2 ^ 63) : ¬ lN v = 0 := fun e => by
  have := (pk_lEQ (a := v) (b := 0) hb (by omega)).mp e
  omega
theorem zeq_n {x y : Int32} {t f : Nat} (h : ¬ x = y) : zbr .eq x y t f = f := if_neg h
theorem zeq_p {x y : Int32} {t f : Nat} (h : x = y) : zbr .eq x y t f = t := if_pos h
theorem zne_n {x y : Int32} {t f : Nat} (h : ¬ x = y) : zbr .ne x y t f = t := if_neg h
theorem zne_p {x y : Int32} {t f : Nat} (h : x = y) : zbr .ne x y t f = f := if_pos h
theorem zgt_p {x y : Int32} {t f : Nat} (h : y < x) : zbr .gt x y t f = t := if_pos h
theorem zgt_n {x y : Int32} {t f : Nat} (h : ¬ y < x) : zbr .gt x y t f = f := if_neg h

set_option maxHeartbeats 4000000 in
theorem lp_gr {hp : zHp} {a b : Nat} (d : Nat) : ∀ n u v, v ≤ n → u < 2 ^ 62 → v < 2 ^ 62 → ∀ v8, Ev d mX6_greatest 6 [some (.long (lN a)), none, some (.long (lN b)), none, some (.long (lN u)), none, some (.long (lN v)), none, v8, none] [] hp (Qr mX6_greatest (some (.long (lN (Nat.gcd u v)))) hp) := by
  intro n
  induction n with
  | zero =>
    intro u v hv hu hv2 v8
    obtain rfl : v = 0 := by omega
    refine ev_s rfl ?_
    refine ev_lk (v := 0) rfl (by decide) ?_
    refine ev_s rfl ?_
    refine ev_if rfl rfl ?_
    rw [show zbr .eq (lg_cmp (lN 0) 0) 0 31 13 = 31 from zeq_p lc_0]
    refine ev_s rfl ?_
    refine ev_rl rfl rfl ?_ ?_
    · rw [Nat.gcd_zero_right]
    · rfl
  | succ n ih =>
    intro u v hv hu hv2 v8
    rcases Nat.eq_zero_or_pos v with hz | hz
    · subst hz
      refine ev_s rfl ?_
      refine ev_lk (v := 0) rfl (by decide) ?_
      refine ev_s rfl ?_
      refine ev_if rfl rfl ?_
      rw [show zbr .eq (lg_cmp (lN 0) 0) 0 31 13 = 31 from zeq_p lc_0]
      refine ev_s rfl ?_
      refine ev_rl rfl rfl ?_ ?_
      · rw [Nat.gcd_zero_right]
      · rfl
    · refine ev_s rfl ?_
      refine ev_lk (v := 0) rfl (by decide) ?_
      refine ev_s rfl ?_
      refine ev_if rfl rfl ?_
      rw [show zbr .eq (lg_cmp (lN v) 0) 0 31 13 = 13 from zeq_n (lc_ne hz (by omega))]
      iterate 2 refine ev_s rfl ?_
      refine ev_lrem rfl (lN_ne0 hz (by omega)) ?_
      rw [pk_lRem (by omega) hz (by omega)]
      refine ev_s (ls' := [some (.long (lN a)), none, some (.long (lN b)), none, some (.long (lN u)), none, some (.long (lN v)), none, some (.long (lN (u % v))), none]) rfl ?_
      refine ev_s rfl ?_
      refine ev_s (ls' := [some (.long (lN a)), none, some (.long (lN b)), none, some (.long (lN v)), none, some (.long (lN v)), none, some (.long (lN (u % v))), none]) rfl ?_
      refine ev_s rfl ?_
      refine ev_s (ls' := [some (.long (lN a)), none, some (.long (lN b)), none, some (.long (lN v)), none, some (.long (lN (u % v))), none, some (.long (lN (u % v))), none]) rfl ?_
      refine ev_s rfl ?_
      have hlt := Nat.mod_lt u hz
      rw [Nat.gcd_comm u v, Nat.gcd_rec v u, Nat.gcd_comm (u % v) v]
      exact ih v (u % v) (by omega) hv2 (by omega) _
set_option maxHeartbeats 4000000 in
theorem rn_greatest {hp : zHp} {a b : Nat} (ha : a < 2 ^ 62) (hb : b < 2 ^ 62) (d : Nat) : Rn d mX6_greatest [.long (lN a), .long (lN b)] hp (some (.long (lN (Nat.gcd a b)))) hp := by
  unfold Rn
  refine ev_s rfl ?_
  refine ev_s (ls' := [some (.long (lN a)), none, some (.long (lN b)), none, some (.long (lN a)), none, none, none, none, none]) rfl ?_
  refine ev_s rfl ?_
  refine ev_s (ls' := [some (.long (lN a)), none, some (.long (lN b)), none, some (.long (lN a)), none, some (.long (lN b)), none, none, none]) rfl ?_
  exact lp_gr d b a b (Nat.le_refl _) ha hb _
set_option maxHeartbeats 4000000 in
theorem gd_0 {hp : zHp} {a b u i : Nat} (hi : i ≤ 100) (d : Nat) (v9 : Option Value) : Ev d mX5_greatestDivisor 9 [some (.long (lN a)), none, some (.long (lN b)), none, some (.long (lN u)), none, some (.long (lN 0)), none, some (.int (nI i)), v9, none] [] hp (Qr mX5_greatestDivisor (some (.long (lN (Nat.gcd u 0)))) hp) := by
  rcases Nat.lt_or_ge i 100 with hq | hq
  · refine ev_s rfl ?_
    refine ev_bi (v := 100) rfl (by decide) ?_
    refine ev_ic rfl rfl ?_
    rw [show zbr .ge (nI i) 100 44 16 = 16 from zge_f (n := 100) rfl hq (by omega)]
    refine ev_s rfl ?_
    refine ev_lk (v := 0) rfl (by decide) ?_
    refine ev_s rfl ?_
    refine ev_if rfl rfl ?_
    rw [show zbr .eq (lg_cmp (lN 0) 0) 0 44 23 = 44 from zeq_p lc_0]
    refine ev_s rfl ?_
    refine ev_rl rfl rfl ?_ ?_
    · rw [Nat.gcd_zero_right]
    · rfl
  · refine ev_s rfl ?_
    refine ev_bi (v := 100) rfl (by decide) ?_
    refine ev_ic rfl rfl ?_
    rw [show zbr .ge (nI i) 100 44 16 = 44 from zge_t (n := 100) rfl hq (by omega)]
    refine ev_s rfl ?_
    refine ev_rl rfl rfl ?_ ?_
    · rw [Nat.gcd_zero_right]
    · rfl
set_option maxHeartbeats 4000000 in
theorem gd_1 {hp : zHp} {a b u v i : Nat} (hz : 0 < v) (hu : u < 2 ^ 62) (hv : v < 2 ^ 62) (hq : i < 100) (d : Nat) (v9 : Option Value) {Q : zCf → Prop} (hK : ∀ v9, Ev d mX5_greatestDivisor 9 [some (.long (lN a)), none, some (.long (lN b)), none, some (.long (lN v)), none, some (.long (lN (u % v))), none, some (.int (nI (i + 1))), v9, none] [] hp Q) : Ev d mX5_greatestDivisor 9 [some (.long (lN a)), none, some (.long (lN b)), none, some (.long (lN u)), none, some (.long (lN v)), none, some (.int (nI i)), v9, none] [] hp Q := by
  refine ev_s rfl ?_
  refine ev_bi (v := 100) rfl (by decide) ?_
  refine ev_ic rfl rfl ?_
  rw [show zbr .ge (nI i) 100 44 16 = 16 from zge_f (n := 100) rfl hq (by omega)]
  refine ev_s rfl ?_
  refine ev_lk (v := 0) rfl (by decide) ?_
  refine ev_s rfl ?_
  refine ev_if rfl rfl ?_
  rw [show zbr .eq (lg_cmp (lN v) 0) 0 44 23 = 23 from zeq_n (lc_ne hz (by omega))]
  iterate 2 refine ev_s rfl ?_
  refine ev_lrem rfl (lN_ne0 hz (by omega)) ?_
  rw [pk_lRem (by omega) hz (by omega)]
  refine ev_s (ls' := [some (.long (lN a)), none, some (.long (lN b)), none, some (.long (lN u)), none, some (.long (lN v)), none, some (.int (nI i)), some (.long (lN (u % v))), none]) rfl ?_
  refine ev_s rfl ?_
  refine ev_s (ls' := [some (.long (lN a)), none, some (.long (lN b)), none, some (.long (lN v)), none, some (.long (lN v)), none, some (.int (nI i)), some (.long (lN (u % v))), none]) rfl ?_
  refine ev_s rfl ?_
  refine ev_s (ls' := [some (.long (lN a)), none, some (.long (lN b)), none, some (.long (lN v)), none, some (.long (lN (u % v))), none, some (.int (nI i)), some (.long (lN (u % v))), none]) rfl ?_
  refine ev_inc (y := 1) (v := nI (i + 1)) (ls' := [some (.long (lN a)), none, some (.long (lN b)), none, some (.long (lN v)), none, some (.long (lN (u % v))), none, some (.int (nI (i + 1))), some (.long (lN (u % v))), none]) rfl rfl (by decide) (nI_1 _) rfl ?_
  refine ev_s rfl ?_
  exact hK _
theorem gd_go {hp : zHp} {a b : Nat} (d : Nat) : ∀ k u v i, v < 2 ^ k → k ≤ 40 → i + 2 * k ≤ 100 → u < 2 ^ 62 → ∀ v9, Ev d mX5_greatestDivisor 9 [some (.long (lN a)), none, some (.long (lN b)), none, some (.long (lN u)), none, some (.long (lN v)), none, some (.int (nI i)), v9, none] [] hp (Qr mX5_greatestDivisor (some (.long (lN (Nat.gcd u v)))) hp) := by
  intro k
  induction k with
  | zero =>
    intro u v i hv _ hi hu v9
    obtain rfl : v = 0 := by omega
    exact gd_0 (by omega) d v9
  | succ k ih =>
    intro u v i hv hk hi hu v9
    have hp2 : 2 ^ (k + 1) ≤ 2 ^ 40 := Nat.pow_le_pow_right (by omega) hk
    have hv2 : v < 2 ^ 62 := by omega
    rcases Nat.eq_zero_or_pos v with hz | hz
    · subst hz; exact gd_0 (by omega) d v9
    · refine gd_1 hz hu hv2 (by omega) d v9 (fun v9 => ?_)
      have hlt := Nat.mod_lt u hz
      rw [Nat.gcd_comm u v, Nat.gcd_rec v u, Nat.gcd_comm (u % v) v]
      rcases Nat.eq_zero_or_pos (u % v) with hz2 | hz2
      · rw [hz2]; exact gd_0 (by omega) d v9
      · refine gd_1 hz2 hv2 (by omega) (by omega) d v9 (fun v9 => ?_)
        have hlt2 := Nat.mod_lt v hz2
        rw [Nat.gcd_comm v (u % v), Nat.gcd_rec (u % v) v, Nat.gcd_comm (v % (u % v)) (u % v)]
        refine ih (u % v) (v % (u % v)) (i + 1 + 1) ?_ (by omega) (by omega) (by omega) v9
        have e1 := Nat.div_add_mod v (u % v)
        have e2 : 1 ≤ v / (u % v) := (Nat.one_le_div_iff hz2).mpr (by omega)
        have e3 : u % v * 1 ≤ u % v * (v / (u % v)) := Nat.mul_le_mul (Nat.le_refl _) e2
        rw [Nat.pow_succ] at hv
        omega
set_option maxHeartbeats 4000000 in
theorem rn_gdiv {hp : zHp} {a b : Nat} (ha : a < 2 ^ 62) (hb : b < 2 ^ 40) (d : Nat) : Rn d mX5_greatestDivisor [.long (lN a), .long (lN b)] hp (some (.long (lN (Nat.gcd a b)))) hp := by
  unfold Rn
  refine ev_s rfl ?_
  refine ev_s (ls' := [some (.long (lN a)), none, some (.long (lN b)), none, some (.long (lN a)), none, none, none, none, none, none]) rfl ?_
  refine ev_s rfl ?_
  refine ev_s (ls' := [some (.long (lN a)), none, some (.long (lN b)), none, some (.long (lN a)), none, some (.long (lN b)), none, none, none, none]) rfl ?_
  refine ev_ik (v := 0) rfl (by decide) ?_
  refine ev_s (ls' := [some (.long (lN a)), none, some (.long (lN b)), none, some (.long (lN a)), none, some (.long (lN b)), none, some (.int 0), none, none]) rfl ?_
  exact gd_go d 40 a b 0 hb (by omega) (by omega) ha _
def afS (B : Nat → Nat → Nat) (wq : Nat → Nat) : Nat → Nat
  | 0 => 0
  | i + 1 => afS B wq i + if B i 0 = 1 then wq i * (2 * B i 4 + B i 7) else 0
def anS (D : Nat) (B : Nat → Nat → Nat) (wq : Nat → Nat) : Nat → Nat
  | 0 => 0
  | i + 1 => anS D B wq i + if B i 0 = 1 then wq i * (2 * D - (2 * B i 4 + B i 7)) else 0
def awS (B : Nat → Nat → Nat) (wq : Nat → Nat) : Nat → Nat
  | 0 => 0
  | i + 1 => awS B wq i + if B i 0 = 1 then wq i else 0
/-- boxes of a packing in a space of depth D, with weights -/
def AxB (D : Nat) (B : Nat → Nat → Nat) (wq : Nat → Nat) : Prop := D ≤ 12 ∧ ∀ i, i < 6 → (B i 0 = 0 ∨ B i 0 = 1) ∧ (B i 0 = 1 → B i 4 + B i 7 ≤ D ∧ 1 ≤ wq i ∧ wq i ≤ 1000)
def AxM (D : Nat) (B : Nat → Nat → Nat) (wq : Nat → Nat) (M : Nat → Nat → Int32) : Prop := M 21 2 = nI D ∧ ∀ i, i < 6 → M 37 i = nI (B i 0) ∧ (B i 0 = 1 → M 40 i = nI (B i 4) ∧ M 43 i = nI (B i 7) ∧ M 45 i = nI (wq i))
def AxC (D : Nat) (B : Nat → Nat → Nat) (wq : Nat → Nat) (M : Nat → Nat → Int32) : Prop := M 1 2 = nI D ∧ ∀ i, i < 6 → M (5 + i) 0 = nI (B i 0) ∧ (B i 0 = 1 → M (5 + i) 10 = nI (B i 4) ∧ M (5 + i) 7 = nI (B i 7) ∧ M (5 + i) 1 = nI (wq i))
theorem af_h {a b x y z : Nat} (i1 : a ≤ z) (i2 : b = z - a) (q1 : x ≤ y) : a + x ≤ z + y ∧ b + (y - x) = z + y - (a + x) := by omega
section AX
variable {D : Nat} {B : Nat → Nat → Nat} {wq : Nat → Nat}
theorem af_le (h : AxB D B wq) : ∀ n, n ≤ 6 → afS B wq n ≤ 2 * D * awS B wq n ∧ anS D B wq n = 2 * D * awS B wq n - afS B wq n ∧ awS B wq n ≤ n * 1000
  | 0, _ => by simp [afS, anS, awS]
  | n + 1, hn => by
    obtain ⟨i1, i2, i3⟩ := af_le h n (by omega)
    rw [afS, anS, awS]
    by_cases e : B n 0 = 1
    · rw [if_pos e, if_pos e, if_pos e]
      obtain ⟨b1, b2, b3⟩ := (h.2 n (by omega)).2 e
      have q1 : wq n * (2 * B n 4 + B n 7) ≤ wq n * (2 * D) := Nat.mul_le_mul (Nat.le_refl _) (by omega)
      have q2 : wq n * (2 * D - (2 * B n 4 + B n 7)) = wq n * (2 * D) - wq n * (2 * B n 4 + B n 7) := Nat.mul_sub _ _ _
      have q3 : 2 * D * (awS B wq n + wq n) = 2 * D * awS B wq n + wq n * (2 * D) := by rw [Nat.mul_add, Nat.mul_comm (2 * D) (wq n)]
      rw [q3, q2, show (n + 1) * 1000 = n * 1000 + 1000 from Nat.succ_mul n 1000]
      have q4 := af_h i1 i2 q1
      exact ⟨q4.1, q4.2, Nat.add_le_add i3 b3⟩
    · rw [if_neg e, if_neg e, if_neg e, show (n + 1) * 1000 = n * 1000 + 1000 from Nat.succ_mul n 1000, Nat.add_zero, Nat.add_zero, Nat.add_zero]
      exact ⟨i1, i2, Nat.le_trans i3 (Nat.le_add_right _ _)⟩
theorem in_x {x : Int32} {i : Nat} (hb : B i 0 = 0 ∨ B i 0 = 1) (h : x = nI (B i 0)) : x = 0 ↔ ¬ B i 0 = 1 := by
  rw [h]
  rcases hb with e | e <;> rw [e] <;> simp [nI]
theorem cs_w {M : Nat → Nat → Int32} (h : AxB D B wq) (hc : AxC D B wq M) : ∀ n, n ≤ 6 → csum (gWeight M 5) n = nI (awS B wq n)
  | 0, _ => rfl
  | n + 1, hn => by
    obtain ⟨e1, e2⟩ := hc.2 n (by omega)
    have e3 := in_x (h.2 n (by omega)).1 e1
    rw [csum, awS, cs_w h hc n (by omega)]
    unfold gWeight
    by_cases e : B n 0 = 1
    · rw [if_neg (fun w => e3.mp w e), if_pos e, (e2 e).2.2, nI_add]
    · rw [if_pos (e3.mpr e), if_neg e, Int32.add_zero]; rfl
theorem cs_f {M : Nat → Nat → Int32} (h : AxB D B wq) (hc : AxC D B wq M) : ∀ n, n ≤ 6 → csum (gFar M 5) n = nI (afS B wq n)
  | 0, _ => rfl
  | n + 1, hn => by
    obtain ⟨e1, e2⟩ := hc.2 n (by omega)
    have e3 := in_x (h.2 n (by omega)).1 e1
    rw [csum, afS, cs_f h hc n (by omega)]
    unfold gFar
    by_cases e : B n 0 = 1
    · rw [if_neg (fun w => e3.mp w e), if_pos e, (e2 e).2.2, (e2 e).1, (e2 e).2.1, show (2 : Int32) = nI 2 from rfl, pk_mul, nI_add, pk_mul, nI_add]
    · rw [if_pos (e3.mpr e), if_neg e, Int32.add_zero]; rfl
end AX

set_option maxHeartbeats 4000000 in
theorem lp_ax0 {np : Nat} {M : Nat → Nat → Int32} {L : Nat → Int64} {D : Nat} {B : Nat → Nat → Nat} {wq : Nat → Nat} (hB : AxB D B wq) (hM : AxM D B wq M) {x : Int32} (d : Nat) {Q : zCf → Prop} (hQ : ∀ v8, Ev d mX6_axle 122 [some (.ref 21), some (.int 0), some (.int x), some (.long (lN (anS D B wq 6))), none, some (.long (lN (awS B wq 6))), none, some (.int (nI 6)), v8, none, none] [] (mk np M L) Q) : ∀ j k, k + j = 6 → ∀ v8, Ev d mX6_axle 35 [some (.ref 21), some (.int 0), some (.int x), some (.long (lN (anS D B wq k))), none, some (.long (lN (awS B wq k))), none, some (.int (nI k)), v8, none, none] [] (mk np M L) Q := by
  intro j
  induction j with
  | zero =>
    intro k hk v8
    obtain rfl : k = 6 := by omega
    refine ev_s rfl ?_
    refine ev_bi (v := 6) rfl (by decide) ?_
    refine ev_ic rfl rfl ?_
    rw [show zbr .ge (nI 6) 6 122 42 = 122 from zge_t (n := 6) rfl (by omega) (by omega)]
    exact hQ _
  | succ j ih =>
    intro k hkj v8
    have hk : k < 6 := by omega
    have hD := hB.1
    obtain ⟨e1, e2⟩ := hM.2 k hk
    have e3 := in_x (hB.2 k hk).1 e1
    have e9 := ih (k + 1) (by omega)
    rw [show anS D B wq (k + 1) = anS D B wq k + (if B k 0 = 1 then wq k * (2 * D - (2 * B k 4 + B k 7)) else 0) from rfl, show awS B wq (k + 1) = awS B wq k + (if B k 0 = 1 then wq k else 0) from rfl] at e9
    refine ev_s rfl ?_
    refine ev_bi (v := 6) rfl (by decide) ?_
    refine ev_ic rfl rfl ?_
    rw [show zbr .ge (nI k) 6 122 42 = 42 from zge_f (n := 6) rfl hk (by omega)]
    refine ev_s rfl ?_
    refine ev_gf (rd np M L (by omega) rfl) rfl rfl rfl ?_
    refine ev_s rfl ?_
    refine ev_ba (rd np M L (by omega) rfl) rfl (zin_nI (by omega) (by decide)) ?_
    refine ev_if rfl rfl (ev_br (zb_eq _ _ _ _) (fun c1 => ?_) (fun c1 => ?_))
    · show Ev _ _ 116 _ _ _ _
      refine ev_inc (y := 1) (v := nI (k + 1)) (ls' := [some (.ref 21), some (.int 0), some (.int x), some (.long (lN (anS D B wq k))), none, some (.long (lN (awS B wq k))), none, some (.int (nI (k + 1))), v8, none, none]) rfl rfl (by decide) (nI_1 _) rfl ?_
      refine ev_s rfl ?_
      rw [if_neg (e3.mp c1), if_neg (e3.mp c1), Nat.add_zero, Nat.add_zero] at e9
      exact e9 _
    · show Ev _ _ 52 _ _ _ _
      have hin : B k 0 = 1 := Classical.byContradiction (fun q => c1 (e3.mpr q))
      obtain ⟨f40, f43, f45⟩ := e2 hin
      obtain ⟨b1, b2, b3⟩ := (hB.2 k hk).2 hin
      rw [if_pos hin, if_pos hin] at e9
      refine ev_ik (v := 2) rfl (by decide) ?_
      refine ev_s rfl ?_
      refine ev_gf (rd np M L (by omega) rfl) rfl rfl rfl ?_
      refine ev_s rfl ?_
      refine ev_ia (rd np M L (by omega) rfl) rfl (zin_nI (by omega) (by decide)) ?_
      rw [f40]
      iterate 2 refine ev_s rfl ?_
      refine ev_gf (rd np M L (by omega) rfl) rfl rfl rfl ?_
      refine ev_s rfl ?_
      refine ev_ia (rd np M L (by omega) rfl) rfl (zin_nI (by omega) (by decide)) ?_
      rw [f43]
      refine ev_s rfl ?_
      rw [show (2 : Int32) = nI 2 from rfl, pk_mul, nI_add]
      refine ev_s (ls' := [some (.ref 21), some (.int 0), some (.int x), some (.long (lN (anS D B wq k))), none, some (.long (lN (awS B wq k))), none, some (.int (nI k)), some (.int (nI (2 * B k 4 + B k 7))), none, none]) rfl ?_
      iterate 2 refine ev_s rfl ?_
      refine ev_gf (rd np M L (by omega) rfl) rfl rfl rfl ?_
      refine ev_s rfl ?_
      refine ev_ia (rd np M L (by omega) rfl) rfl (zin_nI (by omega) (by decide)) ?_
      rw [f45]
      iterate 2 refine ev_s rfl ?_
      refine ev_ik (v := 1) rfl (by decide) ?_
      refine ev_ic rfl rfl ?_
      show Ev _ _ 90 _ _ _ _
      refine ev_ik (v := 2) rfl (by decide) ?_
      refine ev_s rfl ?_
      refine ev_gf (rd np M L (by omega) rfl) rfl rfl rfl ?_
      iterate 3 refine ev_s rfl ?_
      rw [hM.1, show (2 : Int32) * nI D = nI (2 * D) from by rw [show (2 : Int32) = nI 2 from rfl, pk_mul], pk_sub (by omega)]
      iterate 3 refine ev_s rfl ?_
      rw [nI_l (n := wq k) (by omega), nI_l (n := 2 * D - (2 * B k 4 + B k 7)) (by omega), lN_mul, lN_add]
      refine ev_s (ls' := [some (.ref 21), some (.int 0), some (.int x), some (.long (lN (anS D B wq k + wq k * (2 * D - (2 * B k 4 + B k 7))))), none, some (.long (lN (awS B wq k))), none, some (.int (nI k)), some (.int (nI (2 * B k 4 + B k 7))), none, none]) rfl ?_
      iterate 2 refine ev_s rfl ?_
      refine ev_gf (rd np M L (by omega) rfl) rfl rfl rfl ?_
      refine ev_s rfl ?_
      refine ev_ia (rd np M L (by omega) rfl) rfl (zin_nI (by omega) (by decide)) ?_
      rw [f45]
      iterate 2 refine ev_s rfl ?_
      rw [nI_l (n := wq k) (by omega), lN_add]
      refine ev_s (ls' := [some (.ref 21), some (.int 0), some (.int x), some (.long (lN (anS D B wq k + wq k * (2 * D - (2 * B k 4 + B k 7))))), none, some (.long (lN (awS B wq k + wq k))), none, some (.int (nI k)), some (.int (nI (2 * B k 4 + B k 7))), none, none]) rfl ?_
      refine ev_inc (y := 1) (v := nI (k + 1)) (ls' := [some (.ref 21), some (.int 0), some (.int x), some (.long (lN (anS D B wq k + wq k * (2 * D - (2 * B k 4 + B k 7))))), none, some (.long (lN (awS B wq k + wq k))), none, some (.int (nI (k + 1))), some (.int (nI (2 * B k 4 + B k 7))), none, none]) rfl rfl (by decide) (nI_1 _) rfl ?_
      refine ev_s rfl ?_
      exact e9 _
set_option maxHeartbeats 4000000 in
theorem lp_ax1 {np : Nat} {M : Nat → Nat → Int32} {L : Nat → Int64} {D : Nat} {B : Nat → Nat → Nat} {wq : Nat → Nat} (hB : AxB D B wq) (hM : AxM D B wq M) {x : Int32} (d : Nat) {Q : zCf → Prop} (hQ : ∀ v8, Ev d mX6_axle 122 [some (.ref 21), some (.int 1), some (.int x), some (.long (lN (afS B wq 6))), none, some (.long (lN (awS B wq 6))), none, some (.int (nI 6)), v8, none, none] [] (mk np M L) Q) : ∀ j k, k + j = 6 → ∀ v8, Ev d mX6_axle 35 [some (.ref 21), some (.int 1), some (.int x), some (.long (lN (afS B wq k))), none, some (.long (lN (awS B wq k))), none, some (.int (nI k)), v8, none, none] [] (mk np M L) Q := by
  intro j
  induction j with
  | zero =>
    intro k hk v8
    obtain rfl : k = 6 := by omega
    refine ev_s rfl ?_
    refine ev_bi (v := 6) rfl (by decide) ?_
    refine ev_ic rfl rfl ?_
    rw [show zbr .ge (nI 6) 6 122 42 = 122 from zge_t (n := 6) rfl (by omega) (by omega)]
    exact hQ _
  | succ j ih =>
    intro k hkj v8
    have hk : k < 6 := by omega
    have hD := hB.1
    obtain ⟨e1, e2⟩ := hM.2 k hk
    have e3 := in_x (hB.2 k hk).1 e1
    have e9 := ih (k + 1) (by omega)
    rw [show afS B wq (k + 1) = afS B wq k + (if B k 0 = 1 then wq k * (2 * B k 4 + B k 7) else 0) from rfl, show awS B wq (k + 1) = awS B wq k + (if B k 0 = 1 then wq k else 0) from rfl] at e9
    refine ev_s rfl ?_
    refine ev_bi (v := 6) rfl (by decide) ?_
    refine ev_ic rfl rfl ?_
    rw [show zbr .ge (nI k) 6 122 42 = 42 from zge_f (n := 6) rfl hk (by omega)]
    refine ev_s rfl ?_
    refine ev_gf (rd np M L (by omega) rfl) rfl rfl rfl ?_
    refine ev_s rfl ?_
    refine ev_ba (rd np M L (by omega) rfl) rfl (zin_nI (by omega) (by decide)) ?_
    refine ev_if rfl rfl (ev_br (zb_eq _ _ _ _) (fun c1 => ?_) (fun c1 => ?_))
    · show Ev _ _ 116 _ _ _ _
      refine ev_inc (y := 1) (v := nI (k + 1)) (ls' := [some (.ref 21), some (.int 1), some (.int x), some (.long (lN (afS B wq k))), none, some (.long (lN (awS B wq k))), none, some (.int (nI (k + 1))), v8, none, none]) rfl rfl (by decide) (nI_1 _) rfl ?_
      refine ev_s rfl ?_
      rw [if_neg (e3.mp c1), if_neg (e3.mp c1), Nat.add_zero, Nat.add_zero] at e9
      exact e9 _
    · show Ev _ _ 52 _ _ _ _
      have hin : B k 0 = 1 := Classical.byContradiction (fun q => c1 (e3.mpr q))
      obtain ⟨f40, f43, f45⟩ := e2 hin
      obtain ⟨b1, b2, b3⟩ := (hB.2 k hk).2 hin
      rw [if_pos hin, if_pos hin] at e9
      refine ev_ik (v := 2) rfl (by decide) ?_
      refine ev_s rfl ?_
      refine ev_gf (rd np M L (by omega) rfl) rfl rfl rfl ?_
      refine ev_s rfl ?_
      refine ev_ia (rd np M L (by omega) rfl) rfl (zin_nI (by omega) (by decide)) ?_
      rw [f40]
      iterate 2 refine ev_s rfl ?_
      refine ev_gf (rd np M L (by omega) rfl) rfl rfl rfl ?_
      refine ev_s rfl ?_
      refine ev_ia (rd np M L (by omega) rfl) rfl (zin_nI (by omega) (by decide)) ?_
      rw [f43]
      refine ev_s rfl ?_
      rw [show (2 : Int32) = nI 2 from rfl, pk_mul, nI_add]
      refine ev_s (ls' := [some (.ref 21), some (.int 1), some (.int x), some (.long (lN (afS B wq k))), none, some (.long (lN (awS B wq k))), none, some (.int (nI k)), some (.int (nI (2 * B k 4 + B k 7))), none, none]) rfl ?_
      iterate 2 refine ev_s rfl ?_
      refine ev_gf (rd np M L (by omega) rfl) rfl rfl rfl ?_
      refine ev_s rfl ?_
      refine ev_ia (rd np M L (by omega) rfl) rfl (zin_nI (by omega) (by decide)) ?_
      rw [f45]
      iterate 2 refine ev_s rfl ?_
      refine ev_ik (v := 1) rfl (by decide) ?_
      refine ev_ic rfl rfl ?_
      show Ev _ _ 85 _ _ _ _
      iterate 2 refine ev_s rfl ?_
      iterate 3 refine ev_s rfl ?_
      rw [nI_l (n := wq k) (by omega), nI_l (n := 2 * B k 4 + B k 7) (by omega), lN_mul, lN_add]
      refine ev_s (ls' := [some (.ref 21), some (.int 1), some (.int x), some (.long (lN (afS B wq k + wq k * (2 * B k 4 + B k 7)))), none, some (.long (lN (awS B wq k))), none, some (.int (nI k)), some (.int (nI (2 * B k 4 + B k 7))), none, none]) rfl ?_
      iterate 2 refine ev_s rfl ?_
      refine ev_gf (rd np M L (by omega) rfl) rfl rfl rfl ?_
      refine ev_s rfl ?_
      refine ev_ia (rd np M L (by omega) rfl) rfl (zin_nI (by omega) (by decide)) ?_
      rw [f45]
      iterate 2 refine ev_s rfl ?_
      rw [nI_l (n := wq k) (by omega), lN_add]
      refine ev_s (ls' := [some (.ref 21), some (.int 1), some (.int x), some (.long (lN (afS B wq k + wq k * (2 * B k 4 + B k 7)))), none, some (.long (lN (awS B wq k + wq k))), none, some (.int (nI k)), some (.int (nI (2 * B k 4 + B k 7))), none, none]) rfl ?_
      refine ev_inc (y := 1) (v := nI (k + 1)) (ls' := [some (.ref 21), some (.int 1), some (.int x), some (.long (lN (afS B wq k + wq k * (2 * B k 4 + B k 7)))), none, some (.long (lN (awS B wq k + wq k))), none, some (.int (nI (k + 1))), some (.int (nI (2 * B k 4 + B k 7))), none, none]) rfl rfl (by decide) (nI_1 _) rfl ?_
      refine ev_s rfl ?_
      exact e9 _
set_option maxHeartbeats 4000000 in
theorem rn_maxle_o {np : Nat} {M : Nat → Nat → Int32} {L : Nat → Int64} {x y : Int32} (hu : ¬ (mW x 0 1 ∧ mW y 0 1)) (d : Nat) : Rn (d + 1) mX6_axle [(.ref 21), (.int x), (.int y)] (mk np M L) (some (.long (-102))) (mk np (up2 M 21 44 0) L) := by
  unfold Rn
  refine ev_s rfl ?_
  refine ev_ik (v := 0) rfl (by decide) ?_
  refine ev_pf (hp' := (mk np (up2 M 21 44 0) L)) (rd np M L (by omega) rfl) rfl rfl (by simp) rfl rfl (mk_setr rfl rfl rfl) ?_
  refine ev_s rfl ?_
  refine ev_ik (v := 0) rfl (by decide) ?_
  refine ev_ik (v := 1) rfl (by decide) ?_
  refine ev_cs (vs := [(.int x), (.int 0), (.int 1)]) (rest := []) (rv := (some (.int (zi (mW x 0 1))))) rfl rfl rfl rfl rfl (rn_within _) ?_
  show Ev _ _ 11 _ [(.int (zi (mW x 0 1)))] _ _
  refine ev_if rfl rfl (ev_bze (fun c1 => ?_) (fun c1 => ?_))
  · show Ev _ _ 23 _ _ _ _
    refine ev_s rfl ?_
    refine ev_rl rfl rfl ?_ ?_
    · rfl
    · rfl
  · show Ev _ _ 14 _ _ _ _
    refine ev_s rfl ?_
    refine ev_ik (v := 0) rfl (by decide) ?_
    refine ev_ik (v := 1) rfl (by decide) ?_
    refine ev_cs (vs := [(.int y), (.int 0), (.int 1)]) (rest := []) (rv := (some (.int (zi (mW y 0 1))))) rfl rfl rfl rfl rfl (rn_within _) ?_
    show Ev _ _ 20 _ [(.int (zi (mW y 0 1)))] _ _
    refine ev_if rfl rfl (ev_bzn (fun c2 => ?_) (fun c2 => ?_))
    · show Ev _ _ 27 _ _ _ _
      exact absurd ⟨c1, c2⟩ hu
    · show Ev _ _ 23 _ _ _ _
      refine ev_s rfl ?_
      refine ev_rl rfl rfl ?_ ?_
      · rfl
      · rfl
set_option maxHeartbeats 4000000 in
theorem rn_maxle_00z {np : Nat} {M : Nat → Nat → Int32} {L : Nat → Int64} {D : Nat} {B : Nat → Nat → Nat} {wq : Nat → Nat} (hB : AxB D B wq) (hM : AxM D B wq M) (hw0 : awS B wq 6 = 0) (d : Nat) : Rn (d + 1) mX6_axle [(.ref 21), (.int 0), (.int 0)] (mk np M L) (some (.long 0)) (mk np (up2 (up2 M 21 44 0) 21 44 1) L) := by
  unfold Rn
  refine ev_s rfl ?_
  refine ev_ik (v := 0) rfl (by decide) ?_
  refine ev_pf (hp' := (mk np (up2 M 21 44 0) L)) (rd np M L (by omega) rfl) rfl rfl (by simp) rfl rfl (mk_setr rfl rfl rfl) ?_
  refine ev_s rfl ?_
  refine ev_ik (v := 0) rfl (by decide) ?_
  refine ev_ik (v := 1) rfl (by decide) ?_
  refine ev_cs (vs := [(.int 0), (.int 0), (.int 1)]) (rest := []) (rv := (some (.int 1))) rfl rfl rfl rfl rfl (by have e9 := rn_within (hp := mk np (up2 M 21 44 0) L) (x := 0) (y := 0) (z := 1) d; rwa [zi_t (show mW 0 0 1 from ⟨by decide, by decide⟩)] at e9) ?_
  show Ev _ _ 11 _ [(.int 1)] _ _
  refine ev_if rfl rfl ?_
  show Ev _ _ 14 _ _ _ _
  refine ev_s rfl ?_
  refine ev_ik (v := 0) rfl (by decide) ?_
  refine ev_ik (v := 1) rfl (by decide) ?_
  refine ev_cs (vs := [(.int 0), (.int 0), (.int 1)]) (rest := []) (rv := (some (.int 1))) rfl rfl rfl rfl rfl (by have e9 := rn_within (hp := mk np (up2 M 21 44 0) L) (x := 0) (y := 0) (z := 1) d; rwa [zi_t (show mW 0 0 1 from ⟨by decide, by decide⟩)] at e9) ?_
  show Ev _ _ 20 _ [(.int 1)] _ _
  refine ev_if rfl rfl ?_
  show Ev _ _ 27 _ _ _ _
  refine ev_lk (v := 0) rfl (by decide) ?_
  refine ev_s (ls' := [some (.ref 21), some (.int 0), some (.int 0), some (.long 0), none, none, none, none, none, none, none]) rfl ?_
  refine ev_lk (v := 0) rfl (by decide) ?_
  refine ev_s (ls' := [some (.ref 21), some (.int 0), some (.int 0), some (.long 0), none, some (.long 0), none, none, none, none, none]) rfl ?_
  refine ev_ik (v := 0) rfl (by decide) ?_
  refine ev_s (ls' := [some (.ref 21), some (.int 0), some (.int 0), some (.long 0), none, some (.long 0), none, some (.int 0), none, none, none]) rfl ?_
  refine lp_ax0 (M := up2 M 21 44 0) hB ⟨hM.1, hM.2⟩ _ (fun v8 => ?_) 6 0 (by omega) _
  refine ev_s rfl ?_
  refine ev_lk (v := 0) rfl (by decide) ?_
  refine ev_s rfl ?_
  refine ev_if rfl rfl ?_
  rw [show zbr .ne (lg_cmp (lN (awS B wq 6)) 0) 0 136 129 = 129 from zne_p (by rw [hw0]; exact lc_0)]
  refine ev_s rfl ?_
  refine ev_ik (v := 1) rfl (by decide) ?_
  refine ev_pf (hp' := (mk np (up2 (up2 M 21 44 0) 21 44 1) L)) (rd np (up2 M 21 44 0) L (by omega) ((congrArg (fun r => cel np 21 r (L 21)) ((up2_s _ _ _ _).trans (congrArg (fun r => upd r 44 0) rfl))).trans rfl)) rfl rfl (by simp) rfl rfl (mk_setr ((up2_s _ _ _ _).trans (congrArg (fun r => upd r 44 0) rfl)) rfl rfl) ?_
  refine ev_lk (v := 0) rfl (by decide) ?_
  refine ev_rl rfl rfl ?_ ?_
  · rfl
  · rfl
set_option maxHeartbeats 4000000 in
theorem rn_maxle_00 {np : Nat} {M : Nat → Nat → Int32} {L : Nat → Int64} {D : Nat} {B : Nat → Nat → Nat} {wq : Nat → Nat} (hB : AxB D B wq) (hM : AxM D B wq M) (hD1 : 1 ≤ D) (hw0 : 0 < awS B wq 6) (d : Nat) : Rn (d + 1) mX6_axle [(.ref 21), (.int 0), (.int 0)] (mk np M L) (some (.long (lN ((anS D B wq 6) / Nat.gcd (anS D B wq 6) (2 * D * awS B wq 6))))) (mk np (up2 M 21 44 0) L) := by
  have hD := hB.1
  obtain ⟨a1, a2, a3⟩ := af_le hB 6 (by omega)
  have hD2 : 2 * D * awS B wq 6 ≤ 24 * 6000 := Nat.mul_le_mul (by omega) (by omega)
  have hdp : 0 < 2 * D * awS B wq 6 := Nat.mul_pos (by omega) hw0
  have hgp : 0 < Nat.gcd (anS D B wq 6) (2 * D * awS B wq 6) := Nat.gcd_pos_of_pos_right _ hdp
  have hgl : Nat.gcd (anS D B wq 6) (2 * D * awS B wq 6) ≤ 2 * D * awS B wq 6 := Nat.gcd_le_right _ hdp
  unfold Rn
  refine ev_s rfl ?_
  refine ev_ik (v := 0) rfl (by decide) ?_
  refine ev_pf (hp' := (mk np (up2 M 21 44 0) L)) (rd np M L (by omega) rfl) rfl rfl (by simp) rfl rfl (mk_setr rfl rfl rfl) ?_
  refine ev_s rfl ?_
  refine ev_ik (v := 0) rfl (by decide) ?_
  refine ev_ik (v := 1) rfl (by decide) ?_
  refine ev_cs (vs := [(.int 0), (.int 0), (.int 1)]) (rest := []) (rv := (some (.int 1))) rfl rfl rfl rfl rfl (by have e9 := rn_within (hp := mk np (up2 M 21 44 0) L) (x := 0) (y := 0) (z := 1) d; rwa [zi_t (show mW 0 0 1 from ⟨by decide, by decide⟩)] at e9) ?_
  show Ev _ _ 11 _ [(.int 1)] _ _
  refine ev_if rfl rfl ?_
  show Ev _ _ 14 _ _ _ _
  refine ev_s rfl ?_
  refine ev_ik (v := 0) rfl (by decide) ?_
  refine ev_ik (v := 1) rfl (by decide) ?_
  refine ev_cs (vs := [(.int 0), (.int 0), (.int 1)]) (rest := []) (rv := (some (.int 1))) rfl rfl rfl rfl rfl (by have e9 := rn_within (hp := mk np (up2 M 21 44 0) L) (x := 0) (y := 0) (z := 1) d; rwa [zi_t (show mW 0 0 1 from ⟨by decide, by decide⟩)] at e9) ?_
  show Ev _ _ 20 _ [(.int 1)] _ _
  refine ev_if rfl rfl ?_
  show Ev _ _ 27 _ _ _ _
  refine ev_lk (v := 0) rfl (by decide) ?_
  refine ev_s (ls' := [some (.ref 21), some (.int 0), some (.int 0), some (.long 0), none, none, none, none, none, none, none]) rfl ?_
  refine ev_lk (v := 0) rfl (by decide) ?_
  refine ev_s (ls' := [some (.ref 21), some (.int 0), some (.int 0), some (.long 0), none, some (.long 0), none, none, none, none, none]) rfl ?_
  refine ev_ik (v := 0) rfl (by decide) ?_
  refine ev_s (ls' := [some (.ref 21), some (.int 0), some (.int 0), some (.long 0), none, some (.long 0), none, some (.int 0), none, none, none]) rfl ?_
  refine lp_ax0 (M := up2 M 21 44 0) hB ⟨hM.1, hM.2⟩ _ (fun v8 => ?_) 6 0 (by omega) _
  refine ev_s rfl ?_
  refine ev_lk (v := 0) rfl (by decide) ?_
  refine ev_s rfl ?_
  refine ev_if rfl rfl ?_
  rw [show zbr .ne (lg_cmp (lN (awS B wq 6)) 0) 0 136 129 = 136 from zne_n (lc_ne hw0 (by omega))]
  iterate 4 refine ev_s rfl ?_
  refine ev_gf (rd np (up2 M 21 44 0) L (by omega) ((congrArg (fun r => cel np 21 r (L 21)) ((up2_s _ _ _ _).trans (congrArg (fun r => upd r 44 0) rfl))).trans rfl)) rfl rfl rfl ?_
  iterate 2 refine ev_s rfl ?_
  rw [upd_n (show (2 : Nat) ≠ 44 by decide), hM.1, nI_l (n := D) (by omega), show (2 : Int64) = lN 2 from rfl, lN_mul, lN_mul, show awS B wq 6 * 2 * D = 2 * D * awS B wq 6 from by ac_rfl]
  refine ev_s (ls' := [some (.ref 21), some (.int 0), some (.int 0), some (.long (lN (anS D B wq 6))), none, some (.long (lN (awS B wq 6))), none, some (.long (lN (2 * D * awS B wq 6))), none, none, none]) rfl ?_
  iterate 2 refine ev_s rfl ?_
  refine ev_cs (vs := [(.long (lN (anS D B wq 6))), (.long (lN (2 * D * awS B wq 6)))]) (rest := []) (rv := (some (.long (lN (Nat.gcd (anS D B wq 6) (2 * D * awS B wq 6)))))) rfl rfl rfl rfl rfl (by have e9 := rn_greatest (hp := mk np (up2 M 21 44 0) L) (a := (anS D B wq 6)) (b := 2 * D * awS B wq 6) (by omega) (by omega) d; exact e9) ?_
  show Ev _ _ 156 _ [(.long (lN (Nat.gcd (anS D B wq 6) (2 * D * awS B wq 6))))] _ _
  refine ev_s (ls' := [some (.ref 21), some (.int 0), some (.int 0), some (.long (lN (anS D B wq 6))), none, some (.long (lN (awS B wq 6))), none, some (.long (lN (2 * D * awS B wq 6))), none, some (.long (lN (Nat.gcd (anS D B wq 6) (2 * D * awS B wq 6)))), none]) rfl ?_
  refine ev_s rfl ?_
  refine ev_if rfl rfl ?_
  show Ev _ _ 162 _ _ _ _
  iterate 2 refine ev_s rfl ?_
  refine ev_ldiv rfl (lN_ne0 hgp (by omega)) ?_
  refine ev_s rfl ?_
  refine ev_rl rfl rfl ?_ ?_
  · rw [pk_lDiv (by omega) hgp (by omega)]
  · rfl
set_option maxHeartbeats 4000000 in
theorem rn_maxle_01z {np : Nat} {M : Nat → Nat → Int32} {L : Nat → Int64} {D : Nat} {B : Nat → Nat → Nat} {wq : Nat → Nat} (hB : AxB D B wq) (hM : AxM D B wq M) (hw0 : awS B wq 6 = 0) (d : Nat) : Rn (d + 1) mX6_axle [(.ref 21), (.int 0), (.int 1)] (mk np M L) (some (.long 0)) (mk np (up2 (up2 M 21 44 0) 21 44 1) L) := by
  unfold Rn
  refine ev_s rfl ?_
  refine ev_ik (v := 0) rfl (by decide) ?_
  refine ev_pf (hp' := (mk np (up2 M 21 44 0) L)) (rd np M L (by omega) rfl) rfl rfl (by simp) rfl rfl (mk_setr rfl rfl rfl) ?_
  refine ev_s rfl ?_
  refine ev_ik (v := 0) rfl (by decide) ?_
  refine ev_ik (v := 1) rfl (by decide) ?_
  refine ev_cs (vs := [(.int 0), (.int 0), (.int 1)]) (rest := []) (rv := (some (.int 1))) rfl rfl rfl rfl rfl (by have e9 := rn_within (hp := mk np (up2 M 21 44 0) L) (x := 0) (y := 0) (z := 1) d; rwa [zi_t (show mW 0 0 1 from ⟨by decide, by decide⟩)] at e9) ?_
  show Ev _ _ 11 _ [(.int 1)] _ _
  refine ev_if rfl rfl ?_
  show Ev _ _ 14 _ _ _ _
  refine ev_s rfl ?_
  refine ev_ik (v := 0) rfl (by decide) ?_
  refine ev_ik (v := 1) rfl (by decide) ?_
  refine ev_cs (vs := [(.int 1), (.int 0), (.int 1)]) (rest := []) (rv := (some (.int 1))) rfl rfl rfl rfl rfl (by have e9 := rn_within (hp := mk np (up2 M 21 44 0) L) (x := 1) (y := 0) (z := 1) d; rwa [zi_t (show mW 1 0 1 from ⟨by decide, by decide⟩)] at e9) ?_
  show Ev _ _ 20 _ [(.int 1)] _ _
  refine ev_if rfl rfl ?_
  show Ev _ _ 27 _ _ _ _
  refine ev_lk (v := 0) rfl (by decide) ?_
  refine ev_s (ls' := [some (.ref 21), some (.int 0), some (.int 1), some (.long 0), none, none, none, none, none, none, none]) rfl ?_
  refine ev_lk (v := 0) rfl (by decide) ?_
  refine ev_s (ls' := [some (.ref 21), some (.int 0), some (.int 1), some (.long 0), none, some (.long 0), none, none, none, none, none]) rfl ?_
  refine ev_ik (v := 0) rfl (by decide) ?_
  refine ev_s (ls' := [some (.ref 21), some (.int 0), some (.int 1), some (.long 0), none, some (.long 0), none, some (.int 0), none, none, none]) rfl ?_
  refine lp_ax0 (M := up2 M 21 44 0) hB ⟨hM.1, hM.2⟩ _ (fun v8 => ?_) 6 0 (by omega) _
  refine ev_s rfl ?_
  refine ev_lk (v := 0) rfl (by decide) ?_
  refine ev_s rfl ?_
  refine ev_if rfl rfl ?_
  rw [show zbr .ne (lg_cmp (lN (awS B wq 6)) 0) 0 136 129 = 129 from zne_p (by rw [hw0]; exact lc_0)]
  refine ev_s rfl ?_
  refine ev_ik (v := 1) rfl (by decide) ?_
  refine ev_pf (hp' := (mk np (up2 (up2 M 21 44 0) 21 44 1) L)) (rd np (up2 M 21 44 0) L (by omega) ((congrArg (fun r => cel np 21 r (L 21)) ((up2_s _ _ _ _).trans (congrArg (fun r => upd r 44 0) rfl))).trans rfl)) rfl rfl (by simp) rfl rfl (mk_setr ((up2_s _ _ _ _).trans (congrArg (fun r => upd r 44 0) rfl)) rfl rfl) ?_
  refine ev_lk (v := 0) rfl (by decide) ?_
  refine ev_rl rfl rfl ?_ ?_
  · rfl
  · rfl
set_option maxHeartbeats 4000000 in
theorem rn_maxle_01 {np : Nat} {M : Nat → Nat → Int32} {L : Nat → Int64} {D : Nat} {B : Nat → Nat → Nat} {wq : Nat → Nat} (hB : AxB D B wq) (hM : AxM D B wq M) (hD1 : 1 ≤ D) (hw0 : 0 < awS B wq 6) (d : Nat) : Rn (d + 1) mX6_axle [(.ref 21), (.int 0), (.int 1)] (mk np M L) (some (.long (lN ((2 * D * awS B wq 6) / Nat.gcd (anS D B wq 6) (2 * D * awS B wq 6))))) (mk np (up2 M 21 44 0) L) := by
  have hD := hB.1
  obtain ⟨a1, a2, a3⟩ := af_le hB 6 (by omega)
  have hD2 : 2 * D * awS B wq 6 ≤ 24 * 6000 := Nat.mul_le_mul (by omega) (by omega)
  have hdp : 0 < 2 * D * awS B wq 6 := Nat.mul_pos (by omega) hw0
  have hgp : 0 < Nat.gcd (anS D B wq 6) (2 * D * awS B wq 6) := Nat.gcd_pos_of_pos_right _ hdp
  have hgl : Nat.gcd (anS D B wq 6) (2 * D * awS B wq 6) ≤ 2 * D * awS B wq 6 := Nat.gcd_le_right _ hdp
  unfold Rn
  refine ev_s rfl ?_
  refine ev_ik (v := 0) rfl (by decide) ?_
  refine ev_pf (hp' := (mk np (up2 M 21 44 0) L)) (rd np M L (by omega) rfl) rfl rfl (by simp) rfl rfl (mk_setr rfl rfl rfl) ?_
  refine ev_s rfl ?_
  refine ev_ik (v := 0) rfl (by decide) ?_
  refine ev_ik (v := 1) rfl (by decide) ?_
  refine ev_cs (vs := [(.int 0), (.int 0), (.int 1)]) (rest := []) (rv := (some (.int 1))) rfl rfl rfl rfl rfl (by have e9 := rn_within (hp := mk np (up2 M 21 44 0) L) (x := 0) (y := 0) (z := 1) d; rwa [zi_t (show mW 0 0 1 from ⟨by decide, by decide⟩)] at e9) ?_
  show Ev _ _ 11 _ [(.int 1)] _ _
  refine ev_if rfl rfl ?_
  show Ev _ _ 14 _ _ _ _
  refine ev_s rfl ?_
  refine ev_ik (v := 0) rfl (by decide) ?_
  refine ev_ik (v := 1) rfl (by decide) ?_
  refine ev_cs (vs := [(.int 1), (.int 0), (.int 1)]) (rest := []) (rv := (some (.int 1))) rfl rfl rfl rfl rfl (by have e9 := rn_within (hp := mk np (up2 M 21 44 0) L) (x := 1) (y := 0) (z := 1) d; rwa [zi_t (show mW 1 0 1 from ⟨by decide, by decide⟩)] at e9) ?_
  show Ev _ _ 20 _ [(.int 1)] _ _
  refine ev_if rfl rfl ?_
  show Ev _ _ 27 _ _ _ _
  refine ev_lk (v := 0) rfl (by decide) ?_
  refine ev_s (ls' := [some (.ref 21), some (.int 0), some (.int 1), some (.long 0), none, none, none, none, none, none, none]) rfl ?_
  refine ev_lk (v := 0) rfl (by decide) ?_
  refine ev_s (ls' := [some (.ref 21), some (.int 0), some (.int 1), some (.long 0), none, some (.long 0), none, none, none, none, none]) rfl ?_
  refine ev_ik (v := 0) rfl (by decide) ?_
  refine ev_s (ls' := [some (.ref 21), some (.int 0), some (.int 1), some (.long 0), none, some (.long 0), none, some (.int 0), none, none, none]) rfl ?_
  refine lp_ax0 (M := up2 M 21 44 0) hB ⟨hM.1, hM.2⟩ _ (fun v8 => ?_) 6 0 (by omega) _
  refine ev_s rfl ?_
  refine ev_lk (v := 0) rfl (by decide) ?_
  refine ev_s rfl ?_
  refine ev_if rfl rfl ?_
  rw [show zbr .ne (lg_cmp (lN (awS B wq 6)) 0) 0 136 129 = 136 from zne_n (lc_ne hw0 (by omega))]
  iterate 4 refine ev_s rfl ?_
  refine ev_gf (rd np (up2 M 21 44 0) L (by omega) ((congrArg (fun r => cel np 21 r (L 21)) ((up2_s _ _ _ _).trans (congrArg (fun r => upd r 44 0) rfl))).trans rfl)) rfl rfl rfl ?_
  iterate 2 refine ev_s rfl ?_
  rw [upd_n (show (2 : Nat) ≠ 44 by decide), hM.1, nI_l (n := D) (by omega), show (2 : Int64) = lN 2 from rfl, lN_mul, lN_mul, show awS B wq 6 * 2 * D = 2 * D * awS B wq 6 from by ac_rfl]
  refine ev_s (ls' := [some (.ref 21), some (.int 0), some (.int 1), some (.long (lN (anS D B wq 6))), none, some (.long (lN (awS B wq 6))), none, some (.long (lN (2 * D * awS B wq 6))), none, none, none]) rfl ?_
  iterate 2 refine ev_s rfl ?_
  refine ev_cs (vs := [(.long (lN (anS D B wq 6))), (.long (lN (2 * D * awS B wq 6)))]) (rest := []) (rv := (some (.long (lN (Nat.gcd (anS D B wq 6) (2 * D * awS B wq 6)))))) rfl rfl rfl rfl rfl (by have e9 := rn_greatest (hp := mk np (up2 M 21 44 0) L) (a := (anS D B wq 6)) (b := 2 * D * awS B wq 6) (by omega) (by omega) d; exact e9) ?_
  show Ev _ _ 156 _ [(.long (lN (Nat.gcd (anS D B wq 6) (2 * D * awS B wq 6))))] _ _
  refine ev_s (ls' := [some (.ref 21), some (.int 0), some (.int 1), some (.long (lN (anS D B wq 6))), none, some (.long (lN (awS B wq 6))), none, some (.long (lN (2 * D * awS B wq 6))), none, some (.long (lN (Nat.gcd (anS D B wq 6) (2 * D * awS B wq 6)))), none]) rfl ?_
  refine ev_s rfl ?_
  refine ev_if rfl rfl ?_
  show Ev _ _ 169 _ _ _ _
  iterate 2 refine ev_s rfl ?_
  refine ev_ldiv rfl (lN_ne0 hgp (by omega)) ?_
  refine ev_rl rfl rfl ?_ ?_
  · rw [pk_lDiv (by omega) hgp (by omega)]
  · rfl
set_option maxHeartbeats 4000000 in
theorem rn_maxle_10z {np : Nat} {M : Nat → Nat → Int32} {L : Nat → Int64} {D : Nat} {B : Nat → Nat → Nat} {wq : Nat → Nat} (hB : AxB D B wq) (hM : AxM D B wq M) (hw0 : awS B wq 6 = 0) (d : Nat) : Rn (d + 1) mX6_axle [(.ref 21), (.int 1), (.int 0)] (mk np M L) (some (.long 0)) (mk np (up2 (up2 M 21 44 0) 21 44 1) L) := by
  unfold Rn
  refine ev_s rfl ?_
  refine ev_ik (v := 0) rfl (by decide) ?_
  refine ev_pf (hp' := (mk np (up2 M 21 44 0) L)) (rd np M L (by omega) rfl) rfl rfl (by simp) rfl rfl (mk_setr rfl rfl rfl) ?_
  refine ev_s rfl ?_
  refine ev_ik (v := 0) rfl (by decide) ?_
  refine ev_ik (v := 1) rfl (by decide) ?_
  refine ev_cs (vs := [(.int 1), (.int 0), (.int 1)]) (rest := []) (rv := (some (.int 1))) rfl rfl rfl rfl rfl (by have e9 := rn_within (hp := mk np (up2 M 21 44 0) L) (x := 1) (y := 0) (z := 1) d; rwa [zi_t (show mW 1 0 1 from ⟨by decide, by decide⟩)] at e9) ?_
  show Ev _ _ 11 _ [(.int 1)] _ _
  refine ev_if rfl rfl ?_
  show Ev _ _ 14 _ _ _ _
  refine ev_s rfl ?_
  refine ev_ik (v := 0) rfl (by decide) ?_
  refine ev_ik (v := 1) rfl (by decide) ?_
  refine ev_cs (vs := [(.int 0), (.int 0), (.int 1)]) (rest := []) (rv := (some (.int 1))) rfl rfl rfl rfl rfl (by have e9 := rn_within (hp := mk np (up2 M 21 44 0) L) (x := 0) (y := 0) (z := 1) d; rwa [zi_t (show mW 0 0 1 from ⟨by decide, by decide⟩)] at e9) ?_
  show Ev _ _ 20 _ [(.int 1)] _ _
  refine ev_if rfl rfl ?_
  show Ev _ _ 27 _ _ _ _
  refine ev_lk (v := 0) rfl (by decide) ?_
  refine ev_s (ls' := [some (.ref 21), some (.int 1), some (.int 0), some (.long 0), none, none, none, none, none, none, none]) rfl ?_
  refine ev_lk (v := 0) rfl (by decide) ?_
  refine ev_s (ls' := [some (.ref 21), some (.int 1), some (.int 0), some (.long 0), none, some (.long 0), none, none, none, none, none]) rfl ?_
  refine ev_ik (v := 0) rfl (by decide) ?_
  refine ev_s (ls' := [some (.ref 21), some (.int 1), some (.int 0), some (.long 0), none, some (.long 0), none, some (.int 0), none, none, none]) rfl ?_
  refine lp_ax1 (M := up2 M 21 44 0) hB ⟨hM.1, hM.2⟩ _ (fun v8 => ?_) 6 0 (by omega) _
  refine ev_s rfl ?_
  refine ev_lk (v := 0) rfl (by decide) ?_
  refine ev_s rfl ?_
  refine ev_if rfl rfl ?_
  rw [show zbr .ne (lg_cmp (lN (awS B wq 6)) 0) 0 136 129 = 129 from zne_p (by rw [hw0]; exact lc_0)]
  refine ev_s rfl ?_
  refine ev_ik (v := 1) rfl (by decide) ?_
  refine ev_pf (hp' := (mk np (up2 (up2 M 21 44 0) 21 44 1) L)) (rd np (up2 M 21 44 0) L (by omega) ((congrArg (fun r => cel np 21 r (L 21)) ((up2_s _ _ _ _).trans (congrArg (fun r => upd r 44 0) rfl))).trans rfl)) rfl rfl (by simp) rfl rfl (mk_setr ((up2_s _ _ _ _).trans (congrArg (fun r => upd r 44 0) rfl)) rfl rfl) ?_
  refine ev_lk (v := 0) rfl (by decide) ?_
  refine ev_rl rfl rfl ?_ ?_
  · rfl
  · rfl
set_option maxHeartbeats 4000000 in
theorem rn_maxle_10 {np : Nat} {M : Nat → Nat → Int32} {L : Nat → Int64} {D : Nat} {B : Nat → Nat → Nat} {wq : Nat → Nat} (hB : AxB D B wq) (hM : AxM D B wq M) (hD1 : 1 ≤ D) (hw0 : 0 < awS B wq 6) (d : Nat) : Rn (d + 1) mX6_axle [(.ref 21), (.int 1), (.int 0)] (mk np M L) (some (.long (lN ((afS B wq 6) / Nat.gcd (afS B wq 6) (2 * D * awS B wq 6))))) (mk np (up2 M 21 44 0) L) := by
  have hD := hB.1
  obtain ⟨a1, a2, a3⟩ := af_le hB 6 (by omega)
  have hD2 : 2 * D * awS B wq 6 ≤ 24 * 6000 := Nat.mul_le_mul (by omega) (by omega)
  have hdp : 0 < 2 * D * awS B wq 6 := Nat.mul_pos (by omega) hw0
  have hgp : 0 < Nat.gcd (afS B wq 6) (2 * D * awS B wq 6) := Nat.gcd_pos_of_pos_right _ hdp
  have hgl : Nat.gcd (afS B wq 6) (2 * D * awS B wq 6) ≤ 2 * D * awS B wq 6 := Nat.gcd_le_right _ hdp
  unfold Rn
  refine ev_s rfl ?_
  refine ev_ik (v := 0) rfl (by decide) ?_
  refine ev_pf (hp' := (mk np (up2 M 21 44 0) L)) (rd np M L (by omega) rfl) rfl rfl (by simp) rfl rfl (mk_setr rfl rfl rfl) ?_
  refine ev_s rfl ?_
  refine ev_ik (v := 0) rfl (by decide) ?_
  refine ev_ik (v := 1) rfl (by decide) ?_
  refine ev_cs (vs := [(.int 1), (.int 0), (.int 1)]) (rest := []) (rv := (some (.int 1))) rfl rfl rfl rfl rfl (by have e9 := rn_within (hp := mk np (up2 M 21 44 0) L) (x := 1) (y := 0) (z := 1) d; rwa [zi_t (show mW 1 0 1 from ⟨by decide, by decide⟩)] at e9) ?_
  show Ev _ _ 11 _ [(.int 1)] _ _
  refine ev_if rfl rfl ?_
  show Ev _ _ 14 _ _ _ _
  refine ev_s rfl ?_
  refine ev_ik (v := 0) rfl (by decide) ?_
  refine ev_ik (v := 1) rfl (by decide) ?_
  refine ev_cs (vs := [(.int 0), (.int 0), (.int 1)]) (rest := []) (rv := (some (.int 1))) rfl rfl rfl rfl rfl (by have e9 := rn_within (hp := mk np (up2 M 21 44 0) L) (x := 0) (y := 0) (z := 1) d; rwa [zi_t (show mW 0 0 1 from ⟨by decide, by decide⟩)] at e9) ?_
  show Ev _ _ 20 _ [(.int 1)] _ _
  refine ev_if rfl rfl ?_
  show Ev _ _ 27 _ _ _ _
  refine ev_lk (v := 0) rfl (by decide) ?_
  refine ev_s (ls' := [some (.ref 21), some (.int 1), some (.int 0), some (.long 0), none, none, none, none, none, none, none]) rfl ?_
  refine ev_lk (v := 0) rfl (by decide) ?_
  refine ev_s (ls' := [some (.ref 21), some (.int 1), some (.int 0), some (.long 0), none, some (.long 0), none, none, none, none, none]) rfl ?_
  refine ev_ik (v := 0) rfl (by decide) ?_
  refine ev_s (ls' := [some (.ref 21), some (.int 1), some (.int 0), some (.long 0), none, some (.long 0), none, some (.int 0), none, none, none]) rfl ?_
  refine lp_ax1 (M := up2 M 21 44 0) hB ⟨hM.1, hM.2⟩ _ (fun v8 => ?_) 6 0 (by omega) _
  refine ev_s rfl ?_
  refine ev_lk (v := 0) rfl (by decide) ?_
  refine ev_s rfl ?_
  refine ev_if rfl rfl ?_
  rw [show zbr .ne (lg_cmp (lN (awS B wq 6)) 0) 0 136 129 = 136 from zne_n (lc_ne hw0 (by omega))]
  iterate 4 refine ev_s rfl ?_
  refine ev_gf (rd np (up2 M 21 44 0) L (by omega) ((congrArg (fun r => cel np 21 r (L 21)) ((up2_s _ _ _ _).trans (congrArg (fun r => upd r 44 0) rfl))).trans rfl)) rfl rfl rfl ?_
  iterate 2 refine ev_s rfl ?_
  rw [upd_n (show (2 : Nat) ≠ 44 by decide), hM.1, nI_l (n := D) (by omega), show (2 : Int64) = lN 2 from rfl, lN_mul, lN_mul, show awS B wq 6 * 2 * D = 2 * D * awS B wq 6 from by ac_rfl]
  refine ev_s (ls' := [some (.ref 21), some (.int 1), some (.int 0), some (.long (lN (afS B wq 6))), none, some (.long (lN (awS B wq 6))), none, some (.long (lN (2 * D * awS B wq 6))), none, none, none]) rfl ?_
  iterate 2 refine ev_s rfl ?_
  refine ev_cs (vs := [(.long (lN (afS B wq 6))), (.long (lN (2 * D * awS B wq 6)))]) (rest := []) (rv := (some (.long (lN (Nat.gcd (afS B wq 6) (2 * D * awS B wq 6)))))) rfl rfl rfl rfl rfl (by have e9 := rn_greatest (hp := mk np (up2 M 21 44 0) L) (a := (afS B wq 6)) (b := 2 * D * awS B wq 6) (by omega) (by omega) d; exact e9) ?_
  show Ev _ _ 156 _ [(.long (lN (Nat.gcd (afS B wq 6) (2 * D * awS B wq 6))))] _ _
  refine ev_s (ls' := [some (.ref 21), some (.int 1), some (.int 0), some (.long (lN (afS B wq 6))), none, some (.long (lN (awS B wq 6))), none, some (.long (lN (2 * D * awS B wq 6))), none, some (.long (lN (Nat.gcd (afS B wq 6) (2 * D * awS B wq 6)))), none]) rfl ?_
  refine ev_s rfl ?_
  refine ev_if rfl rfl ?_
  show Ev _ _ 162 _ _ _ _
  iterate 2 refine ev_s rfl ?_
  refine ev_ldiv rfl (lN_ne0 hgp (by omega)) ?_
  refine ev_s rfl ?_
  refine ev_rl rfl rfl ?_ ?_
  · rw [pk_lDiv (by omega) hgp (by omega)]
  · rfl
set_option maxHeartbeats 4000000 in
theorem rn_maxle_11z {np : Nat} {M : Nat → Nat → Int32} {L : Nat → Int64} {D : Nat} {B : Nat → Nat → Nat} {wq : Nat → Nat} (hB : AxB D B wq) (hM : AxM D B wq M) (hw0 : awS B wq 6 = 0) (d : Nat) : Rn (d + 1) mX6_axle [(.ref 21), (.int 1), (.int 1)] (mk np M L) (some (.long 0)) (mk np (up2 (up2 M 21 44 0) 21 44 1) L) := by
  unfold Rn
  refine ev_s rfl ?_
  refine ev_ik (v := 0) rfl (by decide) ?_
  refine ev_pf (hp' := (mk np (up2 M 21 44 0) L)) (rd np M L (by omega) rfl) rfl rfl (by simp) rfl rfl (mk_setr rfl rfl rfl) ?_
  refine ev_s rfl ?_
  refine ev_ik (v := 0) rfl (by decide) ?_
  refine ev_ik (v := 1) rfl (by decide) ?_
  refine ev_cs (vs := [(.int 1), (.int 0), (.int 1)]) (rest := []) (rv := (some (.int 1))) rfl rfl rfl rfl rfl (by have e9 := rn_within (hp := mk np (up2 M 21 44 0) L) (x := 1) (y := 0) (z := 1) d; rwa [zi_t (show mW 1 0 1 from ⟨by decide, by decide⟩)] at e9) ?_
  show Ev _ _ 11 _ [(.int 1)] _ _
  refine ev_if rfl rfl ?_
  show Ev _ _ 14 _ _ _ _
  refine ev_s rfl ?_
  refine ev_ik (v := 0) rfl (by decide) ?_
  refine ev_ik (v := 1) rfl (by decide) ?_
  refine ev_cs (vs := [(.int 1), (.int 0), (.int 1)]) (rest := []) (rv := (some (.int 1))) rfl rfl rfl rfl rfl (by have e9 := rn_within (hp := mk np (up2 M 21 44 0) L) (x := 1) (y := 0) (z := 1) d; rwa [zi_t (show mW 1 0 1 from ⟨by decide, by decide⟩)] at e9) ?_
  show Ev _ _ 20 _ [(.int 1)] _ _
  refine ev_if rfl rfl ?_
  show Ev _ _ 27 _ _ _ _
  refine ev_lk (v := 0) rfl (by decide) ?_
  refine ev_s (ls' := [some (.ref 21), some (.int 1), some (.int 1), some (.long 0), none, none, none, none, none, none, none]) rfl ?_
  refine ev_lk (v := 0) rfl (by decide) ?_
  refine ev_s (ls' := [some (.ref 21), some (.int 1), some (.int 1), some (.long 0), none, some (.long 0), none, none, none, none, none]) rfl ?_
  refine ev_ik (v := 0) rfl (by decide) ?_
  refine ev_s (ls' := [some (.ref 21), some (.int 1), some (.int 1), some (.long 0), none, some (.long 0), none, some (.int 0), none, none, none]) rfl ?_
  refine lp_ax1 (M := up2 M 21 44 0) hB ⟨hM.1, hM.2⟩ _ (fun v8 => ?_) 6 0 (by omega) _
  refine ev_s rfl ?_
  refine ev_lk (v := 0) rfl (by decide) ?_
  refine ev_s rfl ?_
  refine ev_if rfl rfl ?_
  rw [show zbr .ne (lg_cmp (lN (awS B wq 6)) 0) 0 136 129 = 129 from zne_p (by rw [hw0]; exact lc_0)]
  refine ev_s rfl ?_
  refine ev_ik (v := 1) rfl (by decide) ?_
  refine ev_pf (hp' := (mk np (up2 (up2 M 21 44 0) 21 44 1) L)) (rd np (up2 M 21 44 0) L (by omega) ((congrArg (fun r => cel np 21 r (L 21)) ((up2_s _ _ _ _).trans (congrArg (fun r => upd r 44 0) rfl))).trans rfl)) rfl rfl (by simp) rfl rfl (mk_setr ((up2_s _ _ _ _).trans (congrArg (fun r => upd r 44 0) rfl)) rfl rfl) ?_
  refine ev_lk (v := 0) rfl (by decide) ?_
  refine ev_rl rfl rfl ?_ ?_
  · rfl
  · rfl
set_option maxHeartbeats 4000000 in
theorem rn_maxle_11 {np : Nat} {M : Nat → Nat → Int32} {L : Nat → Int64} {D : Nat} {B : Nat → Nat → Nat} {wq : Nat → Nat} (hB : AxB D B wq) (hM : AxM D B wq M) (hD1 : 1 ≤ D) (hw0 : 0 < awS B wq 6) (d : Nat) : Rn (d + 1) mX6_axle [(.ref 21), (.int 1), (.int 1)] (mk np M L) (some (.long (lN ((2 * D * awS B wq 6) / Nat.gcd (afS B wq 6) (2 * D * awS B wq 6))))) (mk np (up2 M 21 44 0) L) := by
  have hD := hB.1
  obtain ⟨a1, a2, a3⟩ := af_le hB 6 (by omega)
  have hD2 : 2 * D * awS B wq 6 ≤ 24 * 6000 := Nat.mul_le_mul (by omega) (by omega)
  have hdp : 0 < 2 * D * awS B wq 6 := Nat.mul_pos (by omega) hw0
  have hgp : 0 < Nat.gcd (afS B wq 6) (2 * D * awS B wq 6) := Nat.gcd_pos_of_pos_right _ hdp
  have hgl : Nat.gcd (afS B wq 6) (2 * D * awS B wq 6) ≤ 2 * D * awS B wq 6 := Nat.gcd_le_right _ hdp
  unfold Rn
  refine ev_s rfl ?_
  refine ev_ik (v := 0) rfl (by decide) ?_
  refine ev_pf (hp' := (mk np (up2 M 21 44 0) L)) (rd np M L (by omega) rfl) rfl rfl (by simp) rfl rfl (mk_setr rfl rfl rfl) ?_
  refine ev_s rfl ?_
  refine ev_ik (v := 0) rfl (by decide) ?_
  refine ev_ik (v := 1) rfl (by decide) ?_
  refine ev_cs (vs := [(.int 1), (.int 0), (.int 1)]) (rest := []) (rv := (some (.int 1))) rfl rfl rfl rfl rfl (by have e9 := rn_within (hp := mk np (up2 M 21 44 0) L) (x := 1) (y := 0) (z := 1) d; rwa [zi_t (show mW 1 0 1 from ⟨by decide, by decide⟩)] at e9) ?_
  show Ev _ _ 11 _ [(.int 1)] _ _
  refine ev_if rfl rfl ?_
  show Ev _ _ 14 _ _ _ _
  refine ev_s rfl ?_
  refine ev_ik (v := 0) rfl (by decide) ?_
  refine ev_ik (v := 1) rfl (by decide) ?_
  refine ev_cs (vs := [(.int 1), (.int 0), (.int 1)]) (rest := []) (rv := (some (.int 1))) rfl rfl rfl rfl rfl (by have e9 := rn_within (hp := mk np (up2 M 21 44 0) L) (x := 1) (y := 0) (z := 1) d; rwa [zi_t (show mW 1 0 1 from ⟨by decide, by decide⟩)] at e9) ?_
  show Ev _ _ 20 _ [(.int 1)] _ _
  refine ev_if rfl rfl ?_
  show Ev _ _ 27 _ _ _ _
  refine ev_lk (v := 0) rfl (by decide) ?_
  refine ev_s (ls' := [some (.ref 21), some (.int 1), some (.int 1), some (.long 0), none, none, none, none, none, none, none]) rfl ?_
  refine ev_lk (v := 0) rfl (by decide) ?_
  refine ev_s (ls' := [some (.ref 21), some (.int 1), some (.int 1), some (.long 0), none, some (.long 0), none, none, none, none, none]) rfl ?_
  refine ev_ik (v := 0) rfl (by decide) ?_
  refine ev_s (ls' := [some (.ref 21), some (.int 1), some (.int 1), some (.long 0), none, some (.long 0), none, some (.int 0), none, none, none]) rfl ?_
  refine lp_ax1 (M := up2 M 21 44 0) hB ⟨hM.1, hM.2⟩ _ (fun v8 => ?_) 6 0 (by omega) _
  refine ev_s rfl ?_
  refine ev_lk (v := 0) rfl (by decide) ?_
  refine ev_s rfl ?_
  refine ev_if rfl rfl ?_
  rw [show zbr .ne (lg_cmp (lN (awS B wq 6)) 0) 0 136 129 = 136 from zne_n (lc_ne hw0 (by omega))]
  iterate 4 refine ev_s rfl ?_
  refine ev_gf (rd np (up2 M 21 44 0) L (by omega) ((congrArg (fun r => cel np 21 r (L 21)) ((up2_s _ _ _ _).trans (congrArg (fun r => upd r 44 0) rfl))).trans rfl)) rfl rfl rfl ?_
  iterate 2 refine ev_s rfl ?_
  rw [upd_n (show (2 : Nat) ≠ 44 by decide), hM.1, nI_l (n := D) (by omega), show (2 : Int64) = lN 2 from rfl, lN_mul, lN_mul, show awS B wq 6 * 2 * D = 2 * D * awS B wq 6 from by ac_rfl]
  refine ev_s (ls' := [some (.ref 21), some (.int 1), some (.int 1), some (.long (lN (afS B wq 6))), none, some (.long (lN (awS B wq 6))), none, some (.long (lN (2 * D * awS B wq 6))), none, none, none]) rfl ?_
  iterate 2 refine ev_s rfl ?_
  refine ev_cs (vs := [(.long (lN (afS B wq 6))), (.long (lN (2 * D * awS B wq 6)))]) (rest := []) (rv := (some (.long (lN (Nat.gcd (afS B wq 6) (2 * D * awS B wq 6)))))) rfl rfl rfl rfl rfl (by have e9 := rn_greatest (hp := mk np (up2 M 21 44 0) L) (a := (afS B wq 6)) (b := 2 * D * awS B wq 6) (by omega) (by omega) d; exact e9) ?_
  show Ev _ _ 156 _ [(.long (lN (Nat.gcd (afS B wq 6) (2 * D * awS B wq 6))))] _ _
  refine ev_s (ls' := [some (.ref 21), some (.int 1), some (.int 1), some (.long (lN (afS B wq 6))), none, some (.long (lN (awS B wq 6))), none, some (.long (lN (2 * D * awS B wq 6))), none, some (.long (lN (Nat.gcd (afS B wq 6) (2 * D * awS B wq 6)))), none]) rfl ?_
  refine ev_s rfl ?_
  refine ev_if rfl rfl ?_
  show Ev _ _ 169 _ _ _ _
  iterate 2 refine ev_s rfl ?_
  refine ev_ldiv rfl (lN_ne0 hgp (by omega)) ?_
  refine ev_rl rfl rfl ?_ ?_
  · rw [pk_lDiv (by omega) hgp (by omega)]
  · rfl
set_option maxHeartbeats 4000000 in
theorem rn_axle_o {np : Nat} {M : Nat → Nat → Int32} {L : Nat → Int64} {x y : Int32} (hu : ¬ (cW x 0 1 ∧ cW y 0 1)) (d : Nat) : Rn (d + 1) mX5_axle [(.ref 0), (.int x), (.int y)] (mk np M L) (some (.long (-102))) (mk np M L) := by
  unfold Rn
  refine ev_s rfl ?_
  refine ev_ik (v := 0) rfl (by decide) ?_
  refine ev_ik (v := 1) rfl (by decide) ?_
  refine ev_cs (vs := [(.int x), (.int 0), (.int 1)]) (rest := []) (rv := (some (.int (zi (cW x 0 1))))) rfl rfl rfl rfl rfl (rn_isWithin _) ?_
  show Ev _ _ 6 _ [(.int (zi (cW x 0 1)))] _ _
  refine ev_if rfl rfl (ev_bze (fun c1 => ?_) (fun c1 => ?_))
  · show Ev _ _ 18 _ _ _ _
    refine ev_s rfl ?_
    refine ev_rl rfl rfl ?_ ?_
    · rfl
    · rfl
  · show Ev _ _ 9 _ _ _ _
    refine ev_s rfl ?_
    refine ev_ik (v := 0) rfl (by decide) ?_
    refine ev_ik (v := 1) rfl (by decide) ?_
    refine ev_cs (vs := [(.int y), (.int 0), (.int 1)]) (rest := []) (rv := (some (.int (zi (cW y 0 1))))) rfl rfl rfl rfl rfl (rn_isWithin _) ?_
    show Ev _ _ 15 _ [(.int (zi (cW y 0 1)))] _ _
    refine ev_if rfl rfl (ev_bzn (fun c2 => ?_) (fun c2 => ?_))
    · show Ev _ _ 22 _ _ _ _
      exact absurd ⟨c1, c2⟩ hu
    · show Ev _ _ 18 _ _ _ _
      refine ev_s rfl ?_
      refine ev_rl rfl rfl ?_ ?_
      · rfl
      · rfl
set_option maxHeartbeats 4000000 in
theorem rn_axle_00 {np : Nat} {M : Nat → Nat → Int32} {L : Nat → Int64} {D : Nat} {B : Nat → Nat → Nat} {wq : Nat → Nat} (hB : AxB D B wq) (hC : AxC D B wq M) (hD1 : 1 ≤ D) (hw0 : 0 < awS B wq 6) (d : Nat) : Rn (d + 1) mX5_axle [(.ref 0), (.int 0), (.int 0)] (mk np M L) (some (.long (lN ((2 * D * awS B wq 6 - afS B wq 6) / Nat.gcd (2 * D * awS B wq 6) (2 * D * awS B wq 6 - afS B wq 6))))) (mk np M L) := by
  have hD := hB.1
  obtain ⟨a1, a2, a3⟩ := af_le hB 6 (by omega)
  have hD2 : 2 * D * awS B wq 6 ≤ 24 * 6000 := Nat.mul_le_mul (by omega) (by omega)
  have hdp : 0 < 2 * D * awS B wq 6 := Nat.mul_pos (by omega) hw0
  have hgp : 0 < Nat.gcd (2 * D * awS B wq 6) (2 * D * awS B wq 6 - afS B wq 6) := Nat.gcd_pos_of_pos_left _ hdp
  have hgl : Nat.gcd (2 * D * awS B wq 6) (2 * D * awS B wq 6 - afS B wq 6) ≤ 2 * D * awS B wq 6 := Nat.gcd_le_left _ hdp
  unfold Rn
  refine ev_s rfl ?_
  refine ev_ik (v := 0) rfl (by decide) ?_
  refine ev_ik (v := 1) rfl (by decide) ?_
  refine ev_cs (vs := [(.int 0), (.int 0), (.int 1)]) (rest := []) (rv := (some (.int 1))) rfl rfl rfl rfl rfl (by have e9 := rn_isWithin (hp := mk np M L) (x := 0) (y := 0) (z := 1) d; rwa [zi_t (show cW 0 0 1 from ⟨by decide, by decide⟩)] at e9) ?_
  show Ev _ _ 6 _ [(.int 1)] _ _
  refine ev_if rfl rfl ?_
  show Ev _ _ 9 _ _ _ _
  refine ev_s rfl ?_
  refine ev_ik (v := 0) rfl (by decide) ?_
  refine ev_ik (v := 1) rfl (by decide) ?_
  refine ev_cs (vs := [(.int 0), (.int 0), (.int 1)]) (rest := []) (rv := (some (.int 1))) rfl rfl rfl rfl rfl (by have e9 := rn_isWithin (hp := mk np M L) (x := 0) (y := 0) (z := 1) d; rwa [zi_t (show cW 0 0 1 from ⟨by decide, by decide⟩)] at e9) ?_
  show Ev _ _ 15 _ [(.int 1)] _ _
  refine ev_if rfl rfl ?_
  show Ev _ _ 22 _ _ _ _
  iterate 2 refine ev_s rfl ?_
  refine ev_gf (rd np M L (by omega) rfl) rfl rfl rfl ?_
  refine ev_gf (rd np M L (by omega) rfl) rfl rfl rfl ?_
  iterate 3 refine ev_s rfl ?_
  refine ev_gf (rd np M L (by omega) rfl) rfl rfl rfl ?_
  refine ev_cv (vs := [(.ref 3)]) (rest := [(.long (2 * ((M 1 2).toInt64)))]) (rv := (some (.int (nI (awS B wq 6))))) rfl rfl rfl (rd np M L (by omega) rfl) rfl rfl rfl rfl (by have e9 := rn_weight (np := np) (M := M) (L := L) d; rwa [cs_w hB hC 6 (by omega)] at e9) ?_
  show Ev _ _ 41 _ [(.int (nI (awS B wq 6))), (.long (2 * ((M 1 2).toInt64)))] _ _
  iterate 2 refine ev_s rfl ?_
  rw [hC.1, nI_l (n := D) (by omega), nI_l (n := awS B wq 6) (by omega), show (2 : Int64) = lN 2 from rfl, lN_mul, lN_mul]
  refine ev_s (ls' := [some (.ref 0), some (.int 0), some (.int 0), some (.long (lN (2 * D * awS B wq 6))), none, none, none, none, none, none, none]) rfl ?_
  refine ev_s rfl ?_
  refine ev_lk (v := 0) rfl (by decide) ?_
  refine ev_s rfl ?_
  refine ev_if rfl rfl ?_
  rw [show zbr .gt (lg_cmp (lN (2 * D * awS B wq 6)) 0) 0 60 50 = 60 from zgt_p (lc_gt hdp (by omega))]
  refine ev_s rfl ?_
  refine ev_gf (rd np M L (by omega) rfl) rfl rfl rfl ?_
  refine ev_cv (vs := [(.ref 3)]) (rest := []) (rv := (some (.int (nI (afS B wq 6))))) rfl rfl rfl (rd np M L (by omega) rfl) rfl rfl rfl rfl (by have e9 := rn_far (np := np) (M := M) (L := L) d; rwa [cs_f hB hC 6 (by omega)] at e9) ?_
  show Ev _ _ 67 _ [(.int (nI (afS B wq 6)))] _ _
  refine ev_s rfl ?_
  rw [nI_l (n := afS B wq 6) (by omega)]
  refine ev_s (ls' := [some (.ref 0), some (.int 0), some (.int 0), some (.long (lN (2 * D * awS B wq 6))), none, some (.long (lN (afS B wq 6))), none, none, none, none, none]) rfl ?_
  refine ev_s rfl ?_
  refine ev_ik (v := 1) rfl (by decide) ?_
  refine ev_ic rfl rfl ?_
  show Ev _ _ 80 _ _ _ _
  iterate 3 refine ev_s rfl ?_
  rw [lN_sub a1]
  refine ev_s (ls' := [some (.ref 0), some (.int 0), some (.int 0), some (.long (lN (2 * D * awS B wq 6))), none, some (.long (lN (afS B wq 6))), none, some (.long (lN (2 * D * awS B wq 6 - afS B wq 6))), none, none, none]) rfl ?_
  iterate 2 refine ev_s rfl ?_
  refine ev_cs (vs := [(.long (lN (2 * D * awS B wq 6))), (.long (lN (2 * D * awS B wq 6 - afS B wq 6)))]) (rest := []) (rv := (some (.long (lN (Nat.gcd (2 * D * awS B wq 6) (2 * D * awS B wq 6 - afS B wq 6)))))) rfl rfl rfl rfl rfl (by have e9 := rn_gdiv (hp := mk np M L) (a := 2 * D * awS B wq 6) (b := (2 * D * awS B wq 6 - afS B wq 6)) (by omega) (by omega) d; exact e9) ?_
  show Ev _ _ 92 _ [(.long (lN (Nat.gcd (2 * D * awS B wq 6) (2 * D * awS B wq 6 - afS B wq 6))))] _ _
  refine ev_s (ls' := [some (.ref 0), some (.int 0), some (.int 0), some (.long (lN (2 * D * awS B wq 6))), none, some (.long (lN (afS B wq 6))), none, some (.long (lN (2 * D * awS B wq 6 - afS B wq 6))), none, some (.long (lN (Nat.gcd (2 * D * awS B wq 6) (2 * D * awS B wq 6 - afS B wq 6)))), none]) rfl ?_
  refine ev_s rfl ?_
  refine ev_lk (v := 0) rfl (by decide) ?_
  refine ev_s rfl ?_
  refine ev_if rfl rfl ?_
  rw [show zbr .gt (lg_cmp (lN (Nat.gcd (2 * D * awS B wq 6) (2 * D * awS B wq 6 - afS B wq 6))) 0) 0 104 101 = 104 from zgt_p (lc_gt hgp (by omega))]
  refine ev_s rfl ?_
  refine ev_if rfl rfl ?_
  show Ev _ _ 108 _ _ _ _
  iterate 3 refine ev_s rfl ?_
  refine ev_ldiv rfl (lN_ne0 hgp (by omega)) ?_
  refine ev_rl rfl rfl ?_ ?_
  · rw [pk_lDiv (by omega) hgp (by omega)]
  · rfl
set_option maxHeartbeats 4000000 in
theorem rn_axle_01 {np : Nat} {M : Nat → Nat → Int32} {L : Nat → Int64} {D : Nat} {B : Nat → Nat → Nat} {wq : Nat → Nat} (hB : AxB D B wq) (hC : AxC D B wq M) (hD1 : 1 ≤ D) (hw0 : 0 < awS B wq 6) (d : Nat) : Rn (d + 1) mX5_axle [(.ref 0), (.int 0), (.int 1)] (mk np M L) (some (.long (lN ((2 * D * awS B wq 6) / Nat.gcd (2 * D * awS B wq 6) (2 * D * awS B wq 6 - afS B wq 6))))) (mk np M L) := by
  have hD := hB.1
  obtain ⟨a1, a2, a3⟩ := af_le hB 6 (by omega)
  have hD2 : 2 * D * awS B wq 6 ≤ 24 * 6000 := Nat.mul_le_mul (by omega) (by omega)
  have hdp : 0 < 2 * D * awS B wq 6 := Nat.mul_pos (by omega) hw0
  have hgp : 0 < Nat.gcd (2 * D * awS B wq 6) (2 * D * awS B wq 6 - afS B wq 6) := Nat.gcd_pos_of_pos_left _ hdp
  have hgl : Nat.gcd (2 * D * awS B wq 6) (2 * D * awS B wq 6 - afS B wq 6) ≤ 2 * D * awS B wq 6 := Nat.gcd_le_left _ hdp
  unfold Rn
  refine ev_s rfl ?_
  refine ev_ik (v := 0) rfl (by decide) ?_
  refine ev_ik (v := 1) rfl (by decide) ?_
  refine ev_cs (vs := [(.int 0), (.int 0), (.int 1)]) (rest := []) (rv := (some (.int 1))) rfl rfl rfl rfl rfl (by have e9 := rn_isWithin (hp := mk np M L) (x := 0) (y := 0) (z := 1) d; rwa [zi_t (show cW 0 0 1 from ⟨by decide, by decide⟩)] at e9) ?_
  show Ev _ _ 6 _ [(.int 1)] _ _
  refine ev_if rfl rfl ?_
  show Ev _ _ 9 _ _ _ _
  refine ev_s rfl ?_
  refine ev_ik (v := 0) rfl (by decide) ?_
  refine ev_ik (v := 1) rfl (by decide) ?_
  refine ev_cs (vs := [(.int 1), (.int 0), (.int 1)]) (rest := []) (rv := (some (.int 1))) rfl rfl rfl rfl rfl (by have e9 := rn_isWithin (hp := mk np M L) (x := 1) (y := 0) (z := 1) d; rwa [zi_t (show cW 1 0 1 from ⟨by decide, by decide⟩)] at e9) ?_
  show Ev _ _ 15 _ [(.int 1)] _ _
  refine ev_if rfl rfl ?_
  show Ev _ _ 22 _ _ _ _
  iterate 2 refine ev_s rfl ?_
  refine ev_gf (rd np M L (by omega) rfl) rfl rfl rfl ?_
  refine ev_gf (rd np M L (by omega) rfl) rfl rfl rfl ?_
  iterate 3 refine ev_s rfl ?_
  refine ev_gf (rd np M L (by omega) rfl) rfl rfl rfl ?_
  refine ev_cv (vs := [(.ref 3)]) (rest := [(.long (2 * ((M 1 2).toInt64)))]) (rv := (some (.int (nI (awS B wq 6))))) rfl rfl rfl (rd np M L (by omega) rfl) rfl rfl rfl rfl (by have e9 := rn_weight (np := np) (M := M) (L := L) d; rwa [cs_w hB hC 6 (by omega)] at e9) ?_
  show Ev _ _ 41 _ [(.int (nI (awS B wq 6))), (.long (2 * ((M 1 2).toInt64)))] _ _
  iterate 2 refine ev_s rfl ?_
  rw [hC.1, nI_l (n := D) (by omega), nI_l (n := awS B wq 6) (by omega), show (2 : Int64) = lN 2 from rfl, lN_mul, lN_mul]
  refine ev_s (ls' := [some (.ref 0), some (.int 0), some (.int 1), some (.long (lN (2 * D * awS B wq 6))), none, none, none, none, none, none, none]) rfl ?_
  refine ev_s rfl ?_
  refine ev_lk (v := 0) rfl (by decide) ?_
  refine ev_s rfl ?_
  refine ev_if rfl rfl ?_
  rw [show zbr .gt (lg_cmp (lN (2 * D * awS B wq 6)) 0) 0 60 50 = 60 from zgt_p (lc_gt hdp (by omega))]
  refine ev_s rfl ?_
  refine ev_gf (rd np M L (by omega) rfl) rfl rfl rfl ?_
  refine ev_cv (vs := [(.ref 3)]) (rest := []) (rv := (some (.int (nI (afS B wq 6))))) rfl rfl rfl (rd np M L (by omega) rfl) rfl rfl rfl rfl (by have e9 := rn_far (np := np) (M := M) (L := L) d; rwa [cs_f hB hC 6 (by omega)] at e9) ?_
  show Ev _ _ 67 _ [(.int (nI (afS B wq 6)))] _ _
  refine ev_s rfl ?_
  rw [nI_l (n := afS B wq 6) (by omega)]
  refine ev_s (ls' := [some (.ref 0), some (.int 0), some (.int 1), some (.long (lN (2 * D * awS B wq 6))), none, some (.long (lN (afS B wq 6))), none, none, none, none, none]) rfl ?_
  refine ev_s rfl ?_
  refine ev_ik (v := 1) rfl (by decide) ?_
  refine ev_ic rfl rfl ?_
  show Ev _ _ 80 _ _ _ _
  iterate 3 refine ev_s rfl ?_
  rw [lN_sub a1]
  refine ev_s (ls' := [some (.ref 0), some (.int 0), some (.int 1), some (.long (lN (2 * D * awS B wq 6))), none, some (.long (lN (afS B wq 6))), none, some (.long (lN (2 * D * awS B wq 6 - afS B wq 6))), none, none, none]) rfl ?_
  iterate 2 refine ev_s rfl ?_
  refine ev_cs (vs := [(.long (lN (2 * D * awS B wq 6))), (.long (lN (2 * D * awS B wq 6 - afS B wq 6)))]) (rest := []) (rv := (some (.long (lN (Nat.gcd (2 * D * awS B wq 6) (2 * D * awS B wq 6 - afS B wq 6)))))) rfl rfl rfl rfl rfl (by have e9 := rn_gdiv (hp := mk np M L) (a := 2 * D * awS B wq 6) (b := (2 * D * awS B wq 6 - afS B wq 6)) (by omega) (by omega) d; exact e9) ?_
  show Ev _ _ 92 _ [(.long (lN (Nat.gcd (2 * D * awS B wq 6) (2 * D * awS B wq 6 - afS B wq 6))))] _ _
  refine ev_s (ls' := [some (.ref 0), some (.int 0), some (.int 1), some (.long (lN (2 * D * awS B wq 6))), none, some (.long (lN (afS B wq 6))), none, some (.long (lN (2 * D * awS B wq 6 - afS B wq 6))), none, some (.long (lN (Nat.gcd (2 * D * awS B wq 6) (2 * D * awS B wq 6 - afS B wq 6)))), none]) rfl ?_
  refine ev_s rfl ?_
  refine ev_lk (v := 0) rfl (by decide) ?_
  refine ev_s rfl ?_
  refine ev_if rfl rfl ?_
  rw [show zbr .gt (lg_cmp (lN (Nat.gcd (2 * D * awS B wq 6) (2 * D * awS B wq 6 - afS B wq 6))) 0) 0 104 101 = 104 from zgt_p (lc_gt hgp (by omega))]
  refine ev_s rfl ?_
  refine ev_if rfl rfl ?_
  show Ev _ _ 113 _ _ _ _
  iterate 2 refine ev_s rfl ?_
  refine ev_ldiv rfl (lN_ne0 hgp (by omega)) ?_
  refine ev_rl rfl rfl ?_ ?_
  · rw [pk_lDiv (by omega) hgp (by omega)]
  · rfl
set_option maxHeartbeats 4000000 in
theorem rn_axle_10 {np : Nat} {M : Nat → Nat → Int32} {L : Nat → Int64} {D : Nat} {B : Nat → Nat → Nat} {wq : Nat → Nat} (hB : AxB D B wq) (hC : AxC D B wq M) (hD1 : 1 ≤ D) (hw0 : 0 < awS B wq 6) (d : Nat) : Rn (d + 1) mX5_axle [(.ref 0), (.int 1), (.int 0)] (mk np M L) (some (.long (lN ((afS B wq 6) / Nat.gcd (2 * D * awS B wq 6) (afS B wq 6))))) (mk np M L) := by
  have hD := hB.1
  obtain ⟨a1, a2, a3⟩ := af_le hB 6 (by omega)
  have hD2 : 2 * D * awS B wq 6 ≤ 24 * 6000 := Nat.mul_le_mul (by omega) (by omega)
  have hdp : 0 < 2 * D * awS B wq 6 := Nat.mul_pos (by omega) hw0
  have hgp : 0 < Nat.gcd (2 * D * awS B wq 6) (afS B wq 6) := Nat.gcd_pos_of_pos_left _ hdp
  have hgl : Nat.gcd (2 * D * awS B wq 6) (afS B wq 6) ≤ 2 * D * awS B wq 6 := Nat.gcd_le_left _ hdp
  unfold Rn
  refine ev_s rfl ?_
  refine ev_ik (v := 0) rfl (by decide) ?_
  refine ev_ik (v := 1) rfl (by decide) ?_
  refine ev_cs (vs := [(.int 1), (.int 0), (.int 1)]) (rest := []) (rv := (some (.int 1))) rfl rfl rfl rfl rfl (by have e9 := rn_isWithin (hp := mk np M L) (x := 1) (y := 0) (z := 1) d; rwa [zi_t (show cW 1 0 1 from ⟨by decide, by decide⟩)] at e9) ?_
  show Ev _ _ 6 _ [(.int 1)] _ _
  refine ev_if rfl rfl ?_
  show Ev _ _ 9 _ _ _ _
  refine ev_s rfl ?_
  refine ev_ik (v := 0) rfl (by decide) ?_
  refine ev_ik (v := 1) rfl (by decide) ?_
  refine ev_cs (vs := [(.int 0), (.int 0), (.int 1)]) (rest := []) (rv := (some (.int 1))) rfl rfl rfl rfl rfl (by have e9 := rn_isWithin (hp := mk np M L) (x := 0) (y := 0) (z := 1) d; rwa [zi_t (show cW 0 0 1 from ⟨by decide, by decide⟩)] at e9) ?_
  show Ev _ _ 15 _ [(.int 1)] _ _
  refine ev_if rfl rfl ?_
  show Ev _ _ 22 _ _ _ _
  iterate 2 refine ev_s rfl ?_
  refine ev_gf (rd np M L (by omega) rfl) rfl rfl rfl ?_
  refine ev_gf (rd np M L (by omega) rfl) rfl rfl rfl ?_
  iterate 3 refine ev_s rfl ?_
  refine ev_gf (rd np M L (by omega) rfl) rfl rfl rfl ?_
  refine ev_cv (vs := [(.ref 3)]) (rest := [(.long (2 * ((M 1 2).toInt64)))]) (rv := (some (.int (nI (awS B wq 6))))) rfl rfl rfl (rd np M L (by omega) rfl) rfl rfl rfl rfl (by have e9 := rn_weight (np := np) (M := M) (L := L) d; rwa [cs_w hB hC 6 (by omega)] at e9) ?_
  show Ev _ _ 41 _ [(.int (nI (awS B wq 6))), (.long (2 * ((M 1 2).toInt64)))] _ _
  iterate 2 refine ev_s rfl ?_
  rw [hC.1, nI_l (n := D) (by omega), nI_l (n := awS B wq 6) (by omega), show (2 : Int64) = lN 2 from rfl, lN_mul, lN_mul]
  refine ev_s (ls' := [some (.ref 0), some (.int 1), some (.int 0), some (.long (lN (2 * D * awS B wq 6))), none, none, none, none, none, none, none]) rfl ?_
  refine ev_s rfl ?_
  refine ev_lk (v := 0) rfl (by decide) ?_
  refine ev_s rfl ?_
  refine ev_if rfl rfl ?_
  rw [show zbr .gt (lg_cmp (lN (2 * D * awS B wq 6)) 0) 0 60 50 = 60 from zgt_p (lc_gt hdp (by omega))]
  refine ev_s rfl ?_
  refine ev_gf (rd np M L (by omega) rfl) rfl rfl rfl ?_
  refine ev_cv (vs := [(.ref 3)]) (rest := []) (rv := (some (.int (nI (afS B wq 6))))) rfl rfl rfl (rd np M L (by omega) rfl) rfl rfl rfl rfl (by have e9 := rn_far (np := np) (M := M) (L := L) d; rwa [cs_f hB hC 6 (by omega)] at e9) ?_
  show Ev _ _ 67 _ [(.int (nI (afS B wq 6)))] _ _
  refine ev_s rfl ?_
  rw [nI_l (n := afS B wq 6) (by omega)]
  refine ev_s (ls' := [some (.ref 0), some (.int 1), some (.int 0), some (.long (lN (2 * D * awS B wq 6))), none, some (.long (lN (afS B wq 6))), none, none, none, none, none]) rfl ?_
  refine ev_s rfl ?_
  refine ev_ik (v := 1) rfl (by decide) ?_
  refine ev_ic rfl rfl ?_
  show Ev _ _ 75 _ _ _ _
  iterate 2 refine ev_s rfl ?_
  refine ev_s (ls' := [some (.ref 0), some (.int 1), some (.int 0), some (.long (lN (2 * D * awS B wq 6))), none, some (.long (lN (afS B wq 6))), none, some (.long (lN (afS B wq 6))), none, none, none]) rfl ?_
  iterate 2 refine ev_s rfl ?_
  refine ev_cs (vs := [(.long (lN (2 * D * awS B wq 6))), (.long (lN (afS B wq 6)))]) (rest := []) (rv := (some (.long (lN (Nat.gcd (2 * D * awS B wq 6) (afS B wq 6)))))) rfl rfl rfl rfl rfl (by have e9 := rn_gdiv (hp := mk np M L) (a := 2 * D * awS B wq 6) (b := (afS B wq 6)) (by omega) (by omega) d; exact e9) ?_
  show Ev _ _ 92 _ [(.long (lN (Nat.gcd (2 * D * awS B wq 6) (afS B wq 6))))] _ _
  refine ev_s (ls' := [some (.ref 0), some (.int 1), some (.int 0), some (.long (lN (2 * D * awS B wq 6))), none, some (.long (lN (afS B wq 6))), none, some (.long (lN (afS B wq 6))), none, some (.long (lN (Nat.gcd (2 * D * awS B wq 6) (afS B wq 6)))), none]) rfl ?_
  refine ev_s rfl ?_
  refine ev_lk (v := 0) rfl (by decide) ?_
  refine ev_s rfl ?_
  refine ev_if rfl rfl ?_
  rw [show zbr .gt (lg_cmp (lN (Nat.gcd (2 * D * awS B wq 6) (afS B wq 6))) 0) 0 104 101 = 104 from zgt_p (lc_gt hgp (by omega))]
  refine ev_s rfl ?_
  refine ev_if rfl rfl ?_
  show Ev _ _ 108 _ _ _ _
  iterate 3 refine ev_s rfl ?_
  refine ev_ldiv rfl (lN_ne0 hgp (by omega)) ?_
  refine ev_rl rfl rfl ?_ ?_
  · rw [pk_lDiv (by omega) hgp (by omega)]
  · rfl
set_option maxHeartbeats 4000000 in
theorem rn_axle_11 {np : Nat} {M : Nat → Nat → Int32} {L : Nat → Int64} {D : Nat} {B : Nat → Nat → Nat} {wq : Nat → Nat} (hB : AxB D B wq) (hC : AxC D B wq M) (hD1 : 1 ≤ D) (hw0 : 0 < awS B wq 6) (d : Nat) : Rn (d + 1) mX5_axle [(.ref 0), (.int 1), (.int 1)] (mk np M L) (some (.long (lN ((2 * D * awS B wq 6) / Nat.gcd (2 * D * awS B wq 6) (afS B wq 6))))) (mk np M L) := by
  have hD := hB.1
  obtain ⟨a1, a2, a3⟩ := af_le hB 6 (by omega)
  have hD2 : 2 * D * awS B wq 6 ≤ 24 * 6000 := Nat.mul_le_mul (by omega) (by omega)
  have hdp : 0 < 2 * D * awS B wq 6 := Nat.mul_pos (by omega) hw0
  have hgp : 0 < Nat.gcd (2 * D * awS B wq 6) (afS B wq 6) := Nat.gcd_pos_of_pos_left _ hdp
  have hgl : Nat.gcd (2 * D * awS B wq 6) (afS B wq 6) ≤ 2 * D * awS B wq 6 := Nat.gcd_le_left _ hdp
  unfold Rn
  refine ev_s rfl ?_
  refine ev_ik (v := 0) rfl (by decide) ?_
  refine ev_ik (v := 1) rfl (by decide) ?_
  refine ev_cs (vs := [(.int 1), (.int 0), (.int 1)]) (rest := []) (rv := (some (.int 1))) rfl rfl rfl rfl rfl (by have e9 := rn_isWithin (hp := mk np M L) (x := 1) (y := 0) (z := 1) d; rwa [zi_t (show cW 1 0 1 from ⟨by decide, by decide⟩)] at e9) ?_
  show Ev _ _ 6 _ [(.int 1)] _ _
  refine ev_if rfl rfl ?_
  show Ev _ _ 9 _ _ _ _
  refine ev_s rfl ?_
  refine ev_ik (v := 0) rfl (by decide) ?_
  refine ev_ik (v := 1) rfl (by decide) ?_
  refine ev_cs (vs := [(.int 1), (.int 0), (.int 1)]) (rest := []) (rv := (some (.int 1))) rfl rfl rfl rfl rfl (by have e9 := rn_isWithin (hp := mk np M L) (x := 1) (y := 0) (z := 1) d; rwa [zi_t (show cW 1 0 1 from ⟨by decide, by decide⟩)] at e9) ?_
  show Ev _ _ 15 _ [(.int 1)] _ _
  refine ev_if rfl rfl ?_
  show Ev _ _ 22 _ _ _ _
  iterate 2 refine ev_s rfl ?_
  refine ev_gf (rd np M L (by omega) rfl) rfl rfl rfl ?_
  refine ev_gf (rd np M L (by omega) rfl) rfl rfl rfl ?_
  iterate 3 refine ev_s rfl ?_
  refine ev_gf (rd np M L (by omega) rfl) rfl rfl rfl ?_
  refine ev_cv (vs := [(.ref 3)]) (rest := [(.long (2 * ((M 1 2).toInt64)))]) (rv := (some (.int (nI (awS B wq 6))))) rfl rfl rfl (rd np M L (by omega) rfl) rfl rfl rfl rfl (by have e9 := rn_weight (np := np) (M := M) (L := L) d; rwa [cs_w hB hC 6 (by omega)] at e9) ?_
  show Ev _ _ 41 _ [(.int (nI (awS B wq 6))), (.long (2 * ((M 1 2).toInt64)))] _ _
  iterate 2 refine ev_s rfl ?_
  rw [hC.1, nI_l (n := D) (by omega), nI_l (n := awS B wq 6) (by omega), show (2 : Int64) = lN 2 from rfl, lN_mul, lN_mul]
  refine ev_s (ls' := [some (.ref 0), some (.int 1), some (.int 1), some (.long (lN (2 * D * awS B wq 6))), none, none, none, none, none, none, none]) rfl ?_
  refine ev_s rfl ?_
  refine ev_lk (v := 0) rfl (by decide) ?_
  refine ev_s rfl ?_
  refine ev_if rfl rfl ?_
  rw [show zbr .gt (lg_cmp (lN (2 * D * awS B wq 6)) 0) 0 60 50 = 60 from zgt_p (lc_gt hdp (by omega))]
  refine ev_s rfl ?_
  refine ev_gf (rd np M L (by omega) rfl) rfl rfl rfl ?_
  refine ev_cv (vs := [(.ref 3)]) (rest := []) (rv := (some (.int (nI (afS B wq 6))))) rfl rfl rfl (rd np M L (by omega) rfl) rfl rfl rfl rfl (by have e9 := rn_far (np := np) (M := M) (L := L) d; rwa [cs_f hB hC 6 (by omega)] at e9) ?_
  show Ev _ _ 67 _ [(.int (nI (afS B wq 6)))] _ _
  refine ev_s rfl ?_
  rw [nI_l (n := afS B wq 6) (by omega)]
  refine ev_s (ls' := [some (.ref 0), some (.int 1), some (.int 1), some (.long (lN (2 * D * awS B wq 6))), none, some (.long (lN (afS B wq 6))), none, none, none, none, none]) rfl ?_
  refine ev_s rfl ?_
  refine ev_ik (v := 1) rfl (by decide) ?_
  refine ev_ic rfl rfl ?_
  show Ev _ _ 75 _ _ _ _
  iterate 2 refine ev_s rfl ?_
  refine ev_s (ls' := [some (.ref 0), some (.int 1), some (.int 1), some (.long (lN (2 * D * awS B wq 6))), none, some (.long (lN (afS B wq 6))), none, some (.long (lN (afS B wq 6))), none, none, none]) rfl ?_
  iterate 2 refine ev_s rfl ?_
  refine ev_cs (vs := [(.long (lN (2 * D * awS B wq 6))), (.long (lN (afS B wq 6)))]) (rest := []) (rv := (some (.long (lN (Nat.gcd (2 * D * awS B wq 6) (afS B wq 6)))))) rfl rfl rfl rfl rfl (by have e9 := rn_gdiv (hp := mk np M L) (a := 2 * D * awS B wq 6) (b := (afS B wq 6)) (by omega) (by omega) d; exact e9) ?_
  show Ev _ _ 92 _ [(.long (lN (Nat.gcd (2 * D * awS B wq 6) (afS B wq 6))))] _ _
  refine ev_s (ls' := [some (.ref 0), some (.int 1), some (.int 1), some (.long (lN (2 * D * awS B wq 6))), none, some (.long (lN (afS B wq 6))), none, some (.long (lN (afS B wq 6))), none, some (.long (lN (Nat.gcd (2 * D * awS B wq 6) (afS B wq 6)))), none]) rfl ?_
  refine ev_s rfl ?_
  refine ev_lk (v := 0) rfl (by decide) ?_
  refine ev_s rfl ?_
  refine ev_if rfl rfl ?_
  rw [show zbr .gt (lg_cmp (lN (Nat.gcd (2 * D * awS B wq 6) (afS B wq 6))) 0) 0 104 101 = 104 from zgt_p (lc_gt hgp (by omega))]
  refine ev_s rfl ?_
  refine ev_if rfl rfl ?_
  show Ev _ _ 113 _ _ _ _
  iterate 2 refine ev_s rfl ?_
  refine ev_ldiv rfl (lN_ne0 hgp (by omega)) ?_
  refine ev_rl rfl rfl ?_ ?_
  · rw [pk_lDiv (by omega) hgp (by omega)]
  · rfl
