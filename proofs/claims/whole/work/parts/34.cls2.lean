-- lk: 31 32 33
/-! ===== the class's search is that search: steps ===== -/
theorem bRow_congr {r r' : Nat → Int32} {b : Nat → Nat} (h : ∀ k, 4 ≤ k → k ≤ 10 → r' k = r k) (hb : bRow r b) : bRow r' b := by
  unfold bRow at *
  rw [h 4 (by omega) (by omega), h 5 (by omega) (by omega), h 6 (by omega) (by omega), h 7 (by omega) (by omega), h 8 (by omega) (by omega), h 9 (by omega) (by omega), h 10 (by omega) (by omega)]
  exact hb
theorem tRow_congr {g : Nat → Nat → Nat} {i : Nat} {r r' : Nat → Int32} (h : ∀ k, 1 ≤ k → k ≤ 3 → r' k = r k) (hb : tRow g i r) : tRow g i r' := by
  unfold tRow at *
  rw [h 1 (by omega) (by omega), h 2 (by omega) (by omega), h 3 (by omega) (by omega)]
  exact hb
theorem cpM_s {M : Nat → Nat → Int32} {h q k : Nat} (hhq : h ≠ q) (hk : k ≤ 10) : cpM M h q h k = M q k := by
  have e : ∀ k, k = 0 ∨ k = 1 ∨ k = 2 ∨ k = 3 ∨ k = 4 ∨ k = 5 ∨ k = 6 ∨ k = 7 ∨ k = 8 ∨ k = 9 ∨ k = 10 → cpM M h q h k = M q k := by
    unfold cpM mvM
    intro k hk
    simp only [up2_s]
    rcases hk with rfl | rfl | rfl | rfl | rfl | rfl | rfl | rfl | rfl | rfl | rfl <;> simp [upd]
  exact e k (by omega)
theorem cyM_s {M : Nat → Nat → Int32} {i k : Nat} (hk : k ≤ 10) : ∀ n, i < n → n ≤ 6 → cyM M n (5 + i) k = M (14 + i) k
  | 0, h, _ => absurd h (by omega)
  | n + 1, h, h6 => by
    show cpM (cyM M n) (5 + n) (14 + n) (5 + i) k = _
    by_cases e : i = n
    · subst e
      rw [cpM_s (by omega) hk, cyM_n (by omega) i (by omega)]
    · rw [cpM_n (by omega)]
      exact cyM_s hk n (by omega) (by omega)
section RCs
variable {g P : Nat → Nat → Nat} {s : Nat × Nat × Nat × (Nat → Nat → Nat)} {M : Nat → Nat → Int32}
theorem kb_rc (c : Cg g) (hb : Bn g P) (hs : Sn g s) (h : RC g P s M) : RC g P (jdg g P s) (kbM M) := by
  have e1 := csum_cl hb h 6 (by omega)
  have e2 := csum_wy hb h 6 (by omega)
  have b1 := clS_le c hb 6
  have b2 := wyS_le c hb 6
  have b3 := clS_le c hs.2.2.2 6
  have b4 := wyS_le c hs.2.2.2 6
  obtain ⟨s1, s2, s3, s4⟩ := hs
  obtain ⟨h1, h2, h3, ⟨h4, h5, h6, h7⟩, h8, h9⟩ := h
  have e3 : btr M ↔ (s.2.1 < clS P 6 ∨ clS P 6 = s.2.1 ∧ wyS g P 6 < s.2.2.1) := by
    unfold btr
    rw [e1, e2, h6, h7, nI_ltI (by omega) (by omega), nI_eq (by omega) (by omega), nle_I (by omega) (by omega)]
  unfold jdg
  by_cases e : btr M
  · rw [cIf_t (e3.mp e), kbM_t e, e1, e2]
    have k : ∀ h', h' ≠ 11 → up2 (up2 (cyM M 6) 11 5 (nI (clS P 6))) 11 6 (nI (wyS g P 6)) h' = cyM M 6 h' := fun h' hh => by rw [up2_n hh, up2_n hh]
    have k' : ∀ h', h' ≠ 11 → (h' < 5 ∨ 11 ≤ h') → up2 (up2 (cyM M 6) 11 5 (nI (clS P 6))) 11 6 (nI (wyS g P 6)) h' = M h' := fun h' hh hh' => by rw [k h' hh]; exact cyM_in hh'
    refine ⟨?_, ?_, ?_, ⟨?_, ?_, ?_, ?_⟩, ?_, ?_⟩
    · intro x z hx hz; rw [k' 20 (by omega) (by omega)]; exact h1 x z hx hz
    · intro i hi; rw [k' (14 + i) (by omega) (by omega)]; exact h2 i hi
    · intro i hi; rw [k' (14 + i) (by omega) (by omega)]; exact h3 i hi
    · rw [up2_s, upd_n (by omega), up2_s, upd_n (by omega), cyM_in (by omega)]; exact h4
    · rw [up2_s, upd_n (by omega), up2_s, upd_n (by omega), cyM_in (by omega)]; exact h5
    · rw [up2_s, upd_n (by omega), up2_s, upd_s]
    · rw [up2_s, upd_s]
    · intro i hi
      rw [k (5 + i) (by omega), cyM_s (by omega) 6 hi (by omega)]
      refine ⟨(h2 i hi).1, fun hp => ⟨bRow_congr (fun k _ hk => cyM_s hk 6 hi (by omega)) ((h2 i hi).2 hp), tRow_congr (fun k _ hk => cyM_s (by omega) 6 hi (by omega)) (h3 i ((hb i).2 hp).1)⟩⟩
    · intro i hi; rw [k' (57 + i) (by omega) (by omega)]; exact h9 i hi
  · rw [cIf_f (fun w => e (e3.mpr w)), kbM_f e]
    exact ⟨h1, h2, h3, ⟨h4, h5, h6, h7⟩, h8, h9⟩
theorem rect_iff {j : Nat} {b : Nat → Nat} (hr : bRow (M (14 + j)) b) (l : lb b) {x z : Nat} (hx : x < 12) (hz : z < 12) : rect M j (z * 12 + x) ↔ cov b x z := by
  obtain ⟨_, r5, r6, r7, r8, r9, r10⟩ := hr
  obtain ⟨l1, l2, l3⟩ := l
  unfold rect rc
  rw [nF_of r8 (by omega), nF_of r10 (by omega), nF_of r5 (by omega), nF_of r7 (by omega)]
  constructor
  · rintro ⟨z', x', k1, k2, k3, k4⟩
    unfold cov
    have : z' = z ∧ x' = x := by omega
    omega
  · rintro ⟨k1, k2, k3, k4⟩
    exact ⟨z, x, rfl, k1, k2, Or.inl ⟨k3, k4⟩⟩
theorem hst_at {Q : Nat → Prop} {v : Int32} {k : Nat} : hst M Q v 20 k = cIf (Q k) v (M 20 k) := by
  unfold hst cIf
  rw [if_pos rfl]
/-- the step is made -/
theorem ms3_rc {j : Nat} {b : Nat → Nat} (c : Cg g) (G : Good g P j) (h : RC g P s M) (hj : j < g 7 0) (hr : bRow (M (14 + j)) b) (hb0 : b 0 = 1) (hf : fitA g P j b) : RC g (setP P j b) (s.1 + 1, s.2) (ms3 j M) := by
  have hn6 := c.1
  have l := lb_of c hf.1
  have hj6 : j < 6 := by omega
  obtain ⟨h1, h2, h3, ⟨h4, h5, h6, h7⟩, h8, h9⟩ := h
  have k : ∀ h', h' ≠ 20 → h' ≠ 11 → h' ≠ 14 + j → ms3 j M h' = M h' := fun h' a1 a2 a3 => by unfold ms3; rw [hst_n a1, up2_n a3, up2_n a2]
  have k11 : ms3 j M 11 = upd (M 11) 8 (M 11 8 + 1) := by unfold ms3; rw [hst_n (by omega), up2_n (by omega), up2_s]
  have kj := ms3_row hj6 M
  refine ⟨?_, ?_, ?_, ⟨?_, ?_, ?_, ?_⟩, ?_, ?_⟩
  · intro x z hx hz
    rw [hgt_set G hj6 hb0 hf]
    unfold ms3
    rw [hst_at, up2_n (by omega), up2_n (by omega)]
    have e := rect_iff hr l hx hz
    by_cases w : cov b x z
    · rw [cIf_t w, cIf_t (e.mpr w), hr.2.2.2.2.2.1, hr.2.2.1, nI_add]
    · rw [cIf_f w, cIf_f (fun q => w (e.mp q))]; exact h1 x z hx hz
  · intro i hi
    by_cases e : i = j
    · subst e
      rw [setP_s, kj, upd_s, hb0]
      exact ⟨rfl, fun _ => bRow_congr (fun k hk _ => upd_n (by omega)) hr⟩
    · rw [setP_n e, k (14 + i) (by omega) (by omega) (by omega)]; exact h2 i hi
  · intro i hi
    by_cases e : i = j
    · subst e
      rw [kj]
      exact tRow_congr (fun k hk _ => upd_n (by omega)) (h3 i hi)
    · rw [k (14 + i) (by omega) (by omega) (by omega)]; exact h3 i hi
  · rw [k11, upd_n (by omega)]; exact h4
  · rw [k11, upd_s, h5, nI_1]
  · rw [k11, upd_n (by omega)]; exact h6
  · rw [k11, upd_n (by omega)]; exact h7
  · intro i hi; rw [k (5 + i) (by omega) (by omega) (by omega)]; exact h8 i hi
  · intro i hi; rw [k (57 + i) (by omega) (by omega) (by omega)]; exact h9 i hi
/-- and taken back -/
theorem ms4_rc {j : Nat} {b : Nat → Nat} {y : Int32} {Q : Nat → Prop} (c : Cg g) (G : Good g P j) (h : RC g (setP P j b) s M) (hj : j < g 7 0) (hy : y = nI (b 3)) (hb0 : b 0 = 1) (hf : fitA g P j b) (hQ : ∀ x z, x < 12 → z < 12 → (Q (z * 12 + x) ↔ cov b x z)) : RC g P s (up2 (hst M Q y) (14 + j) 0 0) := by
  have hn6 := c.1
  have hj6 : j < 6 := by omega
  obtain ⟨h1, h2, h3, ⟨h4, h5, h6, h7⟩, h8, h9⟩ := h
  have hPj : P j 0 = 0 := G.1 j (Nat.le_refl _)
  have k : ∀ h', h' ≠ 20 → h' ≠ 14 + j → up2 (hst M Q y) (14 + j) 0 0 h' = M h' := fun h' a1 a3 => by rw [up2_n a3, hst_n a1]
  have kj : up2 (hst M Q y) (14 + j) 0 0 (14 + j) = upd (M (14 + j)) 0 0 := by rw [up2_s, hst_n (by omega)]
  refine ⟨?_, ?_, ?_, ⟨?_, ?_, ?_, ?_⟩, ?_, ?_⟩
  · intro x z hx hz
    have e := h1 x z hx hz
    rw [hgt_set G hj6 hb0 hf] at e
    rw [up2_n (by omega), hst_at]
    by_cases w : cov b x z
    · rw [cIf_t ((hQ x z hx hz).mpr w), hy, hf.2.1 x z w]
    · rw [cIf_f (fun q => w ((hQ x z hx hz).mp q))]
      rw [cIf_f w] at e
      exact e
  · intro i hi
    by_cases e : i = j
    · subst e
      rw [kj, upd_s, hPj]
      exact ⟨rfl, fun w => absurd w (by omega)⟩
    · have := h2 i hi
      rw [setP_n e] at this
      rw [k (14 + i) (by omega) (by omega)]; exact this
  · intro i hi
    by_cases e : i = j
    · subst e
      rw [kj]
      exact tRow_congr (fun k hk _ => upd_n (by omega)) (h3 i hi)
    · rw [k (14 + i) (by omega) (by omega)]; exact h3 i hi
  · rw [k 11 (by omega) (by omega)]; exact h4
  · rw [k 11 (by omega) (by omega)]; exact h5
  · rw [k 11 (by omega) (by omega)]; exact h6
  · rw [k 11 (by omega) (by omega)]; exact h7
  · intro i hi; rw [k (5 + i) (by omega) (by omega)]; exact h8 i hi
  · intro i hi; rw [k (57 + i) (by omega) (by omega)]; exact h9 i hi
/-- numbers of place j that do not count while it is out -/
theorem rc_junk {M' : Nat → Nat → Int32} {j : Nat} (h : RC g P s M) (hj : j < 6) (hPj : P j 0 = 0) (k : ∀ h', h' ≠ 14 + j → M' h' = M h') (kj : ∀ i, i ≤ 3 → M' (14 + j) i = M (14 + j) i) : RC g P s M' := by
  obtain ⟨h1, h2, h3, ⟨h4, h5, h6, h7⟩, h8, h9⟩ := h
  refine ⟨?_, ?_, ?_, ⟨?_, ?_, ?_, ?_⟩, ?_, ?_⟩
  · intro x z hx hz; rw [k 20 (by omega)]; exact h1 x z hx hz
  · intro i hi
    by_cases e : i = j
    · subst e
      exact ⟨by rw [kj 0 (by omega)]; exact (h2 i hi).1, fun w => absurd w (by omega)⟩
    · rw [k (14 + i) (by omega)]; exact h2 i hi
  · intro i hi
    by_cases e : i = j
    · subst e
      exact tRow_congr (fun k _ hk => kj k hk) (h3 i hi)
    · rw [k (14 + i) (by omega)]; exact h3 i hi
  · rw [k 11 (by omega)]; exact h4
  · rw [k 11 (by omega)]; exact h5
  · rw [k 11 (by omega)]; exact h6
  · rw [k 11 (by omega)]; exact h7
  · intro i hi; rw [k (5 + i) (by omega)]; exact h8 i hi
  · intro i hi; rw [k (57 + i) (by omega)]; exact h9 i hi
end RCs
