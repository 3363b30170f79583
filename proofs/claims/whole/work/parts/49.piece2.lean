-- lk: 48
/-! ===== piece: both ===== -/
set_option maxHeartbeats 4000000 in
theorem rn_mpiece_x {np : Nat} {M : Nat → Nat → Int32} {L : Nat → Int64} {k : Nat} {w h dd g : Int32} (hu : okP w h dd g) (hc : M 21 3 = nI k) (h6 : k < 6) (d : Nat) : Rn (d + 1) mX6_piece [(.ref 21), (.int w), (.int h), (.int dd), (.int g)] (mk np M L) (some (.int (nI (k + 1)))) (mk np (mpM M k w h dd g) L) := by
  unfold Rn
  refine ev_s rfl ?_
  refine ev_ik (v := 1) rfl (by decide) ?_
  refine ev_bi (v := 12) rfl (by decide) ?_
  refine ev_cs (vs := [(.int w), (.int 1), (.int 12)]) (rest := []) (rv := (some (.int 1))) rfl rfl rfl rfl rfl (by have e9 := rn_within (hp := mk np M L) (x := w) (y := 1) (z := 12) d; rwa [zi_t hu.1] at e9) ?_
  show Ev _ _ 7 _ [(.int 1)] _ _
  refine ev_if rfl rfl ?_
  show Ev _ _ 10 _ _ _ _
  refine ev_s rfl ?_
  refine ev_ik (v := 1) rfl (by decide) ?_
  refine ev_bi (v := 12) rfl (by decide) ?_
  refine ev_cs (vs := [(.int h), (.int 1), (.int 12)]) (rest := []) (rv := (some (.int 1))) rfl rfl rfl rfl rfl (by have e9 := rn_within (hp := mk np M L) (x := h) (y := 1) (z := 12) d; rwa [zi_t hu.2.1] at e9) ?_
  show Ev _ _ 17 _ [(.int 1)] _ _
  refine ev_if rfl rfl ?_
  show Ev _ _ 20 _ _ _ _
  refine ev_s rfl ?_
  refine ev_ik (v := 1) rfl (by decide) ?_
  refine ev_bi (v := 12) rfl (by decide) ?_
  refine ev_cs (vs := [(.int dd), (.int 1), (.int 12)]) (rest := []) (rv := (some (.int 1))) rfl rfl rfl rfl rfl (by have e9 := rn_within (hp := mk np M L) (x := dd) (y := 1) (z := 12) d; rwa [zi_t hu.2.2.1] at e9) ?_
  show Ev _ _ 27 _ [(.int 1)] _ _
  refine ev_if rfl rfl ?_
  show Ev _ _ 30 _ _ _ _
  refine ev_s rfl ?_
  refine ev_ik (v := 1) rfl (by decide) ?_
  refine ev_si (v := 1000) rfl (by decide) ?_
  refine ev_cs (vs := [(.int g), (.int 1), (.int 1000)]) (rest := []) (rv := (some (.int 1))) rfl rfl rfl rfl rfl (by have e9 := rn_within (hp := mk np M L) (x := g) (y := 1) (z := 1000) d; rwa [zi_t hu.2.2.2] at e9) ?_
  show Ev _ _ 39 _ [(.int 1)] _ _
  refine ev_if rfl rfl ?_
  show Ev _ _ 45 _ _ _ _
  refine ev_s rfl ?_
  refine ev_gf (rd np M L (by omega) rfl) rfl rfl rfl ?_
  rw [hc]
  refine ev_bi (v := 6) rfl (by decide) ?_
  refine ev_ic rfl rfl ?_
  rw [show zbr .ne (nI k) 6 57 54 = 57 from if_neg (by rw [show (6 : Int32) = nI 6 from by decide, nI_eq (by omega) (by omega)]; omega)]
  refine ev_s rfl ?_
  refine ev_gf (rd np M L (by omega) rfl) rfl rfl rfl ?_
  refine ev_s rfl ?_
  refine ev_gf (rd np M L (by omega) rfl) rfl rfl rfl ?_
  rw [hc]
  refine ev_s rfl ?_
  refine ev_is (hp' := (mk np (up2 M 22 k w) L)) (rd np M L (by omega) rfl) rfl (zin_nI (by omega) (by decide)) (mk_setr rfl rfl rfl) ?_
  refine ev_s rfl ?_
  refine ev_gf (rd np (up2 M 22 k w) L (by omega) ((congrArg (fun r => cel np 21 r (L 21)) ((up2_n (by omega)).trans rfl)).trans rfl)) rfl rfl rfl ?_
  refine ev_s rfl ?_
  refine ev_gf (rd np (up2 M 22 k w) L (by omega) ((congrArg (fun r => cel np 21 r (L 21)) ((up2_n (by omega)).trans rfl)).trans rfl)) rfl rfl rfl ?_
  rw [hc]
  refine ev_s rfl ?_
  refine ev_is (hp' := (mk np (up2 (up2 M 22 k w) 23 k h) L)) (rd np (up2 M 22 k w) L (by omega) ((congrArg (fun r => cel np 23 r (L 23)) ((up2_n (by omega)).trans rfl)).trans rfl)) rfl (zin_nI (by omega) (by decide)) (mk_setr ((up2_n (by omega)).trans rfl) rfl rfl) ?_
  refine ev_s rfl ?_
  refine ev_gf (rd np (up2 (up2 M 22 k w) 23 k h) L (by omega) ((congrArg (fun r => cel np 21 r (L 21)) ((up2_n (by omega)).trans ((up2_n (by omega)).trans rfl))).trans rfl)) rfl rfl rfl ?_
  refine ev_s rfl ?_
  refine ev_gf (rd np (up2 (up2 M 22 k w) 23 k h) L (by omega) ((congrArg (fun r => cel np 21 r (L 21)) ((up2_n (by omega)).trans ((up2_n (by omega)).trans rfl))).trans rfl)) rfl rfl rfl ?_
  rw [hc]
  refine ev_s rfl ?_
  refine ev_is (hp' := (mk np (up2 (up2 (up2 M 22 k w) 23 k h) 24 k dd) L)) (rd np (up2 (up2 M 22 k w) 23 k h) L (by omega) ((congrArg (fun r => cel np 24 r (L 24)) ((up2_n (by omega)).trans ((up2_n (by omega)).trans rfl))).trans rfl)) rfl (zin_nI (by omega) (by decide)) (mk_setr ((up2_n (by omega)).trans ((up2_n (by omega)).trans rfl)) rfl rfl) ?_
  refine ev_s rfl ?_
  refine ev_gf (rd np (up2 (up2 (up2 M 22 k w) 23 k h) 24 k dd) L (by omega) ((congrArg (fun r => cel np 21 r (L 21)) ((up2_n (by omega)).trans ((up2_n (by omega)).trans ((up2_n (by omega)).trans rfl)))).trans rfl)) rfl rfl rfl ?_
  refine ev_s rfl ?_
  refine ev_gf (rd np (up2 (up2 (up2 M 22 k w) 23 k h) 24 k dd) L (by omega) ((congrArg (fun r => cel np 21 r (L 21)) ((up2_n (by omega)).trans ((up2_n (by omega)).trans ((up2_n (by omega)).trans rfl)))).trans rfl)) rfl rfl rfl ?_
  rw [hc]
  refine ev_s rfl ?_
  refine ev_is (hp' := (mk np (up2 (up2 (up2 (up2 M 22 k w) 23 k h) 24 k dd) 25 k g) L)) (rd np (up2 (up2 (up2 M 22 k w) 23 k h) 24 k dd) L (by omega) ((congrArg (fun r => cel np 25 r (L 25)) ((up2_n (by omega)).trans ((up2_n (by omega)).trans ((up2_n (by omega)).trans rfl)))).trans rfl)) rfl (zin_nI (by omega) (by decide)) (mk_setr ((up2_n (by omega)).trans ((up2_n (by omega)).trans ((up2_n (by omega)).trans rfl))) rfl rfl) ?_
  refine ev_s rfl ?_
  refine ev_gf (rd np (up2 (up2 (up2 (up2 M 22 k w) 23 k h) 24 k dd) 25 k g) L (by omega) ((congrArg (fun r => cel np 21 r (L 21)) ((up2_n (by omega)).trans ((up2_n (by omega)).trans ((up2_n (by omega)).trans ((up2_n (by omega)).trans rfl))))).trans rfl)) rfl rfl rfl ?_
  refine ev_s rfl ?_
  refine ev_gf (rd np (up2 (up2 (up2 (up2 M 22 k w) 23 k h) 24 k dd) 25 k g) L (by omega) ((congrArg (fun r => cel np 21 r (L 21)) ((up2_n (by omega)).trans ((up2_n (by omega)).trans ((up2_n (by omega)).trans ((up2_n (by omega)).trans rfl))))).trans rfl)) rfl rfl rfl ?_
  rw [hc]
  refine ev_ik (v := 0) rfl (by decide) ?_
  refine ev_is (hp' := (mk np (up2 (up2 (up2 (up2 (up2 M 22 k w) 23 k h) 24 k dd) 25 k g) 26 k 0) L)) (rd np (up2 (up2 (up2 (up2 M 22 k w) 23 k h) 24 k dd) 25 k g) L (by omega) ((congrArg (fun r => cel np 26 r (L 26)) ((up2_n (by omega)).trans ((up2_n (by omega)).trans ((up2_n (by omega)).trans ((up2_n (by omega)).trans rfl))))).trans rfl)) rfl (zin_nI (by omega) (by decide)) (mk_setr ((up2_n (by omega)).trans ((up2_n (by omega)).trans ((up2_n (by omega)).trans ((up2_n (by omega)).trans rfl)))) rfl rfl) ?_
  refine ev_s rfl ?_
  refine ev_gf (rd np (up2 (up2 (up2 (up2 (up2 M 22 k w) 23 k h) 24 k dd) 25 k g) 26 k 0) L (by omega) ((congrArg (fun r => cel np 21 r (L 21)) ((up2_n (by omega)).trans ((up2_n (by omega)).trans ((up2_n (by omega)).trans ((up2_n (by omega)).trans ((up2_n (by omega)).trans rfl)))))).trans rfl)) rfl rfl rfl ?_
  refine ev_s rfl ?_
  refine ev_gf (rd np (up2 (up2 (up2 (up2 (up2 M 22 k w) 23 k h) 24 k dd) 25 k g) 26 k 0) L (by omega) ((congrArg (fun r => cel np 21 r (L 21)) ((up2_n (by omega)).trans ((up2_n (by omega)).trans ((up2_n (by omega)).trans ((up2_n (by omega)).trans ((up2_n (by omega)).trans rfl)))))).trans rfl)) rfl rfl rfl ?_
  rw [hc]
  refine ev_ik (v := (-1)) rfl (by decide) ?_
  refine ev_is (hp' := (mk np (up2 (up2 (up2 (up2 (up2 (up2 M 22 k w) 23 k h) 24 k dd) 25 k g) 26 k 0) 27 k (-1)) L)) (rd np (up2 (up2 (up2 (up2 (up2 M 22 k w) 23 k h) 24 k dd) 25 k g) 26 k 0) L (by omega) ((congrArg (fun r => cel np 27 r (L 27)) ((up2_n (by omega)).trans ((up2_n (by omega)).trans ((up2_n (by omega)).trans ((up2_n (by omega)).trans ((up2_n (by omega)).trans rfl)))))).trans rfl)) rfl (zin_nI (by omega) (by decide)) (mk_setr ((up2_n (by omega)).trans ((up2_n (by omega)).trans ((up2_n (by omega)).trans ((up2_n (by omega)).trans ((up2_n (by omega)).trans rfl))))) rfl rfl) ?_
  refine ev_s rfl ?_
  refine ev_gf (rd np (up2 (up2 (up2 (up2 (up2 (up2 M 22 k w) 23 k h) 24 k dd) 25 k g) 26 k 0) 27 k (-1)) L (by omega) ((congrArg (fun r => cel np 21 r (L 21)) ((up2_n (by omega)).trans ((up2_n (by omega)).trans ((up2_n (by omega)).trans ((up2_n (by omega)).trans ((up2_n (by omega)).trans ((up2_n (by omega)).trans rfl))))))).trans rfl)) rfl rfl rfl ?_
  refine ev_s rfl ?_
  refine ev_gf (rd np (up2 (up2 (up2 (up2 (up2 (up2 M 22 k w) 23 k h) 24 k dd) 25 k g) 26 k 0) 27 k (-1)) L (by omega) ((congrArg (fun r => cel np 21 r (L 21)) ((up2_n (by omega)).trans ((up2_n (by omega)).trans ((up2_n (by omega)).trans ((up2_n (by omega)).trans ((up2_n (by omega)).trans ((up2_n (by omega)).trans rfl))))))).trans rfl)) rfl rfl rfl ?_
  rw [hc]
  refine ev_ik (v := 0) rfl (by decide) ?_
  refine ev_is (hp' := (mk np (up2 (up2 (up2 (up2 (up2 (up2 (up2 M 22 k w) 23 k h) 24 k dd) 25 k g) 26 k 0) 27 k (-1)) 28 k 0) L)) (rd np (up2 (up2 (up2 (up2 (up2 (up2 M 22 k w) 23 k h) 24 k dd) 25 k g) 26 k 0) 27 k (-1)) L (by omega) ((congrArg (fun r => cel np 28 r (L 28)) ((up2_n (by omega)).trans ((up2_n (by omega)).trans ((up2_n (by omega)).trans ((up2_n (by omega)).trans ((up2_n (by omega)).trans ((up2_n (by omega)).trans rfl))))))).trans rfl)) rfl (zin_nI (by omega) (by decide)) (mk_setr ((up2_n (by omega)).trans ((up2_n (by omega)).trans ((up2_n (by omega)).trans ((up2_n (by omega)).trans ((up2_n (by omega)).trans ((up2_n (by omega)).trans rfl)))))) rfl rfl) ?_
  iterate 2 refine ev_s rfl ?_
  refine ev_gf (rd np (up2 (up2 (up2 (up2 (up2 (up2 (up2 M 22 k w) 23 k h) 24 k dd) 25 k g) 26 k 0) 27 k (-1)) 28 k 0) L (by omega) ((congrArg (fun r => cel np 21 r (L 21)) ((up2_n (by omega)).trans ((up2_n (by omega)).trans ((up2_n (by omega)).trans ((up2_n (by omega)).trans ((up2_n (by omega)).trans ((up2_n (by omega)).trans ((up2_n (by omega)).trans rfl)))))))).trans rfl)) rfl rfl rfl ?_
  rw [hc]
  refine ev_ik (v := 1) rfl (by decide) ?_
  refine ev_s rfl ?_
  rw [nI_1 k]
  refine ev_pf (hp' := (mk np (up2 (up2 (up2 (up2 (up2 (up2 (up2 (up2 M 22 k w) 23 k h) 24 k dd) 25 k g) 26 k 0) 27 k (-1)) 28 k 0) 21 3 (nI (k + 1))) L)) (rd np (up2 (up2 (up2 (up2 (up2 (up2 (up2 M 22 k w) 23 k h) 24 k dd) 25 k g) 26 k 0) 27 k (-1)) 28 k 0) L (by omega) ((congrArg (fun r => cel np 21 r (L 21)) ((up2_n (by omega)).trans ((up2_n (by omega)).trans ((up2_n (by omega)).trans ((up2_n (by omega)).trans ((up2_n (by omega)).trans ((up2_n (by omega)).trans ((up2_n (by omega)).trans rfl)))))))).trans rfl)) rfl rfl (by simp) rfl rfl (mk_setr ((up2_n (by omega)).trans ((up2_n (by omega)).trans ((up2_n (by omega)).trans ((up2_n (by omega)).trans ((up2_n (by omega)).trans ((up2_n (by omega)).trans ((up2_n (by omega)).trans rfl))))))) rfl rfl) ?_
  refine ev_s rfl ?_
  refine ev_gf (rd np (up2 (up2 (up2 (up2 (up2 (up2 (up2 (up2 M 22 k w) 23 k h) 24 k dd) 25 k g) 26 k 0) 27 k (-1)) 28 k 0) 21 3 (nI (k + 1))) L (by omega) ((congrArg (fun r => cel np 21 r (L 21)) ((up2_s _ _ _ _).trans (congrArg (fun r => upd r 3 (nI (k + 1))) ((up2_n (by omega)).trans ((up2_n (by omega)).trans ((up2_n (by omega)).trans ((up2_n (by omega)).trans ((up2_n (by omega)).trans ((up2_n (by omega)).trans ((up2_n (by omega)).trans rfl)))))))))).trans rfl)) rfl rfl rfl ?_
  refine ev_ri rfl rfl ?_ ?_
  · rfl
  · rfl

def gp (g : Nat → Nat → Nat) (np w h dd wt : Nat) : Nat → Nat → Nat := fun r i => if r = 7 then np + 1 else if i = np ∧ r ≤ 6 then (if r = 0 then w else if r = 1 then h else if r = 2 then dd else if r = 3 then wt else 0) else g r i
section GP
variable {g : Nat → Nat → Nat} {np w h dd wt : Nat}
theorem gp_7 {i : Nat} : gp g np w h dd wt 7 i = np + 1 := if_pos rfl
theorem gp_8 {i : Nat} : gp g np w h dd wt 8 i = g 8 i := by unfold gp; rw [if_neg (by omega), if_neg (fun q => by omega)]
theorem gp_o {r i : Nat} (hr : r ≤ 6) (hi : i ≠ np) : gp g np w h dd wt r i = g r i := by unfold gp; rw [if_neg (by omega), if_neg (fun q => hi q.1)]
theorem gp_0 : gp g np w h dd wt 0 np = w := by unfold gp; rw [if_neg (by omega), if_pos ⟨rfl, by omega⟩, if_pos rfl]
theorem gp_1 : gp g np w h dd wt 1 np = h := by unfold gp; rw [if_neg (by omega), if_pos ⟨rfl, by omega⟩, if_neg (by omega), if_pos rfl]
theorem gp_2 : gp g np w h dd wt 2 np = dd := by unfold gp; rw [if_neg (by omega), if_pos ⟨rfl, by omega⟩, if_neg (by omega), if_neg (by omega), if_pos rfl]
theorem gp_3 : gp g np w h dd wt 3 np = wt := by unfold gp; rw [if_neg (by omega), if_pos ⟨rfl, by omega⟩, if_neg (by omega), if_neg (by omega), if_neg (by omega), if_pos rfl]
theorem gp_4 {r : Nat} (h4 : 4 ≤ r) (h6 : r ≤ 6) : gp g np w h dd wt r np = 0 := by unfold gp; rw [if_neg (by omega), if_pos ⟨rfl, h6⟩, if_neg (by omega), if_neg (by omega), if_neg (by omega), if_neg (by omega)]
end GP
theorem ls3 {P : Nat → Prop} (h0 : P 0) (h1 : P 1) (h2 : P 2) : ∀ k, k < 3 → P k := by
  intro k hk
  match k, hk with
  | 0, _ => exact h0
  | 1, _ => exact h1
  | 2, _ => exact h2
section INV
variable {np : Nat} {g B : Nat → Nat → Nat} {wq sq : Nat → Nat} {mt : Nat} {M : Nat → Nat → Int32} {L : Nat → Int64}
theorem num12 {x : Int32} (h : mW x 1 12) : ∃ v, (1 ≤ v ∧ v ≤ 12) ∧ x = nI v := by
  obtain ⟨j, h1, h2, -, -⟩ := num_of (n := x) (m := 12) (k := 12) rfl (by decide) h.1 h.2
  exact ⟨j + 1, ⟨by omega, by omega⟩, h2⟩
theorem num1000 {x : Int32} (h : mW x 1 1000) : ∃ v, (1 ≤ v ∧ v ≤ 1000) ∧ x = nI v := by
  obtain ⟨j, h1, h2, -, -⟩ := num_of (n := x) (m := 1000) (k := 1000) rfl (by decide) h.1 h.2
  exact ⟨j + 1, ⟨by omega, by omega⟩, h2⟩
theorem sm_piece (h : IV np g B wq sq mt M) (w hh dd wt : Int32) : SM mX5_piece mX6_piece [.int w, .int hh, .int dd, .int wt] np M L := by
  by_cases ok : okP w hh dd wt
  · rcases Nat.lt_or_ge np 6 with h6 | h6
    · have r1 := rn_piece_k (L := L) (M := M) ok h.2.1.1 h6 0
      obtain ⟨M1, hM1⟩ : ∃ M1, M1 = kpM M np w hh dd wt := ⟨_, rfl⟩
      rw [← hM1] at r1
      have e1 : ∀ q, q ≠ 57 + np → q ≠ 0 → M1 q = M q := fun q a b => by rw [hM1]; unfold kpM; rw [up2_n b, upR_n a]
      have r2 := rn_mpiece_x (np := np + 1) (L := L) (M := M1) ok (by rw [e1 21 (by omega) (by omega)]; exact h.m3) h6 0
      obtain ⟨M2, hM2⟩ : ∃ M2, M2 = mpM M1 np w hh dd wt := ⟨_, rfl⟩
      rw [← hM2] at r2
      have e2 : ∀ q, q < 21 ∨ 28 < q → M2 q = M1 q := fun q a => by
        rw [hM2]; unfold mpM
        rw [up2_n (by omega), up2_n (by omega), up2_n (by omega), up2_n (by omega), up2_n (by omega), up2_n (by omega), up2_n (by omega), up2_n (by omega)]
      have e0 : M1 0 = upd (M 0) 2 (nI (np + 1)) := by rw [hM1]; unfold kpM; rw [up2_s, upR_n (by omega)]
      have e57 : M1 (57 + np) = pcF w hh dd wt := by rw [hM1]; unfold kpM; rw [up2_n (by omega), upR_s]
      have e21 : M2 21 = upd (M 21) 3 (nI (np + 1)) := by
        rw [hM2]; unfold mpM
        rw [up2_s, up2_n (by omega), up2_n (by omega), up2_n (by omega), up2_n (by omega), up2_n (by omega), up2_n (by omega), up2_n (by omega), e1 21 (by omega) (by omega)]
      have e22 : M2 22 = upd (M 22) np w ∧ M2 23 = upd (M 23) np hh ∧ M2 24 = upd (M 24) np dd ∧ M2 25 = upd (M 25) np wt ∧ M2 26 = upd (M 26) np 0 ∧ M2 27 = upd (M 27) np (-1) ∧ M2 28 = upd (M 28) np 0 := by
        rw [hM2]; unfold mpM
        refine ⟨?_, ?_, ?_, ?_, ?_, ?_, ?_⟩
        · rw [up2_n (by omega), up2_n (by omega), up2_n (by omega), up2_n (by omega), up2_n (by omega), up2_n (by omega), up2_n (by omega), up2_s, e1 22 (by omega) (by omega)]
        · rw [up2_n (by omega), up2_n (by omega), up2_n (by omega), up2_n (by omega), up2_n (by omega), up2_n (by omega), up2_s, up2_n (by omega), e1 23 (by omega) (by omega)]
        · rw [up2_n (by omega), up2_n (by omega), up2_n (by omega), up2_n (by omega), up2_n (by omega), up2_s, up2_n (by omega), up2_n (by omega), e1 24 (by omega) (by omega)]
        · rw [up2_n (by omega), up2_n (by omega), up2_n (by omega), up2_n (by omega), up2_s, up2_n (by omega), up2_n (by omega), up2_n (by omega), e1 25 (by omega) (by omega)]
        · rw [up2_n (by omega), up2_n (by omega), up2_n (by omega), up2_s, up2_n (by omega), up2_n (by omega), up2_n (by omega), up2_n (by omega), e1 26 (by omega) (by omega)]
        · rw [up2_n (by omega), up2_n (by omega), up2_s, up2_n (by omega), up2_n (by omega), up2_n (by omega), up2_n (by omega), up2_n (by omega), e1 27 (by omega) (by omega)]
        · rw [up2_n (by omega), up2_s, up2_n (by omega), up2_n (by omega), up2_n (by omega), up2_n (by omega), up2_n (by omega), up2_n (by omega), e1 28 (by omega) (by omega)]
      obtain ⟨w', bw, rfl⟩ := num12 ok.1
      obtain ⟨h', bh, rfl⟩ := num12 ok.2.1
      obtain ⟨d', bd, rfl⟩ := num12 ok.2.2.1
      obtain ⟨t', bt, rfl⟩ := num1000 ok.2.2.2
      obtain ⟨hD, hC, hM, hS, hT, hB, hP⟩ := h
      refine ⟨_, np + 1, M1, M2, L, Rn_le r1 (by omega), Rn_le r2 (by omega), ⟨gp g np w' h' d' t', B, wq, sq, mt, ?_, ?_, ?_, ?_, ?_, ?_, ?_⟩, by omega⟩
      · refine ⟨by omega, gp_7, fun k hk => by rw [gp_8]; exact hD.2.2.1 k hk, fun i hi => ?_⟩
        by_cases e : i = np
        · subst e
          refine ⟨ls3 (by rw [gp_0]; exact bw) (by rw [gp_1]; exact bh) (by rw [gp_2]; exact bd), by rw [gp_3]; exact bt, by rw [gp_4 (by omega) (by omega)]; omega, by rw [gp_4 (by omega) (by omega)]; omega, by rw [gp_4 (by omega) (by omega)]; omega⟩
        · obtain ⟨d1, d2, d3, d4, d5⟩ := hD.2.2.2 i (by omega)
          refine ⟨fun k hk => by rw [gp_o (by omega) e]; exact d1 k hk, by rw [gp_o (by omega) e]; exact d2, by rw [gp_o (by omega) e]; exact d3, by rw [gp_o (by omega) e]; exact d4, by rw [gp_o (by omega) e]; exact d5⟩
      · refine ⟨by rw [e2 0 (by omega), e0, upd_s], fun k hk => by rw [e2 1 (by omega), e1 1 (by omega) (by omega), gp_8]; exact hC.2.1 k hk, fun i hi => ?_⟩
        rw [e2 (57 + i) (by omega)]
        by_cases e : i = np
        · subst e
          rw [e57]
          refine ⟨?_, ?_, ?_, ?_⟩
          · intro k hk
            match k, hk with
            | 0, _ => rw [gp_0]; rfl
            | 1, _ => rw [gp_1]; rfl
            | 2, _ => rw [gp_2]; rfl
            | 3, _ => rw [gp_3]; rfl
            | 4, _ => rw [gp_4 (by omega) (by omega)]; rfl
          · rw [gp_4 (by omega) (by omega)]; show (-1 : Int32) = lmI 0; decide
          · rw [gp_4 (by omega) (by omega)]; rfl
          · intro t ht
            show cHt 1 (nI t) ↔ _
            rw [cHt_1 (by omega)]
            unfold Tl
            rw [gp_4 (by omega) (by omega), show tmo (nI 0) = 1 from rfl]
            show _ ↔ t ∈ cIf (cMk _ 0) [] ([] ++ [0])
            rw [cIf_f (fun ⟨b, hb, _⟩ => by omega)]
            simp
        · obtain ⟨c1, c2, c3, c4⟩ := hC.2.2 i (by omega)
          rw [e1 (57 + i) (by omega) (by omega)]
          refine ⟨fun k hk => by rw [gp_o (by omega) e]; exact c1 k hk, by rw [gp_o (by omega) e]; exact c2, by rw [gp_o (by omega) e]; exact c3, fun t ht => ?_⟩
          rw [Tl_cg (g := g) (g' := gp g np w' h' d' t') (gp_o (by omega) e) (gp_o (by omega) e) (gp_o (by omega) e) (gp_o (by omega) e)]
          exact c4 t ht
      · refine ⟨?_, fun i hi => ?_⟩
        · rw [e21, upd_n (by omega), upd_n (by omega), upd_n (by omega), upd_s, gp_8, gp_8, gp_8, gp_7]
          exact ⟨hM.1.1, hM.1.2.1, hM.1.2.2.1, rfl⟩
        · rw [gp_7] at hi
          obtain ⟨x22, x23, x24, x25, x26, x27, x28⟩ := e22
          by_cases e : i = np
          · subst e
            refine ⟨ls3 ?_ ?_ ?_, ?_, ?_, ?_, ?_⟩
            · show M2 22 i = _; rw [x22, upd_s, gp_0]
            · show M2 23 i = _; rw [x23, upd_s, gp_1]
            · show M2 24 i = _; rw [x24, upd_s, gp_2]
            · rw [x25, upd_s, gp_3]
            · rw [x26, upd_s, gp_4 (by omega) (by omega)]; rfl
            · rw [x27, upd_s, gp_4 (by omega) (by omega)]; decide
            · rw [x28, upd_s, gp_4 (by omega) (by omega)]; rfl
          · obtain ⟨m1, m2, m3, m4, m5⟩ := hM.2 i (by rw [hD.2.1]; omega)
            refine ⟨ls3 ?_ ?_ ?_, ?_, ?_, ?_, ?_⟩
            · show M2 22 i = _; rw [x22, upd_n e, gp_o (by omega) e]; exact m1 0 (by omega)
            · show M2 23 i = _; rw [x23, upd_n e, gp_o (by omega) e]; exact m1 1 (by omega)
            · show M2 24 i = _; rw [x24, upd_n e, gp_o (by omega) e]; exact m1 2 (by omega)
            · rw [x25, upd_n e, gp_o (by omega) e]; exact m2
            · rw [x26, upd_n e, gp_o (by omega) e]; exact m3
            · rw [x27, upd_n e, gp_o (by omega) e]; exact m4
            · rw [x28, upd_n e, gp_o (by omega) e]; exact m5
      · exact hS.cg (by rw [e21, upd_n (by omega)]) (by rw [e2 0 (by omega), e0, upd_n (by omega)]) (by rw [e2 11 (by omega), e1 11 (by omega) (by omega)]) (by rw [e21, upd_n (by omega)]) (by rw [e21, upd_n (by omega)])
      · exact hT.cg (fun q a b => by rw [e2 q (by omega), e1 q (by omega) (by omega)])
      · have hB' := hB.cg (g' := gp g np w' h' d' t') (fun k _ => gp_8)
        exact ⟨fun i => ⟨(hB'.1 i).1, fun e => ⟨by have := ((hB'.1 i).2 e).1; omega, ((hB'.1 i).2 e).2⟩⟩, hB'.2⟩
      · exact hP.cg (fun q a => by rw [e2 _ (by omega), e1 _ (by omega) (by omega)]) (fun q a b => by rw [e2 _ (by omega), e1 _ (by omega) (by omega)])
    · have e6 : np = 6 := by have := h.n6; omega
      have r1 := rn_piece_6 (L := L) (M := M) ok h.2.1.1 e6 0
      have r2 := rn_mpiece_6 (L := L) (M := M) (w := w) (h := hh) (dd := dd) (g := wt) h.n6 h.m3 e6 0
      rw [cIf_t ok, cIf_t ok, if_pos e6, if_pos e6] at r2
      exact SM_0 r1 r2 (by omega) (by omega) h.x
  · have r1 := rn_piece_o (np := np) (L := L) (M := M) ok 0
    by_cases e6 : np = 6
    · have r2 := rn_mpiece_6 (L := L) (M := M) (w := w) (h := hh) (dd := dd) (g := wt) h.n6 h.m3 e6 0
      rw [cIf_f ok, cIf_f ok] at r2
      exact SM_0 r1 r2 (by omega) (by omega) h.x
    · have r2 := rn_mpiece_k (L := L) (M := M) (w := w) (h := hh) (dd := dd) (g := wt) h.n6 h.m3 e6 0
      rw [cIf_f ok, cIf_f ok] at r2
      exact SM_0 r1 r2 (by omega) (by omega) h.x
end INV

