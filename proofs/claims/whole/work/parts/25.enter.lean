/-! ===== LoadSpaceModel: enter ===== -/
def rwM (M : Nat → Nat → Int32) (H : Nat) (r : Nat → Int32) : Nat → Nat → Int32 := fun h => if h = H then r else M h
theorem rwM_s (M : Nat → Nat → Int32) (H : Nat) (r : Nat → Int32) : rwM M H r H = r := if_pos rfl
theorem rwM_n {M : Nat → Nat → Int32} {H h : Nat} {r : Nat → Int32} (hn : h ≠ H) : rwM M H r h = M h := if_neg hn
theorem rwM_up (M : Nat → Nat → Int32) (H : Nat) (r : Nat → Int32) (k : Nat) (v : Int32) : up2 (rwM M H r) H k v = rwM M H (upd r k v) := by
  funext h
  by_cases e : h = H
  · subst e; rw [up2_s, rwM_s, rwM_s]
  · rw [up2_n e, rwM_n e, rwM_n e]
theorem rwM_0 (M : Nat → Nat → Int32) (H : Nat) : rwM M H (M H) = M := by
  funext h
  by_cases e : h = H
  · subst e; rw [rwM_s]
  · rw [rwM_n e]
theorem mk_setw {np : Nat} {M : Nat → Nat → Int32} {L : Nat → Int64} {h k : Nat} {r : Nat → Int32} {v : Int32} {c c' : va_E} (hl : cel np h (upd r k v) (L h) = c') (hc : c = c') : (mk np (rwM M h r) L).set h c = mk np (rwM M h (upd r k v)) L := by
  rw [mk_setr (rwM_s M h r) hl hc, rwM_up]
/-- the first place from k on (n are left) that isn't below v -/
def enK (r : Nat → Int32) (fr : Nat) (v : Int32) : Nat → Nat → Nat
  | 0, k => k
  | m + 1, k => if r (fr + k) < v then enK r fr v m (k + 1) else k
theorem enK_le (r : Nat → Int32) (fr : Nat) (v : Int32) : ∀ m k, k ≤ enK r fr v m k ∧ enK r fr v m k ≤ k + m
  | 0, k => ⟨Nat.le_refl _, Nat.le_refl _⟩
  | m + 1, k => by
    unfold enK
    split
    · have := enK_le r fr v m (k + 1)
      omega
    · omega
/-- from i on moved up by one -/
def shR (r : Nat → Int32) (fr i n : Nat) : Nat → Int32 := fun j => if fr + i < j ∧ j ≤ fr + n then r (j - 1) else r j
theorem shR_n (r : Nat → Int32) (fr n : Nat) : shR r fr n n = r := by
  funext j
  unfold shR
  exact if_neg (by omega)
theorem shR_at {r : Nat → Int32} {fr i n : Nat} : shR r fr (i + 1) n (fr + i) = r (fr + i) := if_neg (by omega)
theorem shR_up {r : Nat → Int32} {fr i n : Nat} (hi : i < n) : upd (shR r fr (i + 1) n) (fr + (i + 1)) (shR r fr (i + 1) n (fr + i)) = shR r fr i n := by
  rw [shR_at]
  funext j
  by_cases h : j = fr + (i + 1)
  · subst h
    rw [upd_s]
    unfold shR
    rw [if_pos (by omega)]
    congr 1
  · rw [upd_n h]
    unfold shR
    by_cases h2 : fr + (i + 1) < j ∧ j ≤ fr + n
    · rw [if_pos h2, if_pos (by omega)]
    · rw [if_neg h2, if_neg (by omega)]
/-- the row behind enter, and how many it holds -/
def enR (r : Nat → Int32) (fr n : Nat) (v : Int32) : (Nat → Int32) × Nat := if enK r fr v n 0 < n ∧ r (fr + enK r fr v n 0) = v then (r, n) else (upd (shR r fr (enK r fr v n 0) n) (fr + enK r fr v n 0) v, n + 1)
theorem zle_t {i n t f : Nat} {x y : Int32} (hx : x = nI i) (hy : y = nI n) (h : i ≤ n) (hn : n < 2 ^ 31) : zbr .le x y t f = t := by
  subst hx; subst hy; exact if_pos (nI_le h hn)
theorem zle_f {i n t f : Nat} {x y : Int32} (hx : x = nI i) (hy : y = nI n) (h : n < i) (hn : i < 2 ^ 31) : zbr .le x y t f = f := by
  subst hx; subst hy; exact if_neg (nI_ge h hn)

set_option maxHeartbeats 4000000 in
theorem lp_es53 {np : Nat} {M : Nat → Nat → Int32} {L : Nat → Int64} {fr n kk : Nat} {v : Int32} (hfr : fr + n < 42) (hkn : kk ≤ n) (d : Nat) : ∀ j i, i = kk + j → i ≤ n → Ev d mX6_enter 46 [some (.ref 53), some (.int (nI fr)), some (.int (nI n)), some (.int v), some (.int (nI kk)), some (.int (nI i))] [] (mk np (rwM M 53 (shR (M 53) fr i n)) L) (Qr mX6_enter (some (.int (nI (n + 1)))) (mk np (rwM M 53 (upd (shR (M 53) fr kk n) (fr + kk) v)) L)) := by
  intro j
  induction j with
  | zero =>
    intro i hij hin
    obtain rfl : i = kk := by omega
    iterate 2 refine ev_s rfl ?_
    refine ev_ic rfl rfl ?_
    rw [show zbr .le (nI i) (nI i) 73 53 = 73 from zle_t (i := i) (n := i) rfl rfl (by omega) (by omega)]
    iterate 5 refine ev_s rfl ?_
    refine ev_is (hp' := (mk np (rwM M 53 (upd (shR (M 53) fr i n) (fr + i) v)) L)) (rd np (rwM M 53 (shR (M 53) fr i n)) L (by omega) ((congrArg (fun r => cel np 53 r (L 53)) (rwM_s _ _ _)).trans rfl)) rfl (by rw [nI_add]; exact zin_nI (by omega) (by decide)) (mk_setw rfl rfl) ?_
    refine ev_s rfl ?_
    refine ev_ik (v := 1) rfl (by decide) ?_
    refine ev_s rfl ?_
    refine ev_ri rfl rfl ?_ ?_
    · exact some_i (nI_1 n)
    · rfl
  | succ j ih =>
    intro i0 hij hin
    obtain ⟨i, rfl⟩ : ∃ i, i0 = i + 1 := ⟨i0 - 1, by omega⟩
    iterate 2 refine ev_s rfl ?_
    refine ev_ic rfl rfl ?_
    rw [show zbr .le (nI (i + 1)) (nI kk) 73 53 = 53 from zle_f (i := i + 1) (n := kk) rfl rfl (by omega) (by omega)]
    iterate 8 refine ev_s rfl ?_
    refine ev_ik (v := 1) rfl (by decide) ?_
    refine ev_s rfl ?_
    refine ev_ia (rd np (rwM M 53 (shR (M 53) fr (i + 1) n)) L (by omega) ((congrArg (fun r => cel np 53 r (L 53)) (rwM_s _ _ _)).trans rfl)) rfl (by rw [nI_add, ← Nat.add_assoc, nI_pred]; exact zin_nI (by omega) (by decide)) ?_
    refine ev_is (hp' := (mk np (rwM M 53 (upd (shR (M 53) fr (i + 1) n) (fr + (i + 1)) ((shR (M 53) fr (i + 1) n) (fr + i)))) L)) (rd np (rwM M 53 (shR (M 53) fr (i + 1) n)) L (by omega) ((congrArg (fun r => cel np 53 r (L 53)) (rwM_s _ _ _)).trans rfl)) rfl (by rw [nI_add]; exact zin_nI (by omega) (by decide)) (mk_setw rfl rfl) ?_
    refine ev_inc (y := (-1)) (v := (nI (i + 1)) + (-1)) (ls' := [some (.ref 53), some (.int (nI fr)), some (.int (nI n)), some (.int v), some (.int (nI kk)), some (.int ((nI (i + 1)) + (-1)))]) rfl rfl (by decide) rfl rfl ?_
    refine ev_s rfl ?_
    rw [pk_m1 i, shR_up (by omega)]
    exact ih i (by omega) (by omega)
set_option maxHeartbeats 4000000 in
theorem lp_ek53 {np : Nat} {M : Nat → Nat → Int32} {L : Nat → Int64} {fr n : Nat} {v : Int32} (hfr : fr + n < 42) (d : Nat) : ∀ j k, k + j = n → enK (M 53) fr v n 0 = enK (M 53) fr v j k → Ev d mX6_enter 3 [some (.ref 53), some (.int (nI fr)), some (.int (nI n)), some (.int v), some (.int (nI k)), none] [] (mk np M L) (Qr mX6_enter (some (.int (nI (enR (M 53) fr n v).2))) (mk np (rwM M 53 (enR (M 53) fr n v).1) L)) := by
  intro j
  induction j with
  | zero =>
    intro k hkj hE
    obtain rfl : k = n := by omega
    have hE2 : enK (M 53) fr v k 0 = k := hE
    have hR : enR (M 53) fr k v = (upd (shR (M 53) fr k k) (fr + k) v, k + 1) := by unfold enR; rw [hE2, if_neg (by omega)]
    rw [hR]
    iterate 2 refine ev_s rfl ?_
    refine ev_ic rfl rfl ?_
    rw [show zbr .ge (nI k) (nI k) 25 9 = 25 from zge_t (n := k) rfl (by omega) (by omega)]
    iterate 2 refine ev_s rfl ?_
    refine ev_ic rfl rfl ?_
    rw [show zbr .ge (nI k) (nI k) 43 31 = 43 from zge_t (n := k) rfl (by omega) (by omega)]
    refine ev_s rfl ?_
    refine ev_s (ls' := [some (.ref 53), some (.int (nI fr)), some (.int (nI k)), some (.int v), some (.int (nI k)), some (.int (nI k))]) rfl ?_
    have e9 := lp_es53 (np := np) (M := M) (L := L) (v := v) (kk := k) hfr (Nat.le_refl _) d 0 k (by omega) (by omega)
    rw [shR_n (M 53) fr k, rwM_0] at e9
    rw [shR_n (M 53) fr k]
    exact e9
  | succ j ih =>
    intro k hkj hE
    have hkn : k < n := by omega
    rw [show enK (M 53) fr v (j + 1) k = if M 53 (fr + k) < v then enK (M 53) fr v j (k + 1) else k from rfl] at hE
    iterate 2 refine ev_s rfl ?_
    refine ev_ic rfl rfl ?_
    rw [show zbr .ge (nI k) (nI n) 25 9 = 9 from zge_f (n := n) rfl hkn (by omega)]
    iterate 4 refine ev_s rfl ?_
    refine ev_ia (rd np M L (by omega) rfl) rfl (by rw [nI_add]; exact zin_nI (by omega) (by decide)) ?_
    refine ev_s rfl ?_
    refine ev_ic rfl rfl (ev_br (zb_ge _ _ _ _) (fun c1 => ?_) (fun c1 => ?_))
    · show Ev _ _ 25 _ _ _ _
      iterate 2 refine ev_s rfl ?_
      refine ev_ic rfl rfl ?_
      rw [show zbr .ge (nI k) (nI n) 43 31 = 31 from zge_f (n := n) rfl hkn (by omega)]
      iterate 4 refine ev_s rfl ?_
      refine ev_ia (rd np M L (by omega) rfl) rfl (by rw [nI_add]; exact zin_nI (by omega) (by decide)) ?_
      refine ev_s rfl ?_
      refine ev_ic rfl rfl (ev_bn (fun c2 => ?_) (fun c2 => ?_))
      · show Ev _ _ 43 _ _ _ _
        refine ev_s rfl ?_
        refine ev_s (ls' := [some (.ref 53), some (.int (nI fr)), some (.int (nI n)), some (.int v), some (.int (nI k)), some (.int (nI n))]) rfl ?_
        rw [if_neg (Int32.not_lt.mpr c1)] at hE
        have hR : enR (M 53) fr n v = (upd (shR (M 53) fr k n) (fr + k) v, n + 1) := by unfold enR; rw [hE, if_neg (fun q => c2 q.2)]
        rw [hR]
        have e9 := lp_es53 (np := np) (M := M) (L := L) (v := v) (kk := k) hfr (by omega) d (n - k) n (by omega) (by omega)
        rw [shR_n (M 53) fr n, rwM_0] at e9
        exact e9
      · show Ev _ _ 41 _ _ _ _
        refine ev_s rfl ?_
        refine ev_ri rfl rfl ?_ ?_
        · rw [if_neg (Int32.not_lt.mpr c1)] at hE; rw [show enR (M 53) fr n v = (M 53, n) from by unfold enR; rw [hE, if_pos ⟨hkn, c2⟩]]
        · rw [if_neg (Int32.not_lt.mpr c1)] at hE; rw [show enR (M 53) fr n v = (M 53, n) from by unfold enR; rw [hE, if_pos ⟨hkn, c2⟩], rwM_0]
    · show Ev _ _ 19 _ _ _ _
      refine ev_inc (y := 1) (v := nI (k + 1)) (ls' := [some (.ref 53), some (.int (nI fr)), some (.int (nI n)), some (.int v), some (.int (nI (k + 1))), none]) rfl rfl (by decide) (nI_1 _) rfl ?_
      refine ev_s rfl ?_
      rw [if_pos (Int32.not_le.mp c1)] at hE
      exact ih (k + 1) (by omega) hE
set_option maxHeartbeats 4000000 in
theorem rn_enter53 {np : Nat} {M : Nat → Nat → Int32} {L : Nat → Int64} {fr n : Nat} {v : Int32} (hfr : fr + n < 42) (d : Nat) : Rn (d) mX6_enter [(.ref 53), (.int (nI fr)), (.int (nI n)), (.int v)] (mk np M L) (some (.int (nI (enR (M 53) fr n v).2))) (mk np (rwM M 53 (enR (M 53) fr n v).1) L) := by
  unfold Rn
  refine ev_ik (v := 0) rfl (by decide) ?_
  refine ev_s (ls' := [some (.ref 53), some (.int (nI fr)), some (.int (nI n)), some (.int v), some (.int 0), none]) rfl ?_
  exact lp_ek53 hfr d n 0 (by omega) rfl
set_option maxHeartbeats 4000000 in
theorem lp_es54 {np : Nat} {M : Nat → Nat → Int32} {L : Nat → Int64} {fr n kk : Nat} {v : Int32} (hfr : fr + n < 42) (hkn : kk ≤ n) (d : Nat) : ∀ j i, i = kk + j → i ≤ n → Ev d mX6_enter 46 [some (.ref 54), some (.int (nI fr)), some (.int (nI n)), some (.int v), some (.int (nI kk)), some (.int (nI i))] [] (mk np (rwM M 54 (shR (M 54) fr i n)) L) (Qr mX6_enter (some (.int (nI (n + 1)))) (mk np (rwM M 54 (upd (shR (M 54) fr kk n) (fr + kk) v)) L)) := by
  intro j
  induction j with
  | zero =>
    intro i hij hin
    obtain rfl : i = kk := by omega
    iterate 2 refine ev_s rfl ?_
    refine ev_ic rfl rfl ?_
    rw [show zbr .le (nI i) (nI i) 73 53 = 73 from zle_t (i := i) (n := i) rfl rfl (by omega) (by omega)]
    iterate 5 refine ev_s rfl ?_
    refine ev_is (hp' := (mk np (rwM M 54 (upd (shR (M 54) fr i n) (fr + i) v)) L)) (rd np (rwM M 54 (shR (M 54) fr i n)) L (by omega) ((congrArg (fun r => cel np 54 r (L 54)) (rwM_s _ _ _)).trans rfl)) rfl (by rw [nI_add]; exact zin_nI (by omega) (by decide)) (mk_setw rfl rfl) ?_
    refine ev_s rfl ?_
    refine ev_ik (v := 1) rfl (by decide) ?_
    refine ev_s rfl ?_
    refine ev_ri rfl rfl ?_ ?_
    · exact some_i (nI_1 n)
    · rfl
  | succ j ih =>
    intro i0 hij hin
    obtain ⟨i, rfl⟩ : ∃ i, i0 = i + 1 := ⟨i0 - 1, by omega⟩
    iterate 2 refine ev_s rfl ?_
    refine ev_ic rfl rfl ?_
    rw [show zbr .le (nI (i + 1)) (nI kk) 73 53 = 53 from zle_f (i := i + 1) (n := kk) rfl rfl (by omega) (by omega)]
    iterate 8 refine ev_s rfl ?_
    refine ev_ik (v := 1) rfl (by decide) ?_
    refine ev_s rfl ?_
    refine ev_ia (rd np (rwM M 54 (shR (M 54) fr (i + 1) n)) L (by omega) ((congrArg (fun r => cel np 54 r (L 54)) (rwM_s _ _ _)).trans rfl)) rfl (by rw [nI_add, ← Nat.add_assoc, nI_pred]; exact zin_nI (by omega) (by decide)) ?_
    refine ev_is (hp' := (mk np (rwM M 54 (upd (shR (M 54) fr (i + 1) n) (fr + (i + 1)) ((shR (M 54) fr (i + 1) n) (fr + i)))) L)) (rd np (rwM M 54 (shR (M 54) fr (i + 1) n)) L (by omega) ((congrArg (fun r => cel np 54 r (L 54)) (rwM_s _ _ _)).trans rfl)) rfl (by rw [nI_add]; exact zin_nI (by omega) (by decide)) (mk_setw rfl rfl) ?_
    refine ev_inc (y := (-1)) (v := (nI (i + 1)) + (-1)) (ls' := [some (.ref 54), some (.int (nI fr)), some (.int (nI n)), some (.int v), some (.int (nI kk)), some (.int ((nI (i + 1)) + (-1)))]) rfl rfl (by decide) rfl rfl ?_
    refine ev_s rfl ?_
    rw [pk_m1 i, shR_up (by omega)]
    exact ih i (by omega) (by omega)
set_option maxHeartbeats 4000000 in
theorem lp_ek54 {np : Nat} {M : Nat → Nat → Int32} {L : Nat → Int64} {fr n : Nat} {v : Int32} (hfr : fr + n < 42) (d : Nat) : ∀ j k, k + j = n → enK (M 54) fr v n 0 = enK (M 54) fr v j k → Ev d mX6_enter 3 [some (.ref 54), some (.int (nI fr)), some (.int (nI n)), some (.int v), some (.int (nI k)), none] [] (mk np M L) (Qr mX6_enter (some (.int (nI (enR (M 54) fr n v).2))) (mk np (rwM M 54 (enR (M 54) fr n v).1) L)) := by
  intro j
  induction j with
  | zero =>
    intro k hkj hE
    obtain rfl : k = n := by omega
    have hE2 : enK (M 54) fr v k 0 = k := hE
    have hR : enR (M 54) fr k v = (upd (shR (M 54) fr k k) (fr + k) v, k + 1) := by unfold enR; rw [hE2, if_neg (by omega)]
    rw [hR]
    iterate 2 refine ev_s rfl ?_
    refine ev_ic rfl rfl ?_
    rw [show zbr .ge (nI k) (nI k) 25 9 = 25 from zge_t (n := k) rfl (by omega) (by omega)]
    iterate 2 refine ev_s rfl ?_
    refine ev_ic rfl rfl ?_
    rw [show zbr .ge (nI k) (nI k) 43 31 = 43 from zge_t (n := k) rfl (by omega) (by omega)]
    refine ev_s rfl ?_
    refine ev_s (ls' := [some (.ref 54), some (.int (nI fr)), some (.int (nI k)), some (.int v), some (.int (nI k)), some (.int (nI k))]) rfl ?_
    have e9 := lp_es54 (np := np) (M := M) (L := L) (v := v) (kk := k) hfr (Nat.le_refl _) d 0 k (by omega) (by omega)
    rw [shR_n (M 54) fr k, rwM_0] at e9
    rw [shR_n (M 54) fr k]
    exact e9
  | succ j ih =>
    intro k hkj hE
    have hkn : k < n := by omega
    rw [show enK (M 54) fr v (j + 1) k = if M 54 (fr + k) < v then enK (M 54) fr v j (k + 1) else k from rfl] at hE
    iterate 2 refine ev_s rfl ?_
    refine ev_ic rfl rfl ?_
    rw [show zbr .ge (nI k) (nI n) 25 9 = 9 from zge_f (n := n) rfl hkn (by omega)]
    iterate 4 refine ev_s rfl ?_
    refine ev_ia (rd np M L (by omega) rfl) rfl (by rw [nI_add]; exact zin_nI (by omega) (by decide)) ?_
    refine ev_s rfl ?_
    refine ev_ic rfl rfl (ev_br (zb_ge _ _ _ _) (fun c1 => ?_) (fun c1 => ?_))
    · show Ev _ _ 25 _ _ _ _
      iterate 2 refine ev_s rfl ?_
      refine ev_ic rfl rfl ?_
      rw [show zbr .ge (nI k) (nI n) 43 31 = 31 from zge_f (n := n) rfl hkn (by omega)]
      iterate 4 refine ev_s rfl ?_
      refine ev_ia (rd np M L (by omega) rfl) rfl (by rw [nI_add]; exact zin_nI (by omega) (by decide)) ?_
      refine ev_s rfl ?_
      refine ev_ic rfl rfl (ev_bn (fun c2 => ?_) (fun c2 => ?_))
      · show Ev _ _ 43 _ _ _ _
        refine ev_s rfl ?_
        refine ev_s (ls' := [some (.ref 54), some (.int (nI fr)), some (.int (nI n)), some (.int v), some (.int (nI k)), some (.int (nI n))]) rfl ?_
        rw [if_neg (Int32.not_lt.mpr c1)] at hE
        have hR : enR (M 54) fr n v = (upd (shR (M 54) fr k n) (fr + k) v, n + 1) := by unfold enR; rw [hE, if_neg (fun q => c2 q.2)]
        rw [hR]
        have e9 := lp_es54 (np := np) (M := M) (L := L) (v := v) (kk := k) hfr (by omega) d (n - k) n (by omega) (by omega)
        rw [shR_n (M 54) fr n, rwM_0] at e9
        exact e9
      · show Ev _ _ 41 _ _ _ _
        refine ev_s rfl ?_
        refine ev_ri rfl rfl ?_ ?_
        · rw [if_neg (Int32.not_lt.mpr c1)] at hE; rw [show enR (M 54) fr n v = (M 54, n) from by unfold enR; rw [hE, if_pos ⟨hkn, c2⟩]]
        · rw [if_neg (Int32.not_lt.mpr c1)] at hE; rw [show enR (M 54) fr n v = (M 54, n) from by unfold enR; rw [hE, if_pos ⟨hkn, c2⟩], rwM_0]
    · show Ev _ _ 19 _ _ _ _
      refine ev_inc (y := 1) (v := nI (k + 1)) (ls' := [some (.ref 54), some (.int (nI fr)), some (.int (nI n)), some (.int v), some (.int (nI (k + 1))), none]) rfl rfl (by decide) (nI_1 _) rfl ?_
      refine ev_s rfl ?_
      rw [if_pos (Int32.not_le.mp c1)] at hE
      exact ih (k + 1) (by omega) hE
set_option maxHeartbeats 4000000 in
theorem rn_enter54 {np : Nat} {M : Nat → Nat → Int32} {L : Nat → Int64} {fr n : Nat} {v : Int32} (hfr : fr + n < 42) (d : Nat) : Rn (d) mX6_enter [(.ref 54), (.int (nI fr)), (.int (nI n)), (.int v)] (mk np M L) (some (.int (nI (enR (M 54) fr n v).2))) (mk np (rwM M 54 (enR (M 54) fr n v).1) L) := by
  unfold Rn
  refine ev_ik (v := 0) rfl (by decide) ?_
  refine ev_s (ls' := [some (.ref 54), some (.int (nI fr)), some (.int (nI n)), some (.int v), some (.int 0), none]) rfl ?_
  exact lp_ek54 hfr d n 0 (by omega) rfl
set_option maxHeartbeats 4000000 in
theorem lp_es55 {np : Nat} {M : Nat → Nat → Int32} {L : Nat → Int64} {fr n kk : Nat} {v : Int32} (hfr : fr + n < 42) (hkn : kk ≤ n) (d : Nat) : ∀ j i, i = kk + j → i ≤ n → Ev d mX6_enter 46 [some (.ref 55), some (.int (nI fr)), some (.int (nI n)), some (.int v), some (.int (nI kk)), some (.int (nI i))] [] (mk np (rwM M 55 (shR (M 55) fr i n)) L) (Qr mX6_enter (some (.int (nI (n + 1)))) (mk np (rwM M 55 (upd (shR (M 55) fr kk n) (fr + kk) v)) L)) := by
  intro j
  induction j with
  | zero =>
    intro i hij hin
    obtain rfl : i = kk := by omega
    iterate 2 refine ev_s rfl ?_
    refine ev_ic rfl rfl ?_
    rw [show zbr .le (nI i) (nI i) 73 53 = 73 from zle_t (i := i) (n := i) rfl rfl (by omega) (by omega)]
    iterate 5 refine ev_s rfl ?_
    refine ev_is (hp' := (mk np (rwM M 55 (upd (shR (M 55) fr i n) (fr + i) v)) L)) (rd np (rwM M 55 (shR (M 55) fr i n)) L (by omega) ((congrArg (fun r => cel np 55 r (L 55)) (rwM_s _ _ _)).trans rfl)) rfl (by rw [nI_add]; exact zin_nI (by omega) (by decide)) (mk_setw rfl rfl) ?_
    refine ev_s rfl ?_
    refine ev_ik (v := 1) rfl (by decide) ?_
    refine ev_s rfl ?_
    refine ev_ri rfl rfl ?_ ?_
    · exact some_i (nI_1 n)
    · rfl
  | succ j ih =>
    intro i0 hij hin
    obtain ⟨i, rfl⟩ : ∃ i, i0 = i + 1 := ⟨i0 - 1, by omega⟩
    iterate 2 refine ev_s rfl ?_
    refine ev_ic rfl rfl ?_
    rw [show zbr .le (nI (i + 1)) (nI kk) 73 53 = 53 from zle_f (i := i + 1) (n := kk) rfl rfl (by omega) (by omega)]
    iterate 8 refine ev_s rfl ?_
    refine ev_ik (v := 1) rfl (by decide) ?_
    refine ev_s rfl ?_
    refine ev_ia (rd np (rwM M 55 (shR (M 55) fr (i + 1) n)) L (by omega) ((congrArg (fun r => cel np 55 r (L 55)) (rwM_s _ _ _)).trans rfl)) rfl (by rw [nI_add, ← Nat.add_assoc, nI_pred]; exact zin_nI (by omega) (by decide)) ?_
    refine ev_is (hp' := (mk np (rwM M 55 (upd (shR (M 55) fr (i + 1) n) (fr + (i + 1)) ((shR (M 55) fr (i + 1) n) (fr + i)))) L)) (rd np (rwM M 55 (shR (M 55) fr (i + 1) n)) L (by omega) ((congrArg (fun r => cel np 55 r (L 55)) (rwM_s _ _ _)).trans rfl)) rfl (by rw [nI_add]; exact zin_nI (by omega) (by decide)) (mk_setw rfl rfl) ?_
    refine ev_inc (y := (-1)) (v := (nI (i + 1)) + (-1)) (ls' := [some (.ref 55), some (.int (nI fr)), some (.int (nI n)), some (.int v), some (.int (nI kk)), some (.int ((nI (i + 1)) + (-1)))]) rfl rfl (by decide) rfl rfl ?_
    refine ev_s rfl ?_
    rw [pk_m1 i, shR_up (by omega)]
    exact ih i (by omega) (by omega)
set_option maxHeartbeats 4000000 in
theorem lp_ek55 {np : Nat} {M : Nat → Nat → Int32} {L : Nat → Int64} {fr n : Nat} {v : Int32} (hfr : fr + n < 42) (d : Nat) : ∀ j k, k + j = n → enK (M 55) fr v n 0 = enK (M 55) fr v j k → Ev d mX6_enter 3 [some (.ref 55), some (.int (nI fr)), some (.int (nI n)), some (.int v), some (.int (nI k)), none] [] (mk np M L) (Qr mX6_enter (some (.int (nI (enR (M 55) fr n v).2))) (mk np (rwM M 55 (enR (M 55) fr n v).1) L)) := by
  intro j
  induction j with
  | zero =>
    intro k hkj hE
    obtain rfl : k = n := by omega
    have hE2 : enK (M 55) fr v k 0 = k := hE
    have hR : enR (M 55) fr k v = (upd (shR (M 55) fr k k) (fr + k) v, k + 1) := by unfold enR; rw [hE2, if_neg (by omega)]
    rw [hR]
    iterate 2 refine ev_s rfl ?_
    refine ev_ic rfl rfl ?_
    rw [show zbr .ge (nI k) (nI k) 25 9 = 25 from zge_t (n := k) rfl (by omega) (by omega)]
    iterate 2 refine ev_s rfl ?_
    refine ev_ic rfl rfl ?_
    rw [show zbr .ge (nI k) (nI k) 43 31 = 43 from zge_t (n := k) rfl (by omega) (by omega)]
    refine ev_s rfl ?_
    refine ev_s (ls' := [some (.ref 55), some (.int (nI fr)), some (.int (nI k)), some (.int v), some (.int (nI k)), some (.int (nI k))]) rfl ?_
    have e9 := lp_es55 (np := np) (M := M) (L := L) (v := v) (kk := k) hfr (Nat.le_refl _) d 0 k (by omega) (by omega)
    rw [shR_n (M 55) fr k, rwM_0] at e9
    rw [shR_n (M 55) fr k]
    exact e9
  | succ j ih =>
    intro k hkj hE
    have hkn : k < n := by omega
    rw [show enK (M 55) fr v (j + 1) k = if M 55 (fr + k) < v then enK (M 55) fr v j (k + 1) else k from rfl] at hE
    iterate 2 refine ev_s rfl ?_
    refine ev_ic rfl rfl ?_
    rw [show zbr .ge (nI k) (nI n) 25 9 = 9 from zge_f (n := n) rfl hkn (by omega)]
    iterate 4 refine ev_s rfl ?_
    refine ev_ia (rd np M L (by omega) rfl) rfl (by rw [nI_add]; exact zin_nI (by omega) (by decide)) ?_
    refine ev_s rfl ?_
    refine ev_ic rfl rfl (ev_br (zb_ge _ _ _ _) (fun c1 => ?_) (fun c1 => ?_))
    · show Ev _ _ 25 _ _ _ _
      iterate 2 refine ev_s rfl ?_
      refine ev_ic rfl rfl ?_
      rw [show zbr .ge (nI k) (nI n) 43 31 = 31 from zge_f (n := n) rfl hkn (by omega)]
      iterate 4 refine ev_s rfl ?_
      refine ev_ia (rd np M L (by omega) rfl) rfl (by rw [nI_add]; exact zin_nI (by omega) (by decide)) ?_
      refine ev_s rfl ?_
      refine ev_ic rfl rfl (ev_bn (fun c2 => ?_) (fun c2 => ?_))
      · show Ev _ _ 43 _ _ _ _
        refine ev_s rfl ?_
        refine ev_s (ls' := [some (.ref 55), some (.int (nI fr)), some (.int (nI n)), some (.int v), some (.int (nI k)), some (.int (nI n))]) rfl ?_
        rw [if_neg (Int32.not_lt.mpr c1)] at hE
        have hR : enR (M 55) fr n v = (upd (shR (M 55) fr k n) (fr + k) v, n + 1) := by unfold enR; rw [hE, if_neg (fun q => c2 q.2)]
        rw [hR]
        have e9 := lp_es55 (np := np) (M := M) (L := L) (v := v) (kk := k) hfr (by omega) d (n - k) n (by omega) (by omega)
        rw [shR_n (M 55) fr n, rwM_0] at e9
        exact e9
      · show Ev _ _ 41 _ _ _ _
        refine ev_s rfl ?_
        refine ev_ri rfl rfl ?_ ?_
        · rw [if_neg (Int32.not_lt.mpr c1)] at hE; rw [show enR (M 55) fr n v = (M 55, n) from by unfold enR; rw [hE, if_pos ⟨hkn, c2⟩]]
        · rw [if_neg (Int32.not_lt.mpr c1)] at hE; rw [show enR (M 55) fr n v = (M 55, n) from by unfold enR; rw [hE, if_pos ⟨hkn, c2⟩], rwM_0]
    · show Ev _ _ 19 _ _ _ _
      refine ev_inc (y := 1) (v := nI (k + 1)) (ls' := [some (.ref 55), some (.int (nI fr)), some (.int (nI n)), some (.int v), some (.int (nI (k + 1))), none]) rfl rfl (by decide) (nI_1 _) rfl ?_
      refine ev_s rfl ?_
      rw [if_pos (Int32.not_le.mp c1)] at hE
      exact ih (k + 1) (by omega) hE
set_option maxHeartbeats 4000000 in
theorem rn_enter55 {np : Nat} {M : Nat → Nat → Int32} {L : Nat → Int64} {fr n : Nat} {v : Int32} (hfr : fr + n < 42) (d : Nat) : Rn (d) mX6_enter [(.ref 55), (.int (nI fr)), (.int (nI n)), (.int v)] (mk np M L) (some (.int (nI (enR (M 55) fr n v).2))) (mk np (rwM M 55 (enR (M 55) fr n v).1) L) := by
  unfold Rn
  refine ev_ik (v := 0) rfl (by decide) ?_
  refine ev_s (ls' := [some (.ref 55), some (.int (nI fr)), some (.int (nI n)), some (.int v), some (.int 0), none]) rfl ?_
  exact lp_ek55 hfr d n 0 (by omega) rfl
