-- lk: 31
/-! ===== the search as both make it ===== -/
def fg (g : Nat → Nat → Nat) (j : Nat) : Nat → Int32 := fun i => nI (g i j)
def dW (g : Nat → Nat → Nat) (j t : Nat) : Nat := match t with | 1 => g 2 j | 4 => g 2 j | 3 => g 1 j | 5 => g 1 j | _ => g 0 j
def dH (g : Nat → Nat → Nat) (j t : Nat) : Nat := match t with | 2 => g 2 j | 3 => g 2 j | 4 => g 0 j | 5 => g 0 j | _ => g 1 j
def dD (g : Nat → Nat → Nat) (j t : Nat) : Nat := match t with | 1 => g 0 j | 3 => g 0 j | 2 => g 1 j | 4 => g 1 j | _ => g 2 j
theorem tW_g (g : Nat → Nat → Nat) (j t : Nat) : tW (fg g j) t = nI (dW g j t) ∧ tH (fg g j) t = nI (dH g j t) ∧ tD (fg g j) t = nI (dD g j t) := by
  match t with
  | 0 => exact ⟨rfl, rfl, rfl⟩
  | 1 => exact ⟨rfl, rfl, rfl⟩
  | 2 => exact ⟨rfl, rfl, rfl⟩
  | 3 => exact ⟨rfl, rfl, rfl⟩
  | 4 => exact ⟨rfl, rfl, rfl⟩
  | 5 => exact ⟨rfl, rfl, rfl⟩
  | t + 6 => exact ⟨rfl, rfl, rfl⟩
theorem d_mem (g : Nat → Nat → Nat) (j t : Nat) {R : Nat → Prop} (h0 : R (g 0 j)) (h1 : R (g 1 j)) (h2 : R (g 2 j)) : R (dW g j t) ∧ R (dH g j t) ∧ R (dD g j t) := by
  match t with
  | 0 => exact ⟨h0, h1, h2⟩
  | 1 => exact ⟨h2, h1, h0⟩
  | 2 => exact ⟨h0, h2, h1⟩
  | 3 => exact ⟨h1, h2, h0⟩
  | 4 => exact ⟨h2, h0, h1⟩
  | 5 => exact ⟨h1, h0, h2⟩
  | t + 6 => exact ⟨h0, h1, h2⟩
/-- the box of piece j in turn t at x y z -/
def bx (g : Nat → Nat → Nat) (j t x y z : Nat) : Nat → Nat := fun k => match k with | 0 => 1 | 1 => t | 2 => x | 3 => y | 4 => z | 5 => dW g j t | 6 => dH g j t | _ => dD g j t
def clS (P : Nat → Nat → Nat) : Nat → Nat
  | 0 => 0
  | i + 1 => clS P i + if P i 0 = 1 then P i 5 * P i 6 * P i 7 else 0
def wyS (g P : Nat → Nat → Nat) : Nat → Nat
  | 0 => 0
  | i + 1 => wyS g P i + if P i 0 = 1 then g 3 i * P i 3 else 0
noncomputable def jdg (g P : Nat → Nat → Nat) (s : Nat × Nat × Nat × (Nat → Nat → Nat)) : Nat × Nat × Nat × (Nat → Nat → Nat) := cIf (s.2.1 < clS P 6 ∨ clS P 6 = s.2.1 ∧ wyS g P 6 < s.2.2.1) (s.1, clS P 6, wyS g P 6, P) s
def enA (g : Nat → Nat → Nat) (s : Nat × Nat × Nat × (Nat → Nat → Nat)) : Prop := g 9 0 ≤ s.1
/-- the starts in a direction -/
def stP (P : Nat → Nat → Nat) (a : Nat → Nat) : Nat → List Nat
  | 0 => [0]
  | q + 1 => if P q 0 = 0 then stP P a q else insN (a q) (stP P a q)
def eX (P : Nat → Nat → Nat) (q : Nat) : Nat := P q 2 + P q 5
def eY (P : Nat → Nat → Nat) (q : Nat) : Nat := P q 3 + P q 6
def eZ (P : Nat → Nat → Nat) (q : Nat) : Nat := P q 4 + P q 7
noncomputable def Tl (g : Nat → Nat → Nat) (j : Nat) : List Nat := tls (fg g j) (tmo (nI (g 4 j)))
/-- all boxes that are tried for piece j, in their order -/
noncomputable def cds (g P : Nat → Nat → Nat) (j : Nat) : List (Nat → Nat) := (Tl g j).flatMap fun t => (stP P (eY P) j).flatMap fun y => (stP P (eZ P) j).flatMap fun z => (stP P (eX P) j).map fun x => bx g j t x y z
noncomputable def stp (K : (Nat → Nat → Nat) → (Nat × Nat × Nat × (Nat → Nat → Nat)) → (Nat × Nat × Nat × (Nat → Nat → Nat))) (g : Nat → Nat → Nat) (j : Nat) (P : Nat → Nat → Nat) (s : Nat × Nat × Nat × (Nat → Nat → Nat)) (b : Nat → Nat) : Nat × Nat × Nat × (Nat → Nat → Nat) :=
  cIf (enA g s) s (cIf (fitA g P j b) (cIf (enA g (s.1 + 1, s.2)) (jdg g (setP P j b) (s.1 + 1, s.2)) (K (setP P j b) (s.1 + 1, s.2))) s)
noncomputable def srch (g : Nat → Nat → Nat) : Nat → Nat → (Nat → Nat → Nat) → (Nat × Nat × Nat × (Nat → Nat → Nat)) → Nat × Nat × Nat × (Nat → Nat → Nat)
  | 0, _, P, s => jdg g P s
  | r + 1, j, P, s => cIf (enA g ((cds g P j).foldl (stp (srch g r (j + 1)) g j P) s)) ((cds g P j).foldl (stp (srch g r (j + 1)) g j P) s) (srch g r (j + 1) P ((cds g P j).foldl (stp (srch g r (j + 1)) g j P) s))
/-! what the lists hold -/
theorem stP_mem {P : Nat → Nat → Nat} {a : Nat → Nat} {x : Nat} : ∀ n, x ∈ stP P a n ↔ x = 0 ∨ ∃ q, q < n ∧ P q 0 ≠ 0 ∧ a q = x
  | 0 => by simp [stP]
  | n + 1 => by
    unfold stP
    split
    · next h =>
      rw [stP_mem n]
      constructor
      · rintro (h1 | ⟨q, h1, h2⟩)
        · exact Or.inl h1
        · exact Or.inr ⟨q, by omega, h2⟩
      · rintro (h1 | ⟨q, h1, h2, h3⟩)
        · exact Or.inl h1
        · refine Or.inr ⟨q, ?_, h2, h3⟩
          rcases Nat.lt_or_ge q n with z | z
          · exact z
          · obtain rfl : q = n := by omega
            exact absurd h h2
    · next h =>
      rw [insN_mem, stP_mem n]
      constructor
      · rintro (h1 | h1 | ⟨q, h1, h2⟩)
        · exact Or.inr ⟨n, by omega, h, h1.symm⟩
        · exact Or.inl h1
        · exact Or.inr ⟨q, by omega, h2⟩
      · rintro (h1 | ⟨q, h1, h2, h3⟩)
        · exact Or.inr (Or.inl h1)
        · rcases Nat.lt_or_ge q n with z | z
          · exact Or.inr (Or.inr ⟨q, z, h2, h3⟩)
          · obtain rfl : q = n := by omega
            exact Or.inl h3.symm
theorem stP_srt {P : Nat → Nat → Nat} {a : Nat → Nat} : ∀ n, srt (stP P a n)
  | 0 => trivial
  | n + 1 => by
    unfold stP
    split
    · exact stP_srt n
    · exact insN_srt (stP_srt n)
theorem tls_srt {f : Nat → Int32} : ∀ n, srt (tls f n)
  | 0 => trivial
  | n + 1 => by
    show srt (cIf (cMk f n) (tls f n) (tls f n ++ [n]))
    refine cIf_ind (fun _ => tls_srt n) (fun _ => ?_)
    have h : ∀ l : List Nat, srt l → (∀ x, x ∈ l → x < n) → srt (l ++ [n]) := by
      intro l
      induction l with
      | nil => intro _ _; trivial
      | cons a l ih =>
        intro h1 h2
        refine srt_cons (fun x hx => ?_) (ih (srt_t h1) (fun x hx => h2 x (List.mem_cons_of_mem _ hx)))
        rcases List.mem_append.mp hx with w | w
        · exact srt_lt h1 x w
        · rw [List.mem_singleton.mp w]; exact h2 a List.mem_cons_self
    exact h _ (tls_srt n) (fun x hx => tls_lt hx)
/-- a sorted list is what of 0, 1 .. it holds -/
theorem srt_flt : ∀ (n a : Nat) (l : List Nat), srt l → (∀ x, x ∈ l → a ≤ x ∧ x < a + n) → (List.range' a n).filter (fun x => decide (x ∈ l)) = l
  | 0, a, l, _, h => by
    match l, h with
    | [], _ => rfl
    | x :: l, h => have := h x List.mem_cons_self; omega
  | n + 1, a, l, hs, h => by
    rw [List.range'_succ]
    match l, hs, h with
    | [], _, _ => simp
    | x :: l, hs, h =>
      have hx := h x List.mem_cons_self
      have hl : ∀ y, y ∈ l → x < y := srt_lt hs
      by_cases e : a = x
      · subst e
        rw [List.filter_cons_of_pos (by simp)]
        congr 1
        have := srt_flt n (a + 1) l (srt_t hs) (fun y hy => by have := hl y hy; have := h y (List.mem_cons_of_mem _ hy); omega)
        rw [← this]
        refine List.filter_congr (fun y hy => ?_)
        have hy1 := (List.mem_range'_1.mp hy).1
        rw [this]
        simp only [List.mem_cons]
        have : ¬ y = a := by omega
        simp [this]
      · rw [List.filter_cons_of_neg (by simp only [decide_eq_true_eq]; intro w; rcases List.mem_cons.mp w with w | w; exact e w; have := hl a w; omega)]
        exact srt_flt n (a + 1) (x :: l) hs (fun y hy => by
          have := h y hy
          refine ⟨?_, by omega⟩
          rcases List.mem_cons.mp hy with w | w
          · omega
          · have := hl y w; omega)
/-- a fold over places that are not there -/
theorem fold_none {α β : Type} {f : α → β → α} : ∀ (l : List β) (s : α), (∀ s b, b ∈ l → f s b = s) → l.foldl f s = s
  | [], _, _ => rfl
  | b :: l, s, h => by
    rw [List.foldl_cons, h s b List.mem_cons_self]
    exact fold_none l s (fun s c hc => h s c (List.mem_cons_of_mem _ hc))
theorem fold_flat {α β γ : Type} {f : α → β → α} {h : γ → List β} : ∀ (l : List γ) (s : α), (l.flatMap h).foldl f s = l.foldl (fun s c => (h c).foldl f s) s
  | [], _ => rfl
  | c :: l, s => by rw [List.flatMap_cons, List.foldl_append, fold_flat l, List.foldl_cons]
theorem fold_map {α β γ : Type} {f : α → β → α} {h : γ → β} : ∀ (l : List γ) (s : α), (l.map h).foldl f s = l.foldl (fun s c => f s (h c)) s
  | [], _ => rfl
  | c :: l, s => by rw [List.map_cons, List.foldl_cons, fold_map l, List.foldl_cons]
/-- a fold over a sorted list, as a walk through 0 .. k-1 with a look whether it holds each, where what is k or more does nothing -/
theorem fold_rng {α : Type} {f : α → Nat → α} {l : List Nat} {k n : Nat} (hs : srt l) (hl : ∀ x, x ∈ l → x < n) (hk : k ≤ n) (hf : ∀ s x, k ≤ x → f s x = s) (s : α) : l.foldl f s = ((List.range' 0 k).filter (fun x => decide (x ∈ l))).foldl f s := by
  have e := srt_flt n 0 l hs (fun x hx => ⟨by omega, by have := hl x hx; omega⟩)
  obtain ⟨m, rfl⟩ := Nat.exists_eq_add_of_le hk
  rw [← List.range'_append_1, List.filter_append] at e
  conv => lhs; rw [← e]
  rw [List.foldl_append]
  refine fold_none _ _ (fun s b hb => hf s b ?_)
  have := (List.mem_range'_1.mp (List.mem_filter.mp hb).1).1
  omega
theorem stp_en {K : (Nat → Nat → Nat) → (Nat × Nat × Nat × (Nat → Nat → Nat)) → (Nat × Nat × Nat × (Nat → Nat → Nat))} {g : Nat → Nat → Nat} {j : Nat} {P : Nat → Nat → Nat} {s : Nat × Nat × Nat × (Nat → Nat → Nat)} {b : Nat → Nat} (h : enA g s) : stp K g j P s b = s := cIf_t h _ _
theorem stp_nf {K : (Nat → Nat → Nat) → (Nat × Nat × Nat × (Nat → Nat → Nat)) → (Nat × Nat × Nat × (Nat → Nat → Nat))} {g : Nat → Nat → Nat} {j : Nat} {P : Nat → Nat → Nat} {s : Nat × Nat × Nat × (Nat → Nat → Nat)} {b : Nat → Nat} (h : ¬ fitA g P j b) : stp K g j P s b = s := by
  unfold stp
  exact cIf_ind (R := fun v => v = s) (fun _ => rfl) (fun _ => cIf_f h _ _)
theorem fold_en {K : (Nat → Nat → Nat) → (Nat × Nat × Nat × (Nat → Nat → Nat)) → (Nat × Nat × Nat × (Nat → Nat → Nat))} {g : Nat → Nat → Nat} {j : Nat} {P : Nat → Nat → Nat} {s : Nat × Nat × Nat × (Nat → Nat → Nat)} (h : enA g s) : ∀ l : List (Nat → Nat), l.foldl (stp K g j P) s = s
  | [] => rfl
  | b :: l => by rw [List.foldl_cons, stp_en h]; exact fold_en h l
/-- what holds of the pieces that are told, of the space and of the steps -/
def Cg (g : Nat → Nat → Nat) : Prop := (1 ≤ g 7 0 ∧ g 7 0 ≤ 6) ∧ (∀ k, k < 3 → 1 ≤ g 8 k ∧ g 8 k ≤ 12) ∧ (1 ≤ g 9 0 ∧ g 9 0 ≤ 500) ∧ ∀ i, i < g 7 0 → (∀ k, k < 3 → 1 ≤ g k i ∧ g k i ≤ 12) ∧ (1 ≤ g 3 i ∧ g 3 i ≤ 1000) ∧ g 4 i ≤ 2 ∧ g 5 i ≤ 6001 ∧ g 6 i ≤ 9
/-- boxes lie in the space, and are those of pieces that are told -/
def Bn (g P : Nat → Nat → Nat) : Prop := ∀ i, (P i 0 = 0 ∨ P i 0 = 1) ∧ (P i 0 = 1 → i < g 7 0 ∧ P i 1 < 6 ∧ psv (P i) ∧ P i 2 + P i 5 ≤ g 8 0 ∧ P i 3 + P i 6 ≤ g 8 1 ∧ P i 4 + P i 7 ≤ g 8 2)
theorem Bn_set {g P : Nat → Nat → Nat} {j : Nat} {b : Nat → Nat} (h : Bn g P) (hj : j < g 7 0) (hb : b 0 = 1) (hp : psv b) (ht : b 1 < 6) (ho : outA g b) : Bn g (setP P j b) := by
  intro i
  by_cases e : i = j
  · subst e
    rw [setP_s]
    exact ⟨Or.inr hb, fun _ => ⟨hj, ht, hp, ho⟩⟩
  · rw [setP_n e]; exact h i
theorem bx_ps {g : Nat → Nat → Nat} (c : Cg g) {j : Nat} (hj : j < g 7 0) (t x y z : Nat) : psv (bx g j t x y z) ∧ dW g j t ≤ 12 ∧ dH g j t ≤ 12 ∧ dD g j t ≤ 12 := by
  have h := (c.2.2.2 j hj).1
  obtain ⟨h1, h2, h3⟩ := d_mem g j t (R := fun v => 1 ≤ v ∧ v ≤ 12) (h 0 (by omega)) (h 1 (by omega)) (h 2 (by omega))
  exact ⟨⟨h1.1, h2.1, h3.1⟩, h1.2, h2.2, h3.2⟩
theorem clS_le {g P : Nat → Nat → Nat} (c : Cg g) (h : Bn g P) : ∀ n, clS P n ≤ n * 1728
  | 0 => by simp [clS]
  | n + 1 => by
    have := clS_le c h n
    rw [clS, Nat.succ_mul]
    split
    · next e =>
      obtain ⟨_, _, _, h1, h2, h3⟩ := (h n).2 e
      have c0 := c.2.1 0 (by omega)
      have c1 := c.2.1 1 (by omega)
      have c2 := c.2.1 2 (by omega)
      have a1 : P n 5 * P n 6 ≤ 12 * 12 := Nat.mul_le_mul (by omega) (by omega)
      have a2 : P n 5 * P n 6 * P n 7 ≤ 12 * 12 * 12 := Nat.mul_le_mul a1 (by omega)
      exact Nat.add_le_add this (Nat.le_trans a2 (by decide))
    · exact Nat.le_trans this (Nat.le_add_right _ _)
theorem wyS_le {g P : Nat → Nat → Nat} (c : Cg g) (h : Bn g P) : ∀ n, wyS g P n ≤ n * 12000
  | 0 => by simp [wyS]
  | n + 1 => by
    have := wyS_le c h n
    rw [wyS, Nat.succ_mul]
    split
    · next e =>
      obtain ⟨h0, _, _, h1, h2, h3⟩ := (h n).2 e
      have c1 := c.2.1 1 (by omega)
      have cw := (c.2.2.2 n h0).2.1
      have a1 : g 3 n * P n 3 ≤ 1000 * 12 := Nat.mul_le_mul (by omega) (by omega)
      exact Nat.add_le_add this (Nat.le_trans a1 (by decide))
    · exact Nat.le_trans this (Nat.le_add_right _ _)
/-- the best so far -/
def Sn (g : Nat → Nat → Nat) (s : Nat × Nat × Nat × (Nat → Nat → Nat)) : Prop := s.1 ≤ g 9 0 ∧ s.2.1 = clS s.2.2.2 6 ∧ s.2.2.1 = wyS g s.2.2.2 6 ∧ Bn g s.2.2.2
theorem jdg_1 (g P : Nat → Nat → Nat) (s : Nat × Nat × Nat × (Nat → Nat → Nat)) : (jdg g P s).1 = s.1 := by
  unfold jdg
  exact cIf_ind (R := fun v : Nat × Nat × Nat × (Nat → Nat → Nat) => v.1 = s.1) (fun _ => rfl) (fun _ => rfl)
theorem jdg_Sn {g P : Nat → Nat → Nat} {s : Nat × Nat × Nat × (Nat → Nat → Nat)} (h : Sn g s) (hb : Bn g P) : Sn g (jdg g P s) := by
  unfold jdg
  exact cIf_ind (fun _ => ⟨h.1, rfl, rfl, hb⟩) (fun _ => h)
theorem stp_Sn {K : (Nat → Nat → Nat) → (Nat × Nat × Nat × (Nat → Nat → Nat)) → (Nat × Nat × Nat × (Nat → Nat → Nat))} {g : Nat → Nat → Nat} {j : Nat} {P : Nat → Nat → Nat} (c : Cg g) (hj : j < g 7 0) (hP : Bn g P) (hK : ∀ P s, Bn g P → Sn g s → Sn g (K P s)) {s : Nat × Nat × Nat × (Nat → Nat → Nat)} (h : Sn g s) {t x y z : Nat} (ht : t < 6) : Sn g (stp K g j P s (bx g j t x y z)) := by
  unfold stp
  refine cIf_ind (fun _ => h) (fun he => cIf_ind (fun hf => ?_) (fun _ => h))
  have hB := Bn_set hP hj rfl (bx_ps c hj t x y z).1 ht hf.1
  have h' : Sn g (s.1 + 1, s.2) := ⟨by unfold enA at he; show s.1 + 1 ≤ _; omega, h.2⟩
  exact cIf_ind (fun _ => jdg_Sn h' hB) (fun _ => hK _ _ hB h')
theorem cds_mem {g P : Nat → Nat → Nat} {j : Nat} {b : Nat → Nat} (h : b ∈ cds g P j) : ∃ t x y z, t ∈ Tl g j ∧ b = bx g j t x y z := by
  unfold cds at h
  obtain ⟨t, h1, h⟩ := List.mem_flatMap.mp h
  obtain ⟨y, h2, h⟩ := List.mem_flatMap.mp h
  obtain ⟨z, h3, h⟩ := List.mem_flatMap.mp h
  obtain ⟨x, h4, h⟩ := List.mem_map.mp h
  exact ⟨t, x, y, z, h1, h.symm⟩
theorem Tl_lt {g : Nat → Nat → Nat} {j t : Nat} (h : t ∈ Tl g j) : t < 6 := by
  have := tls_lt h
  have := tmo_le (nI (g 4 j))
  omega
theorem fold_Sn {K : (Nat → Nat → Nat) → (Nat × Nat × Nat × (Nat → Nat → Nat)) → (Nat × Nat × Nat × (Nat → Nat → Nat))} {g : Nat → Nat → Nat} {j : Nat} {P : Nat → Nat → Nat} (c : Cg g) (hj : j < g 7 0) (hP : Bn g P) (hK : ∀ P s, Bn g P → Sn g s → Sn g (K P s)) : ∀ (l : List (Nat → Nat)) (s : Nat × Nat × Nat × (Nat → Nat → Nat)), (∀ b, b ∈ l → ∃ t x y z, t < 6 ∧ b = bx g j t x y z) → Sn g s → Sn g (l.foldl (stp K g j P) s)
  | [], s, _, h => h
  | b :: l, s, hl, h => by
    rw [List.foldl_cons]
    refine fold_Sn c hj hP hK l _ (fun b hb => hl b (List.mem_cons_of_mem _ hb)) ?_
    obtain ⟨t, x, y, z, ht, rfl⟩ := hl b List.mem_cons_self
    exact stp_Sn c hj hP hK h ht
theorem srch_Sn {g : Nat → Nat → Nat} (c : Cg g) : ∀ (r j : Nat) (P : Nat → Nat → Nat) (s : Nat × Nat × Nat × (Nat → Nat → Nat)), j + r = g 7 0 → Bn g P → Sn g s → Sn g (srch g r j P s)
  | 0, j, P, s, _, hP, h => jdg_Sn h hP
  | r + 1, j, P, s, hr, hP, h => by
    have hK : ∀ P s, Bn g P → Sn g s → Sn g (srch g r (j + 1) P s) := fun P s h1 h2 => srch_Sn c r (j + 1) P s (by omega) h1 h2
    have h2 := fold_Sn c (j := j) (by omega) hP hK (cds g P j) s (fun b hb => by obtain ⟨t, x, y, z, h1, h2⟩ := cds_mem hb; exact ⟨t, x, y, z, Tl_lt h1, h2⟩) h
    unfold srch
    exact cIf_ind (fun _ => h2) (fun _ => hK _ _ hP h2)
