-- lk: 47
/-! ===== unload ===== -/
def clr (B : Nat → Nat → Nat) (p : Nat) : Prop := ∀ q, q < 6 → B q 0 = 1 → ¬ (abv (B p) (B q) ∨ frt (B p) (B q))
def rmB (B : Nat → Nat → Nat) (i : Nat) : Nat → Nat → Nat := fun j k => if j = i ∧ k = 0 then 0 else B j k
noncomputable def tkN (sq : Nat → Nat) (v : Nat) (B : Nat → Nat → Nat) : Nat → Nat × (Nat → Nat → Nat)
  | 0 => (0, B)
  | i + 1 => cIf ((tkN sq v B i).2 i 0 = 1 ∧ sq i = v ∧ clr (tkN sq v B i).2 i) ((tkN sq v B i).1 + 1, rmB (tkN sq v B i).2 i) (tkN sq v B i)
def cn (B : Nat → Nat → Nat) : Nat → Nat
  | 0 => 0
  | i + 1 => cn B i + B i 0
def bOK (B : Nat → Nat → Nat) : Prop := ∀ i, i < 6 → (B i 0 = 0 ∨ B i 0 = 1) ∧ (B i 0 = 1 → lb (B i) ∧ psv (B i))
def subB (B' B : Nat → Nat → Nat) : Prop := ∀ i, B' i = B i ∨ B' i 0 = 0
def cP (wq sq : Nat → Nat) (B : Nat → Nat → Nat) (M : Nat → Nat → Int32) : Prop := ∀ i, i < 6 → M (5 + i) 0 = nI (B i 0) ∧ (B i 0 = 1 → bRow (M (5 + i)) (B i) ∧ M (5 + i) 1 = nI (wq i) ∧ M (5 + i) 3 = nI (sq i))
def mP (wq sq : Nat → Nat) (B : Nat → Nat → Nat) (M : Nat → Nat → Int32) : Prop := ∀ i, i < 6 → M 37 i = nI (B i 0) ∧ (B i 0 = 1 → qRow wq sq M i (B i))
theorem rmB_s {B : Nat → Nat → Nat} {i : Nat} : rmB B i i 0 = 0 := if_pos ⟨rfl, rfl⟩
theorem rmB_n {B : Nat → Nat → Nat} {i j : Nat} (h : j ≠ i) : rmB B i j = B j := by
  funext k
  exact if_neg (fun q => h q.1)
theorem cn_rm {B : Nat → Nat → Nat} {i : Nat} (hi : B i 0 = 1) : ∀ n, cn (rmB B i) n + (if i < n then 1 else 0) = cn B n
  | 0 => rfl
  | n + 1 => by
    have ih := cn_rm hi n
    rw [cn, cn]
    by_cases e : n = i
    · subst e
      rw [rmB_s, hi]
      rw [if_neg (Nat.lt_irrefl _)] at ih
      rw [if_pos (Nat.lt_succ_self _)]
      omega
    · rw [rmB_n e]
      by_cases w : i < n
      · rw [if_pos w] at ih; rw [if_pos (by omega)]; omega
      · rw [if_neg w] at ih; rw [if_neg (by omega)]; omega
theorem subB_rf (B : Nat → Nat → Nat) : subB B B := fun _ => Or.inl rfl
theorem subB_rm {B' B : Nat → Nat → Nat} {i : Nat} (h : subB B' B) : subB (rmB B' i) B := by
  intro j
  by_cases e : j = i
  · subst e; exact Or.inr rmB_s
  · rw [rmB_n e]; exact h j
theorem bOK.sub {B' B : Nat → Nat → Nat} (h : bOK B) (s : subB B' B) : bOK B' := by
  intro i hi
  rcases s i with e | e
  · rw [e]; exact h i hi
  · exact ⟨Or.inl e, fun w => absurd w (by omega)⟩
section UL
variable {wq sq : Nat → Nat} {v : Nat} {B : Nat → Nat → Nat}
theorem tkN_p (ok : bOK B) : ∀ n, n ≤ 6 → subB (tkN sq v B n).2 B ∧ cn (tkN sq v B n).2 6 + (tkN sq v B n).1 = cn B 6 ∧ (tkN sq v B n).1 ≤ n
  | 0, _ => ⟨subB_rf _, rfl, Nat.le_refl _⟩
  | n + 1, hn => by
    obtain ⟨a, b, c⟩ := tkN_p ok n (by omega)
    rw [tkN]
    refine cIf_ind (R := fun q : Nat × (Nat → Nat → Nat) => subB q.2 B ∧ cn q.2 6 + q.1 = cn B 6 ∧ q.1 ≤ n + 1) (fun w => ⟨subB_rm a, ?_, by show _ + 1 ≤ _; omega⟩) (fun _ => ⟨a, b, by omega⟩)
    have e := cn_rm w.1 6
    rw [if_pos (show n < 6 by omega)] at e
    show cn (rmB (tkN sq v B n).2 n) 6 + ((tkN sq v B n).1 + 1) = _
    omega
theorem cP_rm {M : Nat → Nat → Int32} {i : Nat} (h : cP wq sq B M) : cP wq sq (rmB B i) (up2 M (5 + i) 0 0) := by
  intro j hj
  by_cases e : j = i
  · subst e
    rw [up2_s, upd_s, rmB_s]
    exact ⟨rfl, fun w => absurd w (by omega)⟩
  · rw [up2_n (by omega), rmB_n e]; exact h j hj
theorem mP_rm {M : Nat → Nat → Int32} {i : Nat} (h : mP wq sq B M) : mP wq sq (rmB B i) (up2 M 37 i 0) := by
  intro j hj
  unfold qRow
  rw [up2_s, up2_n (show (38 : Nat) ≠ 37 by decide), up2_n (show (39 : Nat) ≠ 37 by decide), up2_n (show (40 : Nat) ≠ 37 by decide), up2_n (show (41 : Nat) ≠ 37 by decide), up2_n (show (42 : Nat) ≠ 37 by decide), up2_n (show (43 : Nat) ≠ 37 by decide), up2_n (show (44 : Nat) ≠ 37 by decide), up2_n (show (45 : Nat) ≠ 37 by decide), up2_n (show (46 : Nat) ≠ 37 by decide)]
  by_cases e : j = i
  · subst e
    rw [upd_s, rmB_s]
    exact ⟨rfl, fun w => absurd w (by omega)⟩
  · rw [upd_n e, rmB_n e]; exact h j hj
theorem opn_iff {M : Nat → Nat → Int32} (ok : bOK B) (h : cP wq sq B M) {p : Nat} (hp : p < 6) (e : B p 0 = 1) : opn M 5 p ↔ clr B p := by
  unfold opn clr badP
  have key : ∀ q, q < 6 → B q 0 = 1 → ((cAb (M (5 + p)) (M (5 + q)) ∨ cFr (M (5 + p)) (M (5 + q))) ↔ (abv (B p) (B q) ∨ frt (B p) (B q))) := by
    intro q hq eq
    rw [cAb_iff ((h p hp).2 e).1 ((h q hq).2 eq).1 ((ok p hp).2 e).1 ((ok q hq).2 eq).1, cFr_iff ((h p hp).2 e).1 ((h q hq).2 eq).1 ((ok p hp).2 e).1 ((ok q hq).2 eq).1]
  constructor
  · intro w q hq eq z
    exact w q hq ⟨fun y => (in_b (ok q hq).1 (h q hq).1).mp y eq, (key q hq eq).mpr z⟩
  · rintro w q hq ⟨z1, z2⟩
    have eq : B q 0 = 1 := Classical.byContradiction (fun y => z1 ((in_b (ok q hq).1 (h q hq).1).mpr y))
    exact w q hq eq ((key q hq eq).mp z2)
theorem mCl_iff {M : Nat → Nat → Int32} (ok : bOK B) (h : mP wq sq B M) {p : Nat} (hp : p < 6) (e : B p 0 = 1) : mCl M p ↔ clr B p := by
  unfold mCl clr mBad
  have key : ∀ q, q < 6 → B q 0 = 1 → ((ovX M p q ∧ ovZ M p q ∧ M 39 p + M 42 p ≤ M 39 q ∨ ovX M p q ∧ ovY M p q ∧ M 40 p + M 43 p ≤ M 40 q) ↔ (abv (B p) (B q) ∨ frt (B p) (B q))) := by
    intro q hq eq
    obtain ⟨p2, p3, p4, p5, p6, p7, _⟩ := (h p hp).2 e
    obtain ⟨q2, q3, q4, q5, q6, q7, _⟩ := (h q hq).2 eq
    obtain ⟨⟨l1, l2, l3⟩, ⟨s1, s2, s3⟩⟩ := (ok p hp).2 e
    obtain ⟨⟨l4, l5, l6⟩, ⟨s4, s5, s6⟩⟩ := (ok q hq).2 eq
    unfold ovX ovY ovZ abv frt ovx ovy ovz
    rw [p2, p3, p4, p5, p6, p7, q2, q3, q4, q5, q6, q7, cmn_pos (by omega) (by omega) (by omega) (by omega), cmn_pos (by omega) (by omega) (by omega) (by omega), cmn_pos (by omega) (by omega) (by omega) (by omega), nI_add, nI_add, nI_leI (by omega) (by omega), nI_leI (by omega) (by omega)]
    omega
  constructor
  · intro w q hq eq z
    have hne : q ≠ p := by
      rintro rfl
      obtain ⟨_, ⟨s1, s2, s3⟩⟩ := (ok q hq).2 e
      unfold abv frt at z
      omega
    exact w q hq ⟨by rw [nI_eq (by omega) (by omega)]; exact hne, fun y => (in_b (ok q hq).1 (h q hq).1).mp y eq, (key q hq eq).mpr z⟩
  · rintro w q hq ⟨z0, z1, z2⟩
    have eq : B q 0 = 1 := Classical.byContradiction (fun y => z1 ((in_b (ok q hq).1 (h q hq).1).mpr y))
    exact w q hq eq ((key q hq eq).mp z2)
/-- one round of the class -/
theorem tk_c {M : Nat → Nat → Int32} (ok : bOK B) (hs : ∀ i, B i 0 = 1 → sq i ≤ 9) (hv : v ≤ 9) (h : cP wq sq B M) : ∀ n, n ≤ 6 → (tkS M (nI v) n).1 = nI (tkN sq v B n).1 ∧ cP wq sq (tkN sq v B n).2 (tkS M (nI v) n).2 ∧ ∀ q, q < 5 ∨ 10 < q → (tkS M (nI v) n).2 q = M q
  | 0, _ => ⟨rfl, h, fun _ _ => rfl⟩
  | n + 1, hn => by
    obtain ⟨a, b, c⟩ := tk_c ok hs hv h n (by omega)
    obtain ⟨sb, -, -⟩ := tkN_p (sq := sq) (v := v) ok n (by omega)
    have ok' := ok.sub sb
    rw [tkS, tkN]
    have e : (¬ (tkS M (nI v) n).2 (5 + n) 0 = 0 ∧ (tkS M (nI v) n).2 (5 + n) 3 = nI v ∧ opn (tkS M (nI v) n).2 5 n) ↔ ((tkN sq v B n).2 n 0 = 1 ∧ sq n = v ∧ clr (tkN sq v B n).2 n) := by
      by_cases w : (tkN sq v B n).2 n 0 = 1
      · have w' : B n 0 = 1 := by
          rcases sb n with z | z
          · rw [← z]; exact w
          · omega
        have := hs n w'
        rw [opn_iff ok' b (by omega) w, ((b n (by omega)).2 w).2.2, nI_eq (by omega) (by omega)]
        constructor
        · rintro ⟨_, x, y⟩; exact ⟨w, x, y⟩
        · rintro ⟨_, x, y⟩; exact ⟨fun z => (in_b (ok' n (by omega)).1 (b n (by omega)).1).mp z w, x, y⟩
      · constructor
        · rintro ⟨x, _⟩; exact absurd ((in_b (ok' n (by omega)).1 (b n (by omega)).1).mpr w) x
        · rintro ⟨x, _⟩; exact absurd x w
    by_cases w : (tkN sq v B n).2 n 0 = 1 ∧ sq n = v ∧ clr (tkN sq v B n).2 n
    · rw [cIf_t w]
      rw [show (@ite _ (¬ (tkS M (nI v) n).2 (5 + n) 0 = 0 ∧ (tkS M (nI v) n).2 (5 + n) 3 = nI v ∧ opn (tkS M (nI v) n).2 5 n) (Classical.propDecidable _) ((tkS M (nI v) n).1 + 1, up2 (tkS M (nI v) n).2 (5 + n) 0 0) (tkS M (nI v) n)) = ((tkS M (nI v) n).1 + 1, up2 (tkS M (nI v) n).2 (5 + n) 0 0) from if_pos (e.mpr w)]
      refine ⟨by show _ + 1 = _; rw [a]; exact nI_1 _, cP_rm b, fun q hq => ?_⟩
      show up2 _ _ _ _ q = _
      rw [up2_n (by omega)]
      exact c q hq
    · rw [cIf_f w]
      rw [show (@ite _ (¬ (tkS M (nI v) n).2 (5 + n) 0 = 0 ∧ (tkS M (nI v) n).2 (5 + n) 3 = nI v ∧ opn (tkS M (nI v) n).2 5 n) (Classical.propDecidable _) ((tkS M (nI v) n).1 + 1, up2 (tkS M (nI v) n).2 (5 + n) 0 0) (tkS M (nI v) n)) = tkS M (nI v) n from if_neg (fun z => w (e.mp z))]
      exact ⟨a, b, c⟩
/-- one round of the reference -/
theorem tk_m {M : Nat → Nat → Int32} {c0 : Nat} (ok : bOK B) (hs : ∀ i, B i 0 = 1 → sq i ≤ 9) (hv : v ≤ 9) (h : mP wq sq B M) : ∀ n, n ≤ 6 → (mrS (nI v) (nI c0) M n).1 = nI (c0 + (tkN sq v B n).1) ∧ ((mrS (nI v) (nI c0) M n).2.1 = 0 ↔ (tkN sq v B n).1 = 0) ∧ mP wq sq (tkN sq v B n).2 (mrS (nI v) (nI c0) M n).2.2 ∧ ∀ q, q ≠ 37 → (mrS (nI v) (nI c0) M n).2.2 q = M q
  | 0, _ => ⟨rfl, ⟨fun _ => rfl, fun _ => rfl⟩, h, fun _ _ => rfl⟩
  | n + 1, hn => by
    obtain ⟨a, a2, b, c⟩ := tk_m (c0 := c0) ok hs hv h n (by omega)
    obtain ⟨sb, -, -⟩ := tkN_p (sq := sq) (v := v) ok n (by omega)
    have ok' := ok.sub sb
    rw [mrS, tkN]
    have e : (¬ (mrS (nI v) (nI c0) M n).2.2 37 n = 0 ∧ (mrS (nI v) (nI c0) M n).2.2 46 n = nI v ∧ mCl (mrS (nI v) (nI c0) M n).2.2 n) ↔ ((tkN sq v B n).2 n 0 = 1 ∧ sq n = v ∧ clr (tkN sq v B n).2 n) := by
      by_cases w : (tkN sq v B n).2 n 0 = 1
      · have w' : B n 0 = 1 := by
          rcases sb n with z | z
          · rw [← z]; exact w
          · omega
        have := hs n w'
        rw [mCl_iff ok' b (by omega) w, ((b n (by omega)).2 w).2.2.2.2.2.2.2.2, nI_eq (by omega) (by omega)]
        constructor
        · rintro ⟨_, x, y⟩; exact ⟨w, x, y⟩
        · rintro ⟨_, x, y⟩; exact ⟨fun z => (in_b (ok' n (by omega)).1 (b n (by omega)).1).mp z w, x, y⟩
      · constructor
        · rintro ⟨x, _⟩; exact absurd ((in_b (ok' n (by omega)).1 (b n (by omega)).1).mpr w) x
        · rintro ⟨x, _⟩; exact absurd x w
    by_cases w : (tkN sq v B n).2 n 0 = 1 ∧ sq n = v ∧ clr (tkN sq v B n).2 n
    · rw [cIf_t w, cIf_t (e.mpr w)]
      refine ⟨by show _ + 1 = _; rw [a]; exact nI_1 _, ⟨fun z => absurd (show (1 : Int32) = 0 from z) (by decide), fun z => absurd (show (tkN sq v B n).1 + 1 = 0 from z) (by omega)⟩, mP_rm b, fun q hq => ?_⟩
      show up2 _ _ _ _ q = _
      rw [up2_n hq]
      exact c q hq
    · rw [cIf_f w, cIf_f (fun z => w (e.mp z))]
      exact ⟨a, a2, b, c⟩
theorem subB_tr {A B C : Nat → Nat → Nat} (h1 : subB A B) (h2 : subB B C) : subB A C := by
  intro i
  rcases h1 i with e | e
  · rw [e]; exact h2 i
  · exact Or.inr e
theorem subB_1 {A B : Nat → Nat → Nat} (h : subB A B) {i : Nat} (hi : A i 0 = 1) : A i = B i := by
  rcases h i with e | e
  · exact e
  · omega
/-- all rounds -/
theorem ul_all (hv : v ≤ 9) : ∀ (n : Nat) (B : Nat → Nat → Nat) (c : Nat) (Mc Mm : Nat → Nat → Int32), bOK B → (∀ i, B i 0 = 1 → sq i ≤ 9) → cn B 6 < n → cP wq sq B Mc → mP wq sq B Mm →
    ∃ c' B', (ulS (nI v) n (nI c) Mc).1 = nI c' ∧ cP wq sq B' (ulS (nI v) n (nI c) Mc).2 ∧ (∀ q, q < 5 ∨ 10 < q → (ulS (nI v) n (nI c) Mc).2 q = Mc q) ∧ subB B' B ∧ ∃ Mm', muL (nI v) n (nI c) Mm = some (nI c', Mm') ∧ mP wq sq B' Mm' ∧ ∀ q, q ≠ 37 → Mm' q = Mm q
  | 0, _, _, _, _, _, _, h, _, _ => absurd h (by omega)
  | n + 1, B, c, Mc, Mm, ok, hs, hc, h1, h2 => by
    obtain ⟨a1, a2, a3⟩ := tk_c ok hs hv h1 6 (by omega)
    obtain ⟨b1, b2, b3, b4⟩ := tk_m (c0 := c) ok hs hv h2 6 (by omega)
    obtain ⟨s1, s2, s3⟩ := tkN_p (sq := sq) (v := v) ok 6 (by omega)
    rw [ulS, muL]
    by_cases e : (tkN sq v B 6).1 = 0
    · rw [if_pos (by rw [a1, e]; rfl), if_pos (b2.mpr e)]
      refine ⟨c, (tkN sq v B 6).2, rfl, a2, a3, s1, _, ?_, b3, b4⟩
      rw [b1, e, Nat.add_zero]
    · rw [if_neg (by rw [a1]; exact nI_ne0 (by omega) (by omega)), if_neg (fun z => e (b2.mp z))]
      obtain ⟨c', B', x1, x2, x3, x4, Mm', y1, y2, y3⟩ := ul_all hv n (tkN sq v B 6).2 (c + (tkN sq v B 6).1) (tkS Mc (nI v) 6).2 (mrS (nI v) (nI c) Mm 6).2.2 (ok.sub s1) (fun i hi => hs i (by rw [← subB_1 s1 hi]; exact hi)) (by omega) a2 b3
      rw [a1, nI_add]
      refine ⟨c', B', x1, x2, fun q hq => (x3 q hq).trans (a3 q hq), subB_tr x4 s1, Mm', ?_, y2, fun q hq => (y3 q hq).trans (b4 q hq)⟩
      rw [b1]
      exact y1
end UL
section INV
variable {np : Nat} {g B : Nat → Nat → Nat} {wq sq : Nat → Nat} {mt : Nat} {M : Nat → Nat → Int32} {L : Nat → Int64}
theorem cn_le (ok : bOK B) : ∀ n, n ≤ 6 → cn B n ≤ n
  | 0, _ => Nat.le_refl _
  | n + 1, hn => by
    have := cn_le ok n (by omega)
    rw [cn]
    rcases (ok n (by omega)).1 with e | e <;> omega
theorem sm_unload (h : IV np g B wq sq mt M) (s : Int32) : SM mX5_unload mX6_unload [.int s] np M L := by
  have r1 := rn_unload (np := np) (L := L) (M := M) (s := s) 0
  by_cases hs : cW s 0 9
  · rw [cIf_t hs, cIf_t hs] at r1
    obtain ⟨v, hv, rfl⟩ := cW_of (m := 9) (k := 9) rfl (by decide) hs
    have ok : bOK B := fun i hi => ⟨(h.2.2.2.2.2.1.1 i).1, fun e => ⟨(h.lb e).1, (h.lb e).2.1⟩⟩
    have hsq : ∀ i, B i 0 = 1 → sq i ≤ 9 := fun i e => ((h.2.2.2.2.2.1.1 i).2 e).2.2.2.2.2
    have h1 : cP wq sq B M := fun i hi => ⟨(h.2.2.2.2.2.2 i hi).1, fun e => ((h.2.2.2.2.2.2 i hi).2.2 e).1⟩
    have h2 : mP wq sq B M := fun i hi => ⟨(h.2.2.2.2.2.2 i hi).2.1, fun e => ((h.2.2.2.2.2.2 i hi).2.2 e).2⟩
    have hc := cn_le ok 6 (by omega)
    obtain ⟨M1, hM1⟩ : ∃ M1, M1 = (ulS (nI v) 7 0 M).2 := ⟨_, rfl⟩
    -- the reference stands on what the class left: its rows are the same
    have f1 : ∀ q, q < 5 ∨ 10 < q → M1 q = M q := by
      obtain ⟨c', B', x1, x2, x3, x4, Mm', y1, y2, y3⟩ := ul_all (wq := wq) hv 7 B 0 M M ok hsq (by omega) h1 h2
      rw [hM1]
      exact x3
    have h2' : mP wq sq B M1 := by
      intro i hi
      unfold qRow
      rw [f1 37 (by omega), f1 38 (by omega), f1 39 (by omega), f1 40 (by omega), f1 41 (by omega), f1 42 (by omega), f1 43 (by omega), f1 44 (by omega), f1 45 (by omega), f1 46 (by omega)]
      exact h2 i hi
    obtain ⟨c', B', x1, x2, x3, x4, Mm', y1, y2, y3⟩ := ul_all (wq := wq) hv 7 B 0 M M1 ok hsq (by omega) h1 h2'
    rw [show nI 0 = 0 from rfl] at x1 x2 x3 y1
    have r2 := rn_munload (np := np) (L := L) (M := M1) (s := nI v) (show mW (nI v) 0 9 from hs) y1 0
    rw [x1, ← hM1] at r1
    rw [← hM1] at x2
    have fm : ∀ q, q < 5 ∨ 10 < q → q ≠ 37 → Mm' q = M q := fun q a b => (y3 q b).trans (f1 q a)
    obtain ⟨hD, hC, hM, hS, hT, hB, hP⟩ := h
    refine ⟨_, np, M1, _, L, Rn_le r1 (by omega), Rn_le r2 (by omega), ⟨g, B', wq, sq, mt, hD, ?_, ?_, ?_, ?_, ?_, ?_⟩, Nat.le_refl _⟩
    · unfold iC
      dsimp only
      rw [fm 0 (by omega) (by omega), fm 1 (by omega) (by omega)]
      exact ⟨hC.1, hC.2.1, fun i hi => by rw [fm (57 + i) (by omega) (by omega)]; exact hC.2.2 i hi⟩
    · unfold RMs
      dsimp only
      rw [fm 21 (by omega) (by omega), fm 25 (by omega) (by omega), fm 26 (by omega) (by omega), fm 27 (by omega) (by omega), fm 28 (by omega) (by omega)]
      exact ⟨hM.1, fun i hi => ⟨fun k hk => by rw [fm (22 + k) (by omega) (by omega)]; exact (hM.2 i hi).1 k hk, (hM.2 i hi).2⟩⟩
    · exact hS.cg (by dsimp only; rw [fm 21 (by omega) (by omega)]) (by dsimp only; rw [fm 0 (by omega) (by omega)]) (by dsimp only; rw [fm 11 (by omega) (by omega)]) (by dsimp only; rw [fm 21 (by omega) (by omega)]) (by dsimp only; rw [fm 21 (by omega) (by omega)])
    · exact hT.cg (fun q a b => fm q (by omega) (by omega))
    · refine ⟨fun i => ?_, fun a b hab ea eb => ?_⟩
      · rcases x4 i with e | e
        · rw [e]; exact hB.1 i
        · exact ⟨Or.inl e, fun w => absurd w (by omega)⟩
      · rw [subB_1 x4 ea, subB_1 x4 eb]
        exact hB.2 a b hab (by rw [← subB_1 x4 ea]; exact ea) (by rw [← subB_1 x4 eb]; exact eb)
    · intro i hi
      dsimp only
      rw [y3 (5 + i) (by omega)]
      exact ⟨(x2 i hi).1, (y2 i hi).1, fun e => ⟨(x2 i hi).2 e, (y2 i hi).2 e⟩⟩
  · rw [cIf_f hs, cIf_f hs] at r1
    exact SM_0 r1 (rn_munload_o (show ¬ mW s 0 9 from hs) 0) (by omega) (by omega) h.x
end INV
