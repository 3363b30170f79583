/-! ===== rows that hold lists ===== -/
def insN (a : Nat) : List Nat → List Nat
  | [] => [a]
  | b :: t => if b < a then b :: insN a t else if b = a then b :: t else a :: b :: t
/-- row r holds the list l from place fr on -/
def blk (r : Nat → Int32) (fr : Nat) (l : List Nat) : Prop := ∀ k, k < l.length → r (fr + k) = nI (l.getD k 0)
def srt : List Nat → Prop
  | [] => True
  | [_] => True
  | a :: b :: t => a < b ∧ srt (b :: t)
def sml (l : List Nat) : Prop := ∀ x, x ∈ l → x < 2 ^ 30
theorem srt_t {a : Nat} {l : List Nat} (h : srt (a :: l)) : srt l := by
  cases l with
  | nil => trivial
  | cons b t => exact h.2
theorem srt_lt {a : Nat} : ∀ {l : List Nat}, srt (a :: l) → ∀ x, x ∈ l → a < x
  | [], _, x, hx => by cases hx
  | b :: t, h, x, hx => by
    rcases List.mem_cons.mp hx with rfl | hx
    · exact h.1
    · exact Nat.lt_trans h.1 (srt_lt h.2 x hx)
theorem srt_cons {a : Nat} {l : List Nat} (h : ∀ x, x ∈ l → a < x) (hs : srt l) : srt (a :: l) := by
  cases l with
  | nil => trivial
  | cons b t => exact ⟨h b List.mem_cons_self, hs⟩
theorem insN_mem {a x : Nat} : ∀ {l : List Nat}, x ∈ insN a l ↔ x = a ∨ x ∈ l
  | [] => by simp [insN]
  | b :: t => by
    unfold insN
    split
    · rw [List.mem_cons, insN_mem (l := t), List.mem_cons]
      constructor
      · rintro (h | h | h)
        · exact Or.inr (Or.inl h)
        · exact Or.inl h
        · exact Or.inr (Or.inr h)
      · rintro (h | h | h)
        · exact Or.inr (Or.inl h)
        · exact Or.inl h
        · exact Or.inr (Or.inr h)
    · split
      · next h => subst h; simp
      · simp
theorem insN_srt {a : Nat} : ∀ {l : List Nat}, srt l → srt (insN a l)
  | [], _ => trivial
  | b :: t, h => by
    unfold insN
    split
    · next hb =>
      refine srt_cons (fun x hx => ?_) (insN_srt (srt_t h))
      rcases insN_mem.mp hx with rfl | hx
      · exact hb
      · exact srt_lt h x hx
    · next hb =>
      split
      · exact h
      · next hn => exact ⟨by omega, h⟩
theorem insN_len {a : Nat} : ∀ {l : List Nat}, (insN a l).length ≤ l.length + 1
  | [] => by simp [insN]
  | b :: t => by
    unfold insN
    split
    · have := insN_len (a := a) (l := t)
      simp only [List.length_cons]
      omega
    · split <;> simp
theorem insN_sml {a : Nat} {l : List Nat} (ha : a < 2 ^ 30) (h : sml l) : sml (insN a l) := fun x hx => (insN_mem.mp hx).elim (fun e => by rw [e]; exact ha) (h x)
theorem insN_ne (a : Nat) (l : List Nat) : 0 < (insN a l).length := by
  cases l with
  | nil => simp [insN]
  | cons b t =>
    unfold insN
    split
    · simp
    · split <;> simp
/-- enter, as it goes on from place k on: the rest of the list is l -/
theorem en_go {fr : Nat} {a : Nat} (ha : a < 2 ^ 30) : ∀ (l : List Nat) (r : Nat → Int32) (k n : Nat), srt l → sml l → k + l.length = n → blk r (fr + k) l →
    (enK r fr (nI a) l.length k < n ∧ r (fr + enK r fr (nI a) l.length k) = nI a → insN a l = l) ∧
    (¬ (enK r fr (nI a) l.length k < n ∧ r (fr + enK r fr (nI a) l.length k) = nI a) → (insN a l).length = l.length + 1 ∧ blk (upd (shR r fr (enK r fr (nI a) l.length k) n) (fr + enK r fr (nI a) l.length k) (nI a)) (fr + k) (insN a l))
  | [], r, k, n, _, _, hn, _ => by
    simp only [List.length_nil] at hn ⊢
    simp only [enK]
    refine ⟨fun h => absurd h.1 (by omega), fun _ => ⟨rfl, fun q hq => ?_⟩⟩
    simp only [insN, List.length_cons, List.length_nil] at hq
    obtain rfl : q = 0 := by omega
    rw [Nat.add_zero, upd_s]
    rfl
  | b :: t, r, k, n, hs, hm, hn, hb => by
    have h0 : r (fr + k) = nI b := by
      have := hb 0 (by simp)
      rwa [Nat.add_zero] at this
    have hb2 : b < 2 ^ 30 := hm b List.mem_cons_self
    have hbt : blk r (fr + (k + 1)) t := by
      intro q hq
      have := hb (q + 1) (by simp only [List.length_cons]; omega)
      rw [show fr + k + (q + 1) = fr + (k + 1) + q by omega] at this
      exact this
    simp only [List.length_cons] at hn
    by_cases hlt : b < a
    · have hK : enK r fr (nI a) (b :: t).length k = enK r fr (nI a) t.length (k + 1) := by
        show (if r (fr + k) < nI a then enK r fr (nI a) t.length (k + 1) else k) = _
        rw [if_pos (by rw [h0]; exact nI_lt hlt (by omega))]
      have hI : insN a (b :: t) = b :: insN a t := by rw [insN, if_pos hlt]
      obtain ⟨g1, g2⟩ := en_go ha t r (k + 1) n (srt_t hs) (fun x hx => hm x (List.mem_cons_of_mem _ hx)) (by omega) hbt
      have hle := enK_le r fr (nI a) t.length (k + 1)
      rw [hK, hI]
      refine ⟨fun h => by rw [g1 h], fun h => ?_⟩
      obtain ⟨g3, g4⟩ := g2 h
      refine ⟨by simp only [List.length_cons]; omega, fun q hq => ?_⟩
      match q, hq with
      | 0, _ =>
        rw [Nat.add_zero, upd_n (by omega)]
        unfold shR
        rw [if_neg (by omega)]
        exact h0
      | q + 1, hq =>
        have := g4 q (by simp only [List.length_cons] at hq; omega)
        rw [show fr + (k + 1) + q = fr + k + (q + 1) by omega] at this
        exact this
    · have hK : enK r fr (nI a) (b :: t).length k = k := by
        show (if r (fr + k) < nI a then enK r fr (nI a) t.length (k + 1) else k) = _
        rw [if_neg (by rw [h0]; exact nI_nlt (by omega) (by omega))]
      rw [hK]
      by_cases he : b = a
      · have hI : insN a (b :: t) = b :: t := by rw [insN, if_neg hlt, if_pos he]
        refine ⟨fun _ => hI, fun h => absurd ⟨by omega, by rw [h0, he]⟩ h⟩
      · have hI : insN a (b :: t) = a :: b :: t := by rw [insN, if_neg hlt, if_neg he]
        rw [hI]
        refine ⟨fun h => absurd ((nI_eq (by omega) (by omega)).mp (h0.symm.trans h.2)) he, fun _ => ⟨rfl, fun q hq => ?_⟩⟩
        match q, hq with
        | 0, _ =>
          rw [Nat.add_zero, upd_s]
          rfl
        | q + 1, hq =>
          rw [upd_n (by omega)]
          unfold shR
          simp only [List.length_cons] at hq
          rw [if_pos (by omega), show fr + k + (q + 1) - 1 = fr + k + q by omega]
          exact hb q (by simp only [List.length_cons]; omega)
theorem enR_blk {r : Nat → Int32} {fr a : Nat} {l : List Nat} (ha : a < 2 ^ 30) (hs : srt l) (hm : sml l) (hb : blk r fr l) :
    (enR r fr l.length (nI a)).2 = (insN a l).length ∧ blk (enR r fr l.length (nI a)).1 fr (insN a l) ∧ ∀ j, j < fr ∨ fr + l.length < j → (enR r fr l.length (nI a)).1 j = r j := by
  obtain ⟨g1, g2⟩ := en_go (fr := fr) ha l r 0 l.length hs hm (by omega) (by rw [Nat.add_zero]; exact hb)
  have hle := enK_le r fr (nI a) l.length 0
  unfold enR
  by_cases h : enK r fr (nI a) l.length 0 < l.length ∧ r (fr + enK r fr (nI a) l.length 0) = nI a
  · rw [if_pos h]
    have e := g1 h
    exact ⟨by rw [e], by rw [e]; exact hb, fun _ _ => rfl⟩
  · rw [if_neg h]
    obtain ⟨e1, e2⟩ := g2 h
    rw [Nat.add_zero] at e2
    refine ⟨e1.symm, e2, fun j hj => ?_⟩
    show upd (shR r fr (enK r fr (nI a) l.length 0) l.length) (fr + enK r fr (nI a) l.length 0) (nI a) j = r j
    rw [upd_n (by omega)]
    unfold shR
    exact if_neg (by omega)
/-- the turns below n that make no turn before them -/
noncomputable def tls (f : Nat → Int32) : Nat → List Nat
  | 0 => []
  | t + 1 => cIf (cMk f t) (tls f t) (tls f t ++ [t])
theorem tls_lt {f : Nat → Int32} : ∀ {n x : Nat}, x ∈ tls f n → x < n
  | 0, x, h => by cases h
  | n + 1, x, h => by
    unfold tls at h
    by_cases hc : cMk f n
    · rw [cIf_t hc] at h
      have := tls_lt h
      omega
    · rw [cIf_f hc] at h
      rcases List.mem_append.mp h with h | h
      · have := tls_lt h
        omega
      · simp at h
        omega
theorem tls_len {f : Nat → Int32} : ∀ n, (tls f n).length ≤ n
  | 0 => Nat.le_refl _
  | n + 1 => by
    have := tls_len (f := f) n
    unfold tls
    refine cIf_ind (R := fun l : List Nat => l.length ≤ n + 1) (fun _ => by omega) (fun _ => by simp; omega)
theorem smT_tr {f : Nat → Int32} {a b c : Nat} (h1 : smT f a b) (h2 : smT f b c) : smT f a c := ⟨h1.1.trans h2.1, h1.2.1.trans h2.2.1, h1.2.2.trans h2.2.2⟩
/-- what has been before is kept, or one that makes the same is -/
theorem tls_in {f : Nat → Int32} : ∀ {n b : Nat}, b < n → ∃ o, o ∈ tls f n ∧ smT f o b
  | 0, b, h => absurd h (by omega)
  | n + 1, b, h => by
    unfold tls
    by_cases hb : b < n
    · obtain ⟨o, h1, h2⟩ := tls_in (f := f) hb
      exact cIf_ind (R := fun l : List Nat => ∃ o, o ∈ l ∧ smT f o b) (fun _ => ⟨o, h1, h2⟩) (fun _ => ⟨o, List.mem_append_left _ h1, h2⟩)
    · obtain rfl : b = n := by omega
      by_cases hc : cMk f b
      · rw [cIf_t hc]
        obtain ⟨q, hq, hs⟩ := hc
        obtain ⟨o, h1, h2⟩ := tls_in (f := f) hq
        exact ⟨o, h1, smT_tr h2 hs⟩
      · rw [cIf_f hc]
        exact ⟨b, List.mem_append_right _ (by simp), rfl, rfl, rfl⟩
theorem tls_twice {f : Nat → Int32} {t : Nat} : (∃ k, k < (tls f t).length ∧ smT f ((tls f t).getD k 0) t) ↔ cMk f t := by
  constructor
  · rintro ⟨k, hk, hs⟩
    refine ⟨(tls f t).getD k 0, tls_lt (f := f) (n := t) ?_, hs⟩
    rw [List.getD_eq_getElem?_getD, List.getElem?_eq_getElem hk]
    exact List.getElem_mem hk
  · rintro ⟨b, hb, hs⟩
    obtain ⟨o, h1, h2⟩ := tls_in (f := f) hb
    obtain ⟨k, hk, he⟩ := List.getElem_of_mem h1
    refine ⟨k, hk, ?_⟩
    rw [List.getD_eq_getElem?_getD, List.getElem?_eq_getElem hk]
    show smT f (tls f t)[k] t
    rw [he]
    exact smT_tr h2 hs
theorem tls_0 {f : Nat → Int32} {n : Nat} (hn : 0 < n) : 0 ∈ tls f n := by
  obtain ⟨k, rfl⟩ : ∃ k, n = k + 1 := ⟨n - 1, by omega⟩
  clear hn
  induction k with
  | zero =>
    unfold tls
    rw [cIf_f (show ¬ cMk f 0 from fun ⟨b, hb, _⟩ => absurd hb (by omega))]
    simp [tls]
  | succ k ih =>
    rw [tls]
    exact cIf_ind (R := fun l : List Nat => 0 ∈ l) (fun _ => ih) (fun _ => List.mem_append_left _ ih)
