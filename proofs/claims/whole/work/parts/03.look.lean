/-! ===== a small machine over handles: what a method of the program does to rows of cells, as a function ===== -/
abbrev zHp : Type := List va_E
abbrev zLs : Type := List (Option Value)
abbrev zCf : Type := Nat × zLs × List Value × zHp
def zfnd {α : Type} : List (Nat × α) → Nat → Option α
  | [], _ => none
  | e :: t, i => if i = e.1 then some e.2 else zfnd t i
def zrow {α : Type} (T : List (List (Nat × α))) (c i : Nat) : Option α := match T[c]? with
  | none => none
  | some l => zfnd l i
theorem zfnd_mem {α : Type} {i : Nat} {a : α} : ∀ {l : List (Nat × α)}, zfnd l i = some a → (i, a) ∈ l
  | [], h => by cases h
  | e :: t, h => by
    unfold zfnd at h
    split at h
    · next hi => cases h; rw [hi]; exact List.mem_cons_self
    · exact List.mem_cons_of_mem _ (zfnd_mem h)
theorem zrow_mem {α : Type} {T : List (List (Nat × α))} {c i : Nat} {a : α} (h : zrow T c i = some a) : ∃ l, T[c]? = some l ∧ (i, a) ∈ l := by
  unfold zrow at h
  split at h
  · cases h
  · next l hl => exact ⟨l, hl, zfnd_mem h⟩
def zE (mi : Nat) : zME := zMT.getD mi (⟨"", "", ""⟩, ⟨#[]⟩, 0, none, 0, 0)
abbrev zY (mi : Nat) : MethodName := (zE mi).1
abbrev zB (mi : Nat) : ByteArray := (zE mi).2.1
abbrev zL (mi : Nat) : Nat := (zE mi).2.2.1
abbrev zR (mi : Nat) : Option FieldType := (zE mi).2.2.2.1
abbrev zC (mi : Nat) : Nat := (zE mi).2.2.2.2.1
abbrev zN (mi : Nat) : Nat := (zE mi).2.2.2.2.2
def zI (mi pc : Nat) : Option (Instr × Nat) := match zIT[mi]? with
  | none => none
  | some t => match t[pc / 8]? with
    | none => none
    | some r => match r[pc % 8]? with
      | none => none
      | some x => x
