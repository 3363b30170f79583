/-- the locals -/
def zkill (ls : zLs) : Nat → zLs
  | 0 => ls
  | k + 1 => match ls[k]? with
    | some (some w) => if w.category = 2 then ls.set k none else ls
    | _ => ls
def zset (ls : zLs) (i : Nat) (v : Value) : Option zLs := if i < ls.length then some ((zkill ls i).set i (some v)) else none
def zsetL (ls : zLs) (i : Nat) (v : Value) : Option zLs := if i + 1 < ls.length then some (((zkill ls i).set i (some v)).set (i + 1) none) else none
def zlo (ls : zLs) (i : Nat) : Option Value := match ls[i]? with
  | some (some v) => some v
  | _ => none
def zent0 : List Value → zLs
  | [] => []
  | v :: t => if v.category = 2 then some v :: none :: zent0 t else some v :: zent0 t
def zent (mi : Nat) (vs : List Value) : zLs := zent0 vs ++ List.replicate (zL mi - (zent0 vs).length) none
/-- where a jump goes -/
def ztg (pc : Nat) (off : Int) : Option Nat := match (pc : Int) + off with
  | .ofNat t => some t
  | _ => none
theorem ztg_ok {pc : Nat} {off : Int} {t : Nat} (h : ztg pc off = some t) : (pc : Int) + off = (t : Int) := by
  unfold ztg at h
  split at h
  · next e => cases h; exact e
  · cases h
def zbr (c : ClassFile.Cond) (x y : Int32) (t f : Nat) : Nat := match c with
  | .eq => if x = y then t else f
  | .ne => if x = y then f else t
  | .lt => if x < y then t else f
  | .ge => if y ≤ x then t else f
  | .gt => if y < x then t else f
  | .le => if x ≤ y then t else f
def zsw (dflt lo hi : Int) (offs : Array Int) (x : Int) : Option Int := if x < lo then some dflt else if hi < x then some dflt else offs[(x - lo).toNat]?
/-- an index in range -/
def zin (i : Int32) (n : Nat) : Option Nat := if i < 0 then none else if i.toNatClampNeg < n then some i.toNatClampNeg else none
def zfits (ty : FieldType) (v : Value) : Bool := match ty, v with
  | .int, .int _ => true
  | .long, .long _ => true
  | .boolean, .int x => decide (x = 0) || decide (x = 1)
  | .object _, .ref _ => true
  | .object _, .null => true
  | .array _, .ref _ => true
  | .array _, .null => true
  | _, _ => false
theorem zfits_ok {ty : FieldType} {v : Value} (h : zfits ty v = true) : narrow ty v = v ∧ fits ty v = true := by
  unfold zfits at h
  split at h
  · exact ⟨rfl, rfl⟩
  · exact ⟨rfl, rfl⟩
  · simp only [Bool.or_eq_true, decide_eq_true_eq] at h
    rcases h with rfl | rfl <;> exact ⟨by decide, by decide⟩
  · exact ⟨rfl, rfl⟩
  · exact ⟨rfl, rfl⟩
  · exact ⟨rfl, rfl⟩
  · exact ⟨rfl, rfl⟩
  · cases h
def zcell (hp : zHp) (v : Value) : Option (Nat × va_E) := match v with
  | .ref h => match hp[h]? with
    | some e => some (h, e)
    | none => none
  | _ => none
def zgetf (mi : Nat) (hp : zHp) (idx : Nat) (v : Value) : Option Value := match zcell hp v with
  | some (_, .inr (ci, fs)) => match zrow zFT (zC mi) idx with
    | some (cj, k, _) => if ci = cj then fs[k]? else none
    | none => none
  | _ => none
def zputf (mi : Nat) (hp : zHp) (idx : Nat) (o v : Value) : Option zHp := match zcell hp o with
  | some (h, .inr (ci, fs)) => match zrow zFT (zC mi) idx with
    | some (cj, k, _) => if ci = cj ∧ k < fs.length then
        match zTys[ci]? with
        | some ty => if zfits (ty k) v = true then some (hp.set h (.inr (ci, fs.set k v))) else none
        | none => none
      else none
    | none => none
  | _ => none
def zald (hp : zHp) (tag : Nat) (o : Value) (i : Int32) : Option Value := match zcell hp o with
  | some (_, .inl (t, n, d)) => if t = tag then
      match zin i n with
      | some k => match d with
        | .inl f => some (.int (f k))
        | .inr (.inl f) => some (.long (f k))
        | .inr (.inr (.inr (.inr f))) => some (va_rf (f k))
        | _ => none
      | none => none
    else none
  | _ => none
def zast (hp : zHp) (o : Value) (i : Int32) (v : Value) : Option zHp := match zcell hp o with
  | some (h, .inl (t, n, d)) => match zin i n with
    | some k => match d, v with
      | .inl f, .int x => if t = 0 then some (hp.set h (.inl (0, n, .inl (upd f k x)))) else if t = 1 ∧ vp_nar .boolean x = x then some (hp.set h (.inl (1, n, .inl (upd f k x)))) else none
      | .inr (.inl f), .long x => if t = 2 then some (hp.set h (.inl (2, n, .inr (.inl (vp_updL f k x))))) else none
      | .inr (.inr (.inr (.inr f))), .ref b => match hp[b]? with
        | some (.inr (ci, _)) => match zTY[t]?, zCl[ci]? with
          | some (.object C), some q => if C = q.1 then some (hp.set h (.inl (t, n, .inr (.inr (.inr (.inr (va_up f k (some b)))))))) else none
          | _, _ => none
        | _ => none
      | _, _ => none
    | none => none
  | _ => none
/-- one instruction that isn't a call, a return or a making of cells -/
def zst (mi : Nat) (i : Instr) (pc : Nat) (ls : zLs) (st : List Value) (hp : zHp) : Option zCf := match i with
  | .iconst n => some (pc + 1, ls, .int (Int32.ofInt n) :: st, hp)
  | .bipush n => some (pc + 2, ls, .int ((Int8.ofInt n).toInt32) :: st, hp)
  | .sipush n => some (pc + 3, ls, .int ((Int16.ofInt n).toInt32) :: st, hp)
  | .lconst n => some (pc + 1, ls, .long (Int64.ofNat (n : Nat)) :: st, hp)
  | .aconst_null => some (pc + 1, ls, .null :: st, hp)
  | .ldc2_w k => match zrow zKT (zC mi) k with
    | some (v, _) => some (pc + 3, ls, .long v :: st, hp)
    | none => none
  | .iload_n k => match zlo ls k with
    | some (.int x) => some (pc + 1, ls, .int x :: st, hp)
    | _ => none
  | .iload k => match zlo ls k with
    | some (.int x) => some (pc + 2, ls, .int x :: st, hp)
    | _ => none
  | .lload_n k => match zlo ls k with
    | some (.long x) => some (pc + 1, ls, .long x :: st, hp)
    | _ => none
  | .lload k => match zlo ls k with
    | some (.long x) => some (pc + 2, ls, .long x :: st, hp)
    | _ => none
  | .aload_n k => match zlo ls k with
    | some (.ref x) => some (pc + 1, ls, .ref x :: st, hp)
    | some .null => some (pc + 1, ls, .null :: st, hp)
    | _ => none
  | .aload k => match zlo ls k with
    | some (.ref x) => some (pc + 2, ls, .ref x :: st, hp)
    | some .null => some (pc + 2, ls, .null :: st, hp)
    | _ => none
  | .istore_n k => match st with
    | .int x :: r => match zset ls k (.int x) with
      | some ls' => some (pc + 1, ls', r, hp)
      | none => none
    | _ => none
  | .istore k => match st with
    | .int x :: r => match zset ls k (.int x) with
      | some ls' => some (pc + 2, ls', r, hp)
      | none => none
    | _ => none
  | .lstore_n k => match st with
    | .long x :: r => match zsetL ls k (.long x) with
      | some ls' => some (pc + 1, ls', r, hp)
      | none => none
    | _ => none
  | .lstore k => match st with
    | .long x :: r => match zsetL ls k (.long x) with
      | some ls' => some (pc + 2, ls', r, hp)
      | none => none
    | _ => none
  | .astore_n k => match st with
    | .ref x :: r => match zset ls k (.ref x) with
      | some ls' => some (pc + 1, ls', r, hp)
      | none => none
    | .null :: r => match zset ls k .null with
      | some ls' => some (pc + 1, ls', r, hp)
      | none => none
    | _ => none
  | .astore k => match st with
    | .ref x :: r => match zset ls k (.ref x) with
      | some ls' => some (pc + 2, ls', r, hp)
      | none => none
    | .null :: r => match zset ls k .null with
      | some ls' => some (pc + 2, ls', r, hp)
      | none => none
    | _ => none
  | .iinc k n => match zlo ls k with
    | some (.int x) => match zset ls k (.int (x + Int32.ofInt n)) with
      | some ls' => some (pc + 3, ls', st, hp)
      | none => none
    | _ => none
  | .iadd => match st with
    | .int y :: .int x :: r => some (pc + 1, ls, .int (x + y) :: r, hp)
    | _ => none
  | .isub => match st with
    | .int y :: .int x :: r => some (pc + 1, ls, .int (x - y) :: r, hp)
    | _ => none
  | .imul => match st with
    | .int y :: .int x :: r => some (pc + 1, ls, .int (x * y) :: r, hp)
    | _ => none
  | .iand => match st with
    | .int y :: .int x :: r => some (pc + 1, ls, .int (x &&& y) :: r, hp)
    | _ => none
  | .ior => match st with
    | .int y :: .int x :: r => some (pc + 1, ls, .int (x ||| y) :: r, hp)
    | _ => none
  | .ishl => match st with
    | .int y :: .int x :: r => some (pc + 1, ls, .int (x <<< (y &&& 31)) :: r, hp)
    | _ => none
  | .ishr => match st with
    | .int y :: .int x :: r => some (pc + 1, ls, .int (x >>> (y &&& 31)) :: r, hp)
    | _ => none
  | .idiv => match st with
    | .int y :: .int x :: r => if y = 0 then none else some (pc + 1, ls, .int (x / y) :: r, hp)
    | _ => none
  | .irem => match st with
    | .int y :: .int x :: r => if y = 0 then none else some (pc + 1, ls, .int (x - x / y * y) :: r, hp)
    | _ => none
  | .ineg => match st with
    | .int x :: r => some (pc + 1, ls, .int (-x) :: r, hp)
    | _ => none
  | .ladd => match st with
    | .long y :: .long x :: r => some (pc + 1, ls, .long (x + y) :: r, hp)
    | _ => none
  | .lsub => match st with
    | .long y :: .long x :: r => some (pc + 1, ls, .long (x - y) :: r, hp)
    | _ => none
  | .lmul => match st with
    | .long y :: .long x :: r => some (pc + 1, ls, .long (x * y) :: r, hp)
    | _ => none
  | .ldiv => match st with
    | .long y :: .long x :: r => if y = 0 then none else some (pc + 1, ls, .long (x / y) :: r, hp)
    | _ => none
  | .lrem => match st with
    | .long y :: .long x :: r => if y = 0 then none else some (pc + 1, ls, .long (x - x / y * y) :: r, hp)
    | _ => none
  | .lcmp => match st with
    | .long y :: .long x :: r => some (pc + 1, ls, .int (lg_cmp x y) :: r, hp)
    | _ => none
  | .i2l => match st with
    | .int x :: r => some (pc + 1, ls, .long x.toInt64 :: r, hp)
    | _ => none
  | .l2i => match st with
    | .long x :: r => some (pc + 1, ls, .int x.toInt32 :: r, hp)
    | _ => none
  | .dup => match st with
    | v :: r => if v.category = 1 then some (pc + 1, ls, v :: v :: r, hp) else none
    | _ => none
  | .pop => match st with
    | v :: r => if v.category = 1 then some (pc + 1, ls, r, hp) else none
    | _ => none
  | .dup2 => match st with
    | v :: w :: r => if v.category = 1 ∧ w.category = 1 then some (pc + 1, ls, v :: w :: v :: w :: r, hp) else none
    | _ => none
  | .dup_x1 => match st with
    | v :: w :: r => if v.category = 1 ∧ w.category = 1 then some (pc + 1, ls, v :: w :: v :: r, hp) else none
    | _ => none
  | .goto off => match ztg pc off with
    | some t => some (t, ls, st, hp)
    | none => none
  | .ifCond c off => match ztg pc off with
    | some t => match st with
      | .int x :: r => some (zbr c x 0 t (pc + 3), ls, r, hp)
      | _ => none
    | none => none
  | .if_icmp c off => match ztg pc off with
    | some t => match st with
      | .int y :: .int x :: r => some (zbr c x y t (pc + 3), ls, r, hp)
      | _ => none
    | none => none
  | .ifnull off => match ztg pc off with
    | some t => match st with
      | .ref _ :: r => some (pc + 3, ls, r, hp)
      | .null :: r => some (t, ls, r, hp)
      | _ => none
    | none => none
  | .ifnonnull off => match ztg pc off with
    | some t => match st with
      | .ref _ :: r => some (t, ls, r, hp)
      | .null :: r => some (pc + 3, ls, r, hp)
      | _ => none
    | none => none
  | .tableswitch dflt lo hi offs => match st with
    | .int x :: r => match zsw dflt lo hi offs x.toInt with
      | some off => match ztg pc off with
        | some t => some (t, ls, r, hp)
        | none => none
      | none => none
    | _ => none
  | .getfield k => match st with
    | o :: r => match zgetf mi hp k o with
      | some v => some (pc + 3, ls, v :: r, hp)
      | none => none
    | _ => none
  | .putfield k => match st with
    | v :: o :: r => match zputf mi hp k o v with
      | some hp' => some (pc + 3, ls, r, hp')
      | none => none
    | _ => none
  | .iaload => match st with
    | .int i :: o :: r => match zald hp 0 o i with
      | some (.int x) => some (pc + 1, ls, .int x :: r, hp)
      | _ => none
    | _ => none
  | .baload => match st with
    | .int i :: o :: r => match zald hp 1 o i with
      | some (.int x) => some (pc + 1, ls, .int x :: r, hp)
      | _ => none
    | _ => none
  | .laload => match st with
    | .int i :: o :: r => match zald hp 2 o i with
      | some (.long x) => some (pc + 1, ls, .long x :: r, hp)
      | _ => none
    | _ => none
  | .aaload => match st with
    | .int i :: o :: r => match zcell hp o with
      | some (_, .inl (t, _, .inr (.inr (.inr (.inr _))))) => match zTY[t]? with
        | some (.object _) => match zald hp t o i with
          | some v => some (pc + 1, ls, v :: r, hp)
          | none => none
        | _ => none
      | _ => none
    | _ => none
  | .iastore => match st with
    | .int x :: .int i :: o :: r => match zcell hp o with
      | some (_, .inl (0, _, _)) => match zast hp o i (.int x) with
        | some hp' => some (pc + 1, ls, r, hp')
        | none => none
      | _ => none
    | _ => none
  | .bastore => match st with
    | .int x :: .int i :: o :: r => match zcell hp o with
      | some (_, .inl (1, _, _)) => match zast hp o i (.int x) with
        | some hp' => some (pc + 1, ls, r, hp')
        | none => none
      | _ => none
    | _ => none
  | .lastore => match st with
    | .long x :: .int i :: o :: r => match zast hp o i (.long x) with
      | some hp' => some (pc + 1, ls, r, hp')
      | none => none
    | _ => none
  | .aastore => match st with
    | .ref b :: .int i :: o :: r => match zast hp o i (.ref b) with
      | some hp' => some (pc + 1, ls, r, hp')
      | none => none
    | _ => none
  | .arraylength => match st with
    | o :: r => match zcell hp o with
      | some (_, .inl (t, n, _)) => match zTY[t]? with
        | some _ => some (pc + 1, ls, .int (Int32.ofNat n) :: r, hp)
        | none => none
      | _ => none
    | _ => none
  | .new k => match zrow zNT (zC mi) k with
    | some (ci, _) => match zDF[ci]? with
      | some fs => some (pc + 3, ls, .ref hp.length :: st, hp ++ [.inr (ci, fs)])
      | none => none
    | none => none
  | .newarray aty => match st with
    | .int n :: r => if n < 0 ∨ 1000000 < n.toNatClampNeg then none else match aty with
      | .int => some (pc + 2, ls, .ref hp.length :: r, hp ++ [.inl (0, n.toNatClampNeg, .inl (fun _ => 0))])
      | .boolean => some (pc + 2, ls, .ref hp.length :: r, hp ++ [.inl (1, n.toNatClampNeg, .inl (fun _ => 0))])
      | .long => some (pc + 2, ls, .ref hp.length :: r, hp ++ [.inl (2, n.toNatClampNeg, .inr (.inl (fun _ => 0)))])
      | _ => none
    | _ => none
  | .anewarray k => match st with
    | .int n :: r => if n < 0 ∨ 1000000 < n.toNatClampNeg then none else match zrow zAT (zC mi) k with
      | some (t, _) => some (pc + 3, ls, .ref hp.length :: r, hp ++ [.inl (t, n.toNatClampNeg, .inr (.inr (.inr (.inr (fun _ => none)))))])
      | none => none
    | _ => none
  | .invokespecial k => match zrow zOT (zC mi) k with
    | some _ => match st with
      | .ref _ :: r => if (r.map fun v => v.category).sum ≤ 8 then some (pc + 3, ls, r, hp) else none
      | _ => none
    | none => none
  | .invokestatic k => match zrow zXT (zC mi) k with
    | some (w, _) => match st with
      | .int y :: .int x :: r => if (r.map fun v => v.category).sum ≤ 8 then some (pc + 3, ls, .int (if w = 0 then (if y < x then y else x) else (if x < y then y else x)) :: r, hp) else none
      | _ => none
    | none => none
  | _ => none
/-- a call: the callee, how many words it takes off the stack -/
def zcl (mi : Nat) (i : Instr) (st : List Value) (hp : zHp) : Option (Nat × Nat) := match i with
  | .invokevirtual k => match zrow zVT (zC mi) k with
    | some (mj, _) => match st[zN mj]? with
      | some (.ref h) => match hp[h]? with
        | some (.inr (ci, _)) => if ci = zC mj then some (mj, zN mj + 1) else none
        | _ => none
      | _ => none
    | none => none
  | .invokestatic k => match zrow zST (zC mi) k with
    | some (mj, _) => some (mj, zN mj)
    | none => none
  | .invokespecial k => match zrow zQT (zC mi) k with
    | some (mj, _) => match st[zN mj]? with
      | some (.ref _) => some (mj, zN mj + 1)
      | _ => none
    | none => match zrow zWT (zC mi) k with
      | some (mj, _) => match st[zN mj]? with
        | some (.ref _) => some (mj, zN mj + 1)
        | _ => none
      | none => none
  | _ => none
/-- where a run stops: at a return, or where an exception is made -/
def zsp (mi : Nat) : Instr → Bool
  | .ireturn | .lreturn | .areturn | .return_ => true
  | .new k => (zrow zNT (zC mi) k).isNone
  | _ => false
/-- what a method answers where it stopped -/
def zrt (mi : Nat) (pc : Nat) (st : List Value) : Option (Option Value) := match zI mi pc with
  | some (.ireturn, _) => match st, zR mi with
    | [.int v], some ty => if narrow ty (.int v) = .int v then some (some (.int v)) else none
    | _, _ => none
  | some (.lreturn, _) => match st, zR mi with
    | [.long v], some .long => some (some (.long v))
    | _, _ => none
  | some (.areturn, _) => match st, zR mi with
    | [.ref a], some (.object _) => some (some (.ref a))
    | [.null], some (.object _) => some (some .null)
    | _, _ => none
  | some (.return_, _) => match st, zR mi with
    | [], none => some none
    | _, _ => none
  | _ => none
/-- the run: n steps at most, d calls deep at most -/
def zgo : Nat → Nat → Nat → Nat → zLs → List Value → zHp → Option zCf
  | 0, _, _, _, _, _, _ => none
  | n + 1, d, mi, pc, ls, st, hp => match zI mi pc with
    | none => none
    | some (i, _) => if zsp mi i = true then some (pc, ls, st, hp) else
      match zcl mi i st hp with
      | some (mj, k) => match d with
        | 0 => none
        | d' + 1 => if st.length < k ∨ 8 < ((st.drop k).map fun v => v.category).sum ∨ zL mj < (zent0 (st.take k).reverse).length then none else
          match zgo n d' mj 0 (zent mj (st.take k).reverse) [] hp with
          | none => none
          | some (pc1, _, st1, hp1) => match zrt mj pc1 st1 with
            | none => none
            | some r => zgo n (d' + 1) mi (pc + 3) ls (r.toList ++ st.drop k) hp1
      | none => match zst mi i pc ls st hp with
        | none => none
        | some c => zgo n d mi c.1 c.2.1 c.2.2.1 c.2.2.2
