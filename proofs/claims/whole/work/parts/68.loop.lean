-- lk: 67
/-! ===== the law's loop ===== -/
theorem lg_self (v : Int64) : lg_cmp v v = 0 := by
  unfold lg_cmp
  have : ¬ v > v := by
    show ¬ v < v
    simp
  simp [this]
theorem zsz_L {np h : Nat} {f : Nat → Int32} {g g' : Int64} : zsz (cel np h f g) = zsz (cel np h f g') := by
  unfold cel
  repeat' split
  all_goals first | rfl | (simp [zsz, mcl]; done)
theorem nI_toInt' {i : Nat} (h : i < 2 ^ 30) : (nI i).toInt = (i : Int) := by
  have := pk_sub_toInt (a := i) (b := 0) h (by omega)
  rw [show nI i - nI 0 = nI i from Int32.sub_zero _] at this
  omega
theorem head_le {L i : Nat} (hL : L ≤ 2563) (hi : i ≤ 2566) (h : ¬ Int32.ofNat L - 5 < nI i) : i + 5 ≤ L := by
  rw [Int32.lt_iff_toInt_lt] at h
  have e : (Int32.ofNat L - 5).toInt = (L : Int) - 5 := pk_sub_toInt (a := L) (b := 5) (by omega) (by omega)
  have e2 : (nI i).toInt = (i : Int) := nI_toInt' (by omega)
  rw [e, e2] at h
  omega
set_option maxHeartbeats 40000000 in
set_option maxRecDepth 100000 in
theorem law_loop {p : Program} {l : Launch} {e : Env} {s : State} {m : MethodId} {below : List Frame} {meth : Method} {c : Code} {dC : Nat → ClassId} {dI : Nat → Nat → Nat} {dA : Nat → ClassId} {b L sa : Nat} {xs : Nat → Int32} (hL : L ≤ 2563) (C0 : lw_At p s m meth c b L xs) (hlt : l.stackTraces = false)
    (hK : va_K (dC, dI) zCl (zty dA) s) (hX : zX s) (hH : xH (fun q : Nat => s.heap.size ≤ q) sa s s.heap) :
    ∀ (n i : Nat), L + 4 ≤ i + n → i ≤ L + 3 → ∀ (x4 : Int32), x4 = nI i → ∀ (np : Nat) (M : Nat → Nat → Int32) (Lg : Nat → Int64) (ad : Nat → Nat) (gc gs : Nat) (H : Heap) (locs : List Loc) (cells slots : Nat), IVx np M → va_P (dC, dI) zCl (zw dA ad (mk np M Lg)) H → va_D (fun q : Nat => s.heap.size ≤ q) (zw dA ad (mk np M Lg)) → va_S (fun q : Nat => s.heap.size ≤ q) s.heap H locs →
      cells = 57 + np + gc → slots = zhs (mk np M Lg) + gs → gc ≤ i → gs ≤ 6 * i → ∀ (ls : Array Slot), lv_has ls 8 [(0, .ref b), (1, .ref (ad 0)), (2, .ref (ad 21)), (3, .ref (ad 56)), (4, .int x4)] → W p l e room_1 s m #[Value.ref b] below meth c H locs cells slots (lw_Z below #[Value.ref b] s) (F0 m 53 ls []) := by
  have C1 := C0
  obtain ⟨hx, hb, hr, hml, hown, hts, hXs, hbl, hlocks, hgv⟩ := C0
  have CF : CallFix p m c code 8 s #[Value.ref b] lw_tbl R_law := ⟨hx, hb, hml, hown, hts⟩
  have hA : ∀ q : Nat, s.heap.size ≤ q → (fun q : Nat => s.heap.size ≤ q) q := fun _ h => h
  have hbA : ¬ (fun q : Nat => s.heap.size ≤ q) b := Nat.not_le.mpr hbl
  intro n
  induction n with
  | zero =>
    intro i h1 h2
    exact absurd h1 (by omega)
  | succ n ih =>
    intro i hin hi x4 ex4 np M Lg ad gc gs H locs cells slots ivx hP hD hS ec es hgc hgs ls hl
    have n6 : np ≤ 6 := by obtain ⟨g, B, wq, sq, mt, iv⟩ := ivx; exact iv.n6
    have zh := zhs_mk (np := np) (M := M) (L := Lg) n6
    refine lv_iload hx hb dw_53 (lv_at hl 4 rfl) ?_
    refine lv_aload_n hx hb dw_55 rfl (lv_at hl 0 rfl) ?_
    refine va_slen hx hb hXs hbl hbA hS dw_56 ?_
    refine lv_iconst (v := 5) hx hb dw_57 (by decide) ?_
    refine lv_isub hx hb dw_58 ?_
    refine lv_icmp_gt (tgt := 655) hx hb dw_59 (by decide) (fun c1 => ?_) (fun c1 => ?_)
    · refine lv_iconst (v := 1) hx hb dw_655 (by decide) ?_
      refine va_forget (fun q hq => hS.2.2 q hq) ?_
      refine W.widen (k := 601024) (n := 7293000) (by omega) (by omega) ?_
      exact lw_ret hx hb hr hlocks dw_656
    · have h5 : i + 5 ≤ L := head_le hL (by omega) (by rw [← ex4]; exact c1)
      obtain ⟨ad1, f1, had, f3⟩ := re_ad dA ad np M Lg H.size
      rw [← f3] at hP hD
      rw [← f1 0 (by omega), ← f1 21 (by omega), ← f1 56 (by omega)] at hl
      clear f3 f1
      clear ad
      have v0 : vp_in x4 L := by rw [ex4]; exact vp_in_nI (by omega) (by omega)
      have v1 : vp_in (x4 + 1) L := by rw [ex4, show nI i + 1 = nI (i + 1) from nI_add i 1]; exact vp_in_nI (by omega) (by omega)
      have v2 : vp_in (x4 + 2) L := by rw [ex4, show nI i + 2 = nI (i + 2) from nI_add i 2]; exact vp_in_nI (by omega) (by omega)
      have v3 : vp_in (x4 + 3) L := by rw [ex4, show nI i + 3 = nI (i + 3) from nI_add i 3]; exact vp_in_nI (by omega) (by omega)
      have v4 : vp_in (x4 + 4) L := by rw [ex4, show nI i + 4 = nI (i + 4) from nI_add i 4]; exact vp_in_nI (by omega) (by omega)
      have fin : ∀ (ad : Nat → Nat) (np' : Nat) (M' : Nat → Nat → Int32) (L' : Nat → Int64) (H' : Heap) (locs' : List Loc) (cells' slots' gc' gs' : Nat) (ls' : Array Slot), IVx np' M' → va_P (dC, dI) zCl (zw dA ad (mk np' M' L')) H' → va_D (fun q : Nat => s.heap.size ≤ q) (zw dA ad (mk np' M' L')) → va_S (fun q : Nat => s.heap.size ≤ q) s.heap H' locs' → cells' = 57 + np' + gc' → slots' = zhs (mk np' M' L') + gs' → gc' ≤ i + 5 → gs' ≤ 6 * (i + 5) → lv_has ls' 8 [(0, .ref b), (1, .ref (ad 0)), (2, .ref (ad 21)), (3, .ref (ad 56)), (4, .int x4)] → W p l e room_1 s m #[Value.ref b] below meth c H' locs' cells' slots' (lw_Z below #[Value.ref b] s) (F0 m 649 ls' []) := by
        intro ad np' M' L' H' locs' cells' slots' gc' gs' ls' iv' hP' hD' hS' ec' es' hgc' hgs' hl'
        refine lv_iinc (v := x4 + 5) (lv' := [(4, .int (x4 + 5)), (0, .ref b), (1, .ref (ad 0)), (2, .ref (ad 21)), (3, .ref (ad 56))]) hx hb dw_649 hl' (k := 4) rfl (congrArg (x4 + ·) (by decide)) (by decide) rfl (fun ls2 hl2 => ?_)
        refine lv_goto (tgt := 53) hx hb dw_652 (by decide) ?_
        exact ih (i + 5) (by omega) (by omega) (x4 + 5) (by rw [ex4]; exact nI_add i 5) np' M' L' ad gc' gs' H' locs' cells' slots' iv' hP' hD' hS' ec' es' hgc' hgs' ls2 (lv_sub hl2 [1, 2, 3, 4, 0] rfl)
      obtain ⟨g, B, wq, sq, mt, iv⟩ := ivx
      refine lv_aload_n hx hb dw_62 rfl (lv_at hl 0 rfl) ?_
      refine lv_iload hx hb dw_63 (lv_at hl 4 rfl) ?_
      refine va_sld hx hb hXs hbl hbA hS v0 dw_65 ?_
      refine lv_bipush (v := 15) hx hb dw_66 (by decide) ?_
      refine lv_iand hx hb dw_68 ?_
      obtain ⟨t, ht, et⟩ := and15 (xs x4.toNatClampNeg)
      rw [et]
      match t, ht with
      | 0, _ =>
        refine lv_tableIn (off := 75) (tgt := 144) hx hb dw_69 (by decide) (by decide) rfl (by decide) ?_
        refine lv_aload_n hx hb dw_144 rfl (lv_at hl 1 rfl) ?_
        refine lv_aload_n hx hb dw_145 rfl (lv_at hl 0 rfl) ?_
        refine lv_iload hx hb dw_146 (lv_at hl 4 rfl) ?_
        refine lv_iconst (v := 1) hx hb dw_148 (by decide) ?_
        refine lv_iadd hx hb dw_149 ?_
        refine va_sld hx hb hXs hbl hbA hS v1 dw_150 ?_
        refine lv_aload_n hx hb dw_151 rfl (lv_at hl 0 rfl) ?_
        refine lv_iload hx hb dw_152 (lv_at hl 4 rfl) ?_
        refine lv_iconst (v := 2) hx hb dw_154 (by decide) ?_
        refine lv_iadd hx hb dw_155 ?_
        refine va_sld hx hb hXs hbl hbA hS v2 dw_156 ?_
        refine lv_aload_n hx hb dw_157 rfl (lv_at hl 0 rfl) ?_
        refine lv_iload hx hb dw_158 (lv_at hl 4 rfl) ?_
        refine lv_iconst (v := 3) hx hb dw_160 (by decide) ?_
        refine lv_iadd hx hb dw_161 ?_
        refine va_sld hx hb hXs hbl hbA hS v3 dw_162 ?_
        refine lv_aload_n hx hb dw_163 rfl (lv_at hl 0 rfl) ?_
        refine lv_iload hx hb dw_164 (lv_at hl 4 rfl) ?_
        refine lv_iconst (v := 4) hx hb dw_166 (by decide) ?_
        refine lv_iadd hx hb dw_167 ?_
        refine va_sld hx hb hXs hbl hbA hS v4 dw_168 ?_
        obtain ⟨r, np1, M1, M2, L2, r1, r2, iv2, hle⟩ := sm_piece (L := Lg) iv (xs (x4 + 1).toNatClampNeg) (xs (x4 + 2).toNatClampNeg) (xs (x4 + 3).toNatClampNeg) (xs (x4 + 4).toNatClampNeg)
        have q1 := (rn_met l r1 (by decide) (Nat.le_of_ble_eq_true rfl)).2
        have q2 := (rn_met l r2 (by decide) (Nat.le_of_ble_eq_true rfl)).2
        have n61 : np1 ≤ 6 := by obtain ⟨g, B, wq, sq, mt, iv⟩ := iv2; exact iv.n6
        have zh1 := zhs_mk (np := np1) (M := M1) (L := Lg) n61
        have zh2 := zhs_mk (np := np1) (M := M2) (L := L2) n61
        refine lc_V (vs := [.int (xs (x4 + 1).toNatClampNeg), .int (xs (x4 + 2).toNatClampNeg), .int (xs (x4 + 3).toNatClampNeg), .int (xs (x4 + 4).toNatClampNeg)]) (rest := []) lc_tbl (show (27, mX5_piece, (204, 205, 206, 25)) ∈ lawV from List.mem_of_getElem? (i := 0) rfl) hA CF hK hX hP hD hS had r1 lw_cl rfl rfl (Nat.le_of_ble_eq_true rfl) hl.1 (Nat.le_of_ble_eq_true rfl) dw_169 (by decide) (by decide) (by simp only [mk_len]; show _ ≤ 601024; omega) (by show _ ≤ 7293000; omega) (fun H1 locs1 hP1 hD1 hS1 hz1 => ?_)
        have had1 : ∀ j, ad1 ((mk np1 M1 Lg).length + j) = H1.size + j := fun j => by
          have h9 := had (np1 - np + j)
          simp only [mk_len] at h9 hz1 ⊢
          rw [show 57 + np1 + j = 57 + np + (np1 - np + j) by omega, h9, hz1]
          omega
        obtain ⟨fs, hfs⟩ := lw_ml (np := np1) (M := M1) (L := Lg)
        refine lv_aload_n hx hb dw_172 rfl (lv_at hl 2 rfl) ?_
        refine lv_aload_n hx hb dw_173 rfl (lv_at hl 0 rfl) ?_
        refine lv_iload hx hb dw_174 (lv_at hl 4 rfl) ?_
        refine lv_iconst (v := 1) hx hb dw_176 (by decide) ?_
        refine lv_iadd hx hb dw_177 ?_
        refine va_sld hx hb hXs hbl hbA hS1 v1 dw_178 ?_
        refine lv_aload_n hx hb dw_179 rfl (lv_at hl 0 rfl) ?_
        refine lv_iload hx hb dw_180 (lv_at hl 4 rfl) ?_
        refine lv_iconst (v := 2) hx hb dw_182 (by decide) ?_
        refine lv_iadd hx hb dw_183 ?_
        refine va_sld hx hb hXs hbl hbA hS1 v2 dw_184 ?_
        refine lv_aload_n hx hb dw_185 rfl (lv_at hl 0 rfl) ?_
        refine lv_iload hx hb dw_186 (lv_at hl 4 rfl) ?_
        refine lv_iconst (v := 3) hx hb dw_188 (by decide) ?_
        refine lv_iadd hx hb dw_189 ?_
        refine va_sld hx hb hXs hbl hbA hS1 v3 dw_190 ?_
        refine lv_aload_n hx hb dw_191 rfl (lv_at hl 0 rfl) ?_
        refine lv_iload hx hb dw_192 (lv_at hl 4 rfl) ?_
        refine lv_iconst (v := 4) hx hb dw_194 (by decide) ?_
        refine lv_iadd hx hb dw_195 ?_
        refine va_sld hx hb hXs hbl hbA hS1 v4 dw_196 ?_
        refine lc_V (vs := [.int (xs (x4 + 1).toNatClampNeg), .int (xs (x4 + 2).toNatClampNeg), .int (xs (x4 + 3).toNatClampNeg), .int (xs (x4 + 4).toNatClampNeg)]) (rest := [.int r]) lc_tbl (show (31, mX6_piece, (707, 708, 709, 31)) ∈ lawV from List.mem_of_getElem? (i := 1) rfl) hA CF hK hX hP1 hD1 hS1 had1 r2 hfs rfl rfl (Nat.le_of_ble_eq_true rfl) hl.1 (Nat.le_of_ble_eq_true rfl) dw_197 (by decide) (by decide) (by simp only [mk_len]; show _ ≤ 601024; omega) (by show _ ≤ 7293000; omega) (fun H2 locs2 hP2 hD2 hS2 hz2 => ?_)
        show W p l e room_1 s m #[Value.ref b] below meth c _ _ _ _ _ (F0 m 200 ls [.int r, .int r])
        refine lv_icmp_eq (tgt := 649) hx hb dw_200 (by decide) (fun _ => ?_) (fun c => absurd rfl c)
        exact fin ad1 np1 M2 L2 H2 locs2 _ _ gc gs ls iv2 hP2 hD2 hS2 (by simp only [mk_len]; omega) (by omega) (by omega) (by omega) hl
      | 1, _ =>
        refine lv_tableIn (off := 136) (tgt := 205) hx hb dw_69 (by decide) (by decide) rfl (by decide) ?_
        refine lv_aload_n hx hb dw_205 rfl (lv_at hl 1 rfl) ?_
        refine lv_aload_n hx hb dw_206 rfl (lv_at hl 0 rfl) ?_
        refine lv_iload hx hb dw_207 (lv_at hl 4 rfl) ?_
        refine lv_iconst (v := 1) hx hb dw_209 (by decide) ?_
        refine lv_iadd hx hb dw_210 ?_
        refine va_sld hx hb hXs hbl hbA hS v1 dw_211 ?_
        refine lv_aload_n hx hb dw_212 rfl (lv_at hl 0 rfl) ?_
        refine lv_iload hx hb dw_213 (lv_at hl 4 rfl) ?_
        refine lv_iconst (v := 2) hx hb dw_215 (by decide) ?_
        refine lv_iadd hx hb dw_216 ?_
        refine va_sld hx hb hXs hbl hbA hS v2 dw_217 ?_
        obtain ⟨r, np1, M1, M2, L2, r1, r2, iv2, hle⟩ := sm_turn (L := Lg) iv (xs (x4 + 1).toNatClampNeg) (xs (x4 + 2).toNatClampNeg)
        have q1 := (rn_met l r1 (by decide) (Nat.le_of_ble_eq_true rfl)).2
        have q2 := (rn_met l r2 (by decide) (Nat.le_of_ble_eq_true rfl)).2
        have n61 : np1 ≤ 6 := by obtain ⟨g, B, wq, sq, mt, iv⟩ := iv2; exact iv.n6
        have zh1 := zhs_mk (np := np1) (M := M1) (L := Lg) n61
        have zh2 := zhs_mk (np := np1) (M := M2) (L := L2) n61
        refine lc_V (vs := [.int (xs (x4 + 1).toNatClampNeg), .int (xs (x4 + 2).toNatClampNeg)]) (rest := []) lc_tbl (show (32, mX5_turn, (249, 250, 251, 25)) ∈ lawV from List.mem_of_getElem? (i := 2) rfl) hA CF hK hX hP hD hS had r1 lw_cl rfl rfl (Nat.le_of_ble_eq_true rfl) hl.1 (Nat.le_of_ble_eq_true rfl) dw_218 (by decide) (by decide) (by simp only [mk_len]; show _ ≤ 601024; omega) (by show _ ≤ 7293000; omega) (fun H1 locs1 hP1 hD1 hS1 hz1 => ?_)
        have had1 : ∀ j, ad1 ((mk np1 M1 Lg).length + j) = H1.size + j := fun j => by
          have h9 := had (np1 - np + j)
          simp only [mk_len] at h9 hz1 ⊢
          rw [show 57 + np1 + j = 57 + np + (np1 - np + j) by omega, h9, hz1]
          omega
        obtain ⟨fs, hfs⟩ := lw_ml (np := np1) (M := M1) (L := Lg)
        refine lv_aload_n hx hb dw_221 rfl (lv_at hl 2 rfl) ?_
        refine lv_aload_n hx hb dw_222 rfl (lv_at hl 0 rfl) ?_
        refine lv_iload hx hb dw_223 (lv_at hl 4 rfl) ?_
        refine lv_iconst (v := 1) hx hb dw_225 (by decide) ?_
        refine lv_iadd hx hb dw_226 ?_
        refine va_sld hx hb hXs hbl hbA hS1 v1 dw_227 ?_
        refine lv_aload_n hx hb dw_228 rfl (lv_at hl 0 rfl) ?_
        refine lv_iload hx hb dw_229 (lv_at hl 4 rfl) ?_
        refine lv_iconst (v := 2) hx hb dw_231 (by decide) ?_
        refine lv_iadd hx hb dw_232 ?_
        refine va_sld hx hb hXs hbl hbA hS1 v2 dw_233 ?_
        refine lc_V (vs := [.int (xs (x4 + 1).toNatClampNeg), .int (xs (x4 + 2).toNatClampNeg)]) (rest := [.int r]) lc_tbl (show (36, mX6_turn, (714, 715, 716, 31)) ∈ lawV from List.mem_of_getElem? (i := 3) rfl) hA CF hK hX hP1 hD1 hS1 had1 r2 hfs rfl rfl (Nat.le_of_ble_eq_true rfl) hl.1 (Nat.le_of_ble_eq_true rfl) dw_234 (by decide) (by decide) (by simp only [mk_len]; show _ ≤ 601024; omega) (by show _ ≤ 7293000; omega) (fun H2 locs2 hP2 hD2 hS2 hz2 => ?_)
        show W p l e room_1 s m #[Value.ref b] below meth c _ _ _ _ _ (F0 m 237 ls [.int r, .int r])
        refine lv_icmp_eq (tgt := 649) hx hb dw_237 (by decide) (fun _ => ?_) (fun c => absurd rfl c)
        exact fin ad1 np1 M2 L2 H2 locs2 _ _ gc gs ls iv2 hP2 hD2 hS2 (by simp only [mk_len]; omega) (by omega) (by omega) (by omega) hl
      | 2, _ =>
        refine lv_tableIn (off := 173) (tgt := 242) hx hb dw_69 (by decide) (by decide) rfl (by decide) ?_
        refine lv_aload_n hx hb dw_242 rfl (lv_at hl 1 rfl) ?_
        refine lv_aload_n hx hb dw_243 rfl (lv_at hl 0 rfl) ?_
        refine lv_iload hx hb dw_244 (lv_at hl 4 rfl) ?_
        refine lv_iconst (v := 1) hx hb dw_246 (by decide) ?_
        refine lv_iadd hx hb dw_247 ?_
        refine va_sld hx hb hXs hbl hbA hS v1 dw_248 ?_
        refine lv_aload_n hx hb dw_249 rfl (lv_at hl 0 rfl) ?_
        refine lv_iload hx hb dw_250 (lv_at hl 4 rfl) ?_
        refine lv_iconst (v := 2) hx hb dw_252 (by decide) ?_
        refine lv_iadd hx hb dw_253 ?_
        refine va_sld hx hb hXs hbl hbA hS v2 dw_254 ?_
        obtain ⟨r, np1, M1, M2, L2, r1, r2, iv2, hle⟩ := sm_limit (L := Lg) iv (xs (x4 + 1).toNatClampNeg) (xs (x4 + 2).toNatClampNeg)
        have q1 := (rn_met l r1 (by decide) (Nat.le_of_ble_eq_true rfl)).2
        have q2 := (rn_met l r2 (by decide) (Nat.le_of_ble_eq_true rfl)).2
        have n61 : np1 ≤ 6 := by obtain ⟨g, B, wq, sq, mt, iv⟩ := iv2; exact iv.n6
        have zh1 := zhs_mk (np := np1) (M := M1) (L := Lg) n61
        have zh2 := zhs_mk (np := np1) (M := M2) (L := L2) n61
        refine lc_V (vs := [.int (xs (x4 + 1).toNatClampNeg), .int (xs (x4 + 2).toNatClampNeg)]) (rest := []) lc_tbl (show (37, mX5_limit, (277, 278, 279, 25)) ∈ lawV from List.mem_of_getElem? (i := 4) rfl) hA CF hK hX hP hD hS had r1 lw_cl rfl rfl (Nat.le_of_ble_eq_true rfl) hl.1 (Nat.le_of_ble_eq_true rfl) dw_255 (by decide) (by decide) (by simp only [mk_len]; show _ ≤ 601024; omega) (by show _ ≤ 7293000; omega) (fun H1 locs1 hP1 hD1 hS1 hz1 => ?_)
        have had1 : ∀ j, ad1 ((mk np1 M1 Lg).length + j) = H1.size + j := fun j => by
          have h9 := had (np1 - np + j)
          simp only [mk_len] at h9 hz1 ⊢
          rw [show 57 + np1 + j = 57 + np + (np1 - np + j) by omega, h9, hz1]
          omega
        obtain ⟨fs, hfs⟩ := lw_ml (np := np1) (M := M1) (L := Lg)
        refine lv_aload_n hx hb dw_258 rfl (lv_at hl 2 rfl) ?_
        refine lv_aload_n hx hb dw_259 rfl (lv_at hl 0 rfl) ?_
        refine lv_iload hx hb dw_260 (lv_at hl 4 rfl) ?_
        refine lv_iconst (v := 1) hx hb dw_262 (by decide) ?_
        refine lv_iadd hx hb dw_263 ?_
        refine va_sld hx hb hXs hbl hbA hS1 v1 dw_264 ?_
        refine lv_aload_n hx hb dw_265 rfl (lv_at hl 0 rfl) ?_
        refine lv_iload hx hb dw_266 (lv_at hl 4 rfl) ?_
        refine lv_iconst (v := 2) hx hb dw_268 (by decide) ?_
        refine lv_iadd hx hb dw_269 ?_
        refine va_sld hx hb hXs hbl hbA hS1 v2 dw_270 ?_
        refine lc_V (vs := [.int (xs (x4 + 1).toNatClampNeg), .int (xs (x4 + 2).toNatClampNeg)]) (rest := [.int r]) lc_tbl (show (40, mX6_limit, (722, 723, 724, 31)) ∈ lawV from List.mem_of_getElem? (i := 5) rfl) hA CF hK hX hP1 hD1 hS1 had1 r2 hfs rfl rfl (Nat.le_of_ble_eq_true rfl) hl.1 (Nat.le_of_ble_eq_true rfl) dw_271 (by decide) (by decide) (by simp only [mk_len]; show _ ≤ 601024; omega) (by show _ ≤ 7293000; omega) (fun H2 locs2 hP2 hD2 hS2 hz2 => ?_)
        show W p l e room_1 s m #[Value.ref b] below meth c _ _ _ _ _ (F0 m 274 ls [.int r, .int r])
        refine lv_icmp_eq (tgt := 649) hx hb dw_274 (by decide) (fun _ => ?_) (fun c => absurd rfl c)
        exact fin ad1 np1 M2 L2 H2 locs2 _ _ gc gs ls iv2 hP2 hD2 hS2 (by simp only [mk_len]; omega) (by omega) (by omega) (by omega) hl
      | 3, _ =>
        refine lv_tableIn (off := 210) (tgt := 279) hx hb dw_69 (by decide) (by decide) rfl (by decide) ?_
        refine lv_aload_n hx hb dw_279 rfl (lv_at hl 1 rfl) ?_
        refine lv_aload_n hx hb dw_280 rfl (lv_at hl 0 rfl) ?_
        refine lv_iload hx hb dw_281 (lv_at hl 4 rfl) ?_
        refine lv_iconst (v := 1) hx hb dw_283 (by decide) ?_
        refine lv_iadd hx hb dw_284 ?_
        refine va_sld hx hb hXs hbl hbA hS v1 dw_285 ?_
        refine lv_aload_n hx hb dw_286 rfl (lv_at hl 0 rfl) ?_
        refine lv_iload hx hb dw_287 (lv_at hl 4 rfl) ?_
        refine lv_iconst (v := 2) hx hb dw_289 (by decide) ?_
        refine lv_iadd hx hb dw_290 ?_
        refine va_sld hx hb hXs hbl hbA hS v2 dw_291 ?_
        obtain ⟨r, np1, M1, M2, L2, r1, r2, iv2, hle⟩ := sm_order (L := Lg) iv (xs (x4 + 1).toNatClampNeg) (xs (x4 + 2).toNatClampNeg)
        have q1 := (rn_met l r1 (by decide) (Nat.le_of_ble_eq_true rfl)).2
        have q2 := (rn_met l r2 (by decide) (Nat.le_of_ble_eq_true rfl)).2
        have n61 : np1 ≤ 6 := by obtain ⟨g, B, wq, sq, mt, iv⟩ := iv2; exact iv.n6
        have zh1 := zhs_mk (np := np1) (M := M1) (L := Lg) n61
        have zh2 := zhs_mk (np := np1) (M := M2) (L := L2) n61
        refine lc_V (vs := [.int (xs (x4 + 1).toNatClampNeg), .int (xs (x4 + 2).toNatClampNeg)]) (rest := []) lc_tbl (show (41, mX5_order, (281, 282, 283, 25)) ∈ lawV from List.mem_of_getElem? (i := 6) rfl) hA CF hK hX hP hD hS had r1 lw_cl rfl rfl (Nat.le_of_ble_eq_true rfl) hl.1 (Nat.le_of_ble_eq_true rfl) dw_292 (by decide) (by decide) (by simp only [mk_len]; show _ ≤ 601024; omega) (by show _ ≤ 7293000; omega) (fun H1 locs1 hP1 hD1 hS1 hz1 => ?_)
        have had1 : ∀ j, ad1 ((mk np1 M1 Lg).length + j) = H1.size + j := fun j => by
          have h9 := had (np1 - np + j)
          simp only [mk_len] at h9 hz1 ⊢
          rw [show 57 + np1 + j = 57 + np + (np1 - np + j) by omega, h9, hz1]
          omega
        obtain ⟨fs, hfs⟩ := lw_ml (np := np1) (M := M1) (L := Lg)
        refine lv_aload_n hx hb dw_295 rfl (lv_at hl 2 rfl) ?_
        refine lv_aload_n hx hb dw_296 rfl (lv_at hl 0 rfl) ?_
        refine lv_iload hx hb dw_297 (lv_at hl 4 rfl) ?_
        refine lv_iconst (v := 1) hx hb dw_299 (by decide) ?_
        refine lv_iadd hx hb dw_300 ?_
        refine va_sld hx hb hXs hbl hbA hS1 v1 dw_301 ?_
        refine lv_aload_n hx hb dw_302 rfl (lv_at hl 0 rfl) ?_
        refine lv_iload hx hb dw_303 (lv_at hl 4 rfl) ?_
        refine lv_iconst (v := 2) hx hb dw_305 (by decide) ?_
        refine lv_iadd hx hb dw_306 ?_
        refine va_sld hx hb hXs hbl hbA hS1 v2 dw_307 ?_
        refine lc_V (vs := [.int (xs (x4 + 1).toNatClampNeg), .int (xs (x4 + 2).toNatClampNeg)]) (rest := [.int r]) lc_tbl (show (44, mX6_order, (726, 727, 728, 31)) ∈ lawV from List.mem_of_getElem? (i := 7) rfl) hA CF hK hX hP1 hD1 hS1 had1 r2 hfs rfl rfl (Nat.le_of_ble_eq_true rfl) hl.1 (Nat.le_of_ble_eq_true rfl) dw_308 (by decide) (by decide) (by simp only [mk_len]; show _ ≤ 601024; omega) (by show _ ≤ 7293000; omega) (fun H2 locs2 hP2 hD2 hS2 hz2 => ?_)
        show W p l e room_1 s m #[Value.ref b] below meth c _ _ _ _ _ (F0 m 311 ls [.int r, .int r])
        refine lv_icmp_eq (tgt := 649) hx hb dw_311 (by decide) (fun _ => ?_) (fun c => absurd rfl c)
        exact fin ad1 np1 M2 L2 H2 locs2 _ _ gc gs ls iv2 hP2 hD2 hS2 (by simp only [mk_len]; omega) (by omega) (by omega) (by omega) hl
      | 4, _ =>
        refine lv_tableIn (off := 247) (tgt := 316) hx hb dw_69 (by decide) (by decide) rfl (by decide) ?_
        refine lv_aload_n hx hb dw_316 rfl (lv_at hl 1 rfl) ?_
        refine lv_aload_n hx hb dw_317 rfl (lv_at hl 0 rfl) ?_
        refine lv_iload hx hb dw_318 (lv_at hl 4 rfl) ?_
        refine lv_iconst (v := 1) hx hb dw_320 (by decide) ?_
        refine lv_iadd hx hb dw_321 ?_
        refine va_sld hx hb hXs hbl hbA hS v1 dw_322 ?_
        obtain ⟨r, np1, M1, M2, L2, r1, r2, iv2, hle⟩ := sm_large (L := Lg) iv (xs (x4 + 1).toNatClampNeg)
        have q1 := (rn_met l r1 (by decide) (Nat.le_of_ble_eq_true rfl)).2
        have q2 := (rn_met l r2 (by decide) (Nat.le_of_ble_eq_true rfl)).2
        have n61 : np1 ≤ 6 := by obtain ⟨g, B, wq, sq, mt, iv⟩ := iv2; exact iv.n6
        have zh1 := zhs_mk (np := np1) (M := M1) (L := Lg) n61
        have zh2 := zhs_mk (np := np1) (M := M2) (L := L2) n61
        refine lc_V (vs := [.int (xs (x4 + 1).toNatClampNeg)]) (rest := []) lc_tbl (show (45, mX5_large, (285, 286, 287, 25)) ∈ lawV from List.mem_of_getElem? (i := 8) rfl) hA CF hK hX hP hD hS had r1 lw_cl rfl rfl (Nat.le_of_ble_eq_true rfl) hl.1 (Nat.le_of_ble_eq_true rfl) dw_323 (by decide) (by decide) (by simp only [mk_len]; show _ ≤ 601024; omega) (by show _ ≤ 7293000; omega) (fun H1 locs1 hP1 hD1 hS1 hz1 => ?_)
        have had1 : ∀ j, ad1 ((mk np1 M1 Lg).length + j) = H1.size + j := fun j => by
          have h9 := had (np1 - np + j)
          simp only [mk_len] at h9 hz1 ⊢
          rw [show 57 + np1 + j = 57 + np + (np1 - np + j) by omega, h9, hz1]
          omega
        obtain ⟨fs, hfs⟩ := lw_ml (np := np1) (M := M1) (L := Lg)
        refine lv_aload_n hx hb dw_326 rfl (lv_at hl 2 rfl) ?_
        refine lv_aload_n hx hb dw_327 rfl (lv_at hl 0 rfl) ?_
        refine lv_iload hx hb dw_328 (lv_at hl 4 rfl) ?_
        refine lv_iconst (v := 1) hx hb dw_330 (by decide) ?_
        refine lv_iadd hx hb dw_331 ?_
        refine va_sld hx hb hXs hbl hbA hS1 v1 dw_332 ?_
        refine lc_V (vs := [.int (xs (x4 + 1).toNatClampNeg)]) (rest := [.int r]) lc_tbl (show (49, mX6_large, (730, 731, 732, 31)) ∈ lawV from List.mem_of_getElem? (i := 9) rfl) hA CF hK hX hP1 hD1 hS1 had1 r2 hfs rfl rfl (Nat.le_of_ble_eq_true rfl) hl.1 (Nat.le_of_ble_eq_true rfl) dw_333 (by decide) (by decide) (by simp only [mk_len]; show _ ≤ 601024; omega) (by show _ ≤ 7293000; omega) (fun H2 locs2 hP2 hD2 hS2 hz2 => ?_)
        show W p l e room_1 s m #[Value.ref b] below meth c _ _ _ _ _ (F0 m 336 ls [.int r, .int r])
        refine lv_icmp_eq (tgt := 649) hx hb dw_336 (by decide) (fun _ => ?_) (fun c => absurd rfl c)
        exact fin ad1 np1 M2 L2 H2 locs2 _ _ gc gs ls iv2 hP2 hD2 hS2 (by simp only [mk_len]; omega) (by omega) (by omega) (by omega) hl
      | 5, _ =>
        refine lv_tableIn (off := 272) (tgt := 341) hx hb dw_69 (by decide) (by decide) rfl (by decide) ?_
        refine lv_aload_n hx hb dw_341 rfl (lv_at hl 1 rfl) ?_
        refine lv_aload_n hx hb dw_342 rfl (lv_at hl 0 rfl) ?_
        refine lv_iload hx hb dw_343 (lv_at hl 4 rfl) ?_
        refine lv_iconst (v := 1) hx hb dw_345 (by decide) ?_
        refine lv_iadd hx hb dw_346 ?_
        refine va_sld hx hb hXs hbl hbA hS v1 dw_347 ?_
        obtain ⟨r, np1, M1, M2, L2, r1, r2, iv2, hle⟩ := sm_pack (L := Lg) iv (xs (x4 + 1).toNatClampNeg)
        have q1 := (rn_met l r1 (by decide) (Nat.le_of_ble_eq_true rfl)).2
        have q2 := (rn_met l r2 (by decide) (Nat.le_of_ble_eq_true rfl)).2
        have n61 : np1 ≤ 6 := by obtain ⟨g, B, wq, sq, mt, iv⟩ := iv2; exact iv.n6
        have zh1 := zhs_mk (np := np1) (M := M1) (L := Lg) n61
        have zh2 := zhs_mk (np := np1) (M := M2) (L := L2) n61
        refine lc_V (vs := [.int (xs (x4 + 1).toNatClampNeg)]) (rest := []) lc_tbl (show (50, mX5_pack, (297, 298, 299, 25)) ∈ lawV from List.mem_of_getElem? (i := 10) rfl) hA CF hK hX hP hD hS had r1 lw_cl rfl rfl (Nat.le_of_ble_eq_true rfl) hl.1 (Nat.le_of_ble_eq_true rfl) dw_348 (by decide) (by decide) (by simp only [mk_len]; show _ ≤ 601024; omega) (by show _ ≤ 7293000; omega) (fun H1 locs1 hP1 hD1 hS1 hz1 => ?_)
        have had1 : ∀ j, ad1 ((mk np1 M1 Lg).length + j) = H1.size + j := fun j => by
          have h9 := had (np1 - np + j)
          simp only [mk_len] at h9 hz1 ⊢
          rw [show 57 + np1 + j = 57 + np + (np1 - np + j) by omega, h9, hz1]
          omega
        obtain ⟨fs, hfs⟩ := lw_ml (np := np1) (M := M1) (L := Lg)
        refine lv_aload_n hx hb dw_351 rfl (lv_at hl 2 rfl) ?_
        refine lv_aload_n hx hb dw_352 rfl (lv_at hl 0 rfl) ?_
        refine lv_iload hx hb dw_353 (lv_at hl 4 rfl) ?_
        refine lv_iconst (v := 1) hx hb dw_355 (by decide) ?_
        refine lv_iadd hx hb dw_356 ?_
        refine va_sld hx hb hXs hbl hbA hS1 v1 dw_357 ?_
        refine lc_V (vs := [.int (xs (x4 + 1).toNatClampNeg)]) (rest := [.int r]) lc_tbl (show (53, mX6_pack, (745, 746, 747, 31)) ∈ lawV from List.mem_of_getElem? (i := 11) rfl) hA CF hK hX hP1 hD1 hS1 had1 r2 hfs rfl rfl (Nat.le_of_ble_eq_true rfl) hl.1 (Nat.le_of_ble_eq_true rfl) dw_358 (by decide) (by decide) (by simp only [mk_len]; show _ ≤ 601024; omega) (by show _ ≤ 7293000; omega) (fun H2 locs2 hP2 hD2 hS2 hz2 => ?_)
        show W p l e room_1 s m #[Value.ref b] below meth c _ _ _ _ _ (F0 m 361 ls [.int r, .int r])
        refine lv_icmp_eq (tgt := 649) hx hb dw_361 (by decide) (fun _ => ?_) (fun c => absurd rfl c)
        exact fin ad1 np1 M2 L2 H2 locs2 _ _ gc gs ls iv2 hP2 hD2 hS2 (by simp only [mk_len]; omega) (by omega) (by omega) (by omega) hl
      | 6, _ =>
        refine lv_tableIn (off := 297) (tgt := 366) hx hb dw_69 (by decide) (by decide) rfl (by decide) ?_
        refine lv_aload_n hx hb dw_366 rfl (lv_at hl 1 rfl) ?_
        obtain ⟨r, np1, M1, M2, L2, r1, r2, iv2, hle⟩ := sm_exact (L := Lg) iv
        have q1 := (rn_met l r1 (by decide) (Nat.le_of_ble_eq_true rfl)).2
        have q2 := (rn_met l r2 (by decide) (Nat.le_of_ble_eq_true rfl)).2
        have n61 : np1 ≤ 6 := by obtain ⟨g, B, wq, sq, mt, iv⟩ := iv2; exact iv.n6
        have zh1 := zhs_mk (np := np1) (M := M1) (L := Lg) n61
        have zh2 := zhs_mk (np := np1) (M := M2) (L := L2) n61
        refine lc_V (vs := []) (rest := []) lc_tbl (show (54, mX5_exact, (406, 407, 408, 25)) ∈ lawV from List.mem_of_getElem? (i := 12) rfl) hA CF hK hX hP hD hS had r1 lw_cl rfl rfl (Nat.le_of_ble_eq_true rfl) hl.1 (Nat.le_of_ble_eq_true rfl) dw_367 (by decide) (by decide) (by simp only [mk_len]; show _ ≤ 601024; omega) (by show _ ≤ 7293000; omega) (fun H1 locs1 hP1 hD1 hS1 hz1 => ?_)
        have had1 : ∀ j, ad1 ((mk np1 M1 Lg).length + j) = H1.size + j := fun j => by
          have h9 := had (np1 - np + j)
          simp only [mk_len] at h9 hz1 ⊢
          rw [show 57 + np1 + j = 57 + np + (np1 - np + j) by omega, h9, hz1]
          omega
        obtain ⟨fs, hfs⟩ := lw_ml (np := np1) (M := M1) (L := Lg)
        refine lv_aload_n hx hb dw_370 rfl (lv_at hl 2 rfl) ?_
        refine lc_V (vs := []) (rest := [.int r]) lc_tbl (show (58, mX6_exact, (783, 784, 785, 31)) ∈ lawV from List.mem_of_getElem? (i := 13) rfl) hA CF hK hX hP1 hD1 hS1 had1 r2 hfs rfl rfl (Nat.le_of_ble_eq_true rfl) hl.1 (Nat.le_of_ble_eq_true rfl) dw_371 (by decide) (by decide) (by simp only [mk_len]; show _ ≤ 601024; omega) (by show _ ≤ 7293000; omega) (fun H2 locs2 hP2 hD2 hS2 hz2 => ?_)
        show W p l e room_1 s m #[Value.ref b] below meth c _ _ _ _ _ (F0 m 374 ls [.int r, .int r])
        refine lv_icmp_eq (tgt := 649) hx hb dw_374 (by decide) (fun _ => ?_) (fun c => absurd rfl c)
        exact fin ad1 np1 M2 L2 H2 locs2 _ _ gc gs ls iv2 hP2 hD2 hS2 (by simp only [mk_len]; omega) (by omega) (by omega) (by omega) hl
      | 7, _ =>
        refine lv_tableIn (off := 310) (tgt := 379) hx hb dw_69 (by decide) (by decide) rfl (by decide) ?_
        by_cases hy : (xs (x4 + 1).toNatClampNeg) = 0
        · refine lv_aload_n hx hb dw_379 rfl (lv_at hl 1 rfl) ?_
          refine lv_aload_n hx hb dw_380 rfl (lv_at hl 0 rfl) ?_
          refine lv_iload hx hb dw_381 (lv_at hl 4 rfl) ?_
          refine lv_iconst (v := 1) hx hb dw_383 (by decide) ?_
          refine lv_iadd hx hb dw_384 ?_
          refine va_sld hx hb hXs hbl hbA hS v1 dw_385 ?_
          refine lv_if_eq (tgt := 393) hx hb dw_386 (by decide) (fun _ => ?_) (fun c => absurd hy c)
          refine lv_iconst (v := 0) hx hb dw_393 (by decide) ?_
          obtain ⟨r, np1, M1, M2, L2, r1, r2, iv2, hle⟩ := sm_steps (L := Lg) iv 0
          have q1 := (rn_met l r1 (by decide) (Nat.le_of_ble_eq_true rfl)).2
          have q2 := (rn_met l r2 (by decide) (Nat.le_of_ble_eq_true rfl)).2
          have n61 : np1 ≤ 6 := by obtain ⟨g, B, wq, sq, mt, iv⟩ := iv2; exact iv.n6
          have zh1 := zhs_mk (np := np1) (M := M1) (L := Lg) n61
          have zh2 := zhs_mk (np := np1) (M := M2) (L := L2) n61
          refine lc_V (vs := [.int 0]) (rest := []) lc_tbl (show (59, mX5_steps, (410, 411, 412, 25)) ∈ lawV from List.mem_of_getElem? (i := 14) rfl) hA CF hK hX hP hD hS had r1 lw_cl rfl rfl (Nat.le_of_ble_eq_true rfl) hl.1 (Nat.le_of_ble_eq_true rfl) dw_394 (by decide) (by decide) (by simp only [mk_len]; show _ ≤ 601024; omega) (by show _ ≤ 7293000; omega) (fun H1 locs1 hP1 hD1 hS1 hz1 => ?_)
          have had1 : ∀ j, ad1 ((mk np1 M1 Lg).length + j) = H1.size + j := fun j => by
            have h9 := had (np1 - np + j)
            simp only [mk_len] at h9 hz1 ⊢
            rw [show 57 + np1 + j = 57 + np + (np1 - np + j) by omega, h9, hz1]
            omega
          obtain ⟨fs, hfs⟩ := lw_ml (np := np1) (M := M1) (L := Lg)
          refine lv_aload_n hx hb dw_397 rfl (lv_at hl 2 rfl) ?_
          refine lv_aload_n hx hb dw_398 rfl (lv_at hl 0 rfl) ?_
          refine lv_iload hx hb dw_399 (lv_at hl 4 rfl) ?_
          refine lv_iconst (v := 1) hx hb dw_401 (by decide) ?_
          refine lv_iadd hx hb dw_402 ?_
          refine va_sld hx hb hXs hbl hbA hS1 v1 dw_403 ?_
          refine lv_if_eq (tgt := 411) hx hb dw_404 (by decide) (fun _ => ?_) (fun c => absurd hy c)
          refine lv_iconst (v := 0) hx hb dw_411 (by decide) ?_
          refine lc_V (vs := [.int 0]) (rest := [.int r]) lc_tbl (show (63, mX6_steps, (787, 788, 789, 31)) ∈ lawV from List.mem_of_getElem? (i := 15) rfl) hA CF hK hX hP1 hD1 hS1 had1 r2 hfs rfl rfl (Nat.le_of_ble_eq_true rfl) hl.1 (Nat.le_of_ble_eq_true rfl) dw_412 (by decide) (by decide) (by simp only [mk_len]; show _ ≤ 601024; omega) (by show _ ≤ 7293000; omega) (fun H2 locs2 hP2 hD2 hS2 hz2 => ?_)
          show W p l e room_1 s m #[Value.ref b] below meth c _ _ _ _ _ (F0 m 415 ls [.int r, .int r])
          refine lv_icmp_eq (tgt := 649) hx hb dw_415 (by decide) (fun _ => ?_) (fun c => absurd rfl c)
          exact fin ad1 np1 M2 L2 H2 locs2 _ _ gc gs ls iv2 hP2 hD2 hS2 (by simp only [mk_len]; omega) (by omega) (by omega) (by omega) hl
        · refine lv_aload_n hx hb dw_379 rfl (lv_at hl 1 rfl) ?_
          refine lv_aload_n hx hb dw_380 rfl (lv_at hl 0 rfl) ?_
          refine lv_iload hx hb dw_381 (lv_at hl 4 rfl) ?_
          refine lv_iconst (v := 1) hx hb dw_383 (by decide) ?_
          refine lv_iadd hx hb dw_384 ?_
          refine va_sld hx hb hXs hbl hbA hS v1 dw_385 ?_
          refine lv_if_eq (tgt := 393) hx hb dw_386 (by decide) (fun c => absurd c hy) (fun _ => ?_)
          refine lv_iconst (v := 1) hx hb dw_389 (by decide) ?_
          refine lv_goto (tgt := 394) hx hb dw_390 (by decide) ?_
          obtain ⟨r, np1, M1, M2, L2, r1, r2, iv2, hle⟩ := sm_steps (L := Lg) iv 1
          have q1 := (rn_met l r1 (by decide) (Nat.le_of_ble_eq_true rfl)).2
          have q2 := (rn_met l r2 (by decide) (Nat.le_of_ble_eq_true rfl)).2
          have n61 : np1 ≤ 6 := by obtain ⟨g, B, wq, sq, mt, iv⟩ := iv2; exact iv.n6
          have zh1 := zhs_mk (np := np1) (M := M1) (L := Lg) n61
          have zh2 := zhs_mk (np := np1) (M := M2) (L := L2) n61
          refine lc_V (vs := [.int 1]) (rest := []) lc_tbl (show (59, mX5_steps, (410, 411, 412, 25)) ∈ lawV from List.mem_of_getElem? (i := 14) rfl) hA CF hK hX hP hD hS had r1 lw_cl rfl rfl (Nat.le_of_ble_eq_true rfl) hl.1 (Nat.le_of_ble_eq_true rfl) dw_394 (by decide) (by decide) (by simp only [mk_len]; show _ ≤ 601024; omega) (by show _ ≤ 7293000; omega) (fun H1 locs1 hP1 hD1 hS1 hz1 => ?_)
          have had1 : ∀ j, ad1 ((mk np1 M1 Lg).length + j) = H1.size + j := fun j => by
            have h9 := had (np1 - np + j)
            simp only [mk_len] at h9 hz1 ⊢
            rw [show 57 + np1 + j = 57 + np + (np1 - np + j) by omega, h9, hz1]
            omega
          obtain ⟨fs, hfs⟩ := lw_ml (np := np1) (M := M1) (L := Lg)
          refine lv_aload_n hx hb dw_397 rfl (lv_at hl 2 rfl) ?_
          refine lv_aload_n hx hb dw_398 rfl (lv_at hl 0 rfl) ?_
          refine lv_iload hx hb dw_399 (lv_at hl 4 rfl) ?_
          refine lv_iconst (v := 1) hx hb dw_401 (by decide) ?_
          refine lv_iadd hx hb dw_402 ?_
          refine va_sld hx hb hXs hbl hbA hS1 v1 dw_403 ?_
          refine lv_if_eq (tgt := 411) hx hb dw_404 (by decide) (fun c => absurd c hy) (fun _ => ?_)
          refine lv_iconst (v := 1) hx hb dw_407 (by decide) ?_
          refine lv_goto (tgt := 412) hx hb dw_408 (by decide) ?_
          refine lc_V (vs := [.int 1]) (rest := [.int r]) lc_tbl (show (63, mX6_steps, (787, 788, 789, 31)) ∈ lawV from List.mem_of_getElem? (i := 15) rfl) hA CF hK hX hP1 hD1 hS1 had1 r2 hfs rfl rfl (Nat.le_of_ble_eq_true rfl) hl.1 (Nat.le_of_ble_eq_true rfl) dw_412 (by decide) (by decide) (by simp only [mk_len]; show _ ≤ 601024; omega) (by show _ ≤ 7293000; omega) (fun H2 locs2 hP2 hD2 hS2 hz2 => ?_)
          show W p l e room_1 s m #[Value.ref b] below meth c _ _ _ _ _ (F0 m 415 ls [.int r, .int r])
          refine lv_icmp_eq (tgt := 649) hx hb dw_415 (by decide) (fun _ => ?_) (fun c => absurd rfl c)
          exact fin ad1 np1 M2 L2 H2 locs2 _ _ gc gs ls iv2 hP2 hD2 hS2 (by simp only [mk_len]; omega) (by omega) (by omega) (by omega) hl
      | 8, _ =>
        refine lv_tableIn (off := 351) (tgt := 420) hx hb dw_69 (by decide) (by decide) rfl (by decide) ?_
        refine lv_aload_n hx hb dw_420 rfl (lv_at hl 1 rfl) ?_
        refine lv_aload_n hx hb dw_421 rfl (lv_at hl 0 rfl) ?_
        refine lv_iload hx hb dw_422 (lv_at hl 4 rfl) ?_
        refine lv_iconst (v := 1) hx hb dw_424 (by decide) ?_
        refine lv_iadd hx hb dw_425 ?_
        refine va_sld hx hb hXs hbl hbA hS v1 dw_426 ?_
        refine lv_aload_n hx hb dw_427 rfl (lv_at hl 0 rfl) ?_
        refine lv_iload hx hb dw_428 (lv_at hl 4 rfl) ?_
        refine lv_iconst (v := 2) hx hb dw_430 (by decide) ?_
        refine lv_iadd hx hb dw_431 ?_
        refine va_sld hx hb hXs hbl hbA hS v2 dw_432 ?_
        obtain ⟨r, np1, M1, M2, L2, r1, r2, iv2, hle⟩ := sm_at (L := Lg) iv (xs (x4 + 1).toNatClampNeg) (xs (x4 + 2).toNatClampNeg)
        have q1 := (rn_met l r1 (by decide) (Nat.le_of_ble_eq_true rfl)).2
        have q2 := (rn_met l r2 (by decide) (Nat.le_of_ble_eq_true rfl)).2
        have n61 : np1 ≤ 6 := by obtain ⟨g, B, wq, sq, mt, iv⟩ := iv2; exact iv.n6
        have zh1 := zhs_mk (np := np1) (M := M1) (L := Lg) n61
        have zh2 := zhs_mk (np := np1) (M := M2) (L := L2) n61
        refine lc_V (vs := [.int (xs (x4 + 1).toNatClampNeg), .int (xs (x4 + 2).toNatClampNeg)]) (rest := []) lc_tbl (show (64, mX5_at, (414, 415, 416, 25)) ∈ lawV from List.mem_of_getElem? (i := 16) rfl) hA CF hK hX hP hD hS had r1 lw_cl rfl rfl (Nat.le_of_ble_eq_true rfl) hl.1 (Nat.le_of_ble_eq_true rfl) dw_433 (by decide) (by decide) (by simp only [mk_len]; show _ ≤ 601024; omega) (by show _ ≤ 7293000; omega) (fun H1 locs1 hP1 hD1 hS1 hz1 => ?_)
        have had1 : ∀ j, ad1 ((mk np1 M1 Lg).length + j) = H1.size + j := fun j => by
          have h9 := had (np1 - np + j)
          simp only [mk_len] at h9 hz1 ⊢
          rw [show 57 + np1 + j = 57 + np + (np1 - np + j) by omega, h9, hz1]
          omega
        obtain ⟨fs, hfs⟩ := lw_ml (np := np1) (M := M1) (L := Lg)
        refine lv_aload_n hx hb dw_436 rfl (lv_at hl 2 rfl) ?_
        refine lv_aload_n hx hb dw_437 rfl (lv_at hl 0 rfl) ?_
        refine lv_iload hx hb dw_438 (lv_at hl 4 rfl) ?_
        refine lv_iconst (v := 1) hx hb dw_440 (by decide) ?_
        refine lv_iadd hx hb dw_441 ?_
        refine va_sld hx hb hXs hbl hbA hS1 v1 dw_442 ?_
        refine lv_aload_n hx hb dw_443 rfl (lv_at hl 0 rfl) ?_
        refine lv_iload hx hb dw_444 (lv_at hl 4 rfl) ?_
        refine lv_iconst (v := 2) hx hb dw_446 (by decide) ?_
        refine lv_iadd hx hb dw_447 ?_
        refine va_sld hx hb hXs hbl hbA hS1 v2 dw_448 ?_
        refine lc_V (vs := [.int (xs (x4 + 1).toNatClampNeg), .int (xs (x4 + 2).toNatClampNeg)]) (rest := [.int r]) lc_tbl (show (67, mX6_at, (791, 792, 793, 31)) ∈ lawV from List.mem_of_getElem? (i := 17) rfl) hA CF hK hX hP1 hD1 hS1 had1 r2 hfs rfl rfl (Nat.le_of_ble_eq_true rfl) hl.1 (Nat.le_of_ble_eq_true rfl) dw_449 (by decide) (by decide) (by simp only [mk_len]; show _ ≤ 601024; omega) (by show _ ≤ 7293000; omega) (fun H2 locs2 hP2 hD2 hS2 hz2 => ?_)
        show W p l e room_1 s m #[Value.ref b] below meth c _ _ _ _ _ (F0 m 452 ls [.int r, .int r])
        refine lv_icmp_eq (tgt := 649) hx hb dw_452 (by decide) (fun _ => ?_) (fun c => absurd rfl c)
        exact fin ad1 np1 M2 L2 H2 locs2 _ _ gc gs ls iv2 hP2 hD2 hS2 (by simp only [mk_len]; omega) (by omega) (by omega) (by omega) hl
      | 9, _ =>
        refine lv_tableIn (off := 388) (tgt := 457) hx hb dw_69 (by decide) (by decide) rfl (by decide) ?_
        refine lv_aload_n hx hb dw_457 rfl (lv_at hl 1 rfl) ?_
        refine lv_aload_n hx hb dw_458 rfl (lv_at hl 0 rfl) ?_
        refine lv_iload hx hb dw_459 (lv_at hl 4 rfl) ?_
        refine lv_iconst (v := 1) hx hb dw_461 (by decide) ?_
        refine lv_iadd hx hb dw_462 ?_
        refine va_sld hx hb hXs hbl hbA hS v1 dw_463 ?_
        refine lv_aload_n hx hb dw_464 rfl (lv_at hl 0 rfl) ?_
        refine lv_iload hx hb dw_465 (lv_at hl 4 rfl) ?_
        refine lv_iconst (v := 2) hx hb dw_467 (by decide) ?_
        refine lv_iadd hx hb dw_468 ?_
        refine va_sld hx hb hXs hbl hbA hS v2 dw_469 ?_
        obtain ⟨r, np1, M1, M2, L2, r1, r2, iv2, hle⟩ := sm_overlap (L := Lg) iv (xs (x4 + 1).toNatClampNeg) (xs (x4 + 2).toNatClampNeg)
        have q1 := (rn_met l r1 (by decide) (Nat.le_of_ble_eq_true rfl)).2
        have q2 := (rn_met l r2 (by decide) (Nat.le_of_ble_eq_true rfl)).2
        have n61 : np1 ≤ 6 := by obtain ⟨g, B, wq, sq, mt, iv⟩ := iv2; exact iv.n6
        have zh1 := zhs_mk (np := np1) (M := M1) (L := Lg) n61
        have zh2 := zhs_mk (np := np1) (M := M2) (L := L2) n61
        refine lc_V (vs := [.int (xs (x4 + 1).toNatClampNeg), .int (xs (x4 + 2).toNatClampNeg)]) (rest := []) lc_tbl (show (68, mX5_overlap, (423, 424, 425, 25)) ∈ lawV from List.mem_of_getElem? (i := 18) rfl) hA CF hK hX hP hD hS had r1 lw_cl rfl rfl (Nat.le_of_ble_eq_true rfl) hl.1 (Nat.le_of_ble_eq_true rfl) dw_470 (by decide) (by decide) (by simp only [mk_len]; show _ ≤ 601024; omega) (by show _ ≤ 7293000; omega) (fun H1 locs1 hP1 hD1 hS1 hz1 => ?_)
        have had1 : ∀ j, ad1 ((mk np1 M1 Lg).length + j) = H1.size + j := fun j => by
          have h9 := had (np1 - np + j)
          simp only [mk_len] at h9 hz1 ⊢
          rw [show 57 + np1 + j = 57 + np + (np1 - np + j) by omega, h9, hz1]
          omega
        obtain ⟨fs, hfs⟩ := lw_ml (np := np1) (M := M1) (L := Lg)
        refine lv_aload_n hx hb dw_473 rfl (lv_at hl 2 rfl) ?_
        refine lv_aload_n hx hb dw_474 rfl (lv_at hl 0 rfl) ?_
        refine lv_iload hx hb dw_475 (lv_at hl 4 rfl) ?_
        refine lv_iconst (v := 1) hx hb dw_477 (by decide) ?_
        refine lv_iadd hx hb dw_478 ?_
        refine va_sld hx hb hXs hbl hbA hS1 v1 dw_479 ?_
        refine lv_aload_n hx hb dw_480 rfl (lv_at hl 0 rfl) ?_
        refine lv_iload hx hb dw_481 (lv_at hl 4 rfl) ?_
        refine lv_iconst (v := 2) hx hb dw_483 (by decide) ?_
        refine lv_iadd hx hb dw_484 ?_
        refine va_sld hx hb hXs hbl hbA hS1 v2 dw_485 ?_
        refine lc_V (vs := [.int (xs (x4 + 1).toNatClampNeg), .int (xs (x4 + 2).toNatClampNeg)]) (rest := [.int r]) lc_tbl (show (72, mX6_overlap, (795, 796, 797, 31)) ∈ lawV from List.mem_of_getElem? (i := 19) rfl) hA CF hK hX hP1 hD1 hS1 had1 r2 hfs rfl rfl (Nat.le_of_ble_eq_true rfl) hl.1 (Nat.le_of_ble_eq_true rfl) dw_486 (by decide) (by decide) (by simp only [mk_len]; show _ ≤ 601024; omega) (by show _ ≤ 7293000; omega) (fun H2 locs2 hP2 hD2 hS2 hz2 => ?_)
        show W p l e room_1 s m #[Value.ref b] below meth c _ _ _ _ _ (F0 m 489 ls [.int r, .int r])
        refine lv_icmp_eq (tgt := 649) hx hb dw_489 (by decide) (fun _ => ?_) (fun c => absurd rfl c)
        exact fin ad1 np1 M2 L2 H2 locs2 _ _ gc gs ls iv2 hP2 hD2 hS2 (by simp only [mk_len]; omega) (by omega) (by omega) (by omega) hl
      | 10, _ =>
        refine lv_tableIn (off := 425) (tgt := 494) hx hb dw_69 (by decide) (by decide) rfl (by decide) ?_
        refine lv_aload_n hx hb dw_494 rfl (lv_at hl 1 rfl) ?_
        refine lv_aload_n hx hb dw_495 rfl (lv_at hl 0 rfl) ?_
        refine lv_iload hx hb dw_496 (lv_at hl 4 rfl) ?_
        refine lv_iconst (v := 1) hx hb dw_498 (by decide) ?_
        refine lv_iadd hx hb dw_499 ?_
        refine va_sld hx hb hXs hbl hbA hS v1 dw_500 ?_
        refine lv_aload_n hx hb dw_501 rfl (lv_at hl 0 rfl) ?_
        refine lv_iload hx hb dw_502 (lv_at hl 4 rfl) ?_
        refine lv_iconst (v := 2) hx hb dw_504 (by decide) ?_
        refine lv_iadd hx hb dw_505 ?_
        refine va_sld hx hb hXs hbl hbA hS v2 dw_506 ?_
        obtain ⟨r, np1, M1, M2, L2, r1, r2, iv2, hle⟩ := sm_above (L := Lg) iv (xs (x4 + 1).toNatClampNeg) (xs (x4 + 2).toNatClampNeg)
        have q1 := (rn_met l r1 (by decide) (Nat.le_of_ble_eq_true rfl)).2
        have q2 := (rn_met l r2 (by decide) (Nat.le_of_ble_eq_true rfl)).2
        have n61 : np1 ≤ 6 := by obtain ⟨g, B, wq, sq, mt, iv⟩ := iv2; exact iv.n6
        have zh1 := zhs_mk (np := np1) (M := M1) (L := Lg) n61
        have zh2 := zhs_mk (np := np1) (M := M2) (L := L2) n61
        refine lc_V (vs := [.int (xs (x4 + 1).toNatClampNeg), .int (xs (x4 + 2).toNatClampNeg)]) (rest := []) lc_tbl (show (73, mX5_above, (431, 432, 433, 25)) ∈ lawV from List.mem_of_getElem? (i := 20) rfl) hA CF hK hX hP hD hS had r1 lw_cl rfl rfl (Nat.le_of_ble_eq_true rfl) hl.1 (Nat.le_of_ble_eq_true rfl) dw_507 (by decide) (by decide) (by simp only [mk_len]; show _ ≤ 601024; omega) (by show _ ≤ 7293000; omega) (fun H1 locs1 hP1 hD1 hS1 hz1 => ?_)
        have had1 : ∀ j, ad1 ((mk np1 M1 Lg).length + j) = H1.size + j := fun j => by
          have h9 := had (np1 - np + j)
          simp only [mk_len] at h9 hz1 ⊢
          rw [show 57 + np1 + j = 57 + np + (np1 - np + j) by omega, h9, hz1]
          omega
        obtain ⟨fs, hfs⟩ := lw_ml (np := np1) (M := M1) (L := Lg)
        refine lv_aload_n hx hb dw_510 rfl (lv_at hl 2 rfl) ?_
        refine lv_aload_n hx hb dw_511 rfl (lv_at hl 0 rfl) ?_
        refine lv_iload hx hb dw_512 (lv_at hl 4 rfl) ?_
        refine lv_iconst (v := 1) hx hb dw_514 (by decide) ?_
        refine lv_iadd hx hb dw_515 ?_
        refine va_sld hx hb hXs hbl hbA hS1 v1 dw_516 ?_
        refine lv_aload_n hx hb dw_517 rfl (lv_at hl 0 rfl) ?_
        refine lv_iload hx hb dw_518 (lv_at hl 4 rfl) ?_
        refine lv_iconst (v := 2) hx hb dw_520 (by decide) ?_
        refine lv_iadd hx hb dw_521 ?_
        refine va_sld hx hb hXs hbl hbA hS1 v2 dw_522 ?_
        refine lc_V (vs := [.int (xs (x4 + 1).toNatClampNeg), .int (xs (x4 + 2).toNatClampNeg)]) (rest := [.int r]) lc_tbl (show (76, mX6_above, (799, 800, 801, 31)) ∈ lawV from List.mem_of_getElem? (i := 21) rfl) hA CF hK hX hP1 hD1 hS1 had1 r2 hfs rfl rfl (Nat.le_of_ble_eq_true rfl) hl.1 (Nat.le_of_ble_eq_true rfl) dw_523 (by decide) (by decide) (by simp only [mk_len]; show _ ≤ 601024; omega) (by show _ ≤ 7293000; omega) (fun H2 locs2 hP2 hD2 hS2 hz2 => ?_)
        show W p l e room_1 s m #[Value.ref b] below meth c _ _ _ _ _ (F0 m 526 ls [.int r, .int r])
        refine lv_icmp_eq (tgt := 649) hx hb dw_526 (by decide) (fun _ => ?_) (fun c => absurd rfl c)
        exact fin ad1 np1 M2 L2 H2 locs2 _ _ gc gs ls iv2 hP2 hD2 hS2 (by simp only [mk_len]; omega) (by omega) (by omega) (by omega) hl
      | 11, _ =>
        refine lv_tableIn (off := 462) (tgt := 531) hx hb dw_69 (by decide) (by decide) rfl (by decide) ?_
        refine lv_aload_n hx hb dw_531 rfl (lv_at hl 1 rfl) ?_
        obtain ⟨r, np1, M1, M2, L2, r1, r2, iv2, hle⟩ := sm_free (L := Lg) iv
        have q1 := (rn_met l r1 (by decide) (Nat.le_of_ble_eq_true rfl)).2
        have q2 := (rn_met l r2 (by decide) (Nat.le_of_ble_eq_true rfl)).2
        have n61 : np1 ≤ 6 := by obtain ⟨g, B, wq, sq, mt, iv⟩ := iv2; exact iv.n6
        have zh1 := zhs_mk (np := np1) (M := M1) (L := Lg) n61
        have zh2 := zhs_mk (np := np1) (M := M2) (L := L2) n61
        refine lc_V (vs := []) (rest := []) lc_tbl (show (77, mX5_free, (443, 444, 445, 25)) ∈ lawV from List.mem_of_getElem? (i := 22) rfl) hA CF hK hX hP hD hS had r1 lw_cl rfl rfl (Nat.le_of_ble_eq_true rfl) hl.1 (Nat.le_of_ble_eq_true rfl) dw_532 (by decide) (by decide) (by simp only [mk_len]; show _ ≤ 601024; omega) (by show _ ≤ 7293000; omega) (fun H1 locs1 hP1 hD1 hS1 hz1 => ?_)
        have had1 : ∀ j, ad1 ((mk np1 M1 Lg).length + j) = H1.size + j := fun j => by
          have h9 := had (np1 - np + j)
          simp only [mk_len] at h9 hz1 ⊢
          rw [show 57 + np1 + j = 57 + np + (np1 - np + j) by omega, h9, hz1]
          omega
        obtain ⟨fs, hfs⟩ := lw_ml (np := np1) (M := M1) (L := Lg)
        refine lv_aload_n hx hb dw_535 rfl (lv_at hl 2 rfl) ?_
        refine lc_V (vs := []) (rest := [.int r]) lc_tbl (show (81, mX6_free, (803, 804, 805, 31)) ∈ lawV from List.mem_of_getElem? (i := 23) rfl) hA CF hK hX hP1 hD1 hS1 had1 r2 hfs rfl rfl (Nat.le_of_ble_eq_true rfl) hl.1 (Nat.le_of_ble_eq_true rfl) dw_536 (by decide) (by decide) (by simp only [mk_len]; show _ ≤ 601024; omega) (by show _ ≤ 7293000; omega) (fun H2 locs2 hP2 hD2 hS2 hz2 => ?_)
        show W p l e room_1 s m #[Value.ref b] below meth c _ _ _ _ _ (F0 m 539 ls [.int r, .int r])
        refine lv_icmp_eq (tgt := 649) hx hb dw_539 (by decide) (fun _ => ?_) (fun c => absurd rfl c)
        exact fin ad1 np1 M2 L2 H2 locs2 _ _ gc gs ls iv2 hP2 hD2 hS2 (by simp only [mk_len]; omega) (by omega) (by omega) (by omega) hl
      | 12, _ =>
        refine lv_tableIn (off := 475) (tgt := 544) hx hb dw_69 (by decide) (by decide) rfl (by decide) ?_
        refine lv_aload_n hx hb dw_544 rfl (lv_at hl 1 rfl) ?_
        obtain ⟨r, np1, M1, M2, L2, r1, r2, iv2, hle⟩ := sm_bound (L := Lg) iv
        have q1 := (rn_met l r1 (by decide) (Nat.le_of_ble_eq_true rfl)).2
        have q2 := (rn_met l r2 (by decide) (Nat.le_of_ble_eq_true rfl)).2
        have n61 : np1 ≤ 6 := by obtain ⟨g, B, wq, sq, mt, iv⟩ := iv2; exact iv.n6
        have zh1 := zhs_mk (np := np1) (M := M1) (L := Lg) n61
        have zh2 := zhs_mk (np := np1) (M := M2) (L := L2) n61
        refine lc_V (vs := []) (rest := []) lc_tbl (show (82, mX5_bound, (451, 452, 453, 25)) ∈ lawV from List.mem_of_getElem? (i := 24) rfl) hA CF hK hX hP hD hS had r1 lw_cl rfl rfl (Nat.le_of_ble_eq_true rfl) hl.1 (Nat.le_of_ble_eq_true rfl) dw_545 (by decide) (by decide) (by simp only [mk_len]; show _ ≤ 601024; omega) (by show _ ≤ 7293000; omega) (fun H1 locs1 hP1 hD1 hS1 hz1 => ?_)
        have had1 : ∀ j, ad1 ((mk np1 M1 Lg).length + j) = H1.size + j := fun j => by
          have h9 := had (np1 - np + j)
          simp only [mk_len] at h9 hz1 ⊢
          rw [show 57 + np1 + j = 57 + np + (np1 - np + j) by omega, h9, hz1]
          omega
        obtain ⟨fs, hfs⟩ := lw_ml (np := np1) (M := M1) (L := Lg)
        refine lv_aload_n hx hb dw_548 rfl (lv_at hl 2 rfl) ?_
        refine lc_V (vs := []) (rest := [.int r]) lc_tbl (show (85, mX6_bound, (807, 808, 809, 31)) ∈ lawV from List.mem_of_getElem? (i := 25) rfl) hA CF hK hX hP1 hD1 hS1 had1 r2 hfs rfl rfl (Nat.le_of_ble_eq_true rfl) hl.1 (Nat.le_of_ble_eq_true rfl) dw_549 (by decide) (by decide) (by simp only [mk_len]; show _ ≤ 601024; omega) (by show _ ≤ 7293000; omega) (fun H2 locs2 hP2 hD2 hS2 hz2 => ?_)
        show W p l e room_1 s m #[Value.ref b] below meth c _ _ _ _ _ (F0 m 552 ls [.int r, .int r])
        refine lv_icmp_eq (tgt := 649) hx hb dw_552 (by decide) (fun _ => ?_) (fun c => absurd rfl c)
        exact fin ad1 np1 M2 L2 H2 locs2 _ _ gc gs ls iv2 hP2 hD2 hS2 (by simp only [mk_len]; omega) (by omega) (by omega) (by omega) hl
      | 13, _ =>
        refine lv_tableIn (off := 488) (tgt := 557) hx hb dw_69 (by decide) (by decide) rfl (by decide) ?_
        refine lv_aload_n hx hb dw_557 rfl (lv_at hl 1 rfl) ?_
        refine lv_aload_n hx hb dw_558 rfl (lv_at hl 0 rfl) ?_
        refine lv_iload hx hb dw_559 (lv_at hl 4 rfl) ?_
        refine lv_iconst (v := 1) hx hb dw_561 (by decide) ?_
        refine lv_iadd hx hb dw_562 ?_
        refine va_sld hx hb hXs hbl hbA hS v1 dw_563 ?_
        refine lv_aload_n hx hb dw_564 rfl (lv_at hl 0 rfl) ?_
        refine lv_iload hx hb dw_565 (lv_at hl 4 rfl) ?_
        refine lv_iconst (v := 2) hx hb dw_567 (by decide) ?_
        refine lv_iadd hx hb dw_568 ?_
        refine va_sld hx hb hXs hbl hbA hS v2 dw_569 ?_
        refine lv_aload_n hx hb dw_570 rfl (lv_at hl 3 rfl) ?_
        rcases ax_all iv (xs (x4 + 1).toNatClampNeg) (xs (x4 + 2).toNatClampNeg) with ⟨v, M2, ra, rm, t0, iv2⟩ | ⟨ev, M2, rm, t0, iv2⟩
        · have zh1 := zhs_mk (np := np) (M := M) (L := (upL Lg 56 v)) n6
          have zh2 := zhs_mk (np := np) (M := M2) (L := (upL Lg 56 v)) n6
          refine lc_la (k := 0) (hp1 := mk np M (upL Lg 56 v)) hA CF hK hX hP hD hS hH (c_laA l (ra Lg) H.size sa had) hl.1 (Nat.le_of_ble_eq_true rfl) dw_571 (by decide) (by decide) (by show _ ≤ 601024; omega) (by show _ ≤ 7293000; omega) (fun H1 locs1 hP1 hD1 hS1 => ?_)
          obtain ⟨ad2, f1, had2, f3⟩ := re_ad dA ad1 np M (upL Lg 56 v) H1.size
          rw [← f3] at hP1 hD1
          rw [← f1 0 (by omega), ← f1 21 (by omega), ← f1 56 (by omega)] at hl
          refine lv_istore (lv' := [(5, .int 0), (0, .ref b), (1, .ref (ad2 0)), (2, .ref (ad2 21)), (3, .ref (ad2 56)), (4, .int x4)]) hx hb dw_574 hl (by decide) rfl (fun ls2 hl2 => ?_)
          refine lv_aload_n hx hb dw_576 rfl (lv_at hl2 3 rfl) ?_
          refine lv_aload_n hx hb dw_577 rfl (lv_at hl2 1 rfl) ?_
          refine lv_iload hx hb dw_578 (lv_at hl2 5 rfl) ?_
          refine lv_iconst (v := 1) hx hb dw_580 (by decide) ?_
          refine lv_iadd hx hb dw_581 ?_
          refine va_sld hx hb hXs hbl hbA hS1 v1 dw_582 ?_
          refine lv_aload_n hx hb dw_583 rfl (lv_at hl2 1 rfl) ?_
          refine lv_iload hx hb dw_584 (lv_at hl2 5 rfl) ?_
          refine lv_iconst (v := 2) hx hb dw_586 (by decide) ?_
          refine lv_iadd hx hb dw_587 ?_
          refine va_sld hx hb hXs hbl hbA hS1 v2 dw_588 ?_
          have rm1 := rm (upL Lg 56 v)
          have q2 := (rn_met l rm1 (by decide) (Nat.le_of_ble_eq_true rfl)).2
          obtain ⟨fs, hfs⟩ := lw_ml (np := np) (M := M) (L := (upL Lg 56 v))
          have zq : zhs (mk np M (upL Lg 56 v)) = zhs (mk np M Lg) := by unfold zhs mk; congr 1; rw [List.map_map, List.map_map]; refine List.map_congr_left (fun h _ => zsz_L)
          refine lc_V (vs := [.int (xs (x4 + 1).toNatClampNeg), .int (xs (x4 + 2).toNatClampNeg)]) (rest := []) lc_tbl (show (89, mX6_axle, (815, 816, 817, 31)) ∈ lawV from List.mem_of_getElem? (i := 26) rfl) hA CF hK hX hP1 hD1 hS1 had2 rm1 hfs rfl rfl (Nat.le_of_ble_eq_true rfl) hl2.1 (Nat.le_of_ble_eq_true rfl) dw_589 (by decide) (by decide) (by simp only [mk_len]; show _ ≤ 601024; omega) (by show _ ≤ 7293000; omega) (fun H2 locs2 hP2 hD2 hS2 hz2 => ?_)
          show W p l e room_1 s m #[Value.ref b] below meth c _ _ _ _ _ (F0 m 592 ls2 [.long v])
          refine lv_lstore (lv' := [(6, .long v), (5, .int 0), (0, .ref b), (1, .ref (ad2 0)), (2, .ref (ad2 21)), (3, .ref (ad2 56)), (4, .int x4)]) hx hb dw_592 hl2 (by decide) rfl (fun ls3 hl3 => ?_)
          refine lv_aload_n hx hb dw_594 rfl (lv_at hl3 4 rfl) ?_
          have had3 : ∀ j, ad2 ((mk np M2 (upL Lg 56 v)).length + j) = H2.size + j := fun j => by
            have h9 := had2 j
            simp only [mk_len] at h9 hz2 ⊢
            rw [h9, hz2]
            omega
          have rt := rn_thrown (np := np) (M := M2) (L := (upL Lg 56 v)) 60
          rw [t0] at rt
          obtain ⟨fs3, hfs3⟩ := lw_ml (np := np) (M := M2) (L := (upL Lg 56 v))
          refine lc_V (vs := []) (rest := []) lc_tbl (show (90, mX6_thrown, (811, 812, 813, 31)) ∈ lawV from List.mem_of_getElem? (i := 27) rfl) hA CF hK hX hP2 hD2 hS2 had3 rt hfs3 rfl rfl (Nat.le_of_ble_eq_true rfl) hl3.1 (Nat.le_of_ble_eq_true rfl) dw_595 (by decide) (by decide) (by simp only [mk_len]; show _ ≤ 601024; omega) (by show _ ≤ 7293000; omega) (fun H3 locs3 hP3 hD3 hS3 hz3 => ?_)
          show W p l e room_1 s m #[Value.ref b] below meth c _ _ _ _ _ (F0 m 598 ls3 [.int 0])
          refine lv_iload hx hb dw_598 (lv_at hl3 1 rfl) ?_
          refine lv_icmp_eq (tgt := 605) hx hb dw_600 (by decide) (fun _ => ?_) (fun c => absurd rfl c)
          refine lv_iload hx hb dw_605 (lv_at hl3 1 rfl) ?_
          refine lv_if_ne (tgt := 621) hx hb dw_607 (by decide) (fun c => absurd rfl c) (fun _ => ?_)
          refine lv_aload_n hx hb dw_610 rfl (lv_at hl3 5 rfl) ?_
          refine lv_iconst (v := 0) hx hb dw_611 (by decide) ?_
          have ha : (zw dA ad2 (mk np M2 (upL Lg 56 v)))[56]? = some (ad2 56, .inl (dA 2, 1, .inr (.inl (fun _ => upL Lg 56 v 56)))) := zw_get (dA := dA) (ad := ad2) (k := 56) (rd np M2 (upL Lg 56 v) (h := 56) (by omega) rfl)
          refine va_lald hx hb hK hP3 56 2 ha (zty_get (dA := dA) (t := 2) rfl) (show vp_in (nI 0) 1 from vp_in_nI (by omega) (by omega)) dw_612 ?_
          refine lv_lload hx hb dw_613 (lv_at hl3 0 rfl) ?_
          refine W.lcmp hx hb dw_615 ?_
          refine lv_if_eq (tgt := 621) hx hb dw_616 (by decide) (fun _ => ?_) (fun c => absurd (show lg_cmp (upL Lg 56 v 56) v = 0 from by rw [show upL Lg 56 v 56 = v from if_pos rfl]; exact lg_self v) c)
          refine lv_goto (tgt := 649) hx hb dw_621 (by decide) ?_
          exact fin ad2 np M2 (upL Lg 56 v) H3 locs3 _ _ (gc + 1) (gs + 6) ls3 iv2 hP3 hD3 hS3 (by simp only [mk_len]; omega) (by omega) (by omega) (by omega) (lv_sub hl3 [2, 3, 4, 5, 6] rfl)
        · have zh1 := zhs_mk (np := np) (M := M) (L := Lg) n6
          have zh2 := zhs_mk (np := np) (M := M2) (L := Lg) n6
          refine lc_la (k := 1) (hp1 := mk np M Lg) hA CF hK hX hP hD hS hH (c_laB l hlt (by decide) (ev Lg) H.size sa had) hl.1 (Nat.le_of_ble_eq_true rfl) dw_571 (by decide) (by decide) (by show _ ≤ 601024; omega) (by show _ ≤ 7293000; omega) (fun H1 locs1 hP1 hD1 hS1 => ?_)
          obtain ⟨ad2, f1, had2, f3⟩ := re_ad dA ad1 np M Lg H1.size
          rw [← f3] at hP1 hD1
          rw [← f1 0 (by omega), ← f1 21 (by omega), ← f1 56 (by omega)] at hl
          refine lv_istore (lv' := [(5, .int 1), (0, .ref b), (1, .ref (ad2 0)), (2, .ref (ad2 21)), (3, .ref (ad2 56)), (4, .int x4)]) hx hb dw_574 hl (by decide) rfl (fun ls2 hl2 => ?_)
          refine lv_aload_n hx hb dw_576 rfl (lv_at hl2 3 rfl) ?_
          refine lv_aload_n hx hb dw_577 rfl (lv_at hl2 1 rfl) ?_
          refine lv_iload hx hb dw_578 (lv_at hl2 5 rfl) ?_
          refine lv_iconst (v := 1) hx hb dw_580 (by decide) ?_
          refine lv_iadd hx hb dw_581 ?_
          refine va_sld hx hb hXs hbl hbA hS1 v1 dw_582 ?_
          refine lv_aload_n hx hb dw_583 rfl (lv_at hl2 1 rfl) ?_
          refine lv_iload hx hb dw_584 (lv_at hl2 5 rfl) ?_
          refine lv_iconst (v := 2) hx hb dw_586 (by decide) ?_
          refine lv_iadd hx hb dw_587 ?_
          refine va_sld hx hb hXs hbl hbA hS1 v2 dw_588 ?_
          have rm1 := rm Lg
          have q2 := (rn_met l rm1 (by decide) (Nat.le_of_ble_eq_true rfl)).2
          obtain ⟨fs, hfs⟩ := lw_ml (np := np) (M := M) (L := Lg)
          have zq : zhs (mk np M Lg) = zhs (mk np M Lg) := rfl
          refine lc_V (vs := [.int (xs (x4 + 1).toNatClampNeg), .int (xs (x4 + 2).toNatClampNeg)]) (rest := []) lc_tbl (show (89, mX6_axle, (815, 816, 817, 31)) ∈ lawV from List.mem_of_getElem? (i := 26) rfl) hA CF hK hX hP1 hD1 hS1 had2 rm1 hfs rfl rfl (Nat.le_of_ble_eq_true rfl) hl2.1 (Nat.le_of_ble_eq_true rfl) dw_589 (by decide) (by decide) (by simp only [mk_len]; show _ ≤ 601024; omega) (by show _ ≤ 7293000; omega) (fun H2 locs2 hP2 hD2 hS2 hz2 => ?_)
          show W p l e room_1 s m #[Value.ref b] below meth c _ _ _ _ _ (F0 m 592 ls2 [.long 0])
          refine lv_lstore (lv' := [(6, .long 0), (5, .int 1), (0, .ref b), (1, .ref (ad2 0)), (2, .ref (ad2 21)), (3, .ref (ad2 56)), (4, .int x4)]) hx hb dw_592 hl2 (by decide) rfl (fun ls3 hl3 => ?_)
          refine lv_aload_n hx hb dw_594 rfl (lv_at hl3 4 rfl) ?_
          have had3 : ∀ j, ad2 ((mk np M2 Lg).length + j) = H2.size + j := fun j => by
            have h9 := had2 j
            simp only [mk_len] at h9 hz2 ⊢
            rw [h9, hz2]
            omega
          have rt := rn_thrown (np := np) (M := M2) (L := Lg) 60
          rw [t0] at rt
          obtain ⟨fs3, hfs3⟩ := lw_ml (np := np) (M := M2) (L := Lg)
          refine lc_V (vs := []) (rest := []) lc_tbl (show (90, mX6_thrown, (811, 812, 813, 31)) ∈ lawV from List.mem_of_getElem? (i := 27) rfl) hA CF hK hX hP2 hD2 hS2 had3 rt hfs3 rfl rfl (Nat.le_of_ble_eq_true rfl) hl3.1 (Nat.le_of_ble_eq_true rfl) dw_595 (by decide) (by decide) (by simp only [mk_len]; show _ ≤ 601024; omega) (by show _ ≤ 7293000; omega) (fun H3 locs3 hP3 hD3 hS3 hz3 => ?_)
          show W p l e room_1 s m #[Value.ref b] below meth c _ _ _ _ _ (F0 m 598 ls3 [.int 1])
          refine lv_iload hx hb dw_598 (lv_at hl3 1 rfl) ?_
          refine lv_icmp_eq (tgt := 605) hx hb dw_600 (by decide) (fun _ => ?_) (fun c => absurd rfl c)
          refine lv_iload hx hb dw_605 (lv_at hl3 1 rfl) ?_
          refine lv_if_ne (tgt := 621) hx hb dw_607 (by decide) (fun _ => ?_) (fun c => absurd c (by decide))
          refine lv_goto (tgt := 649) hx hb dw_621 (by decide) ?_
          exact fin ad2 np M2 Lg H3 locs3 _ _ (gc + 1) (gs + 6) ls3 iv2 hP3 hD3 hS3 (by simp only [mk_len]; omega) (by omega) (by omega) (by omega) (lv_sub hl3 [2, 3, 4, 5, 6] rfl)
      | 14, _ =>
        refine lv_tableIn (off := 555) (tgt := 624) hx hb dw_69 (by decide) (by decide) rfl (by decide) ?_
        refine lv_aload_n hx hb dw_624 rfl (lv_at hl 1 rfl) ?_
        refine lv_aload_n hx hb dw_625 rfl (lv_at hl 0 rfl) ?_
        refine lv_iload hx hb dw_626 (lv_at hl 4 rfl) ?_
        refine lv_iconst (v := 1) hx hb dw_628 (by decide) ?_
        refine lv_iadd hx hb dw_629 ?_
        refine va_sld hx hb hXs hbl hbA hS v1 dw_630 ?_
        obtain ⟨r, np1, M1, M2, L2, r1, r2, iv2, hle⟩ := sm_unload (L := Lg) iv (xs (x4 + 1).toNatClampNeg)
        have q1 := (rn_met l r1 (by decide) (Nat.le_of_ble_eq_true rfl)).2
        have q2 := (rn_met l r2 (by decide) (Nat.le_of_ble_eq_true rfl)).2
        have n61 : np1 ≤ 6 := by obtain ⟨g, B, wq, sq, mt, iv⟩ := iv2; exact iv.n6
        have zh1 := zhs_mk (np := np1) (M := M1) (L := Lg) n61
        have zh2 := zhs_mk (np := np1) (M := M2) (L := L2) n61
        refine lc_V (vs := [.int (xs (x4 + 1).toNatClampNeg)]) (rest := []) lc_tbl (show (93, mX5_unload, (459, 460, 461, 25)) ∈ lawV from List.mem_of_getElem? (i := 28) rfl) hA CF hK hX hP hD hS had r1 lw_cl rfl rfl (Nat.le_of_ble_eq_true rfl) hl.1 (Nat.le_of_ble_eq_true rfl) dw_631 (by decide) (by decide) (by simp only [mk_len]; show _ ≤ 601024; omega) (by show _ ≤ 7293000; omega) (fun H1 locs1 hP1 hD1 hS1 hz1 => ?_)
        have had1 : ∀ j, ad1 ((mk np1 M1 Lg).length + j) = H1.size + j := fun j => by
          have h9 := had (np1 - np + j)
          simp only [mk_len] at h9 hz1 ⊢
          rw [show 57 + np1 + j = 57 + np + (np1 - np + j) by omega, h9, hz1]
          omega
        obtain ⟨fs, hfs⟩ := lw_ml (np := np1) (M := M1) (L := Lg)
        refine lv_aload_n hx hb dw_634 rfl (lv_at hl 2 rfl) ?_
        refine lv_aload_n hx hb dw_635 rfl (lv_at hl 0 rfl) ?_
        refine lv_iload hx hb dw_636 (lv_at hl 4 rfl) ?_
        refine lv_iconst (v := 1) hx hb dw_638 (by decide) ?_
        refine lv_iadd hx hb dw_639 ?_
        refine va_sld hx hb hXs hbl hbA hS1 v1 dw_640 ?_
        refine lc_V (vs := [.int (xs (x4 + 1).toNatClampNeg)]) (rest := [.int r]) lc_tbl (show (96, mX6_unload, (824, 825, 826, 31)) ∈ lawV from List.mem_of_getElem? (i := 29) rfl) hA CF hK hX hP1 hD1 hS1 had1 r2 hfs rfl rfl (Nat.le_of_ble_eq_true rfl) hl.1 (Nat.le_of_ble_eq_true rfl) dw_641 (by decide) (by decide) (by simp only [mk_len]; show _ ≤ 601024; omega) (by show _ ≤ 7293000; omega) (fun H2 locs2 hP2 hD2 hS2 hz2 => ?_)
        show W p l e room_1 s m #[Value.ref b] below meth c _ _ _ _ _ (F0 m 644 ls [.int r, .int r])
        refine lv_icmp_eq (tgt := 649) hx hb dw_644 (by decide) (fun _ => ?_) (fun c => absurd rfl c)
        exact fin ad1 np1 M2 L2 H2 locs2 _ _ gc gs ls iv2 hP2 hD2 hS2 (by simp only [mk_len]; omega) (by omega) (by omega) (by omega) hl
      | 15, _ =>
        refine lv_tableOut (tgt := 649) hx hb dw_69 (Or.inr (by decide)) (by decide) ?_
        exact fin ad1 np M Lg H locs cells slots gc gs ls iv.x hP hD hS ec es (by omega) (by omega) hl
        | k + 16, h => exact absurd h (by omega)
