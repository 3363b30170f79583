/-- the words that every method may use: those of the tables that hold at every later state -/
def zG : List Cond := lw_tbl.filter goodWord
theorem zG_at {p : Nat} {w : Cond} (h : lw_tbl[p]? = some w) (hg : goodWord w = true) : w ∈ zG := List.mem_filter.mpr ⟨List.mem_of_getElem? h, hg⟩
theorem zG_good {w : Cond} (h : w ∈ zG) : goodWord w = true := (List.mem_filter.mp h).2
theorem zG_in : GoodIn lw_tbl zG := fun w hw => ⟨(List.mem_filter.mp hw).1, good_of_word (zG_good hw)⟩
def zCN (c : Nat) : String := match zCl[c]? with
  | some q => q.1
  | none => ""
def zallC {α : Type} (f : Nat → α → Bool) : Nat → List (List α) → Bool
  | _, [] => true
  | c, l :: t => l.all (f c) && zallC f (c + 1) t
theorem zallC_use {α : Type} {f : Nat → α → Bool} {l : List α} {a : α} : ∀ {T : List (List α)} {c k : Nat}, zallC f c T = true → T[k]? = some l → a ∈ l → f (c + k) a = true
  | [], _, _, _, h, _ => by simp at h
  | o :: t, c, 0, h, hk, ha => by
    simp at hk
    subst hk
    simp only [zallC, Bool.and_eq_true] at h
    exact List.all_eq_true.mp h.1 a ha
  | o :: t, c, k + 1, h, hk, ha => by
    simp only [zallC, Bool.and_eq_true] at h
    have := zallC_use (k := k) h.2 (by simpa using hk) ha
    rwa [show c + 1 + k = c + (k + 1) by omega] at this
theorem zrow_use {α : Type} {f : Nat → Nat × α → Bool} {T : List (List (Nat × α))} {c i : Nat} {a : α} (h : zallC f 0 T = true) (hr : zrow T c i = some a) : f c (i, a) = true := by
  obtain ⟨l, hl, hm⟩ := zrow_mem hr
  have := zallC_use h hl hm
  rwa [Nat.zero_add] at this
set_option maxRecDepth 100000 in
theorem zcw_0 : Cond.code (zY 0) (zB 0) (zL 0) (zR 0) ∈ zG := zG_at (p := 84) rfl rfl
set_option maxRecDepth 100000 in
theorem zcw_1 : Cond.code (zY 1) (zB 1) (zL 1) (zR 1) ∈ zG := zG_at (p := 308) rfl rfl
set_option maxRecDepth 100000 in
theorem zcw_2 : Cond.code (zY 2) (zB 2) (zL 2) (zR 2) ∈ zG := zG_at (p := 336) rfl rfl
set_option maxRecDepth 100000 in
theorem zcw_3 : Cond.code (zY 3) (zB 3) (zL 3) (zR 3) ∈ zG := zG_at (p := 421) rfl rfl
set_option maxRecDepth 100000 in
theorem zcw_4 : Cond.code (zY 4) (zB 4) (zL 4) (zR 4) ∈ zG := zG_at (p := 324) rfl rfl
set_option maxRecDepth 100000 in
theorem zcw_5 : Cond.code (zY 5) (zB 5) (zL 5) (zR 5) ∈ zG := zG_at (p := 487) rfl rfl
set_option maxRecDepth 100000 in
theorem zcw_6 : Cond.code (zY 6) (zB 6) (zL 6) (zR 6) ∈ zG := zG_at (p := 332) rfl rfl
set_option maxRecDepth 100000 in
theorem zcw_7 : Cond.code (zY 7) (zB 7) (zL 7) (zR 7) ∈ zG := zG_at (p := 557) rfl rfl
set_option maxRecDepth 100000 in
theorem zcw_8 : Cond.code (zY 8) (zB 8) (zL 8) (zR 8) ∈ zG := zG_at (p := 438) rfl rfl
set_option maxRecDepth 100000 in
theorem zcw_9 : Cond.code (zY 9) (zB 9) (zL 9) (zR 9) ∈ zG := zG_at (p := 379) rfl rfl
set_option maxRecDepth 100000 in
theorem zcw_10 : Cond.code (zY 10) (zB 10) (zL 10) (zR 10) ∈ zG := zG_at (p := 387) rfl rfl
set_option maxRecDepth 100000 in
theorem zcw_11 : Cond.code (zY 11) (zB 11) (zL 11) (zR 11) ∈ zG := zG_at (p := 391) rfl rfl
set_option maxRecDepth 100000 in
theorem zcw_12 : Cond.code (zY 12) (zB 12) (zL 12) (zR 12) ∈ zG := zG_at (p := 466) rfl rfl
set_option maxRecDepth 100000 in
theorem zcw_13 : Cond.code (zY 13) (zB 13) (zL 13) (zR 13) ∈ zG := zG_at (p := 470) rfl rfl
set_option maxRecDepth 100000 in
theorem zcw_14 : Cond.code (zY 14) (zB 14) (zL 14) (zR 14) ∈ zG := zG_at (p := 217) rfl rfl
set_option maxRecDepth 100000 in
theorem zcw_15 : Cond.code (zY 15) (zB 15) (zL 15) (zR 15) ∈ zG := zG_at (p := 260) rfl rfl
set_option maxRecDepth 100000 in
theorem zcw_16 : Cond.code (zY 16) (zB 16) (zL 16) (zR 16) ∈ zG := zG_at (p := 296) rfl rfl
set_option maxRecDepth 100000 in
theorem zcw_17 : Cond.code (zY 17) (zB 17) (zL 17) (zR 17) ∈ zG := zG_at (p := 268) rfl rfl
set_option maxRecDepth 100000 in
theorem zcw_18 : Cond.code (zY 18) (zB 18) (zL 18) (zR 18) ∈ zG := zG_at (p := 272) rfl rfl
set_option maxRecDepth 100000 in
theorem zcw_19 : Cond.code (zY 19) (zB 19) (zL 19) (zR 19) ∈ zG := zG_at (p := 276) rfl rfl
set_option maxRecDepth 100000 in
theorem zcw_20 : Cond.code (zY 20) (zB 20) (zL 20) (zR 20) ∈ zG := zG_at (p := 292) rfl rfl
set_option maxRecDepth 100000 in
theorem zcw_21 : Cond.code (zY 21) (zB 21) (zL 21) (zR 21) ∈ zG := zG_at (p := 458) rfl rfl
set_option maxRecDepth 100000 in
theorem zcw_22 : Cond.code (zY 22) (zB 22) (zL 22) (zR 22) ∈ zG := zG_at (p := 264) rfl rfl
set_option maxRecDepth 100000 in
theorem zcw_23 : Cond.code (zY 23) (zB 23) (zL 23) (zR 23) ∈ zG := zG_at (p := 91) rfl rfl
set_option maxRecDepth 100000 in
theorem zcw_24 : Cond.code (zY 24) (zB 24) (zL 24) (zR 24) ∈ zG := zG_at (p := 312) rfl rfl
set_option maxRecDepth 100000 in
theorem zcw_25 : Cond.code (zY 25) (zB 25) (zL 25) (zR 25) ∈ zG := zG_at (p := 357) rfl rfl
set_option maxRecDepth 100000 in
theorem zcw_26 : Cond.code (zY 26) (zB 26) (zL 26) (zR 26) ∈ zG := zG_at (p := 340) rfl rfl
set_option maxRecDepth 100000 in
theorem zcw_27 : Cond.code (zY 27) (zB 27) (zL 27) (zR 27) ∈ zG := zG_at (p := 348) rfl rfl
set_option maxRecDepth 100000 in
theorem zcw_28 : Cond.code (zY 28) (zB 28) (zL 28) (zR 28) ∈ zG := zG_at (p := 328) rfl rfl
set_option maxRecDepth 100000 in
theorem zcw_29 : Cond.code (zY 29) (zB 29) (zL 29) (zR 29) ∈ zG := zG_at (p := 430) rfl rfl
set_option maxRecDepth 100000 in
theorem zcw_30 : Cond.code (zY 30) (zB 30) (zL 30) (zR 30) ∈ zG := zG_at (p := 383) rfl rfl
set_option maxRecDepth 100000 in
theorem zcw_31 : Cond.code (zY 31) (zB 31) (zL 31) (zR 31) ∈ zG := zG_at (p := 395) rfl rfl
set_option maxRecDepth 100000 in
theorem zcw_32 : Cond.code (zY 32) (zB 32) (zL 32) (zR 32) ∈ zG := zG_at (p := 442) rfl rfl
set_option maxRecDepth 100000 in
theorem zcw_33 : Cond.code (zY 33) (zB 33) (zL 33) (zR 33) ∈ zG := zG_at (p := 150) rfl rfl
set_option maxRecDepth 100000 in
theorem zcw_34 : Cond.code (zY 34) (zB 34) (zL 34) (zR 34) ∈ zG := zG_at (p := 304) rfl rfl
set_option maxRecDepth 100000 in
theorem zcw_35 : Cond.code (zY 35) (zB 35) (zL 35) (zR 35) ∈ zG := zG_at (p := 316) rfl rfl
set_option maxRecDepth 100000 in
theorem zcw_36 : Cond.code (zY 36) (zB 36) (zL 36) (zR 36) ∈ zG := zG_at (p := 364) rfl rfl
set_option maxRecDepth 100000 in
theorem zcw_37 : Cond.code (zY 37) (zB 37) (zL 37) (zR 37) ∈ zG := zG_at (p := 371) rfl rfl
set_option maxRecDepth 100000 in
theorem zcw_38 : Cond.code (zY 38) (zB 38) (zL 38) (zR 38) ∈ zG := zG_at (p := 399) rfl rfl
set_option maxRecDepth 100000 in
theorem zcw_39 : Cond.code (zY 39) (zB 39) (zL 39) (zR 39) ∈ zG := zG_at (p := 375) rfl rfl
set_option maxRecDepth 100000 in
theorem zcw_40 : Cond.code (zY 40) (zB 40) (zL 40) (zR 40) ∈ zG := zG_at (p := 403) rfl rfl
set_option maxRecDepth 100000 in
theorem zcw_41 : Cond.code (zY 41) (zB 41) (zL 41) (zR 41) ∈ zG := zG_at (p := 352) rfl rfl
set_option maxRecDepth 100000 in
theorem zcw_42 : Cond.code (zY 42) (zB 42) (zL 42) (zR 42) ∈ zG := zG_at (p := 344) rfl rfl
set_option maxRecDepth 100000 in
theorem zcw_43 : Cond.code (zY 43) (zB 43) (zL 43) (zR 43) ∈ zG := zG_at (p := 367) rfl rfl
set_option maxRecDepth 100000 in
theorem zcw_44 : Cond.code (zY 44) (zB 44) (zL 44) (zR 44) ∈ zG := zG_at (p := 320) rfl rfl
set_option maxRecDepth 100000 in
theorem zcw_45 : Cond.code (zY 45) (zB 45) (zL 45) (zR 45) ∈ zG := zG_at (p := 58) rfl rfl
set_option maxRecDepth 100000 in
theorem zcw_46 : Cond.code (zY 46) (zB 46) (zL 46) (zR 46) ∈ zG := zG_at (p := 450) rfl rfl
set_option maxRecDepth 100000 in
theorem zcw_47 : Cond.code (zY 47) (zB 47) (zL 47) (zR 47) ∈ zG := zG_at (p := 41) rfl rfl
set_option maxRecDepth 100000 in
theorem zcw_48 : Cond.code (zY 48) (zB 48) (zL 48) (zR 48) ∈ zG := zG_at (p := 207) rfl rfl
set_option maxRecDepth 100000 in
theorem zcw_49 : Cond.code (zY 49) (zB 49) (zL 49) (zR 49) ∈ zG := zG_at (p := 252) rfl rfl
set_option maxRecDepth 100000 in
theorem zcw_50 : Cond.code (zY 50) (zB 50) (zL 50) (zR 50) ∈ zG := zG_at (p := 280) rfl rfl
set_option maxRecDepth 100000 in
theorem zcw_51 : Cond.code (zY 51) (zB 51) (zL 51) (zR 51) ∈ zG := zG_at (p := 284) rfl rfl
set_option maxRecDepth 100000 in
theorem zcw_52 : Cond.code (zY 52) (zB 52) (zL 52) (zR 52) ∈ zG := zG_at (p := 288) rfl rfl
set_option maxRecDepth 100000 in
theorem zcw_53 : Cond.code (zY 53) (zB 53) (zL 53) (zR 53) ∈ zG := zG_at (p := 300) rfl rfl
set_option maxRecDepth 100000 in
theorem zcw_54 : Cond.code (zY 54) (zB 54) (zL 54) (zR 54) ∈ zG := zG_at (p := 409) rfl rfl
set_option maxRecDepth 100000 in
theorem zcw_55 : Cond.code (zY 55) (zB 55) (zL 55) (zR 55) ∈ zG := zG_at (p := 413) rfl rfl
set_option maxRecDepth 100000 in
theorem zcw_56 : Cond.code (zY 56) (zB 56) (zL 56) (zR 56) ∈ zG := zG_at (p := 417) rfl rfl
set_option maxRecDepth 100000 in
theorem zcw_57 : Cond.code (zY 57) (zB 57) (zL 57) (zR 57) ∈ zG := zG_at (p := 426) rfl rfl
set_option maxRecDepth 100000 in
theorem zcw_58 : Cond.code (zY 58) (zB 58) (zL 58) (zR 58) ∈ zG := zG_at (p := 434) rfl rfl
set_option maxRecDepth 100000 in
theorem zcw_59 : Cond.code (zY 59) (zB 59) (zL 59) (zR 59) ∈ zG := zG_at (p := 446) rfl rfl
set_option maxRecDepth 100000 in
theorem zcw_60 : Cond.code (zY 60) (zB 60) (zL 60) (zR 60) ∈ zG := zG_at (p := 454) rfl rfl
set_option maxRecDepth 100000 in
theorem zcw_61 : Cond.code (zY 61) (zB 61) (zL 61) (zR 61) ∈ zG := zG_at (p := 481) rfl rfl
set_option maxRecDepth 100000 in
theorem zcw_62 : Cond.code (zY 62) (zB 62) (zL 62) (zR 62) ∈ zG := zG_at (p := 462) rfl rfl
set_option maxRecDepth 100000 in
theorem zcw_63 : Cond.code (zY 63) (zB 63) (zL 63) (zR 63) ∈ zG := zG_at (p := 256) rfl rfl
set_option maxRecDepth 100000 in
theorem zcw_64 : Cond.code (zY 64) (zB 64) (zL 64) (zR 64) ∈ zG := zG_at (p := 213) rfl rfl
set_option maxRecDepth 100000 in
theorem zcw_65 : Cond.code (zY 65) (zB 65) (zL 65) (zR 65) ∈ zG := zG_at (p := 210) rfl rfl
set_option maxRecDepth 100000 in
theorem zcw_66 : Cond.code (zY 66) (zB 66) (zL 66) (zR 66) ∈ zG := zG_at (p := 49) rfl rfl
set_option maxRecDepth 100000 in
theorem zcw_67 : Cond.code (zY 67) (zB 67) (zL 67) (zR 67) ∈ zG := zG_at (p := 560) rfl rfl
set_option maxRecDepth 100000 in
theorem zcw_68 : Cond.code (zY 68) (zB 68) (zL 68) (zR 68) ∈ zG := zG_at (p := 565) rfl rfl
set_option maxRecDepth 100000 in
theorem zcw_69 : Cond.code (zY 69) (zB 69) (zL 69) (zR 69) ∈ zG := zG_at (p := 569) rfl rfl
set_option maxRecDepth 100000 in
theorem zcw_70 : Cond.code (zY 70) (zB 70) (zL 70) (zR 70) ∈ zG := zG_at (p := 713) rfl rfl
set_option maxRecDepth 100000 in
theorem zcw_71 : Cond.code (zY 71) (zB 71) (zL 71) (zR 71) ∈ zG := zG_at (p := 721) rfl rfl
set_option maxRecDepth 100000 in
theorem zcw_72 : Cond.code (zY 72) (zB 72) (zL 72) (zR 72) ∈ zG := zG_at (p := 710) rfl rfl
set_option maxRecDepth 100000 in
theorem zcw_73 : Cond.code (zY 73) (zB 73) (zL 73) (zR 73) ∈ zG := zG_at (p := 717) rfl rfl
set_option maxRecDepth 100000 in
theorem zcw_74 : Cond.code (zY 74) (zB 74) (zL 74) (zR 74) ∈ zG := zG_at (p := 725) rfl rfl
set_option maxRecDepth 100000 in
theorem zcw_75 : Cond.code (zY 75) (zB 75) (zL 75) (zR 75) ∈ zG := zG_at (p := 729) rfl rfl
set_option maxRecDepth 100000 in
theorem zcw_76 : Cond.code (zY 76) (zB 76) (zL 76) (zR 76) ∈ zG := zG_at (p := 744) rfl rfl
set_option maxRecDepth 100000 in
theorem zcw_77 : Cond.code (zY 77) (zB 77) (zL 77) (zR 77) ∈ zG := zG_at (p := 740) rfl rfl
set_option maxRecDepth 100000 in
theorem zcw_78 : Cond.code (zY 78) (zB 78) (zL 78) (zR 78) ∈ zG := zG_at (p := 737) rfl rfl
set_option maxRecDepth 100000 in
theorem zcw_79 : Cond.code (zY 79) (zB 79) (zL 79) (zR 79) ∈ zG := zG_at (p := 733) rfl rfl
set_option maxRecDepth 100000 in
theorem zcw_80 : Cond.code (zY 80) (zB 80) (zL 80) (zR 80) ∈ zG := zG_at (p := 766) rfl rfl
set_option maxRecDepth 100000 in
theorem zcw_81 : Cond.code (zY 81) (zB 81) (zL 81) (zR 81) ∈ zG := zG_at (p := 778) rfl rfl
set_option maxRecDepth 100000 in
theorem zcw_82 : Cond.code (zY 82) (zB 82) (zL 82) (zR 82) ∈ zG := zG_at (p := 770) rfl rfl
set_option maxRecDepth 100000 in
theorem zcw_83 : Cond.code (zY 83) (zB 83) (zL 83) (zR 83) ∈ zG := zG_at (p := 763) rfl rfl
set_option maxRecDepth 100000 in
theorem zcw_84 : Cond.code (zY 84) (zB 84) (zL 84) (zR 84) ∈ zG := zG_at (p := 774) rfl rfl
set_option maxRecDepth 100000 in
theorem zcw_85 : Cond.code (zY 85) (zB 85) (zL 85) (zR 85) ∈ zG := zG_at (p := 755) rfl rfl
set_option maxRecDepth 100000 in
theorem zcw_86 : Cond.code (zY 86) (zB 86) (zL 86) (zR 86) ∈ zG := zG_at (p := 752) rfl rfl
set_option maxRecDepth 100000 in
theorem zcw_87 : Cond.code (zY 87) (zB 87) (zL 87) (zR 87) ∈ zG := zG_at (p := 759) rfl rfl
set_option maxRecDepth 100000 in
theorem zcw_88 : Cond.code (zY 88) (zB 88) (zL 88) (zR 88) ∈ zG := zG_at (p := 782) rfl rfl
set_option maxRecDepth 100000 in
theorem zcw_89 : Cond.code (zY 89) (zB 89) (zL 89) (zR 89) ∈ zG := zG_at (p := 748) rfl rfl
set_option maxRecDepth 100000 in
theorem zcw_90 : Cond.code (zY 90) (zB 90) (zL 90) (zR 90) ∈ zG := zG_at (p := 786) rfl rfl
set_option maxRecDepth 100000 in
theorem zcw_91 : Cond.code (zY 91) (zB 91) (zL 91) (zR 91) ∈ zG := zG_at (p := 790) rfl rfl
set_option maxRecDepth 100000 in
theorem zcw_92 : Cond.code (zY 92) (zB 92) (zL 92) (zR 92) ∈ zG := zG_at (p := 794) rfl rfl
set_option maxRecDepth 100000 in
theorem zcw_93 : Cond.code (zY 93) (zB 93) (zL 93) (zR 93) ∈ zG := zG_at (p := 798) rfl rfl
set_option maxRecDepth 100000 in
theorem zcw_94 : Cond.code (zY 94) (zB 94) (zL 94) (zR 94) ∈ zG := zG_at (p := 802) rfl rfl
set_option maxRecDepth 100000 in
theorem zcw_95 : Cond.code (zY 95) (zB 95) (zL 95) (zR 95) ∈ zG := zG_at (p := 806) rfl rfl
set_option maxRecDepth 100000 in
theorem zcw_96 : Cond.code (zY 96) (zB 96) (zL 96) (zR 96) ∈ zG := zG_at (p := 810) rfl rfl
set_option maxRecDepth 100000 in
theorem zcw_97 : Cond.code (zY 97) (zB 97) (zL 97) (zR 97) ∈ zG := zG_at (p := 823) rfl rfl
set_option maxRecDepth 100000 in
theorem zcw_98 : Cond.code (zY 98) (zB 98) (zL 98) (zR 98) ∈ zG := zG_at (p := 814) rfl rfl
set_option maxRecDepth 100000 in
theorem zcw_99 : Cond.code (zY 99) (zB 99) (zL 99) (zR 99) ∈ zG := zG_at (p := 818) rfl rfl
set_option maxRecDepth 100000 in
theorem zcw_100 : Cond.code (zY 100) (zB 100) (zL 100) (zR 100) ∈ zG := zG_at (p := 831) rfl rfl
set_option maxRecDepth 100000 in
theorem zcw_101 : Cond.code (zY 101) (zB 101) (zL 101) (zR 101) ∈ zG := zG_at (p := 827) rfl rfl
theorem zcw {mi : Nat} (h : mi < 102) : Cond.code (zY mi) (zB mi) (zL mi) (zR mi) ∈ zG := by
  match mi, h with
  | 0, _ => exact zcw_0
  | 1, _ => exact zcw_1
  | 2, _ => exact zcw_2
  | 3, _ => exact zcw_3
  | 4, _ => exact zcw_4
  | 5, _ => exact zcw_5
  | 6, _ => exact zcw_6
  | 7, _ => exact zcw_7
  | 8, _ => exact zcw_8
  | 9, _ => exact zcw_9
  | 10, _ => exact zcw_10
  | 11, _ => exact zcw_11
  | 12, _ => exact zcw_12
  | 13, _ => exact zcw_13
  | 14, _ => exact zcw_14
  | 15, _ => exact zcw_15
  | 16, _ => exact zcw_16
  | 17, _ => exact zcw_17
  | 18, _ => exact zcw_18
  | 19, _ => exact zcw_19
  | 20, _ => exact zcw_20
  | 21, _ => exact zcw_21
  | 22, _ => exact zcw_22
  | 23, _ => exact zcw_23
  | 24, _ => exact zcw_24
  | 25, _ => exact zcw_25
  | 26, _ => exact zcw_26
  | 27, _ => exact zcw_27
  | 28, _ => exact zcw_28
  | 29, _ => exact zcw_29
  | 30, _ => exact zcw_30
  | 31, _ => exact zcw_31
  | 32, _ => exact zcw_32
  | 33, _ => exact zcw_33
  | 34, _ => exact zcw_34
  | 35, _ => exact zcw_35
  | 36, _ => exact zcw_36
  | 37, _ => exact zcw_37
  | 38, _ => exact zcw_38
  | 39, _ => exact zcw_39
  | 40, _ => exact zcw_40
  | 41, _ => exact zcw_41
  | 42, _ => exact zcw_42
  | 43, _ => exact zcw_43
  | 44, _ => exact zcw_44
  | 45, _ => exact zcw_45
  | 46, _ => exact zcw_46
  | 47, _ => exact zcw_47
  | 48, _ => exact zcw_48
  | 49, _ => exact zcw_49
  | 50, _ => exact zcw_50
  | 51, _ => exact zcw_51
  | 52, _ => exact zcw_52
  | 53, _ => exact zcw_53
  | 54, _ => exact zcw_54
  | 55, _ => exact zcw_55
  | 56, _ => exact zcw_56
  | 57, _ => exact zcw_57
  | 58, _ => exact zcw_58
  | 59, _ => exact zcw_59
  | 60, _ => exact zcw_60
  | 61, _ => exact zcw_61
  | 62, _ => exact zcw_62
  | 63, _ => exact zcw_63
  | 64, _ => exact zcw_64
  | 65, _ => exact zcw_65
  | 66, _ => exact zcw_66
  | 67, _ => exact zcw_67
  | 68, _ => exact zcw_68
  | 69, _ => exact zcw_69
  | 70, _ => exact zcw_70
  | 71, _ => exact zcw_71
  | 72, _ => exact zcw_72
  | 73, _ => exact zcw_73
  | 74, _ => exact zcw_74
  | 75, _ => exact zcw_75
  | 76, _ => exact zcw_76
  | 77, _ => exact zcw_77
  | 78, _ => exact zcw_78
  | 79, _ => exact zcw_79
  | 80, _ => exact zcw_80
  | 81, _ => exact zcw_81
  | 82, _ => exact zcw_82
  | 83, _ => exact zcw_83
  | 84, _ => exact zcw_84
  | 85, _ => exact zcw_85
  | 86, _ => exact zcw_86
  | 87, _ => exact zcw_87
  | 88, _ => exact zcw_88
  | 89, _ => exact zcw_89
  | 90, _ => exact zcw_90
  | 91, _ => exact zcw_91
  | 92, _ => exact zcw_92
  | 93, _ => exact zcw_93
  | 94, _ => exact zcw_94
  | 95, _ => exact zcw_95
  | 96, _ => exact zcw_96
  | 97, _ => exact zcw_97
  | 98, _ => exact zcw_98
  | 99, _ => exact zcw_99
  | 100, _ => exact zcw_100
  | 101, _ => exact zcw_101
  | k + 102, h => omega
-- methods
def zckM (mi : Nat) : Bool := decide ((zY mi).cls = zCN (zC mi)) && plainName (zY mi).cls && decide ((zY mi).cls ≠ "java/lang/invoke/MethodHandle") && decide ((zY mi).cls ≠ "java/lang/invoke/VarHandle") && decide ((parseMethodDescriptor (zY mi).desc).map (fun d => d.parameters.length) = some (zN mi)) && decide (zL mi ≤ 21)
set_option maxRecDepth 100000 in
theorem zckM_0 : (List.range 102).all zckM = true := by decide +kernel
theorem zM_ok {mi : Nat} (h : mi < 102) : (zY mi).cls = zCN (zC mi) ∧ plainName (zY mi).cls = true ∧ (zY mi).cls ≠ "java/lang/invoke/MethodHandle" ∧ (zY mi).cls ≠ "java/lang/invoke/VarHandle" ∧ (parseMethodDescriptor (zY mi).desc).map (fun d => d.parameters.length) = some (zN mi) ∧ zL mi ≤ 21 := by
  have := List.all_eq_true.mp zckM_0 mi (List.mem_range.mpr h)
  simp only [zckM, Bool.and_eq_true, decide_eq_true_eq] at this
  exact ⟨this.1.1.1.1.1, this.1.1.1.1.2, this.1.1.1.2, this.1.1.2, this.1.2, this.2⟩
-- fields
def zckF (c : Nat) (e : Nat × Nat × Nat × Nat) : Bool := match zCl[e.2.1]? with
  | none => false
  | some q => decide (e.2.2.1 < q.2.2) && decide (lw_tbl[e.2.2.2]? = some (.fieldLink (zCN c) e.1 (q.2.1 e.2.2.1).1 (q.2.1 e.2.2.1).2.1 (q.2.1 e.2.2.1).2.2.1))
set_option maxRecDepth 100000 in
theorem zckF_0 : zallC zckF 0 zFT = true := by decide +kernel
theorem zF_ok {c idx ci k p : Nat} (h : zrow zFT c idx = some (ci, k, p)) : ∃ q, zCl[ci]? = some q ∧ k < q.2.2 ∧ Cond.fieldLink (zCN c) idx (q.2.1 k).1 (q.2.1 k).2.1 (q.2.1 k).2.2.1 ∈ zG := by
  have := zrow_use zckF_0 h
  unfold zckF at this
  split at this
  · cases this
  · next q hq =>
    simp only [Bool.and_eq_true, decide_eq_true_eq] at this
    exact ⟨q, hq, this.1, zG_at this.2 rfl⟩
theorem zU_0 : zCl.all (fun q => (u_ws q.1 q.2.1 q.2.2).all (fun w => decide (w ∈ lw_tbl) && goodWord w)) = true := by decide +kernel
theorem zU_ok {ci : Nat} {q : vw_C} (h : zCl[ci]? = some q) : ∀ w ∈ u_ws q.1 q.2.1 q.2.2, w ∈ zG := by
  intro w hw
  have := List.all_eq_true.mp (List.all_eq_true.mp zU_0 q (List.mem_of_getElem? h)) w hw
  simp only [Bool.and_eq_true, decide_eq_true_eq] at this
  exact List.mem_filter.mpr this

theorem zT_ok {ci : Nat} {q : vw_C} (h : zCl[ci]? = some q) : ∃ ty, zTys[ci]? = some ty ∧ (∀ k, k < q.2.2 → parseFieldDescriptor (q.2.1 k).2.2.1 = some (ty k)) ∧ (∀ a, a < q.2.2 → ∀ b, b < q.2.2 → a ≠ b → (q.2.1 a).2.1 ≠ (q.2.1 b).2.1) ∧ ∃ fs, zDF[ci]? = some fs ∧ fs.length = q.2.2 ∧ ∀ j, j < q.2.2 → defaultValue (ty j) = vp_V fs j := by
  match ci, h with
  | 0, h => cases h; exact ⟨tyX0, rfl, tyX0_ok, nmX0, _, rfl, rfl, by decide +kernel⟩
  | 1, h => cases h; exact ⟨tyX1, rfl, tyX1_ok, nmX1, _, rfl, rfl, by decide +kernel⟩
  | 2, h => cases h; exact ⟨tyX2, rfl, tyX2_ok, nmX2, _, rfl, rfl, by decide +kernel⟩
  | 3, h => cases h; exact ⟨tyX3, rfl, tyX3_ok, nmX3, _, rfl, rfl, by decide +kernel⟩
  | 4, h => cases h; exact ⟨tyX4, rfl, tyX4_ok, nmX4, _, rfl, rfl, by decide +kernel⟩
  | 5, h => cases h; exact ⟨tyX5, rfl, tyX5_ok, nmX5, _, rfl, rfl, by decide +kernel⟩
  | 6, h => cases h; exact ⟨tyX6, rfl, tyX6_ok, nmX6, _, rfl, rfl, by decide +kernel⟩
  | k + 7, h => simp [zCl] at h
-- making
def zckN (c : Nat) (e : Nat × Nat × Nat × Nat × Nat) : Bool := match zCl[e.2.1]? with
  | none => false
  | some q => decide (lw_tbl[e.2.2.1]? = some (.classLink (zCN c) e.1 q.1)) && decide (lw_tbl[e.2.2.2.1]? = some (.instantiable q.1 q.2.2)) && decide (lw_tbl[e.2.2.2.2]? = some (.initialized q.1))
set_option maxRecDepth 100000 in
theorem zckN_0 : zallC zckN 0 zNT = true := by decide +kernel
theorem zN_ok {c idx ci : Nat} {r : Nat × Nat × Nat} (h : zrow zNT c idx = some (ci, r)) : ∃ q, zCl[ci]? = some q ∧ Cond.classLink (zCN c) idx q.1 ∈ zG ∧ Cond.instantiable q.1 q.2.2 ∈ zG ∧ Cond.initialized q.1 ∈ zG := by
  have := zrow_use zckN_0 h
  unfold zckN at this
  split at this
  · cases this
  · next q hq =>
    simp only [Bool.and_eq_true, decide_eq_true_eq] at this
    exact ⟨q, hq, zG_at this.1.1 rfl, zG_at this.1.2 rfl, zG_at this.2 rfl⟩
def zckA (c : Nat) (e : Nat × Nat × Nat × Nat × Nat) : Bool := match zCl[e.2.2.1]? with
  | none => false
  | some q => decide (zTY[e.2.1]? = some (.object q.1)) && decide (lw_tbl[e.2.2.2.1]? = some (.classLink (zCN c) e.1 q.1)) && decide (lw_tbl[e.2.2.2.2]? = some (.arrayOver (.object q.1)))
set_option maxRecDepth 100000 in
theorem zckA_0 : zallC zckA 0 zAT = true := by decide +kernel
theorem zA_ok {c idx t ci : Nat} {r : Nat × Nat} (h : zrow zAT c idx = some (t, ci, r)) : ∃ q, zCl[ci]? = some q ∧ zTY[t]? = some (.object q.1) ∧ Cond.classLink (zCN c) idx q.1 ∈ zG ∧ Cond.arrayOver (.object q.1) ∈ lw_tbl := by
  have := zrow_use zckA_0 h
  unfold zckA at this
  split at this
  · cases this
  · next q hq =>
    simp only [Bool.and_eq_true, decide_eq_true_eq] at this
    exact ⟨q, hq, this.1.1, zG_at this.1.2 rfl, List.mem_of_getElem? this.2⟩
-- calls
def zckV (c : Nat) (e : Nat × Nat × Nat × Nat × Nat × Nat × Nat) : Bool := decide (e.2.1 < 102) && decide (lw_tbl[e.2.2.1]? = some (.methodLink (zCN c) e.1 (zY e.2.1))) && decide (lw_tbl[e.2.2.2.1]? = some (.instanceMethod (zY e.2.1))) && decide (lw_tbl[e.2.2.2.2.1]? = some (.selects (zY e.2.1).cls (zY e.2.1) (zY e.2.1))) && decide (lw_tbl[e.2.2.2.2.2.1]? = some (.initialized (zY e.2.1).cls))
set_option maxRecDepth 100000 in
theorem zckV_0 : zallC zckV 0 zVT = true := by decide +kernel
theorem zV_ok {c idx mj : Nat} {r : Nat × Nat × Nat × Nat × Nat} (h : zrow zVT c idx = some (mj, r)) : mj < 102 ∧ Cond.methodLink (zCN c) idx (zY mj) ∈ zG ∧ Cond.instanceMethod (zY mj) ∈ zG ∧ Cond.selects (zY mj).cls (zY mj) (zY mj) ∈ zG ∧ Cond.initialized (zY mj).cls ∈ zG ∧ Cond.code (zY mj) (zB mj) (zL mj) (zR mj) ∈ zG := by
  have := zrow_use zckV_0 h
  simp only [zckV, Bool.and_eq_true, decide_eq_true_eq] at this
  exact ⟨this.1.1.1.1, zG_at this.1.1.1.2 rfl, zG_at this.1.1.2 rfl, zG_at this.1.2 rfl, zG_at this.2 rfl, zcw this.1.1.1.1⟩
def zckS (c : Nat) (e : Nat × Nat × Nat × Nat × Nat × Nat) : Bool := decide (e.2.1 < 102) && decide ((zY e.2.1).cls = zCN c) && decide (lw_tbl[e.2.2.1]? = some (.methodLink (zCN c) e.1 (zY e.2.1))) && decide (lw_tbl[e.2.2.2.1]? = some (.static (zY e.2.1))) && decide (lw_tbl[e.2.2.2.2.1]? = some (.initialized (zY e.2.1).cls))
set_option maxRecDepth 100000 in
theorem zckS_0 : zallC zckS 0 zST = true := by decide +kernel
theorem zS_ok {c idx mj : Nat} {r : Nat × Nat × Nat × Nat} (h : zrow zST c idx = some (mj, r)) : mj < 102 ∧ (zY mj).cls = zCN c ∧ Cond.methodLink (zCN c) idx (zY mj) ∈ zG ∧ Cond.static (zY mj) ∈ zG ∧ Cond.initialized (zY mj).cls ∈ zG ∧ Cond.code (zY mj) (zB mj) (zL mj) (zR mj) ∈ zG := by
  have := zrow_use zckS_0 h
  simp only [zckS, Bool.and_eq_true, decide_eq_true_eq] at this
  exact ⟨this.1.1.1.1, this.1.1.1.2, zG_at this.1.1.2 rfl, zG_at this.1.2 rfl, zG_at this.2 rfl, zcw this.1.1.1.1⟩
def zckQ (c : Nat) (e : Nat × Nat × Nat × Nat × Nat × Nat) : Bool := decide (e.2.1 < 102) && decide ((zY e.2.1).name = "<init>") && decide (zR e.2.1 = none) && decide (lw_tbl[e.2.2.1]? = some (.methodLink (zCN c) e.1 (zY e.2.1))) && decide (lw_tbl[e.2.2.2.1]? = some (.instanceMethod (zY e.2.1))) && decide (lw_tbl[e.2.2.2.2.1]? = some (.initialized (zY e.2.1).cls))
set_option maxRecDepth 100000 in
theorem zckQ_0 : zallC zckQ 0 zQT = true := by decide +kernel
theorem zQ_ok {c idx mj : Nat} {r : Nat × Nat × Nat × Nat} (h : zrow zQT c idx = some (mj, r)) : mj < 102 ∧ (zY mj).name = "<init>" ∧ zR mj = none ∧ Cond.methodLink (zCN c) idx (zY mj) ∈ zG ∧ Cond.instanceMethod (zY mj) ∈ zG ∧ Cond.initialized (zY mj).cls ∈ zG ∧ Cond.code (zY mj) (zB mj) (zL mj) (zR mj) ∈ zG := by
  have := zrow_use zckQ_0 h
  simp only [zckQ, Bool.and_eq_true, decide_eq_true_eq] at this
  exact ⟨this.1.1.1.1.1, this.1.1.1.1.2, this.1.1.1.2, zG_at this.1.1.2 rfl, zG_at this.1.2 rfl, zG_at this.2 rfl, zcw this.1.1.1.1.1⟩
def zckW (c : Nat) (e : Nat × Nat × String × Nat × Nat × Nat × Nat) : Bool := decide (e.2.1 < 102) && decide ((zY e.2.1).name = "<init>") && decide (zR e.2.1 = none) && decide (lw_tbl[e.2.2.2.2.2.2]? = some (.methodLinkNest (zCN c) e.1 (zY e.2.1) e.2.2.1)) && decide (lw_tbl[e.2.2.2.1]? = some (.instanceMethod (zY e.2.1))) && decide (lw_tbl[e.2.2.2.2.1]? = some (.initialized (zY e.2.1).cls))
set_option maxRecDepth 100000 in
theorem zckW_0 : zallC zckW 0 zWT = true := by decide +kernel
theorem zW_ok {c idx mj : Nat} {hs : String} {r : Nat × Nat × Nat × Nat} (h : zrow zWT c idx = some (mj, hs, r)) : mj < 102 ∧ (zY mj).name = "<init>" ∧ zR mj = none ∧ Cond.methodLinkNest (zCN c) idx (zY mj) hs ∈ lw_tbl ∧ Cond.instanceMethod (zY mj) ∈ zG ∧ Cond.initialized (zY mj).cls ∈ zG ∧ Cond.code (zY mj) (zB mj) (zL mj) (zR mj) ∈ zG := by
  have := zrow_use zckW_0 h
  simp only [zckW, Bool.and_eq_true, decide_eq_true_eq] at this
  exact ⟨this.1.1.1.1.1, this.1.1.1.1.2, this.1.1.1.2, List.mem_of_getElem? this.1.1.2, zG_at this.1.2 rfl, zG_at this.2 rfl, zcw this.1.1.1.1.1⟩
-- Object.<init>, Math, constants
def zckO (c : Nat) (e : Nat × Nat × Nat × Nat) : Bool := decide (lw_tbl[e.2.1]? = some (.methodLink (zCN c) e.1 objectInit)) && decide (lw_tbl[e.2.2.1]? = some (.instanceMethod objectInit)) && decide (lw_tbl[e.2.2.2]? = some (.code objectInit ⟨#[0xb1]⟩ 1 none))
set_option maxRecDepth 100000 in
theorem zckO_0 : zallC zckO 0 zOT = true := by decide +kernel
theorem zO_ok {c idx : Nat} {r : Nat × Nat × Nat} (h : zrow zOT c idx = some r) : Cond.methodLink (zCN c) idx objectInit ∈ zG ∧ Cond.instanceMethod objectInit ∈ zG ∧ Cond.code objectInit ⟨#[0xb1]⟩ 1 none ∈ zG := by
  have := zrow_use zckO_0 h
  simp only [zckO, Bool.and_eq_true, decide_eq_true_eq] at this
  exact ⟨zG_at this.1.1 rfl, zG_at this.1.2 rfl, zG_at this.2 rfl⟩
def zmn (w : Nat) : MethodName := if w = 0 then Lib.Math.min.name else Lib.Math.max.name
def zmc (w : Nat) : ByteArray := if w = 0 then Lib.Math.min.code else Lib.Math.max.code
def zckX (c : Nat) (e : Nat × Nat × Nat × Nat × Nat × Nat) : Bool := decide (lw_tbl[e.2.2.1]? = some (.methodLink (zCN c) e.1 (zmn e.2.1))) && decide (lw_tbl[e.2.2.2.1]? = some (.static (zmn e.2.1))) && decide (lw_tbl[e.2.2.2.2.1]? = some (.initialized "java/lang/Math")) && decide (lw_tbl[e.2.2.2.2.2]? = some (.code (zmn e.2.1) (zmc e.2.1) 2 (some .int)))
set_option maxRecDepth 100000 in
theorem zckX_0 : zallC zckX 0 zXT = true := by decide +kernel
theorem zX_ok {c idx w : Nat} {r : Nat × Nat × Nat × Nat} (h : zrow zXT c idx = some (w, r)) : Cond.methodLink (zCN c) idx (zmn w) ∈ zG ∧ Cond.static (zmn w) ∈ zG ∧ Cond.initialized "java/lang/Math" ∈ zG ∧ Cond.code (zmn w) (zmc w) 2 (some .int) ∈ zG := by
  have := zrow_use zckX_0 h
  simp only [zckX, Bool.and_eq_true, decide_eq_true_eq] at this
  exact ⟨zG_at this.1.1.1 rfl, zG_at this.1.1.2 rfl, zG_at this.1.2 rfl, zG_at this.2 rfl⟩
def zckK (c : Nat) (e : Nat × Int64 × Nat) : Bool := decide (lw_tbl[e.2.2]? = some (.constantLong (zCN c) e.1 e.2.1))
set_option maxRecDepth 100000 in
theorem zckK_0 : zallC zckK 0 zKT = true := by decide +kernel
theorem zK_ok {c idx : Nat} {v : Int64} {p : Nat} (h : zrow zKT c idx = some (v, p)) : Cond.constantLong (zCN c) idx v ∈ zG := by
  have := zrow_use zckK_0 h
  simp only [zckK, decide_eq_true_eq] at this
  exact zG_at this rfl
theorem zac_i : Cond.arrayClass .int ∈ zG := List.mem_filter.mpr ⟨by decide +kernel, rfl⟩
theorem zac_z : Cond.arrayClass .boolean ∈ zG := List.mem_filter.mpr ⟨by decide +kernel, rfl⟩
theorem zac_l : Cond.arrayClass .long ∈ zG := List.mem_filter.mpr ⟨by decide +kernel, rfl⟩
