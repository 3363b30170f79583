-- lk: 68
abbrev DF5 : List Value := [.null, .null, .int 0, .null, .null, .int 0]
abbrev DF6 : List Value := [.int 0, .int 0, .int 0, .int 0, .int 0, .int 0, .int 0, .null, .null, .null, .null, .null, .null, .null, .null, .null, .null, .null, .null, .null, .null, .null, .null, .null, .null, .null, .null, .null, .null, .null, .null, .null, .int 0, .long 0, .int 0, .null, .null, .null, .null, .null, .null, .null, .null, .null, .int 0]
theorem iniC_len {x y z : Int32} : (iniC x y z).length = 21 := rfl
theorem iniC_hs {x y z : Int32} : zhs (iniC x y z) = 314 := by unfold iniC zhs; simp [zsz]
theorem iniM_len {A : List va_E} {x y z : Int32} : (iniM A x y z).length = A.length + 35 := by unfold iniM; rw [List.length_append]; rfl
theorem iniM_hs {A : List va_E} {x y z : Int32} : zhs (iniM A x y z) = zhs A + 387 := by unfold iniM zhs; rw [List.map_append, List.sum_append]; simp [zsz]
theorem rn_minit2 {x y z : Int32} (d : Nat) : Rn (d + 1) mX6_init [.ref 21, .int x, .int y, .int z] (iniC x y z ++ [.inr (6, DF6)]) none (iniM (iniC x y z) x y z) := by
  have h := @rn_minit
  unfold iniC
  exact h d
