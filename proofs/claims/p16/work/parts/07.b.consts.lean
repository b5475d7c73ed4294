theorem bp_m20 : (Int8.ofInt (-20)).toInt32 = (-20) := by decide
theorem bp_m14 : (Int8.ofInt (-14)).toInt32 = (-14) := by decide
theorem bp_m12 : (Int8.ofInt (-12)).toInt32 = (-12) := by decide
theorem bp_m11 : (Int8.ofInt (-11)).toInt32 = (-11) := by decide
theorem bp_m10 : (Int8.ofInt (-10)).toInt32 = (-10) := by decide
theorem bp_m4 : (Int8.ofInt (-4)).toInt32 = (-4) := by decide
theorem bp_m3 : (Int8.ofInt (-3)).toInt32 = (-3) := by decide
theorem bp_m2 : (Int8.ofInt (-2)).toInt32 = (-2) := by decide
theorem bp_6 : (Int8.ofInt 6).toInt32 = 6 := by decide
theorem bp_7 : (Int8.ofInt 7).toInt32 = 7 := by decide
theorem bp_8 : (Int8.ofInt 8).toInt32 = 8 := by decide
theorem bp_9 : (Int8.ofInt 9).toInt32 = 9 := by decide
theorem bp_10 : (Int8.ofInt 10).toInt32 = 10 := by decide
theorem bp_11 : (Int8.ofInt 11).toInt32 = 11 := by decide
theorem bp_12 : (Int8.ofInt 12).toInt32 = 12 := by decide
theorem bp_13 : (Int8.ofInt 13).toInt32 = 13 := by decide
theorem bp_16 : (Int8.ofInt 16).toInt32 = 16 := by decide
theorem bp_24 : (Int8.ofInt 24).toInt32 = 24 := by decide
theorem bp_31 : (Int8.ofInt 31).toInt32 = 31 := by decide
theorem bp_32 : (Int8.ofInt 32).toInt32 = 32 := by decide
theorem bp_40 : (Int8.ofInt 40).toInt32 = 40 := by decide
theorem bp_48 : (Int8.ofInt 48).toInt32 = 48 := by decide
theorem bp_57 : (Int8.ofInt 57).toInt32 = 57 := by decide
theorem bp_59 : (Int8.ofInt 59).toInt32 = 59 := by decide
theorem bp_60 : (Int8.ofInt 60).toInt32 = 60 := by decide
theorem bp_63 : (Int8.ofInt 63).toInt32 = 63 := by decide
theorem bp_80 : (Int8.ofInt 80).toInt32 = 80 := by decide
theorem bp_97 : (Int8.ofInt 97).toInt32 = 97 := by decide
theorem bp_99 : (Int8.ofInt 99).toInt32 = 99 := by decide
theorem bp_100 : (Int8.ofInt 100).toInt32 = 100 := by decide
theorem bp_101 : (Int8.ofInt 101).toInt32 = 101 := by decide
theorem bp_102 : (Int8.ofInt 102).toInt32 = 102 := by decide
theorem bp_105 : (Int8.ofInt 105).toInt32 = 105 := by decide
theorem bp_107 : (Int8.ofInt 107).toInt32 = 107 := by decide
theorem bp_109 : (Int8.ofInt 109).toInt32 = 109 := by decide
theorem bp_110 : (Int8.ofInt 110).toInt32 = 110 := by decide
theorem bp_111 : (Int8.ofInt 111).toInt32 = 111 := by decide
theorem bp_112 : (Int8.ofInt 112).toInt32 = 112 := by decide
theorem bp_114 : (Int8.ofInt 114).toInt32 = 114 := by decide
theorem bp_116 : (Int8.ofInt 116).toInt32 = 116 := by decide
theorem bp_117 : (Int8.ofInt 117).toInt32 = 117 := by decide
theorem bp_120 : (Int8.ofInt 120).toInt32 = 120 := by decide
theorem bp_122 : (Int8.ofInt 122).toInt32 = 122 := by decide
theorem bp_127 : (Int8.ofInt 127).toInt32 = 127 := by decide
theorem ic_m1 : Int32.ofInt (-1) = (-1) := by decide
theorem ic_0 : Int32.ofInt 0 = 0 := by decide
theorem ic_1 : Int32.ofInt 1 = 1 := by decide
theorem ic_2 : Int32.ofInt 2 = 2 := by decide
theorem ic_3 : Int32.ofInt 3 = 3 := by decide
theorem ic_4 : Int32.ofInt 4 = 4 := by decide
theorem ic_5 : Int32.ofInt 5 = 5 := by decide
theorem ic_252645135 : Int32.ofInt 252645135 = 252645135 := by decide
theorem ic_858993459 : Int32.ofInt 858993459 = 858993459 := by decide
theorem ic_1431655765 : Int32.ofInt 1431655765 = 1431655765 := by decide
theorem l2_m1 : Int64.ofInt (-1) = (-1) := by decide
theorem l2_2 : Int64.ofInt 2 = 2 := by decide
theorem l2_3 : Int64.ofInt 3 = 3 := by decide
theorem l2_4 : Int64.ofInt 4 = 4 := by decide
theorem l2_5 : Int64.ofInt 5 = 5 := by decide
theorem l2_6 : Int64.ofInt 6 = 6 := by decide
theorem l2_7 : Int64.ofInt 7 = 7 := by decide
theorem l2_40 : Int64.ofInt 40 = 40 := by decide
theorem l2_48 : Int64.ofInt 48 = 48 := by decide
theorem l2_57 : Int64.ofInt 57 = 57 := by decide
theorem l2_60 : Int64.ofInt 60 = 60 := by decide
theorem l2_97 : Int64.ofInt 97 = 97 := by decide
theorem l2_99 : Int64.ofInt 99 = 99 := by decide
theorem l2_122 : Int64.ofInt 122 = 122 := by decide
theorem l2_127 : Int64.ofInt 127 = 127 := by decide
theorem l2_279936 : Int64.ofInt 279936 = 279936 := by decide
theorem lc_0 : Int64.ofNat ((0 : Fin 2) : Nat) = 0 := by decide
theorem lc_1 : Int64.ofNat ((1 : Fin 2) : Nat) = 1 := by decide
theorem sp_160 : (Int16.ofInt 160).toInt32 = 160 := by decide
theorem sp_312 : (Int16.ofInt 312).toInt32 = 312 := by decide
theorem sp_313 : (Int16.ofInt 313).toInt32 = 313 := by decide
theorem sp_314 : (Int16.ofInt 314).toInt32 = 314 := by decide
theorem sp_315 : (Int16.ofInt 315).toInt32 = 315 := by decide
theorem sp_387 : (Int16.ofInt 387).toInt32 = 387 := by decide
theorem sp_774 : (Int16.ofInt 774).toInt32 = 774 := by decide
theorem sp_1000 : (Int16.ofInt 1000).toInt32 = 1000 := by decide
theorem sp_3096 : (Int16.ofInt 3096).toInt32 = 3096 := by decide
theorem me_0 {a0 : Nat} : zi_rk 0 [.ref a0] = 3 ∧ zi_fit 0 [.ref a0] = true ∧ zi_en 0 [.ref a0] = [.ref a0] := ⟨rfl, rfl, rfl⟩
theorem me_1 {a0 : Nat} : zi_rk 1 [.ref a0] = 2 ∧ zi_fit 1 [.ref a0] = true ∧ zi_en 1 [.ref a0] = [.ref a0] := ⟨rfl, rfl, rfl⟩
theorem me_2 {a0 : Nat} {x1 : Int32} {x2 : Int32} {x3 : Int32} : zi_rk 2 [.ref a0, .int x1, .int x2, .int x3] = 3 ∧ zi_fit 2 [.ref a0, .int x1, .int x2, .int x3] = true ∧ zi_en 2 [.ref a0, .int x1, .int x2, .int x3] = [.ref a0, .int x1, .int x2, .int x3] := ⟨rfl, rfl, rfl⟩
theorem me_3 {a0 : Nat} {a1 : Nat} : zi_rk 3 [.ref a0, .ref a1] = 1 ∧ zi_fit 3 [.ref a0, .ref a1] = true ∧ zi_en 3 [.ref a0, .ref a1] = [.ref a0, .ref a1] := ⟨rfl, rfl, rfl⟩
theorem me_4 {a0 : Nat} : zi_rk 4 [.ref a0] = 1 ∧ zi_fit 4 [.ref a0] = true ∧ zi_en 4 [.ref a0] = [.ref a0] := ⟨rfl, rfl, rfl⟩
theorem me_5 {a0 : Nat} {x1 : Int32} : zi_rk 5 [.ref a0, .int x1] = 1 ∧ zi_fit 5 [.ref a0, .int x1] = true ∧ zi_en 5 [.ref a0, .int x1] = [.ref a0, .int x1] := ⟨rfl, rfl, rfl⟩
theorem me_6 {a0 : Nat} {x1 : Int32} : zi_rk 6 [.ref a0, .int x1] = 1 ∧ zi_fit 6 [.ref a0, .int x1] = true ∧ zi_en 6 [.ref a0, .int x1] = [.ref a0, .int x1] := ⟨rfl, rfl, rfl⟩
theorem me_7 {a0 : Nat} {x1 : Int32} : zi_rk 7 [.ref a0, .int x1] = 1 ∧ zi_fit 7 [.ref a0, .int x1] = true ∧ zi_en 7 [.ref a0, .int x1] = [.ref a0, .int x1] := ⟨rfl, rfl, rfl⟩
theorem me_8 {a0 : Nat} {x1 : Int32} : zi_rk 8 [.ref a0, .int x1] = 1 ∧ zi_fit 8 [.ref a0, .int x1] = true ∧ zi_en 8 [.ref a0, .int x1] = [.ref a0, .int x1] := ⟨rfl, rfl, rfl⟩
theorem me_9 {a0 : Nat} {x1 : Int32} {x2 : Int32} : zi_rk 9 [.ref a0, .int x1, .int x2] = 1 ∧ zi_fit 9 [.ref a0, .int x1, .int x2] = true ∧ zi_en 9 [.ref a0, .int x1, .int x2] = [.ref a0, .int x1, .int x2] := ⟨rfl, rfl, rfl⟩
theorem me_10 {a0 : Nat} : zi_rk 10 [.ref a0] = 1 ∧ zi_fit 10 [.ref a0] = true ∧ zi_en 10 [.ref a0] = [.ref a0] := ⟨rfl, rfl, rfl⟩
theorem me_11 {a0 : Nat} {x1 : Int32} : zi_rk 11 [.ref a0, .int x1] = 1 ∧ zi_fit 11 [.ref a0, .int x1] = true ∧ zi_en 11 [.ref a0, .int x1] = [.ref a0, .int x1] := ⟨rfl, rfl, rfl⟩
theorem me_12 {a0 : Nat} : zi_rk 12 [.ref a0] = 1 ∧ zi_fit 12 [.ref a0] = true ∧ zi_en 12 [.ref a0] = [.ref a0] := ⟨rfl, rfl, rfl⟩
theorem me_13 {a0 : Nat} {a1 : Nat} : zi_rk 13 [.ref a0, .ref a1] = 7 ∧ zi_fit 13 [.ref a0, .ref a1] = true ∧ zi_en 13 [.ref a0, .ref a1] = [.ref a0, .ref a1, .double 0] := ⟨rfl, rfl, rfl⟩
theorem me_14 {a0 : Nat} {a1 : Nat} : zi_rk 14 [.ref a0, .ref a1] = 6 ∧ zi_fit 14 [.ref a0, .ref a1] = true ∧ zi_en 14 [.ref a0, .ref a1] = [.ref a0, .ref a1] := ⟨rfl, rfl, rfl⟩
theorem me_15 {a0 : Nat} {a1 : Nat} : zi_rk 15 [.ref a0, .ref a1] = 5 ∧ zi_fit 15 [.ref a0, .ref a1] = true ∧ zi_en 15 [.ref a0, .ref a1] = [.ref a0, .ref a1] := ⟨rfl, rfl, rfl⟩
theorem me_16 {a0 : Nat} {a1 : Nat} {x2 : Int32} : zi_rk 16 [.ref a0, .ref a1, .int x2] = 4 ∧ zi_fit 16 [.ref a0, .ref a1, .int x2] = true ∧ zi_en 16 [.ref a0, .ref a1, .int x2] = [.ref a0, .ref a1, .int x2, .double 0] := ⟨rfl, rfl, rfl⟩
theorem me_17 {a0 : Nat} {a1 : Nat} : zi_rk 17 [.ref a0, .ref a1] = 5 ∧ zi_fit 17 [.ref a0, .ref a1] = true ∧ zi_en 17 [.ref a0, .ref a1] = [.ref a0, .ref a1, .double 0] := ⟨rfl, rfl, rfl⟩
theorem me_18 {a0 : Nat} {a1 : Nat} {x2 : Int32} {x3 : Int32} : zi_rk 18 [.ref a0, .ref a1, .int x2, .int x3] = 4 ∧ zi_fit 18 [.ref a0, .ref a1, .int x2, .int x3] = true ∧ zi_en 18 [.ref a0, .ref a1, .int x2, .int x3] = [.ref a0, .ref a1, .int x2, .int x3] := ⟨rfl, rfl, rfl⟩
theorem me_19 {a0 : Nat} {a1 : Nat} : zi_rk 19 [.ref a0, .ref a1] = 4 ∧ zi_fit 19 [.ref a0, .ref a1] = true ∧ zi_en 19 [.ref a0, .ref a1] = [.ref a0, .ref a1] := ⟨rfl, rfl, rfl⟩
theorem me_20 {a0 : Nat} {a1 : Nat} {x2 : Int32} : zi_rk 20 [.ref a0, .ref a1, .int x2] = 2 ∧ zi_fit 20 [.ref a0, .ref a1, .int x2] = true ∧ zi_en 20 [.ref a0, .ref a1, .int x2] = [.ref a0, .ref a1, .int x2] := ⟨rfl, rfl, rfl⟩
theorem me_21 {a0 : Nat} {a1 : Nat} {x2 : Int32} : zi_rk 21 [.ref a0, .ref a1, .int x2] = 1 ∧ zi_fit 21 [.ref a0, .ref a1, .int x2] = true ∧ zi_en 21 [.ref a0, .ref a1, .int x2] = [.ref a0, .ref a1, .int x2] := ⟨rfl, rfl, rfl⟩
theorem me_22 {a0 : Nat} : zi_rk 22 [.ref a0] = 1 ∧ zi_fit 22 [.ref a0] = true ∧ zi_en 22 [.ref a0] = [.ref a0] := ⟨rfl, rfl, rfl⟩
theorem me_23 {a0 : Nat} {x1 : Int32} {x2 : Int32} {x3 : Int32} : zi_rk 23 [.ref a0, .int x1, .int x2, .int x3] = 2 ∧ zi_fit 23 [.ref a0, .int x1, .int x2, .int x3] = true ∧ zi_en 23 [.ref a0, .int x1, .int x2, .int x3] = [.ref a0, .int x1, .int x2, .int x3] := ⟨rfl, rfl, rfl⟩
theorem me_24 {a0 : Nat} {x1 : Int32} {x2 : Int32} {x3 : Int32} : zi_rk 24 [.ref a0, .int x1, .int x2, .int x3] = 2 ∧ zi_fit 24 [.ref a0, .int x1, .int x2, .int x3] = true ∧ zi_en 24 [.ref a0, .int x1, .int x2, .int x3] = [.ref a0, .int x1, .int x2, .int x3] := ⟨rfl, rfl, rfl⟩
theorem me_25 {a0 : Nat} {x1 : Int32} {x2 : Int32} : zi_rk 25 [.ref a0, .int x1, .int x2] = 2 ∧ zi_fit 25 [.ref a0, .int x1, .int x2] = true ∧ zi_en 25 [.ref a0, .int x1, .int x2] = [.ref a0, .int x1, .int x2] := ⟨rfl, rfl, rfl⟩
theorem me_26 {a0 : Nat} {x1 : Int32} {x2 : Int32} {x3 : Int32} : zi_rk 26 [.ref a0, .int x1, .int x2, .int x3] = 2 ∧ zi_fit 26 [.ref a0, .int x1, .int x2, .int x3] = true ∧ zi_en 26 [.ref a0, .int x1, .int x2, .int x3] = [.ref a0, .int x1, .int x2, .int x3] := ⟨rfl, rfl, rfl⟩
theorem me_27 {a0 : Nat} : zi_rk 27 [.ref a0] = 1 ∧ zi_fit 27 [.ref a0] = true ∧ zi_en 27 [.ref a0] = [.ref a0] := ⟨rfl, rfl, rfl⟩
theorem me_28 {a0 : Nat} {x1 : Int32} : zi_rk 28 [.ref a0, .int x1] = 1 ∧ zi_fit 28 [.ref a0, .int x1] = true ∧ zi_en 28 [.ref a0, .int x1] = [.ref a0, .int x1] := ⟨rfl, rfl, rfl⟩
theorem me_29 {a0 : Nat} : zi_rk 29 [.ref a0] = 1 ∧ zi_fit 29 [.ref a0] = true ∧ zi_en 29 [.ref a0] = [.ref a0] := ⟨rfl, rfl, rfl⟩
theorem me_30 {a0 : Nat} : zi_rk 30 [.ref a0] = 3 ∧ zi_fit 30 [.ref a0] = true ∧ zi_en 30 [.ref a0] = [.ref a0, .double 0] := ⟨rfl, rfl, rfl⟩
theorem me_31 {a0 : Nat} : zi_rk 31 [.ref a0] = 2 ∧ zi_fit 31 [.ref a0] = true ∧ zi_en 31 [.ref a0] = [.ref a0] := ⟨rfl, rfl, rfl⟩
theorem me_32 {a0 : Nat} {k1 : Nat} : zi_rk 32 [.ref a0, .retAddr k1] = 2 ∧ zi_fit 32 [.ref a0, .retAddr k1] = true ∧ zi_en 32 [.ref a0, .retAddr k1] = [.ref a0, .retAddr k1, .double 0] := ⟨rfl, rfl, rfl⟩
theorem me_33 {a0 : Nat} {x1 : Int32} : zi_rk 33 [.ref a0, .int x1] = 1 ∧ zi_fit 33 [.ref a0, .int x1] = true ∧ zi_en 33 [.ref a0, .int x1] = [.ref a0, .int x1] := ⟨rfl, rfl, rfl⟩
theorem me_34 {x0 : Int32} : zi_rk 34 [.int x0] = 1 ∧ zi_fit 34 [.int x0] = true ∧ zi_en 34 [.int x0] = [.int x0] := ⟨rfl, rfl, rfl⟩
theorem me_35 {x0 : Int32} : zi_rk 35 [.int x0] = 1 ∧ zi_fit 35 [.int x0] = true ∧ zi_en 35 [.int x0] = [.int x0] := ⟨rfl, rfl, rfl⟩
theorem me_36 {a0 : Nat} : zi_rk 36 [.ref a0] = 3 ∧ zi_fit 36 [.ref a0] = true ∧ zi_en 36 [.ref a0] = [.ref a0] := ⟨rfl, rfl, rfl⟩
theorem me_37 {a0 : Nat} : zi_rk 37 [.ref a0] = 2 ∧ zi_fit 37 [.ref a0] = true ∧ zi_en 37 [.ref a0] = [.ref a0] := ⟨rfl, rfl, rfl⟩
theorem me_38 {a0 : Nat} {a1 : Nat} : zi_rk 38 [.ref a0, .ref a1] = 1 ∧ zi_fit 38 [.ref a0, .ref a1] = true ∧ zi_en 38 [.ref a0, .ref a1] = [.ref a0, .ref a1] := ⟨rfl, rfl, rfl⟩
theorem me_39 {a0 : Nat} : zi_rk 39 [.ref a0] = 1 ∧ zi_fit 39 [.ref a0] = true ∧ zi_en 39 [.ref a0] = [.ref a0] := ⟨rfl, rfl, rfl⟩
theorem me_40 {a0 : Nat} {x1 : Int32} : zi_rk 40 [.ref a0, .int x1] = 1 ∧ zi_fit 40 [.ref a0, .int x1] = true ∧ zi_en 40 [.ref a0, .int x1] = [.ref a0, .int x1, .double 0] := ⟨rfl, rfl, rfl⟩
theorem me_41 {a0 : Nat} {x1 : Int32} : zi_rk 41 [.ref a0, .int x1] = 1 ∧ zi_fit 41 [.ref a0, .int x1] = true ∧ zi_en 41 [.ref a0, .int x1] = [.ref a0, .int x1] := ⟨rfl, rfl, rfl⟩
theorem me_42 {a0 : Nat} {x1 : Int32} : zi_rk 42 [.ref a0, .int x1] = 2 ∧ zi_fit 42 [.ref a0, .int x1] = true ∧ zi_en 42 [.ref a0, .int x1] = [.ref a0, .int x1] := ⟨rfl, rfl, rfl⟩
theorem me_43 {a0 : Nat} {x1 : Int32} : zi_rk 43 [.ref a0, .int x1] = 2 ∧ zi_fit 43 [.ref a0, .int x1] = true ∧ zi_en 43 [.ref a0, .int x1] = [.ref a0, .int x1] := ⟨rfl, rfl, rfl⟩
theorem me_44 {a0 : Nat} {x1 : Int32} : zi_rk 44 [.ref a0, .int x1] = 2 ∧ zi_fit 44 [.ref a0, .int x1] = true ∧ zi_en 44 [.ref a0, .int x1] = [.ref a0, .int x1] := ⟨rfl, rfl, rfl⟩
theorem me_45 {a0 : Nat} {x1 : Int32} : zi_rk 45 [.ref a0, .int x1] = 2 ∧ zi_fit 45 [.ref a0, .int x1] = true ∧ zi_en 45 [.ref a0, .int x1] = [.ref a0, .int x1] := ⟨rfl, rfl, rfl⟩
theorem me_46 {a0 : Nat} {x1 : Int32} : zi_rk 46 [.ref a0, .int x1] = 2 ∧ zi_fit 46 [.ref a0, .int x1] = true ∧ zi_en 46 [.ref a0, .int x1] = [.ref a0, .int x1] := ⟨rfl, rfl, rfl⟩
theorem me_47 {a0 : Nat} {x1 : Int32} {x2 : Int32} : zi_rk 47 [.ref a0, .int x1, .int x2] = 2 ∧ zi_fit 47 [.ref a0, .int x1, .int x2] = true ∧ zi_en 47 [.ref a0, .int x1, .int x2] = [.ref a0, .int x1, .int x2] := ⟨rfl, rfl, rfl⟩
theorem me_48 {a0 : Nat} {x1 : Int32} {x2 : Int32} : zi_rk 48 [.ref a0, .int x1, .int x2] = 2 ∧ zi_fit 48 [.ref a0, .int x1, .int x2] = true ∧ zi_en 48 [.ref a0, .int x1, .int x2] = [.ref a0, .int x1, .int x2] := ⟨rfl, rfl, rfl⟩
theorem me_49 {a0 : Nat} {x1 : Int32} {x2 : Int32} : zi_rk 49 [.ref a0, .int x1, .int x2] = 2 ∧ zi_fit 49 [.ref a0, .int x1, .int x2] = true ∧ zi_en 49 [.ref a0, .int x1, .int x2] = [.ref a0, .int x1, .int x2, .double 0] := ⟨rfl, rfl, rfl⟩
theorem me_50 {a0 : Nat} {x1 : Int32} {x2 : Int32} : zi_rk 50 [.ref a0, .int x1, .int x2] = 3 ∧ zi_fit 50 [.ref a0, .int x1, .int x2] = true ∧ zi_en 50 [.ref a0, .int x1, .int x2] = [.ref a0, .int x1, .int x2] := ⟨rfl, rfl, rfl⟩
theorem me_51 {a0 : Nat} {x1 : Int32} {x2 : Int32} {x3 : Int32} {x4 : Int32} : zi_rk 51 [.ref a0, .int x1, .int x2, .int x3, .int x4] = 2 ∧ zi_fit 51 [.ref a0, .int x1, .int x2, .int x3, .int x4] = true ∧ zi_en 51 [.ref a0, .int x1, .int x2, .int x3, .int x4] = [.ref a0, .int x1, .int x2, .int x3, .int x4, .double 0, .double 0] := ⟨rfl, rfl, rfl⟩
theorem me_52 {a0 : Nat} {x1 : Int32} {x2 : Int32} : zi_rk 52 [.ref a0, .int x1, .int x2] = 2 ∧ zi_fit 52 [.ref a0, .int x1, .int x2] = true ∧ zi_en 52 [.ref a0, .int x1, .int x2] = [.ref a0, .int x1, .int x2, .double 0] := ⟨rfl, rfl, rfl⟩
theorem me_53 {a0 : Nat} {x1 : Int32} {x2 : Int32} {x3 : Int32} : zi_rk 53 [.ref a0, .int x1, .int x2, .int x3] = 2 ∧ zi_fit 53 [.ref a0, .int x1, .int x2, .int x3] = true ∧ zi_en 53 [.ref a0, .int x1, .int x2, .int x3] = [.ref a0, .int x1, .int x2, .int x3] := ⟨rfl, rfl, rfl⟩
theorem me_54 {a0 : Nat} {x1 : Int32} : zi_rk 54 [.ref a0, .int x1] = 2 ∧ zi_fit 54 [.ref a0, .int x1] = true ∧ zi_en 54 [.ref a0, .int x1] = [.ref a0, .int x1, .double 0, .double 0, .double 0] := ⟨rfl, rfl, rfl⟩
theorem me_55 {a0 : Nat} {x1 : Int32} : zi_rk 55 [.ref a0, .int x1] = 2 ∧ zi_fit 55 [.ref a0, .int x1] = true ∧ zi_en 55 [.ref a0, .int x1] = [.ref a0, .int x1] := ⟨rfl, rfl, rfl⟩
theorem me_56 {a0 : Nat} {x1 : Int32} : zi_rk 56 [.ref a0, .int x1] = 1 ∧ zi_fit 56 [.ref a0, .int x1] = true ∧ zi_en 56 [.ref a0, .int x1] = [.ref a0, .int x1, .double 0, .double 0] := ⟨rfl, rfl, rfl⟩
theorem me_57 {a0 : Nat} : zi_rk 57 [.ref a0] = 2 ∧ zi_fit 57 [.ref a0] = true ∧ zi_en 57 [.ref a0] = [.ref a0, .double 0, .double 0] := ⟨rfl, rfl, rfl⟩
theorem me_58 {a0 : Nat} : zi_rk 58 [.ref a0] = 3 ∧ zi_fit 58 [.ref a0] = true ∧ zi_en 58 [.ref a0] = [.ref a0, .double 0, .double 0] := ⟨rfl, rfl, rfl⟩
theorem me_59 {a0 : Nat} : zi_rk 59 [.ref a0] = 3 ∧ zi_fit 59 [.ref a0] = true ∧ zi_en 59 [.ref a0] = [.ref a0, .double 0, .double 0] := ⟨rfl, rfl, rfl⟩
theorem me_60 {a0 : Nat} : zi_rk 60 [.ref a0] = 3 ∧ zi_fit 60 [.ref a0] = true ∧ zi_en 60 [.ref a0] = [.ref a0, .double 0, .double 0] := ⟨rfl, rfl, rfl⟩
theorem me_61 {a0 : Nat} : zi_rk 61 [.ref a0] = 1 ∧ zi_fit 61 [.ref a0] = true ∧ zi_en 61 [.ref a0] = [.ref a0, .double 0, .double 0] := ⟨rfl, rfl, rfl⟩
theorem me_62 {a0 : Nat} : zi_rk 62 [.ref a0] = 1 ∧ zi_fit 62 [.ref a0] = true ∧ zi_en 62 [.ref a0] = [.ref a0, .double 0, .double 0] := ⟨rfl, rfl, rfl⟩
theorem me_63 {a0 : Nat} {x1 : Int32} : zi_rk 63 [.ref a0, .int x1] = 3 ∧ zi_fit 63 [.ref a0, .int x1] = true ∧ zi_en 63 [.ref a0, .int x1] = [.ref a0, .int x1, .double 0, .double 0] := ⟨rfl, rfl, rfl⟩
theorem me_64 {a0 : Nat} : zi_rk 64 [.ref a0] = 3 ∧ zi_fit 64 [.ref a0] = true ∧ zi_en 64 [.ref a0] = [.ref a0, .double 0, .double 0] := ⟨rfl, rfl, rfl⟩
theorem me_65 {a0 : Nat} : zi_rk 65 [.ref a0] = 3 ∧ zi_fit 65 [.ref a0] = true ∧ zi_en 65 [.ref a0] = [.ref a0, .double 0] := ⟨rfl, rfl, rfl⟩
theorem me_66 {a0 : Nat} : zi_rk 66 [.ref a0] = 3 ∧ zi_fit 66 [.ref a0] = true ∧ zi_en 66 [.ref a0] = [.ref a0, .double 0, .double 0] := ⟨rfl, rfl, rfl⟩
theorem me_67 {a0 : Nat} : zi_rk 67 [.ref a0] = 3 ∧ zi_fit 67 [.ref a0] = true ∧ zi_en 67 [.ref a0] = [.ref a0, .double 0, .double 0] := ⟨rfl, rfl, rfl⟩
theorem me_68 {a0 : Nat} : zi_rk 68 [.ref a0] = 5 ∧ zi_fit 68 [.ref a0] = true ∧ zi_en 68 [.ref a0] = [.ref a0, .double 0] := ⟨rfl, rfl, rfl⟩
theorem me_69 {a0 : Nat} {x1 : Int32} : zi_rk 69 [.ref a0, .int x1] = 4 ∧ zi_fit 69 [.ref a0, .int x1] = true ∧ zi_en 69 [.ref a0, .int x1] = [.ref a0, .int x1, .double 0, .double 0] := ⟨rfl, rfl, rfl⟩
theorem me_70 {a0 : Nat} : zi_rk 70 [.ref a0] = 5 ∧ zi_fit 70 [.ref a0] = true ∧ zi_en 70 [.ref a0] = [.ref a0, .double 0] := ⟨rfl, rfl, rfl⟩
theorem me_71 {a0 : Nat} {a1 : Nat} {x2 : Int32} {x3 : Int32} {x4 : Int32} : zi_rk 71 [.ref a0, .ref a1, .int x2, .int x3, .int x4] = 16 ∧ zi_fit 71 [.ref a0, .ref a1, .int x2, .int x3, .int x4] = true ∧ zi_en 71 [.ref a0, .ref a1, .int x2, .int x3, .int x4] = [.ref a0, .ref a1, .int x2, .int x3, .int x4] := ⟨rfl, rfl, rfl⟩
theorem me_72 {a0 : Nat} {x1 : Int32} {x2 : Int32} {y3 : Int64} : zi_rk 72 [.ref a0, .int x1, .int x2, .long y3] = 6 + (8 - x1.toNatClampNeg) ∧ zi_fit 72 [.ref a0, .int x1, .int x2, .long y3] = true ∧ zi_en 72 [.ref a0, .int x1, .int x2, .long y3] = [.ref a0, .int x1, .int x2, .long y3, .double 1, .double 0, .double 0, .double 0, .double 0, .double 0] := ⟨rfl, rfl, rfl⟩
theorem me_73 {a0 : Nat} {a1 : Nat} {x2 : Int32} {y3 : Int64} : zi_rk 73 [.ref a0, .ref a1, .int x2, .long y3] = 3 ∧ zi_fit 73 [.ref a0, .ref a1, .int x2, .long y3] = true ∧ zi_en 73 [.ref a0, .ref a1, .int x2, .long y3] = [.ref a0, .ref a1, .int x2, .long y3, .double 1] := ⟨rfl, rfl, rfl⟩
theorem me_74 {a0 : Nat} : zi_rk 74 [.ref a0] = 4 ∧ zi_fit 74 [.ref a0] = true ∧ zi_en 74 [.ref a0] = [.ref a0] := ⟨rfl, rfl, rfl⟩
theorem me_75 {a0 : Nat} {a1 : Nat} : zi_rk 75 [.ref a0, .ref a1] = 2 ∧ zi_fit 75 [.ref a0, .ref a1] = true ∧ zi_en 75 [.ref a0, .ref a1] = [.ref a0, .ref a1, .double 0] := ⟨rfl, rfl, rfl⟩
theorem me_76 {a0 : Nat} {a1 : Nat} : zi_rk 76 [.ref a0, .ref a1] = 7 ∧ zi_fit 76 [.ref a0, .ref a1] = true ∧ zi_en 76 [.ref a0, .ref a1] = [.ref a0, .ref a1, .double 0] := ⟨rfl, rfl, rfl⟩
theorem me_77 {a0 : Nat} {x1 : Int32} {x2 : Int32} {x3 : Int32} : zi_rk 77 [.ref a0, .int x1, .int x2, .int x3] = 4 ∧ zi_fit 77 [.ref a0, .int x1, .int x2, .int x3] = true ∧ zi_en 77 [.ref a0, .int x1, .int x2, .int x3] = [.ref a0, .int x1, .int x2, .int x3, .double 0] := ⟨rfl, rfl, rfl⟩
theorem me_78 {a0 : Nat} {x1 : Int32} {x2 : Int32} : zi_rk 78 [.ref a0, .int x1, .int x2] = 6 ∧ zi_fit 78 [.ref a0, .int x1, .int x2] = true ∧ zi_en 78 [.ref a0, .int x1, .int x2] = [.ref a0, .int x1, .int x2, .double 0, .double 0] := ⟨rfl, rfl, rfl⟩
theorem me_79 {a0 : Nat} {x1 : Int32} {x2 : Int32} : zi_rk 79 [.ref a0, .int x1, .int x2] = 6 ∧ zi_fit 79 [.ref a0, .int x1, .int x2] = true ∧ zi_en 79 [.ref a0, .int x1, .int x2] = [.ref a0, .int x1, .int x2, .double 0] := ⟨rfl, rfl, rfl⟩
theorem me_80 {a0 : Nat} {x1 : Int32} : zi_rk 80 [.ref a0, .int x1] = 5 ∧ zi_fit 80 [.ref a0, .int x1] = true ∧ zi_en 80 [.ref a0, .int x1] = [.ref a0, .int x1, .double 0, .double 0, .double 0] := ⟨rfl, rfl, rfl⟩
theorem me_81 {a0 : Nat} {x1 : Int32} : zi_rk 81 [.ref a0, .int x1] = 3 ∧ zi_fit 81 [.ref a0, .int x1] = true ∧ zi_en 81 [.ref a0, .int x1] = [.ref a0, .int x1, .double 0] := ⟨rfl, rfl, rfl⟩
theorem me_82 {a0 : Nat} {a1 : Nat} : zi_rk 82 [.ref a0, .ref a1] = 2 ∧ zi_fit 82 [.ref a0, .ref a1] = true ∧ zi_en 82 [.ref a0, .ref a1] = [.ref a0, .ref a1] := ⟨rfl, rfl, rfl⟩
theorem me_83 {a0 : Nat} {a1 : Nat} : zi_rk 83 [.ref a0, .ref a1] = 3 ∧ zi_fit 83 [.ref a0, .ref a1] = true ∧ zi_en 83 [.ref a0, .ref a1] = [.ref a0, .ref a1, .double 0] := ⟨rfl, rfl, rfl⟩
theorem me_84 {a0 : Nat} {a1 : Nat} {x2 : Int32} : zi_rk 84 [.ref a0, .ref a1, .int x2] = 3 ∧ zi_fit 84 [.ref a0, .ref a1, .int x2] = true ∧ zi_en 84 [.ref a0, .ref a1, .int x2] = [.ref a0, .ref a1, .int x2, .double 0] := ⟨rfl, rfl, rfl⟩
theorem me_85 {a0 : Nat} {a1 : Nat} : zi_rk 85 [.ref a0, .ref a1] = 4 ∧ zi_fit 85 [.ref a0, .ref a1] = true ∧ zi_en 85 [.ref a0, .ref a1] = [.ref a0, .ref a1, .double 0] := ⟨rfl, rfl, rfl⟩
theorem me_86 {a0 : Nat} {a1 : Nat} : zi_rk 86 [.ref a0, .ref a1] = 4 ∧ zi_fit 86 [.ref a0, .ref a1] = true ∧ zi_en 86 [.ref a0, .ref a1] = [.ref a0, .ref a1, .double 0] := ⟨rfl, rfl, rfl⟩
theorem me_87 {a0 : Nat} {a1 : Nat} {x2 : Int32} : zi_rk 87 [.ref a0, .ref a1, .int x2] = 3 ∧ zi_fit 87 [.ref a0, .ref a1, .int x2] = true ∧ zi_en 87 [.ref a0, .ref a1, .int x2] = [.ref a0, .ref a1, .int x2] := ⟨rfl, rfl, rfl⟩
theorem me_88 {a0 : Nat} {a1 : Nat} {x2 : Int32} {x3 : Int32} : zi_rk 88 [.ref a0, .ref a1, .int x2, .int x3] = 2 ∧ zi_fit 88 [.ref a0, .ref a1, .int x2, .int x3] = true ∧ zi_en 88 [.ref a0, .ref a1, .int x2, .int x3] = [.ref a0, .ref a1, .int x2, .int x3, .double 0] := ⟨rfl, rfl, rfl⟩
theorem me_89 {a0 : Nat} {a1 : Nat} : zi_rk 89 [.ref a0, .ref a1] = 4 ∧ zi_fit 89 [.ref a0, .ref a1] = true ∧ zi_en 89 [.ref a0, .ref a1] = [.ref a0, .ref a1] := ⟨rfl, rfl, rfl⟩
theorem me_90 {a0 : Nat} {a1 : Nat} : zi_rk 90 [.ref a0, .ref a1] = 4 ∧ zi_fit 90 [.ref a0, .ref a1] = true ∧ zi_en 90 [.ref a0, .ref a1] = [.ref a0, .ref a1, .double 0] := ⟨rfl, rfl, rfl⟩
theorem me_91 {a0 : Nat} {a1 : Nat} : zi_rk 91 [.ref a0, .ref a1] = 3 ∧ zi_fit 91 [.ref a0, .ref a1] = true ∧ zi_en 91 [.ref a0, .ref a1] = [.ref a0, .ref a1, .double 0] := ⟨rfl, rfl, rfl⟩
theorem me_92 {a0 : Nat} {a1 : Nat} : zi_rk 92 [.ref a0, .ref a1] = 4 ∧ zi_fit 92 [.ref a0, .ref a1] = true ∧ zi_en 92 [.ref a0, .ref a1] = [.ref a0, .ref a1, .double 0, .double 0] := ⟨rfl, rfl, rfl⟩
theorem me_93 {a0 : Nat} {a1 : Nat} : zi_rk 93 [.ref a0, .ref a1] = 3 ∧ zi_fit 93 [.ref a0, .ref a1] = true ∧ zi_en 93 [.ref a0, .ref a1] = [.ref a0, .ref a1, .double 0, .double 0] := ⟨rfl, rfl, rfl⟩
theorem me_94 {a0 : Nat} {x1 : Int32} : zi_rk 94 [.ref a0, .int x1] = 4 ∧ zi_fit 94 [.ref a0, .int x1] = true ∧ zi_en 94 [.ref a0, .int x1] = [.ref a0, .int x1, .double 0] := ⟨rfl, rfl, rfl⟩
theorem me_95 {a0 : Nat} {a1 : Nat} : zi_rk 95 [.ref a0, .ref a1] = 3 ∧ zi_fit 95 [.ref a0, .ref a1] = true ∧ zi_en 95 [.ref a0, .ref a1] = [.ref a0, .ref a1] := ⟨rfl, rfl, rfl⟩
theorem me_96 {a0 : Nat} : zi_rk 96 [.ref a0] = 5 ∧ zi_fit 96 [.ref a0] = true ∧ zi_en 96 [.ref a0] = [.ref a0, .double 0, .double 0] := ⟨rfl, rfl, rfl⟩
theorem me_97 {a0 : Nat} {x1 : Int32} : zi_rk 97 [.ref a0, .int x1] = 2 ∧ zi_fit 97 [.ref a0, .int x1] = true ∧ zi_en 97 [.ref a0, .int x1] = [.ref a0, .int x1, .double 0] := ⟨rfl, rfl, rfl⟩
theorem me_98 {a0 : Nat} : zi_rk 98 [.ref a0] = 3 ∧ zi_fit 98 [.ref a0] = true ∧ zi_en 98 [.ref a0] = [.ref a0, .double 0, .double 0] := ⟨rfl, rfl, rfl⟩
theorem me_99 {a0 : Nat} : zi_rk 99 [.ref a0] = 3 ∧ zi_fit 99 [.ref a0] = true ∧ zi_en 99 [.ref a0] = [.ref a0, .double 0, .double 0] := ⟨rfl, rfl, rfl⟩
theorem me_100 {a0 : Nat} : zi_rk 100 [.ref a0] = 1 ∧ zi_fit 100 [.ref a0] = true ∧ zi_en 100 [.ref a0] = [.ref a0, .double 0, .double 0] := ⟨rfl, rfl, rfl⟩
theorem me_101 {a0 : Nat} : zi_rk 101 [.ref a0] = 2 ∧ zi_fit 101 [.ref a0] = true ∧ zi_en 101 [.ref a0] = [.ref a0, .double 0] := ⟨rfl, rfl, rfl⟩
theorem me_102 {a0 : Nat} : zi_rk 102 [.ref a0] = 2 ∧ zi_fit 102 [.ref a0] = true ∧ zi_en 102 [.ref a0] = [.ref a0, .double 0] := ⟨rfl, rfl, rfl⟩
theorem me_103 {a0 : Nat} {x1 : Int32} {x2 : Int32} : zi_rk 103 [.ref a0, .int x1, .int x2] = 2 ∧ zi_fit 103 [.ref a0, .int x1, .int x2] = true ∧ zi_en 103 [.ref a0, .int x1, .int x2] = [.ref a0, .int x1, .int x2] := ⟨rfl, rfl, rfl⟩
theorem me_104 {a0 : Nat} : zi_rk 104 [.ref a0] = 6 ∧ zi_fit 104 [.ref a0] = true ∧ zi_en 104 [.ref a0] = [.ref a0] := ⟨rfl, rfl, rfl⟩
theorem me_105 {a0 : Nat} {x1 : Int32} : zi_rk 105 [.ref a0, .int x1] = 2 ∧ zi_fit 105 [.ref a0, .int x1] = true ∧ zi_en 105 [.ref a0, .int x1] = [.ref a0, .int x1] := ⟨rfl, rfl, rfl⟩
theorem me_106 {a0 : Nat} {x1 : Int32} : zi_rk 106 [.ref a0, .int x1] = 1 ∧ zi_fit 106 [.ref a0, .int x1] = true ∧ zi_en 106 [.ref a0, .int x1] = [.ref a0, .int x1, .double 0] := ⟨rfl, rfl, rfl⟩
theorem me_107 {a0 : Nat} : zi_rk 107 [.ref a0] = 8 ∧ zi_fit 107 [.ref a0] = true ∧ zi_en 107 [.ref a0] = [.ref a0] := ⟨rfl, rfl, rfl⟩
theorem me_108 {a0 : Nat} : zi_rk 108 [.ref a0] = 1 ∧ zi_fit 108 [.ref a0] = true ∧ zi_en 108 [.ref a0] = [.ref a0] := ⟨rfl, rfl, rfl⟩
theorem me_109 {a0 : Nat} {x1 : Int32} : zi_rk 109 [.ref a0, .int x1] = 6 ∧ zi_fit 109 [.ref a0, .int x1] = true ∧ zi_en 109 [.ref a0, .int x1] = [.ref a0, .int x1] := ⟨rfl, rfl, rfl⟩
theorem me_110 {a0 : Nat} {x1 : Int32} {x2 : Int32} : zi_rk 110 [.ref a0, .int x1, .int x2] = 3 ∧ zi_fit 110 [.ref a0, .int x1, .int x2] = true ∧ zi_en 110 [.ref a0, .int x1, .int x2] = [.ref a0, .int x1, .int x2, .double 0] := ⟨rfl, rfl, rfl⟩
theorem me_111 {a0 : Nat} {x1 : Int32} {x2 : Int32} {x3 : Int32} : zi_rk 111 [.ref a0, .int x1, .int x2, .int x3] = 3 ∧ zi_fit 111 [.ref a0, .int x1, .int x2, .int x3] = true ∧ zi_en 111 [.ref a0, .int x1, .int x2, .int x3] = [.ref a0, .int x1, .int x2, .int x3, .double 0] := ⟨rfl, rfl, rfl⟩
theorem me_112 {a0 : Nat} {x1 : Int32} {x2 : Int32} : zi_rk 112 [.ref a0, .int x1, .int x2] = 2 ∧ zi_fit 112 [.ref a0, .int x1, .int x2] = true ∧ zi_en 112 [.ref a0, .int x1, .int x2] = [.ref a0, .int x1, .int x2, .double 0] := ⟨rfl, rfl, rfl⟩
theorem me_113 {a0 : Nat} {x1 : Int32} : zi_rk 113 [.ref a0, .int x1] = 2 ∧ zi_fit 113 [.ref a0, .int x1] = true ∧ zi_en 113 [.ref a0, .int x1] = [.ref a0, .int x1] := ⟨rfl, rfl, rfl⟩
theorem me_114 {a0 : Nat} {x1 : Int32} {x2 : Int32} {x3 : Int32} : zi_rk 114 [.ref a0, .int x1, .int x2, .int x3] = 5 ∧ zi_fit 114 [.ref a0, .int x1, .int x2, .int x3] = true ∧ zi_en 114 [.ref a0, .int x1, .int x2, .int x3] = [.ref a0, .int x1, .int x2, .int x3, .double 0] := ⟨rfl, rfl, rfl⟩
theorem me_115 {a0 : Nat} {x1 : Int32} : zi_rk 115 [.ref a0, .int x1] = 6 ∧ zi_fit 115 [.ref a0, .int x1] = true ∧ zi_en 115 [.ref a0, .int x1] = [.ref a0, .int x1] := ⟨rfl, rfl, rfl⟩
theorem me_116 {a0 : Nat} {x1 : Int32} {x2 : Int32} : zi_rk 116 [.ref a0, .int x1, .int x2] = 7 ∧ zi_fit 116 [.ref a0, .int x1, .int x2] = true ∧ zi_en 116 [.ref a0, .int x1, .int x2] = [.ref a0, .int x1, .int x2] := ⟨rfl, rfl, rfl⟩
theorem me_117 {a0 : Nat} {x1 : Int32} : zi_rk 117 [.ref a0, .int x1] = 2 ∧ zi_fit 117 [.ref a0, .int x1] = true ∧ zi_en 117 [.ref a0, .int x1] = [.ref a0, .int x1, .double 0] := ⟨rfl, rfl, rfl⟩
theorem me_118 {a0 : Nat} {x1 : Int32} : zi_rk 118 [.ref a0, .int x1] = 2 ∧ zi_fit 118 [.ref a0, .int x1] = true ∧ zi_en 118 [.ref a0, .int x1] = [.ref a0, .int x1, .double 0] := ⟨rfl, rfl, rfl⟩
theorem me_119 {a0 : Nat} {x1 : Int32} {x2 : Int32} : zi_rk 119 [.ref a0, .int x1, .int x2] = 17 ∧ zi_fit 119 [.ref a0, .int x1, .int x2] = true ∧ zi_en 119 [.ref a0, .int x1, .int x2] = [.ref a0, .int x1, .int x2] := ⟨rfl, rfl, rfl⟩
theorem me_120 {a0 : Nat} {x1 : Int32} {x2 : Int32} {x3 : Int32} : zi_rk 120 [.ref a0, .int x1, .int x2, .int x3] = 17 ∧ zi_fit 120 [.ref a0, .int x1, .int x2, .int x3] = true ∧ zi_en 120 [.ref a0, .int x1, .int x2, .int x3] = [.ref a0, .int x1, .int x2, .int x3] := ⟨rfl, rfl, rfl⟩
theorem me_121 {a0 : Nat} {x1 : Int32} {x2 : Int32} {x3 : Int32} : zi_rk 121 [.ref a0, .int x1, .int x2, .int x3] = 17 ∧ zi_fit 121 [.ref a0, .int x1, .int x2, .int x3] = true ∧ zi_en 121 [.ref a0, .int x1, .int x2, .int x3] = [.ref a0, .int x1, .int x2, .int x3] := ⟨rfl, rfl, rfl⟩
theorem me_122 {a0 : Nat} {x1 : Int32} {x2 : Int32} {x3 : Int32} {x4 : Int32} : zi_rk 122 [.ref a0, .int x1, .int x2, .int x3, .int x4] = 17 ∧ zi_fit 122 [.ref a0, .int x1, .int x2, .int x3, .int x4] = true ∧ zi_en 122 [.ref a0, .int x1, .int x2, .int x3, .int x4] = [.ref a0, .int x1, .int x2, .int x3, .int x4, .double 0, .double 0] := ⟨rfl, rfl, rfl⟩
theorem me_123 {a0 : Nat} : zi_rk 123 [.ref a0] = 6 ∧ zi_fit 123 [.ref a0] = true ∧ zi_en 123 [.ref a0] = [.ref a0, .double 0] := ⟨rfl, rfl, rfl⟩
theorem me_124 {a0 : Nat} {x1 : Int32} : zi_rk 124 [.ref a0, .int x1] = 4 ∧ zi_fit 124 [.ref a0, .int x1] = true ∧ zi_en 124 [.ref a0, .int x1] = [.ref a0, .int x1] := ⟨rfl, rfl, rfl⟩
theorem me_125 {a0 : Nat} {x1 : Int32} : zi_rk 125 [.ref a0, .int x1] = 3 ∧ zi_fit 125 [.ref a0, .int x1] = true ∧ zi_en 125 [.ref a0, .int x1] = [.ref a0, .int x1, .double 0] := ⟨rfl, rfl, rfl⟩
theorem me_126 {a0 : Nat} {x1 : Int32} : zi_rk 126 [.ref a0, .int x1] = 3 ∧ zi_fit 126 [.ref a0, .int x1] = true ∧ zi_en 126 [.ref a0, .int x1] = [.ref a0, .int x1] := ⟨rfl, rfl, rfl⟩
theorem me_127 {a0 : Nat} {x1 : Int32} {x2 : Int32} {x3 : Int32} : zi_rk 127 [.ref a0, .int x1, .int x2, .int x3] = 3 ∧ zi_fit 127 [.ref a0, .int x1, .int x2, .int x3] = true ∧ zi_en 127 [.ref a0, .int x1, .int x2, .int x3] = [.ref a0, .int x1, .int x2, .int x3] := ⟨rfl, rfl, rfl⟩
theorem me_128 {a0 : Nat} {x1 : Int32} {x2 : Int32} {x3 : Int32} : zi_rk 128 [.ref a0, .int x1, .int x2, .int x3] = 3 ∧ zi_fit 128 [.ref a0, .int x1, .int x2, .int x3] = true ∧ zi_en 128 [.ref a0, .int x1, .int x2, .int x3] = [.ref a0, .int x1, .int x2, .int x3, .double 0] := ⟨rfl, rfl, rfl⟩
theorem me_129 {a0 : Nat} {x1 : Int32} {x2 : Int32} {x3 : Int32} {x4 : Int32} : zi_rk 129 [.ref a0, .int x1, .int x2, .int x3, .int x4] = 8 ∧ zi_fit 129 [.ref a0, .int x1, .int x2, .int x3, .int x4] = true ∧ zi_en 129 [.ref a0, .int x1, .int x2, .int x3, .int x4] = [.ref a0, .int x1, .int x2, .int x3, .int x4, .double 0, .double 0] := ⟨rfl, rfl, rfl⟩
theorem me_130 {a0 : Nat} : zi_rk 130 [.ref a0] = 1 ∧ zi_fit 130 [.ref a0] = true ∧ zi_en 130 [.ref a0] = [.ref a0] := ⟨rfl, rfl, rfl⟩
theorem me_131 {a0 : Nat} {x1 : Int32} : zi_rk 131 [.ref a0, .int x1] = 4 ∧ zi_fit 131 [.ref a0, .int x1] = true ∧ zi_en 131 [.ref a0, .int x1] = [.ref a0, .int x1] := ⟨rfl, rfl, rfl⟩
theorem me_132 {a0 : Nat} {x1 : Int32} : zi_rk 132 [.ref a0, .int x1] = 7 ∧ zi_fit 132 [.ref a0, .int x1] = true ∧ zi_en 132 [.ref a0, .int x1] = [.ref a0, .int x1] := ⟨rfl, rfl, rfl⟩
theorem me_133 {x0 : Int32} : zi_rk 133 [.int x0] = 1 ∧ zi_fit 133 [.int x0] = true ∧ zi_en 133 [.int x0] = [.int x0] := ⟨rfl, rfl, rfl⟩
theorem me_134 {x0 : Int32} : zi_rk 134 [.int x0] = 1 ∧ zi_fit 134 [.int x0] = true ∧ zi_en 134 [.int x0] = [.int x0] := ⟨rfl, rfl, rfl⟩
theorem me_135 {x0 : Int32} : zi_rk 135 [.int x0] = 1 ∧ zi_fit 135 [.int x0] = true ∧ zi_en 135 [.int x0] = [.int x0] := ⟨rfl, rfl, rfl⟩
theorem me_136 {x0 : Int32} : zi_rk 136 [.int x0] = 1 ∧ zi_fit 136 [.int x0] = true ∧ zi_en 136 [.int x0] = [.int x0] := ⟨rfl, rfl, rfl⟩
theorem me_137 {x0 : Int32} : zi_rk 137 [.int x0] = 1 ∧ zi_fit 137 [.int x0] = true ∧ zi_en 137 [.int x0] = [.int x0] := ⟨rfl, rfl, rfl⟩
theorem me_138 {x0 : Int32} : zi_rk 138 [.int x0] = 1 ∧ zi_fit 138 [.int x0] = true ∧ zi_en 138 [.int x0] = [.int x0] := ⟨rfl, rfl, rfl⟩
theorem me_139 {x0 : Int32} : zi_rk 139 [.int x0] = 1 ∧ zi_fit 139 [.int x0] = true ∧ zi_en 139 [.int x0] = [.int x0] := ⟨rfl, rfl, rfl⟩
theorem me_140 {y0 : Int64} {y1 : Int64} : zi_rk 140 [.long y0, .long y1] = 1 ∧ zi_fit 140 [.long y0, .long y1] = true ∧ zi_en 140 [.long y0, .long y1] = [.long y0, .double 1, .long y1, .double 1, .double 0, .double 0, .double 0, .double 0, .double 0, .double 0, .double 0] := ⟨rfl, rfl, rfl⟩
theorem me_141 {a0 : Nat} : zi_rk 141 [.ref a0] = 3 ∧ zi_fit 141 [.ref a0] = true ∧ zi_en 141 [.ref a0] = [.ref a0, .double 0] := ⟨rfl, rfl, rfl⟩
theorem me_142 {y0 : Int64} {y1 : Int64} {y2 : Int64} : zi_rk 142 [.long y0, .long y1, .long y2] = 1 ∧ zi_fit 142 [.long y0, .long y1, .long y2] = true ∧ zi_en 142 [.long y0, .long y1, .long y2] = [.long y0, .double 1, .long y1, .double 1, .long y2, .double 1] := ⟨rfl, rfl, rfl⟩
theorem me_143 {x0 : Int32} : zi_rk 143 [.int x0] = 1 ∧ zi_fit 143 [.int x0] = true ∧ zi_en 143 [.int x0] = [.int x0] := ⟨rfl, rfl, rfl⟩
theorem me_144 {a0 : Nat} {x1 : Int32} {x2 : Int32} : zi_rk 144 [.ref a0, .int x1, .int x2] = 1 ∧ zi_fit 144 [.ref a0, .int x1, .int x2] = true ∧ zi_en 144 [.ref a0, .int x1, .int x2] = [.ref a0, .int x1, .int x2] := ⟨rfl, rfl, rfl⟩
theorem me_145 {a0 : Nat} {x1 : Int32} {x2 : Int32} {x3 : Int32} : zi_rk 145 [.ref a0, .int x1, .int x2, .int x3] = 1 ∧ zi_fit 145 [.ref a0, .int x1, .int x2, .int x3] = true ∧ zi_en 145 [.ref a0, .int x1, .int x2, .int x3] = [.ref a0, .int x1, .int x2, .int x3] := ⟨rfl, rfl, rfl⟩
theorem me_146 {a0 : Nat} {x1 : Int32} {x2 : Int32} : zi_rk 146 [.ref a0, .int x1, .int x2] = 1 ∧ zi_fit 146 [.ref a0, .int x1, .int x2] = true ∧ zi_en 146 [.ref a0, .int x1, .int x2] = [.ref a0, .int x1, .int x2] := ⟨rfl, rfl, rfl⟩
theorem me_147 {a0 : Nat} {x1 : Int32} {x2 : Int32} {x3 : Int32} : zi_rk 147 [.ref a0, .int x1, .int x2, .int x3] = 1 ∧ zi_fit 147 [.ref a0, .int x1, .int x2, .int x3] = true ∧ zi_en 147 [.ref a0, .int x1, .int x2, .int x3] = [.ref a0, .int x1, .int x2, .int x3] := ⟨rfl, rfl, rfl⟩
theorem me_148 {a0 : Nat} {x1 : Int32} : zi_rk 148 [.ref a0, .int x1] = 2 ∧ zi_fit 148 [.ref a0, .int x1] = true ∧ zi_en 148 [.ref a0, .int x1] = [.ref a0, .int x1, .double 0] := ⟨rfl, rfl, rfl⟩
theorem me_149 {a0 : Nat} {x1 : Int32} : zi_rk 149 [.ref a0, .int x1] = 2 ∧ zi_fit 149 [.ref a0, .int x1] = true ∧ zi_en 149 [.ref a0, .int x1] = [.ref a0, .int x1, .double 0, .double 0, .double 0] := ⟨rfl, rfl, rfl⟩
theorem me_150 {a0 : Nat} {x1 : Int32} {x2 : Int32} : zi_rk 150 [.ref a0, .int x1, .int x2] = 2 ∧ zi_fit 150 [.ref a0, .int x1, .int x2] = true ∧ zi_en 150 [.ref a0, .int x1, .int x2] = [.ref a0, .int x1, .int x2, .double 0, .double 0] := ⟨rfl, rfl, rfl⟩
theorem me_151 {a0 : Nat} {x1 : Int32} : zi_rk 151 [.ref a0, .int x1] = 3 ∧ zi_fit 151 [.ref a0, .int x1] = true ∧ zi_en 151 [.ref a0, .int x1] = [.ref a0, .int x1, .double 0, .double 0] := ⟨rfl, rfl, rfl⟩
theorem me_152 {a0 : Nat} {x1 : Int32} {x2 : Int32} : zi_rk 152 [.ref a0, .int x1, .int x2] = 2 ∧ zi_fit 152 [.ref a0, .int x1, .int x2] = true ∧ zi_en 152 [.ref a0, .int x1, .int x2] = [.ref a0, .int x1, .int x2, .double 0] := ⟨rfl, rfl, rfl⟩
theorem me_153 {a0 : Nat} {x1 : Int32} {x2 : Int32} : zi_rk 153 [.ref a0, .int x1, .int x2] = 1 ∧ zi_fit 153 [.ref a0, .int x1, .int x2] = true ∧ zi_en 153 [.ref a0, .int x1, .int x2] = [.ref a0, .int x1, .int x2] := ⟨rfl, rfl, rfl⟩
theorem me_154 {a0 : Nat} {x1 : Int32} {x2 : Int32} {x3 : Int32} : zi_rk 154 [.ref a0, .int x1, .int x2, .int x3] = 2 ∧ zi_fit 154 [.ref a0, .int x1, .int x2, .int x3] = true ∧ zi_en 154 [.ref a0, .int x1, .int x2, .int x3] = [.ref a0, .int x1, .int x2, .int x3, .double 0] := ⟨rfl, rfl, rfl⟩
theorem me_155 {a0 : Nat} {x1 : Int32} {x2 : Int32} {x3 : Int32} : zi_rk 155 [.ref a0, .int x1, .int x2, .int x3] = 2 ∧ zi_fit 155 [.ref a0, .int x1, .int x2, .int x3] = true ∧ zi_en 155 [.ref a0, .int x1, .int x2, .int x3] = [.ref a0, .int x1, .int x2, .int x3, .double 0] := ⟨rfl, rfl, rfl⟩
theorem me_156 {a0 : Nat} {x1 : Int32} {x2 : Int32} {x3 : Int32} {x4 : Int32} {x5 : Int32} : zi_rk 156 [.ref a0, .int x1, .int x2, .int x3, .int x4, .int x5] = 2 ∧ zi_fit 156 [.ref a0, .int x1, .int x2, .int x3, .int x4, .int x5] = true ∧ zi_en 156 [.ref a0, .int x1, .int x2, .int x3, .int x4, .int x5] = [.ref a0, .int x1, .int x2, .int x3, .int x4, .int x5, .double 0] := ⟨rfl, rfl, rfl⟩
theorem me_157 {a0 : Nat} {x1 : Int32} : zi_rk 157 [.ref a0, .int x1] = 3 ∧ zi_fit 157 [.ref a0, .int x1] = true ∧ zi_en 157 [.ref a0, .int x1] = [.ref a0, .int x1, .double 0, .double 0, .double 0] := ⟨rfl, rfl, rfl⟩
theorem me_158 {a0 : Nat} {x1 : Int32} {x2 : Int32} : zi_rk 158 [.ref a0, .int x1, .int x2] = 2 ∧ zi_fit 158 [.ref a0, .int x1, .int x2] = true ∧ zi_en 158 [.ref a0, .int x1, .int x2] = [.ref a0, .int x1, .int x2] := ⟨rfl, rfl, rfl⟩
theorem me_159 {a0 : Nat} {x1 : Int32} {x2 : Int32} : zi_rk 159 [.ref a0, .int x1, .int x2] = 3 ∧ zi_fit 159 [.ref a0, .int x1, .int x2] = true ∧ zi_en 159 [.ref a0, .int x1, .int x2] = [.ref a0, .int x1, .int x2] := ⟨rfl, rfl, rfl⟩
theorem me_160 {a0 : Nat} {x1 : Int32} : zi_rk 160 [.ref a0, .int x1] = 2 ∧ zi_fit 160 [.ref a0, .int x1] = true ∧ zi_en 160 [.ref a0, .int x1] = [.ref a0, .int x1] := ⟨rfl, rfl, rfl⟩
theorem me_161 {a0 : Nat} {x1 : Int32} {x2 : Int32} : zi_rk 161 [.ref a0, .int x1, .int x2] = 3 ∧ zi_fit 161 [.ref a0, .int x1, .int x2] = true ∧ zi_en 161 [.ref a0, .int x1, .int x2] = [.ref a0, .int x1, .int x2, .double 0] := ⟨rfl, rfl, rfl⟩
theorem me_162 {a0 : Nat} {x1 : Int32} {x2 : Int32} : zi_rk 162 [.ref a0, .int x1, .int x2] = 3 ∧ zi_fit 162 [.ref a0, .int x1, .int x2] = true ∧ zi_en 162 [.ref a0, .int x1, .int x2] = [.ref a0, .int x1, .int x2] := ⟨rfl, rfl, rfl⟩
theorem me_163 {a0 : Nat} {x1 : Int32} : zi_rk 163 [.ref a0, .int x1] = 4 ∧ zi_fit 163 [.ref a0, .int x1] = true ∧ zi_en 163 [.ref a0, .int x1] = [.ref a0, .int x1, .double 0, .double 0] := ⟨rfl, rfl, rfl⟩
theorem me_164 {a0 : Nat} {x1 : Int32} {x2 : Int32} : zi_rk 164 [.ref a0, .int x1, .int x2] = 2 ∧ zi_fit 164 [.ref a0, .int x1, .int x2] = true ∧ zi_en 164 [.ref a0, .int x1, .int x2] = [.ref a0, .int x1, .int x2, .double 0, .double 0] := ⟨rfl, rfl, rfl⟩
theorem me_165 {a0 : Nat} {x1 : Int32} : zi_rk 165 [.ref a0, .int x1] = 4 ∧ zi_fit 165 [.ref a0, .int x1] = true ∧ zi_en 165 [.ref a0, .int x1] = [.ref a0, .int x1, .double 0, .double 0] := ⟨rfl, rfl, rfl⟩
theorem me_166 {a0 : Nat} {x1 : Int32} : zi_rk 166 [.ref a0, .int x1] = 4 ∧ zi_fit 166 [.ref a0, .int x1] = true ∧ zi_en 166 [.ref a0, .int x1] = [.ref a0, .int x1, .double 0, .double 0, .double 0] := ⟨rfl, rfl, rfl⟩
theorem me_167 {a0 : Nat} {x1 : Int32} : zi_rk 167 [.ref a0, .int x1] = 3 ∧ zi_fit 167 [.ref a0, .int x1] = true ∧ zi_en 167 [.ref a0, .int x1] = [.ref a0, .int x1, .double 0] := ⟨rfl, rfl, rfl⟩
theorem me_168 {a0 : Nat} {x1 : Int32} : zi_rk 168 [.ref a0, .int x1] = 4 ∧ zi_fit 168 [.ref a0, .int x1] = true ∧ zi_en 168 [.ref a0, .int x1] = [.ref a0, .int x1, .double 0, .double 0] := ⟨rfl, rfl, rfl⟩
theorem me_169 {a0 : Nat} {x1 : Int32} {x2 : Int32} : zi_rk 169 [.ref a0, .int x1, .int x2] = 2 ∧ zi_fit 169 [.ref a0, .int x1, .int x2] = true ∧ zi_en 169 [.ref a0, .int x1, .int x2] = [.ref a0, .int x1, .int x2, .double 0] := ⟨rfl, rfl, rfl⟩
theorem me_170 {a0 : Nat} {x1 : Int32} : zi_rk 170 [.ref a0, .int x1] = 3 ∧ zi_fit 170 [.ref a0, .int x1] = true ∧ zi_en 170 [.ref a0, .int x1] = [.ref a0, .int x1, .double 0, .double 0] := ⟨rfl, rfl, rfl⟩
theorem me_171 {a0 : Nat} {x1 : Int32} : zi_rk 171 [.ref a0, .int x1] = 4 ∧ zi_fit 171 [.ref a0, .int x1] = true ∧ zi_en 171 [.ref a0, .int x1] = [.ref a0, .int x1, .double 0, .double 0, .double 0, .double 0] := ⟨rfl, rfl, rfl⟩
theorem me_172 {a0 : Nat} {x1 : Int32} : zi_rk 172 [.ref a0, .int x1] = 5 ∧ zi_fit 172 [.ref a0, .int x1] = true ∧ zi_en 172 [.ref a0, .int x1] = [.ref a0, .int x1] := ⟨rfl, rfl, rfl⟩
theorem me_173 {x0 : Int32} : zi_rk 173 [.int x0] = 1 ∧ zi_fit 173 [.int x0] = true ∧ zi_en 173 [.int x0] = [.int x0] := ⟨rfl, rfl, rfl⟩
theorem me_174 {a0 : Nat} {x1 : Int32} : zi_rk 174 [.ref a0, .int x1] = 6 ∧ zi_fit 174 [.ref a0, .int x1] = true ∧ zi_en 174 [.ref a0, .int x1] = [.ref a0, .int x1, .double 0, .double 0] := ⟨rfl, rfl, rfl⟩
theorem me_175 {a0 : Nat} {x1 : Int32} : zi_rk 175 [.ref a0, .int x1] = 3 ∧ zi_fit 175 [.ref a0, .int x1] = true ∧ zi_en 175 [.ref a0, .int x1] = [.ref a0, .int x1, .double 0, .double 0] := ⟨rfl, rfl, rfl⟩
theorem me_176 {a0 : Nat} {x1 : Int32} : zi_rk 176 [.ref a0, .int x1] = 4 ∧ zi_fit 176 [.ref a0, .int x1] = true ∧ zi_en 176 [.ref a0, .int x1] = [.ref a0, .int x1] := ⟨rfl, rfl, rfl⟩
theorem me_177 {a0 : Nat} {x1 : Int32} {x2 : Int32} {x3 : Int32} : zi_rk 177 [.ref a0, .int x1, .int x2, .int x3] = 4 ∧ zi_fit 177 [.ref a0, .int x1, .int x2, .int x3] = true ∧ zi_en 177 [.ref a0, .int x1, .int x2, .int x3] = [.ref a0, .int x1, .int x2, .int x3, .double 0] := ⟨rfl, rfl, rfl⟩
theorem me_178 {a0 : Nat} {x1 : Int32} {x2 : Int32} : zi_rk 178 [.ref a0, .int x1, .int x2] = 7 ∧ zi_fit 178 [.ref a0, .int x1, .int x2] = true ∧ zi_en 178 [.ref a0, .int x1, .int x2] = [.ref a0, .int x1, .int x2, .double 0] := ⟨rfl, rfl, rfl⟩
theorem me_179 {a0 : Nat} {x1 : Int32} {x2 : Int32} : zi_rk 179 [.ref a0, .int x1, .int x2] = 7 ∧ zi_fit 179 [.ref a0, .int x1, .int x2] = true ∧ zi_en 179 [.ref a0, .int x1, .int x2] = [.ref a0, .int x1, .int x2] := ⟨rfl, rfl, rfl⟩
theorem me_180 {a0 : Nat} {x1 : Int32} : zi_rk 180 [.ref a0, .int x1] = 2 ∧ zi_fit 180 [.ref a0, .int x1] = true ∧ zi_en 180 [.ref a0, .int x1] = [.ref a0, .int x1] := ⟨rfl, rfl, rfl⟩
theorem me_181 {a0 : Nat} {x1 : Int32} : zi_rk 181 [.ref a0, .int x1] = 2 ∧ zi_fit 181 [.ref a0, .int x1] = true ∧ zi_en 181 [.ref a0, .int x1] = [.ref a0, .int x1, .double 0] := ⟨rfl, rfl, rfl⟩
theorem me_182 {a0 : Nat} {x1 : Int32} {x2 : Int32} : zi_rk 182 [.ref a0, .int x1, .int x2] = 1 ∧ zi_fit 182 [.ref a0, .int x1, .int x2] = true ∧ zi_en 182 [.ref a0, .int x1, .int x2] = [.ref a0, .int x1, .int x2] := ⟨rfl, rfl, rfl⟩
theorem me_183 {a0 : Nat} {x1 : Int32} : zi_rk 183 [.ref a0, .int x1] = 1 ∧ zi_fit 183 [.ref a0, .int x1] = true ∧ zi_en 183 [.ref a0, .int x1] = [.ref a0, .int x1] := ⟨rfl, rfl, rfl⟩
theorem me_184 {a0 : Nat} {x1 : Int32} {x2 : Int32} {x3 : Int32} {x4 : Int32} {x5 : Int32} : zi_rk 184 [.ref a0, .int x1, .int x2, .int x3, .int x4, .int x5] = 2 ∧ zi_fit 184 [.ref a0, .int x1, .int x2, .int x3, .int x4, .int x5] = true ∧ zi_en 184 [.ref a0, .int x1, .int x2, .int x3, .int x4, .int x5] = [.ref a0, .int x1, .int x2, .int x3, .int x4, .int x5] := ⟨rfl, rfl, rfl⟩
theorem me_185 {a0 : Nat} : zi_rk 185 [.ref a0] = 3 ∧ zi_fit 185 [.ref a0] = true ∧ zi_en 185 [.ref a0] = [.ref a0] := ⟨rfl, rfl, rfl⟩
theorem me_186 {a0 : Nat} : zi_rk 186 [.ref a0] = 2 ∧ zi_fit 186 [.ref a0] = true ∧ zi_en 186 [.ref a0] = [.ref a0, .double 0] := ⟨rfl, rfl, rfl⟩
theorem me_187 {a0 : Nat} {x1 : Int32} {x2 : Int32} : zi_rk 187 [.ref a0, .int x1, .int x2] = 3 ∧ zi_fit 187 [.ref a0, .int x1, .int x2] = true ∧ zi_en 187 [.ref a0, .int x1, .int x2] = [.ref a0, .int x1, .int x2, .double 0] := ⟨rfl, rfl, rfl⟩
theorem me_188 {a0 : Nat} {x1 : Int32} : zi_rk 188 [.ref a0, .int x1] = 1 ∧ zi_fit 188 [.ref a0, .int x1] = true ∧ zi_en 188 [.ref a0, .int x1] = [.ref a0, .int x1, .double 0, .double 0] := ⟨rfl, rfl, rfl⟩
theorem me_189 {a0 : Nat} : zi_rk 189 [.ref a0] = 4 ∧ zi_fit 189 [.ref a0] = true ∧ zi_en 189 [.ref a0] = [.ref a0, .double 0, .double 0] := ⟨rfl, rfl, rfl⟩
theorem me_190 {a0 : Nat} {x1 : Int32} : zi_rk 190 [.ref a0, .int x1] = 4 ∧ zi_fit 190 [.ref a0, .int x1] = true ∧ zi_en 190 [.ref a0, .int x1] = [.ref a0, .int x1] := ⟨rfl, rfl, rfl⟩
theorem me_191 {a0 : Nat} : zi_rk 191 [.ref a0] = 5 ∧ zi_fit 191 [.ref a0] = true ∧ zi_en 191 [.ref a0] = [.ref a0, .double 0] := ⟨rfl, rfl, rfl⟩
theorem me_192 {a0 : Nat} : zi_rk 192 [.ref a0] = 8 ∧ zi_fit 192 [.ref a0] = true ∧ zi_en 192 [.ref a0] = [.ref a0, .double 0, .double 0] := ⟨rfl, rfl, rfl⟩
theorem me_193 {a0 : Nat} : zi_rk 193 [.ref a0] = 1 ∧ zi_fit 193 [.ref a0] = true ∧ zi_en 193 [.ref a0] = [.ref a0] := ⟨rfl, rfl, rfl⟩
theorem me_194 {a0 : Nat} {x1 : Int32} : zi_rk 194 [.ref a0, .int x1] = 2 ∧ zi_fit 194 [.ref a0, .int x1] = true ∧ zi_en 194 [.ref a0, .int x1] = [.ref a0, .int x1] := ⟨rfl, rfl, rfl⟩
theorem me_195 {x0 : Int32} : zi_rk 195 [.int x0] = 2 ∧ zi_fit 195 [.int x0] = true ∧ zi_en 195 [.int x0] = [.int x0] := ⟨rfl, rfl, rfl⟩
theorem me_196 {x0 : Int32} : zi_rk 196 [.int x0] = 2 ∧ zi_fit 196 [.int x0] = true ∧ zi_en 196 [.int x0] = [.int x0] := ⟨rfl, rfl, rfl⟩
theorem me_197 {a0 : Nat} : zi_rk 197 [.ref a0] = 5 ∧ zi_fit 197 [.ref a0] = true ∧ zi_en 197 [.ref a0] = [.ref a0, .double 0, .double 0] := ⟨rfl, rfl, rfl⟩
theorem me_198 {a0 : Nat} : zi_rk 198 [.ref a0] = 3 ∧ zi_fit 198 [.ref a0] = true ∧ zi_en 198 [.ref a0] = [.ref a0, .double 0, .double 0] := ⟨rfl, rfl, rfl⟩
theorem me_199 {a0 : Nat} : zi_rk 199 [.ref a0] = 2 ∧ zi_fit 199 [.ref a0] = true ∧ zi_en 199 [.ref a0] = [.ref a0, .double 0, .double 0] := ⟨rfl, rfl, rfl⟩
theorem me_200 {a0 : Nat} {x1 : Int32} : zi_rk 200 [.ref a0, .int x1] = 2 ∧ zi_fit 200 [.ref a0, .int x1] = true ∧ zi_en 200 [.ref a0, .int x1] = [.ref a0, .int x1, .double 0, .double 0, .double 0] := ⟨rfl, rfl, rfl⟩
theorem me_201 {a0 : Nat} {x1 : Int32} : zi_rk 201 [.ref a0, .int x1] = 6 ∧ zi_fit 201 [.ref a0, .int x1] = true ∧ zi_en 201 [.ref a0, .int x1] = [.ref a0, .int x1] := ⟨rfl, rfl, rfl⟩
theorem me_202 {a0 : Nat} {x1 : Int32} {x2 : Int32} : zi_rk 202 [.ref a0, .int x1, .int x2] = 3 ∧ zi_fit 202 [.ref a0, .int x1, .int x2] = true ∧ zi_en 202 [.ref a0, .int x1, .int x2] = [.ref a0, .int x1, .int x2] := ⟨rfl, rfl, rfl⟩
theorem me_203 {a0 : Nat} {x1 : Int32} {x2 : Int32} {x3 : Int32} : zi_rk 203 [.ref a0, .int x1, .int x2, .int x3] = 3 ∧ zi_fit 203 [.ref a0, .int x1, .int x2, .int x3] = true ∧ zi_en 203 [.ref a0, .int x1, .int x2, .int x3] = [.ref a0, .int x1, .int x2, .int x3] := ⟨rfl, rfl, rfl⟩
theorem me_204 {a0 : Nat} {x1 : Int32} {x2 : Int32} : zi_rk 204 [.ref a0, .int x1, .int x2] = 3 ∧ zi_fit 204 [.ref a0, .int x1, .int x2] = true ∧ zi_en 204 [.ref a0, .int x1, .int x2] = [.ref a0, .int x1, .int x2] := ⟨rfl, rfl, rfl⟩
theorem me_205 {a0 : Nat} {x1 : Int32} : zi_rk 205 [.ref a0, .int x1] = 4 ∧ zi_fit 205 [.ref a0, .int x1] = true ∧ zi_en 205 [.ref a0, .int x1] = [.ref a0, .int x1] := ⟨rfl, rfl, rfl⟩
theorem me_206 {a0 : Nat} {x1 : Int32} {x2 : Int32} {x3 : Int32} : zi_rk 206 [.ref a0, .int x1, .int x2, .int x3] = 5 ∧ zi_fit 206 [.ref a0, .int x1, .int x2, .int x3] = true ∧ zi_en 206 [.ref a0, .int x1, .int x2, .int x3] = [.ref a0, .int x1, .int x2, .int x3, .double 0] := ⟨rfl, rfl, rfl⟩
theorem me_207 {a0 : Nat} {x1 : Int32} : zi_rk 207 [.ref a0, .int x1] = 7 ∧ zi_fit 207 [.ref a0, .int x1] = true ∧ zi_en 207 [.ref a0, .int x1] = [.ref a0, .int x1] := ⟨rfl, rfl, rfl⟩
theorem me_208 {a0 : Nat} {x1 : Int32} {x2 : Int32} : zi_rk 208 [.ref a0, .int x1, .int x2] = 8 ∧ zi_fit 208 [.ref a0, .int x1, .int x2] = true ∧ zi_en 208 [.ref a0, .int x1, .int x2] = [.ref a0, .int x1, .int x2] := ⟨rfl, rfl, rfl⟩
theorem me_209 {a0 : Nat} {x1 : Int32} : zi_rk 209 [.ref a0, .int x1] = 3 ∧ zi_fit 209 [.ref a0, .int x1] = true ∧ zi_en 209 [.ref a0, .int x1] = [.ref a0, .int x1] := ⟨rfl, rfl, rfl⟩
theorem me_210 {a0 : Nat} {x1 : Int32} : zi_rk 210 [.ref a0, .int x1] = 2 ∧ zi_fit 210 [.ref a0, .int x1] = true ∧ zi_en 210 [.ref a0, .int x1] = [.ref a0, .int x1, .double 0] := ⟨rfl, rfl, rfl⟩
theorem me_211 {a0 : Nat} {x1 : Int32} : zi_rk 211 [.ref a0, .int x1] = 1 ∧ zi_fit 211 [.ref a0, .int x1] = true ∧ zi_en 211 [.ref a0, .int x1] = [.ref a0, .int x1, .double 0] := ⟨rfl, rfl, rfl⟩
theorem me_212 {a0 : Nat} {x1 : Int32} : zi_rk 212 [.ref a0, .int x1] = 1 ∧ zi_fit 212 [.ref a0, .int x1] = true ∧ zi_en 212 [.ref a0, .int x1] = [.ref a0, .int x1, .double 0] := ⟨rfl, rfl, rfl⟩
theorem me_213 {a0 : Nat} {x1 : Int32} : zi_rk 213 [.ref a0, .int x1] = 2 ∧ zi_fit 213 [.ref a0, .int x1] = true ∧ zi_en 213 [.ref a0, .int x1] = [.ref a0, .int x1, .double 0, .double 0, .double 0, .double 0, .double 0, .double 0] := ⟨rfl, rfl, rfl⟩
theorem me_214 {x0 : Int32} : zi_rk 214 [.int x0] = 1 ∧ zi_fit 214 [.int x0] = true ∧ zi_en 214 [.int x0] = [.int x0] := ⟨rfl, rfl, rfl⟩
theorem me_215 {a0 : Nat} {x1 : Int32} {x2 : Int32} : zi_rk 215 [.ref a0, .int x1, .int x2] = 6 ∧ zi_fit 215 [.ref a0, .int x1, .int x2] = true ∧ zi_en 215 [.ref a0, .int x1, .int x2] = [.ref a0, .int x1, .int x2] := ⟨rfl, rfl, rfl⟩
theorem me_216 {a0 : Nat} {x1 : Int32} : zi_rk 216 [.ref a0, .int x1] = 1 ∧ zi_fit 216 [.ref a0, .int x1] = true ∧ zi_en 216 [.ref a0, .int x1] = [.ref a0, .int x1, .double 0] := ⟨rfl, rfl, rfl⟩
theorem me_217 {a0 : Nat} {x1 : Int32} : zi_rk 217 [.ref a0, .int x1] = 7 ∧ zi_fit 217 [.ref a0, .int x1] = true ∧ zi_en 217 [.ref a0, .int x1] = [.ref a0, .int x1, .double 0, .double 0, .double 0] := ⟨rfl, rfl, rfl⟩
theorem me_218 {a0 : Nat} {x1 : Int32} {x2 : Int32} : zi_rk 218 [.ref a0, .int x1, .int x2] = 8 ∧ zi_fit 218 [.ref a0, .int x1, .int x2] = true ∧ zi_en 218 [.ref a0, .int x1, .int x2] = [.ref a0, .int x1, .int x2] := ⟨rfl, rfl, rfl⟩
theorem me_219 {x0 : Int32} {x1 : Int32} {x2 : Int32} : zi_rk 219 [.int x0, .int x1, .int x2] = 3 ∧ zi_fit 219 [.int x0, .int x1, .int x2] = true ∧ zi_en 219 [.int x0, .int x1, .int x2] = [.int x0, .int x1, .int x2] := ⟨rfl, rfl, rfl⟩
theorem me_220 {a0 : Nat} {x1 : Int32} {x2 : Int32} {x3 : Int32} : zi_rk 220 [.ref a0, .int x1, .int x2, .int x3] = 8 ∧ zi_fit 220 [.ref a0, .int x1, .int x2, .int x3] = true ∧ zi_en 220 [.ref a0, .int x1, .int x2, .int x3] = [.ref a0, .int x1, .int x2, .int x3] := ⟨rfl, rfl, rfl⟩
theorem me_221 {a0 : Nat} {x1 : Int32} {x2 : Int32} {x3 : Int32} : zi_rk 221 [.ref a0, .int x1, .int x2, .int x3] = 8 ∧ zi_fit 221 [.ref a0, .int x1, .int x2, .int x3] = true ∧ zi_en 221 [.ref a0, .int x1, .int x2, .int x3] = [.ref a0, .int x1, .int x2, .int x3] := ⟨rfl, rfl, rfl⟩
theorem me_222 {y0 : Int64} {y1 : Int64} : zi_rk 222 [.long y0, .long y1] = 1 ∧ zi_fit 222 [.long y0, .long y1] = true ∧ zi_en 222 [.long y0, .long y1] = [.long y0, .double 1, .long y1, .double 1, .double 0, .double 0, .double 0, .double 0, .double 0, .double 0] := ⟨rfl, rfl, rfl⟩
theorem me_223 {a0 : Nat} {x1 : Int32} {x2 : Int32} {x3 : Int32} {x4 : Int32} : zi_rk 223 [.ref a0, .int x1, .int x2, .int x3, .int x4] = 8 ∧ zi_fit 223 [.ref a0, .int x1, .int x2, .int x3, .int x4] = true ∧ zi_en 223 [.ref a0, .int x1, .int x2, .int x3, .int x4] = [.ref a0, .int x1, .int x2, .int x3, .int x4, .double 0, .double 0] := ⟨rfl, rfl, rfl⟩
theorem me_224 {a0 : Nat} : zi_rk 224 [.ref a0] = 2 ∧ zi_fit 224 [.ref a0] = true ∧ zi_en 224 [.ref a0] = [.ref a0, .double 0, .double 0, .double 0] := ⟨rfl, rfl, rfl⟩
theorem me_225 {a0 : Nat} : zi_rk 225 [.ref a0] = 2 ∧ zi_fit 225 [.ref a0] = true ∧ zi_en 225 [.ref a0] = [.ref a0, .double 0, .double 0] := ⟨rfl, rfl, rfl⟩
theorem me_226 {a0 : Nat} {x1 : Int32} : zi_rk 226 [.ref a0, .int x1] = 2 ∧ zi_fit 226 [.ref a0, .int x1] = true ∧ zi_en 226 [.ref a0, .int x1] = [.ref a0, .int x1, .double 0, .double 0, .double 0] := ⟨rfl, rfl, rfl⟩
theorem me_227 {a0 : Nat} : zi_rk 227 [.ref a0] = 3 ∧ zi_fit 227 [.ref a0] = true ∧ zi_en 227 [.ref a0] = [.ref a0, .double 0, .double 0, .double 0] := ⟨rfl, rfl, rfl⟩
theorem me_228 {a0 : Nat} {x1 : Int32} : zi_rk 228 [.ref a0, .int x1] = 3 ∧ zi_fit 228 [.ref a0, .int x1] = true ∧ zi_en 228 [.ref a0, .int x1] = [.ref a0, .int x1, .double 0] := ⟨rfl, rfl, rfl⟩
theorem me_229 {a0 : Nat} : zi_rk 229 [.ref a0] = 4 ∧ zi_fit 229 [.ref a0] = true ∧ zi_en 229 [.ref a0] = [.ref a0, .double 0, .double 0] := ⟨rfl, rfl, rfl⟩
theorem me_230 {a0 : Nat} : zi_rk 230 [.ref a0] = 5 ∧ zi_fit 230 [.ref a0] = true ∧ zi_en 230 [.ref a0] = [.ref a0] := ⟨rfl, rfl, rfl⟩
theorem me_231 {a0 : Nat} {x1 : Int32} : zi_rk 231 [.ref a0, .int x1] = 2 ∧ zi_fit 231 [.ref a0, .int x1] = true ∧ zi_en 231 [.ref a0, .int x1] = [.ref a0, .int x1, .double 0, .double 0] := ⟨rfl, rfl, rfl⟩
theorem me_232 {a0 : Nat} {x1 : Int32} : zi_rk 232 [.ref a0, .int x1] = 2 ∧ zi_fit 232 [.ref a0, .int x1] = true ∧ zi_en 232 [.ref a0, .int x1] = [.ref a0, .int x1, .double 0, .double 0] := ⟨rfl, rfl, rfl⟩
theorem me_233 {a0 : Nat} {x1 : Int32} : zi_rk 233 [.ref a0, .int x1] = 2 ∧ zi_fit 233 [.ref a0, .int x1] = true ∧ zi_en 233 [.ref a0, .int x1] = [.ref a0, .int x1, .double 0] := ⟨rfl, rfl, rfl⟩
theorem me_234 {x0 : Int32} {x1 : Int32} : zi_rk 234 [.int x0, .int x1] = 2 ∧ zi_fit 234 [.int x0, .int x1] = true ∧ zi_en 234 [.int x0, .int x1] = [.int x0, .int x1] := ⟨rfl, rfl, rfl⟩
theorem me_235 {a0 : Nat} {x1 : Int32} {x2 : Int32} {x3 : Int32} : zi_rk 235 [.ref a0, .int x1, .int x2, .int x3] = 3 ∧ zi_fit 235 [.ref a0, .int x1, .int x2, .int x3] = true ∧ zi_en 235 [.ref a0, .int x1, .int x2, .int x3] = [.ref a0, .int x1, .int x2, .int x3, .double 0] := ⟨rfl, rfl, rfl⟩
theorem me_236 {a0 : Nat} {x1 : Int32} {x2 : Int32} {x3 : Int32} : zi_rk 236 [.ref a0, .int x1, .int x2, .int x3] = 3 ∧ zi_fit 236 [.ref a0, .int x1, .int x2, .int x3] = true ∧ zi_en 236 [.ref a0, .int x1, .int x2, .int x3] = [.ref a0, .int x1, .int x2, .int x3] := ⟨rfl, rfl, rfl⟩
theorem me_237 {a0 : Nat} {x1 : Int32} {x2 : Int32} {x3 : Int32} {x4 : Int32} : zi_rk 237 [.ref a0, .int x1, .int x2, .int x3, .int x4] = 8 ∧ zi_fit 237 [.ref a0, .int x1, .int x2, .int x3, .int x4] = true ∧ zi_en 237 [.ref a0, .int x1, .int x2, .int x3, .int x4] = [.ref a0, .int x1, .int x2, .int x3, .int x4, .double 0, .double 0, .double 0, .double 0, .double 0, .double 0] := ⟨rfl, rfl, rfl⟩
theorem me_238 {a0 : Nat} : zi_rk 238 [.ref a0] = 1 ∧ zi_fit 238 [.ref a0] = true ∧ zi_en 238 [.ref a0] = [.ref a0] := ⟨rfl, rfl, rfl⟩
theorem me_239 {a0 : Nat} {x1 : Int32} : zi_rk 239 [.ref a0, .int x1] = 2 ∧ zi_fit 239 [.ref a0, .int x1] = true ∧ zi_en 239 [.ref a0, .int x1] = [.ref a0, .int x1, .double 0, .double 0] := ⟨rfl, rfl, rfl⟩
theorem me_240 {a0 : Nat} {x1 : Int32} : zi_rk 240 [.ref a0, .int x1] = 3 ∧ zi_fit 240 [.ref a0, .int x1] = true ∧ zi_en 240 [.ref a0, .int x1] = [.ref a0, .int x1] := ⟨rfl, rfl, rfl⟩
theorem me_241 {a0 : Nat} {x1 : Int32} : zi_rk 241 [.ref a0, .int x1] = 1 ∧ zi_fit 241 [.ref a0, .int x1] = true ∧ zi_en 241 [.ref a0, .int x1] = [.ref a0, .int x1, .double 0, .double 0] := ⟨rfl, rfl, rfl⟩
theorem me_242 {x0 : Int32} : zi_rk 242 [.int x0] = 1 ∧ zi_fit 242 [.int x0] = true ∧ zi_en 242 [.int x0] = [.int x0] := ⟨rfl, rfl, rfl⟩
theorem zi_feA {M : Nat} {mi : zi_MI} (h : zi_M[M]? = some mi) (pc : Nat) : zi_fe M pc = mi.2.2.2.2.2.2.2.2.2.2.2.2.lookup pc := by
  unfold zi_fe
  rw [h]
theorem zo_ni {h : zi_Hp} {a b j : Nat} {v : Int32} (g : a < zh_n h) : a < zh_n (zh_wi h b j v) := g
theorem zo_ki {h : zi_Hp} {a b j c : Nat} {v : Int32} (g : (zh_k h a).1 = c) : (zh_k (zh_wi h b j v) a).1 = c := g
theorem zo_nl {h : zi_Hp} {a b j : Nat} {v : Int64} (g : a < zh_n h) : a < zh_n (zh_wl h b j v) := g
theorem zo_kl {h : zi_Hp} {a b j c : Nat} {v : Int64} (g : (zh_k h a).1 = c) : (zh_k (zh_wl h b j v) a).1 = c := g
theorem zo_nb {h : zi_Hp} {a b j : Nat} {v : Bool} (g : a < zh_n h) : a < zh_n (zh_wb h b j v) := g
theorem zo_kb {h : zi_Hp} {a b j c : Nat} {v : Bool} (g : (zh_k h a).1 = c) : (zh_k (zh_wb h b j v) a).1 = c := g
theorem zo_nr {h : zi_Hp} {a b j : Nat} {v : Value} (g : a < zh_n h) : a < zh_n (zh_wr h b j v) := g
theorem zo_kr {h : zi_Hp} {a b j c : Nat} {v : Value} (g : (zh_k h a).1 = c) : (zh_k (zh_wr h b j v) a).1 = c := g
theorem zi_lkA {a b : List (Nat × zi_RI)} {c pc : Nat} (ha : a.all (fun x => Nat.blt x.1 c) = true) (hp : c ≤ pc) : (a ++ b).lookup pc = b.lookup pc := by
  induction a with
  | nil => rfl
  | cons x t ih =>
    obtain ⟨k, r⟩ := x
    rw [List.all_cons, Bool.and_eq_true] at ha
    have h1 : k < c := Nat.blt_eq.mp ha.1
    have h2 : (pc == k) = false := beq_eq_false_iff_ne.mpr (by omega)
    rw [List.cons_append, List.lookup_cons, h2]
    exact ih ha.2
