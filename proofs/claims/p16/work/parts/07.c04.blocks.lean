set_option maxRecDepth 20000 in
theorem zq155 : zi_M[155]? = some zi_m155 := rfl
theorem zl155_0 {pc : Nat} (_ : 0 ≤ pc) : zi_fe 155 pc = zu155_0.lookup pc := zi_feA zq155 pc
theorem f155_0 : zi_fe 155 0 = some ((.aload_n 0), 1, 0, 0, 0, 0, 0) := (zl155_0 (Nat.le_of_ble_eq_true rfl)).trans rfl
theorem f155_1 : zi_fe 155 1 = some ((.getfield 7), 3, 8, 0, 3, 1065, 0) := (zl155_0 (Nat.le_of_ble_eq_true rfl)).trans rfl
theorem f155_4 : zi_fe 155 4 = some ((.sipush 312), 3, 0, 0, 0, 0, 0) := (zl155_0 (Nat.le_of_ble_eq_true rfl)).trans rfl
theorem f155_7 : zi_fe 155 7 = some (.iaload, 1, 0, 0, 0, 0, 0) := (zl155_0 (Nat.le_of_ble_eq_true rfl)).trans rfl
theorem f155_8 : zi_fe 155 8 = some ((.istore 4), 2, 0, 0, 0, 0, 0) := (zl155_0 (Nat.le_of_ble_eq_true rfl)).trans rfl
theorem f155_10 : zi_fe 155 10 = some ((.aload_n 0), 1, 0, 0, 0, 0, 0) := (zl155_0 (Nat.le_of_ble_eq_true rfl)).trans rfl
theorem f155_11 : zi_fe 155 11 = some ((.getfield 7), 3, 8, 0, 3, 1065, 0) := (zl155_0 (Nat.le_of_ble_eq_true rfl)).trans rfl
theorem f155_14 : zi_fe 155 14 = some ((.sipush 312), 3, 0, 0, 0, 0, 0) := (zl155_0 (Nat.le_of_ble_eq_true rfl)).trans rfl
theorem f155_17 : zi_fe 155 17 = some (.dup2, 1, 0, 0, 0, 0, 0) := (zl155_0 (Nat.le_of_ble_eq_true rfl)).trans rfl
theorem f155_18 : zi_fe 155 18 = some (.iaload, 1, 0, 0, 0, 0, 0) := (zl155_0 (Nat.le_of_ble_eq_true rfl)).trans rfl
theorem f155_19 : zi_fe 155 19 = some ((.iconst 1), 1, 0, 0, 0, 0, 0) := (zl155_0 (Nat.le_of_ble_eq_true rfl)).trans rfl
theorem f155_20 : zi_fe 155 20 = some (.iadd, 1, 0, 0, 0, 0, 0) := (zl155_0 (Nat.le_of_ble_eq_true rfl)).trans rfl
theorem zl155_1 {pc : Nat} (h : 21 ≤ pc) : zi_fe 155 pc = zu155_1.lookup pc := (zl155_0 (Nat.le_trans (Nat.le_of_ble_eq_true rfl) h)).trans (zi_lkA (a := zi_i155_0) (c := 21) rfl h)
theorem f155_21 : zi_fe 155 21 = some (.iastore, 1, 0, 0, 0, 0, 0) := (zl155_1 (Nat.le_of_ble_eq_true rfl)).trans rfl
theorem f155_22 : zi_fe 155 22 = some ((.aload_n 0), 1, 0, 0, 0, 0, 0) := (zl155_1 (Nat.le_of_ble_eq_true rfl)).trans rfl
theorem f155_23 : zi_fe 155 23 = some ((.iload 4), 2, 0, 0, 0, 0, 0) := (zl155_1 (Nat.le_of_ble_eq_true rfl)).trans rfl
theorem f155_25 : zi_fe 155 25 = some ((.iconst 0), 1, 0, 0, 0, 0, 0) := (zl155_1 (Nat.le_of_ble_eq_true rfl)).trans rfl
theorem f155_26 : zi_fe 155 26 = some ((.iload_n 1), 1, 0, 0, 0, 0, 0) := (zl155_1 (Nat.le_of_ble_eq_true rfl)).trans rfl
theorem f155_27 : zi_fe 155 27 = some ((.invokevirtual 79), 3, 145, 0, 8, 1061, 4) := (zl155_1 (Nat.le_of_ble_eq_true rfl)).trans rfl
theorem f155_30 : zi_fe 155 30 = some ((.aload_n 0), 1, 0, 0, 0, 0, 0) := (zl155_1 (Nat.le_of_ble_eq_true rfl)).trans rfl
theorem f155_31 : zi_fe 155 31 = some ((.iload 4), 2, 0, 0, 0, 0, 0) := (zl155_1 (Nat.le_of_ble_eq_true rfl)).trans rfl
theorem f155_33 : zi_fe 155 33 = some ((.iconst 2), 1, 0, 0, 0, 0, 0) := (zl155_1 (Nat.le_of_ble_eq_true rfl)).trans rfl
theorem f155_34 : zi_fe 155 34 = some ((.iload_n 2), 1, 0, 0, 0, 0, 0) := (zl155_1 (Nat.le_of_ble_eq_true rfl)).trans rfl
theorem f155_35 : zi_fe 155 35 = some ((.invokevirtual 79), 3, 145, 0, 8, 1061, 4) := (zl155_1 (Nat.le_of_ble_eq_true rfl)).trans rfl
theorem f155_38 : zi_fe 155 38 = some ((.aload_n 0), 1, 0, 0, 0, 0, 0) := (zl155_1 (Nat.le_of_ble_eq_true rfl)).trans rfl
theorem zl155_2 {pc : Nat} (h : 39 ≤ pc) : zi_fe 155 pc = zu155_2.lookup pc := (zl155_1 (Nat.le_trans (Nat.le_of_ble_eq_true rfl) h)).trans (zi_lkA (a := zi_i155_1) (c := 39) rfl h)
theorem f155_39 : zi_fe 155 39 = some ((.iload 4), 2, 0, 0, 0, 0, 0) := (zl155_2 (Nat.le_of_ble_eq_true rfl)).trans rfl
theorem f155_41 : zi_fe 155 41 = some ((.iconst 3), 1, 0, 0, 0, 0, 0) := (zl155_2 (Nat.le_of_ble_eq_true rfl)).trans rfl
theorem f155_42 : zi_fe 155 42 = some ((.iload_n 3), 1, 0, 0, 0, 0, 0) := (zl155_2 (Nat.le_of_ble_eq_true rfl)).trans rfl
theorem f155_43 : zi_fe 155 43 = some ((.invokevirtual 79), 3, 145, 0, 8, 1061, 4) := (zl155_2 (Nat.le_of_ble_eq_true rfl)).trans rfl
theorem f155_46 : zi_fe 155 46 = some ((.aload_n 0), 1, 0, 0, 0, 0, 0) := (zl155_2 (Nat.le_of_ble_eq_true rfl)).trans rfl
theorem f155_47 : zi_fe 155 47 = some ((.iload 4), 2, 0, 0, 0, 0, 0) := (zl155_2 (Nat.le_of_ble_eq_true rfl)).trans rfl
theorem f155_49 : zi_fe 155 49 = some ((.iconst 4), 1, 0, 0, 0, 0, 0) := (zl155_2 (Nat.le_of_ble_eq_true rfl)).trans rfl
theorem f155_50 : zi_fe 155 50 = some ((.iconst 0), 1, 0, 0, 0, 0, 0) := (zl155_2 (Nat.le_of_ble_eq_true rfl)).trans rfl
theorem f155_51 : zi_fe 155 51 = some ((.invokevirtual 79), 3, 145, 0, 8, 1061, 4) := (zl155_2 (Nat.le_of_ble_eq_true rfl)).trans rfl
theorem f155_54 : zi_fe 155 54 = some ((.iload 4), 2, 0, 0, 0, 0, 0) := (zl155_2 (Nat.le_of_ble_eq_true rfl)).trans rfl
theorem f155_56 : zi_fe 155 56 = some (.ireturn, 1, 0, 0, 0, 0, 0) := (zl155_2 (Nat.le_of_ble_eq_true rfl)).trans rfl
theorem b155_0 {h : zi_Hp} {a0 : Nat} {x1 : Int32} {x2 : Int32} {x3 : Int32} {u4 : Value} (g0 : a0 < zh_n h) (g1 : (zh_k h a0).1 = 8) (g2 : zh_r h a0 0 = .ref (zq (zh_r h a0 0))) (g3 : (zq (zh_r h a0 0)) < zh_n h) (g4 : 312 < (zh_k h (zq (zh_r h a0 0))).2) (g5 : (zh_k h (zq (zh_r h a0 0))).1 = 100) : zv 2 155 0 [.ref a0, .int x1, .int x2, .int x3, u4] [] h = (zv 1 145 0 [.ref a0, .int (zh_i h (zq (zh_r h a0 0)) 312), .int 0, .int x1] [] (zh_wi h (zq (zh_r h a0 0)) 312 ((zh_i h (zq (zh_r h a0 0)) 312) + 1))).bind fun r => zv 2 155 30 [.ref a0, .int x1, .int x2, .int x3, .int (zh_i h (zq (zh_r h a0 0)) 312)] (r.1.toList ++ []) r.2 := by
  refine Eq.trans (zv_next f155_0 rfl) ?_
  refine Eq.trans (zs_getr f155_1 g0 g1 g2) ?_
  refine Eq.trans (zs_sp f155_4 sp_312) ?_
  refine Eq.trans (zs_iald f155_7 g3 g5 (zj_lit (by decide) g4)) ?_
  refine Eq.trans (zv_next f155_8 rfl) ?_
  refine Eq.trans (zv_next f155_10 rfl) ?_
  refine Eq.trans (zs_getr f155_11 g0 g1 g2) ?_
  refine Eq.trans (zs_sp f155_14 sp_312) ?_
  refine Eq.trans (zv_next f155_17 rfl) ?_
  refine Eq.trans (zs_iald f155_18 g3 g5 (zj_lit (by decide) g4)) ?_
  refine Eq.trans (zs_ic f155_19 ic_1) ?_
  refine Eq.trans (zv_next f155_20 rfl) ?_
  refine Eq.trans (zs_iast f155_21 g3 g5 (zj_lit (by decide) g4)) ?_
  refine Eq.trans (zv_next f155_22 rfl) ?_
  refine Eq.trans (zv_next f155_23 rfl) ?_
  refine Eq.trans (zs_ic f155_25 ic_0) ?_
  refine Eq.trans (zv_next f155_26 rfl) ?_
  exact zs_callV f155_27 (Nat.le_of_ble_eq_true rfl) (Nat.le_of_ble_eq_true rfl) rfl g0 g1 me_145 (by decide) rfl
theorem b155_30 {h : zi_Hp} {a0 : Nat} {x1 : Int32} {x2 : Int32} {x3 : Int32} {x4 : Int32} (g0 : a0 < zh_n h) (g1 : (zh_k h a0).1 = 8) : zv 2 155 30 [.ref a0, .int x1, .int x2, .int x3, .int x4] [] h = (zv 1 145 0 [.ref a0, .int x4, .int 2, .int x2] [] h).bind fun r => zv 2 155 38 [.ref a0, .int x1, .int x2, .int x3, .int x4] (r.1.toList ++ []) r.2 := by
  refine Eq.trans (zv_next f155_30 rfl) ?_
  refine Eq.trans (zv_next f155_31 rfl) ?_
  refine Eq.trans (zs_ic f155_33 ic_2) ?_
  refine Eq.trans (zv_next f155_34 rfl) ?_
  exact zs_callV f155_35 (Nat.le_of_ble_eq_true rfl) (Nat.le_of_ble_eq_true rfl) rfl g0 g1 me_145 (by decide) rfl
theorem b155_38 {h : zi_Hp} {a0 : Nat} {x1 : Int32} {x2 : Int32} {x3 : Int32} {x4 : Int32} (g0 : a0 < zh_n h) (g1 : (zh_k h a0).1 = 8) : zv 2 155 38 [.ref a0, .int x1, .int x2, .int x3, .int x4] [] h = (zv 1 145 0 [.ref a0, .int x4, .int 3, .int x3] [] h).bind fun r => zv 2 155 46 [.ref a0, .int x1, .int x2, .int x3, .int x4] (r.1.toList ++ []) r.2 := by
  refine Eq.trans (zv_next f155_38 rfl) ?_
  refine Eq.trans (zv_next f155_39 rfl) ?_
  refine Eq.trans (zs_ic f155_41 ic_3) ?_
  refine Eq.trans (zv_next f155_42 rfl) ?_
  exact zs_callV f155_43 (Nat.le_of_ble_eq_true rfl) (Nat.le_of_ble_eq_true rfl) rfl g0 g1 me_145 (by decide) rfl
theorem b155_46 {h : zi_Hp} {a0 : Nat} {x1 : Int32} {x2 : Int32} {x3 : Int32} {x4 : Int32} (g0 : a0 < zh_n h) (g1 : (zh_k h a0).1 = 8) : zv 2 155 46 [.ref a0, .int x1, .int x2, .int x3, .int x4] [] h = (zv 1 145 0 [.ref a0, .int x4, .int 4, .int 0] [] h).bind fun r => zv 2 155 54 [.ref a0, .int x1, .int x2, .int x3, .int x4] (r.1.toList ++ []) r.2 := by
  refine Eq.trans (zv_next f155_46 rfl) ?_
  refine Eq.trans (zv_next f155_47 rfl) ?_
  refine Eq.trans (zs_ic f155_49 ic_4) ?_
  refine Eq.trans (zs_ic f155_50 ic_0) ?_
  exact zs_callV f155_51 (Nat.le_of_ble_eq_true rfl) (Nat.le_of_ble_eq_true rfl) rfl g0 g1 me_145 (by decide) rfl
theorem b155_54 {h : zi_Hp} {a0 : Nat} {x1 : Int32} {x2 : Int32} {x3 : Int32} {x4 : Int32}  : zv 2 155 54 [.ref a0, .int x1, .int x2, .int x3, .int x4] [] h = some (some (.int x4), h) := by
  refine Eq.trans (zv_next f155_54 rfl) ?_
  exact zs_ret0 f155_56
set_option maxRecDepth 20000 in
theorem zq156 : zi_M[156]? = some zi_m156 := rfl
theorem zl156_0 {pc : Nat} (_ : 0 ≤ pc) : zi_fe 156 pc = zu156_0.lookup pc := zi_feA zq156 pc
theorem f156_0 : zi_fe 156 0 = some ((.aload_n 0), 1, 0, 0, 0, 0, 0) := (zl156_0 (Nat.le_of_ble_eq_true rfl)).trans rfl
theorem f156_1 : zi_fe 156 1 = some ((.iload_n 1), 1, 0, 0, 0, 0, 0) := (zl156_0 (Nat.le_of_ble_eq_true rfl)).trans rfl
theorem f156_2 : zi_fe 156 2 = some ((.bipush 8), 2, 0, 0, 0, 0, 0) := (zl156_0 (Nat.le_of_ble_eq_true rfl)).trans rfl
theorem f156_4 : zi_fe 156 4 = some ((.iload_n 2), 1, 0, 0, 0, 0, 0) := (zl156_0 (Nat.le_of_ble_eq_true rfl)).trans rfl
theorem f156_5 : zi_fe 156 5 = some ((.invokevirtual 102), 3, 147, 0, 8, 1253, 4) := (zl156_0 (Nat.le_of_ble_eq_true rfl)).trans rfl
theorem f156_8 : zi_fe 156 8 = some ((.aload_n 0), 1, 0, 0, 0, 0, 0) := (zl156_0 (Nat.le_of_ble_eq_true rfl)).trans rfl
theorem f156_9 : zi_fe 156 9 = some ((.iload_n 1), 1, 0, 0, 0, 0, 0) := (zl156_0 (Nat.le_of_ble_eq_true rfl)).trans rfl
theorem f156_10 : zi_fe 156 10 = some ((.bipush 9), 2, 0, 0, 0, 0, 0) := (zl156_0 (Nat.le_of_ble_eq_true rfl)).trans rfl
theorem f156_12 : zi_fe 156 12 = some ((.iload_n 3), 1, 0, 0, 0, 0, 0) := (zl156_0 (Nat.le_of_ble_eq_true rfl)).trans rfl
theorem f156_13 : zi_fe 156 13 = some ((.invokevirtual 102), 3, 147, 0, 8, 1253, 4) := (zl156_0 (Nat.le_of_ble_eq_true rfl)).trans rfl
theorem f156_16 : zi_fe 156 16 = some ((.aload_n 0), 1, 0, 0, 0, 0, 0) := (zl156_0 (Nat.le_of_ble_eq_true rfl)).trans rfl
theorem f156_17 : zi_fe 156 17 = some ((.iload_n 1), 1, 0, 0, 0, 0, 0) := (zl156_0 (Nat.le_of_ble_eq_true rfl)).trans rfl
theorem zl156_1 {pc : Nat} (h : 18 ≤ pc) : zi_fe 156 pc = zu156_1.lookup pc := (zl156_0 (Nat.le_trans (Nat.le_of_ble_eq_true rfl) h)).trans (zi_lkA (a := zi_i156_0) (c := 18) rfl h)
theorem f156_18 : zi_fe 156 18 = some ((.bipush 10), 2, 0, 0, 0, 0, 0) := (zl156_1 (Nat.le_of_ble_eq_true rfl)).trans rfl
theorem f156_20 : zi_fe 156 20 = some ((.iload 4), 2, 0, 0, 0, 0, 0) := (zl156_1 (Nat.le_of_ble_eq_true rfl)).trans rfl
theorem f156_22 : zi_fe 156 22 = some ((.invokevirtual 102), 3, 147, 0, 8, 1253, 4) := (zl156_1 (Nat.le_of_ble_eq_true rfl)).trans rfl
theorem f156_25 : zi_fe 156 25 = some ((.aload_n 0), 1, 0, 0, 0, 0, 0) := (zl156_1 (Nat.le_of_ble_eq_true rfl)).trans rfl
theorem f156_26 : zi_fe 156 26 = some ((.iload_n 1), 1, 0, 0, 0, 0, 0) := (zl156_1 (Nat.le_of_ble_eq_true rfl)).trans rfl
theorem f156_27 : zi_fe 156 27 = some ((.bipush 11), 2, 0, 0, 0, 0, 0) := (zl156_1 (Nat.le_of_ble_eq_true rfl)).trans rfl
theorem f156_29 : zi_fe 156 29 = some ((.iload 5), 2, 0, 0, 0, 0, 0) := (zl156_1 (Nat.le_of_ble_eq_true rfl)).trans rfl
theorem f156_31 : zi_fe 156 31 = some ((.invokevirtual 102), 3, 147, 0, 8, 1253, 4) := (zl156_1 (Nat.le_of_ble_eq_true rfl)).trans rfl
theorem f156_34 : zi_fe 156 34 = some ((.aload_n 0), 1, 0, 0, 0, 0, 0) := (zl156_1 (Nat.le_of_ble_eq_true rfl)).trans rfl
theorem f156_35 : zi_fe 156 35 = some ((.iload_n 1), 1, 0, 0, 0, 0, 0) := (zl156_1 (Nat.le_of_ble_eq_true rfl)).trans rfl
theorem f156_36 : zi_fe 156 36 = some ((.bipush 12), 2, 0, 0, 0, 0, 0) := (zl156_1 (Nat.le_of_ble_eq_true rfl)).trans rfl
theorem f156_38 : zi_fe 156 38 = some ((.iload 4), 2, 0, 0, 0, 0, 0) := (zl156_1 (Nat.le_of_ble_eq_true rfl)).trans rfl
theorem zl156_2 {pc : Nat} (h : 40 ≤ pc) : zi_fe 156 pc = zu156_2.lookup pc := (zl156_1 (Nat.le_trans (Nat.le_of_ble_eq_true rfl) h)).trans (zi_lkA (a := zi_i156_1) (c := 40) rfl h)
theorem f156_40 : zi_fe 156 40 = some (.iadd, 1, 0, 0, 0, 0, 0) := (zl156_2 (Nat.le_of_ble_eq_true rfl)).trans rfl
theorem f156_41 : zi_fe 156 41 = some ((.invokevirtual 83), 3, 146, 0, 8, 1276, 3) := (zl156_2 (Nat.le_of_ble_eq_true rfl)).trans rfl
theorem f156_44 : zi_fe 156 44 = some ((.istore 6), 2, 0, 0, 0, 0, 0) := (zl156_2 (Nat.le_of_ble_eq_true rfl)).trans rfl
theorem f156_46 : zi_fe 156 46 = some ((.aload_n 0), 1, 0, 0, 0, 0, 0) := (zl156_2 (Nat.le_of_ble_eq_true rfl)).trans rfl
theorem f156_47 : zi_fe 156 47 = some ((.iload_n 1), 1, 0, 0, 0, 0, 0) := (zl156_2 (Nat.le_of_ble_eq_true rfl)).trans rfl
theorem f156_48 : zi_fe 156 48 = some ((.iconst 3), 1, 0, 0, 0, 0, 0) := (zl156_2 (Nat.le_of_ble_eq_true rfl)).trans rfl
theorem f156_49 : zi_fe 156 49 = some ((.iload 6), 2, 0, 0, 0, 0, 0) := (zl156_2 (Nat.le_of_ble_eq_true rfl)).trans rfl
theorem f156_51 : zi_fe 156 51 = some ((.bipush (-4)), 2, 0, 0, 0, 0, 0) := (zl156_2 (Nat.le_of_ble_eq_true rfl)).trans rfl
theorem f156_53 : zi_fe 156 53 = some ((.if_icmp .ne 14), 3, 0, 0, 0, 0, 0) := (zl156_2 (Nat.le_of_ble_eq_true rfl)).trans rfl
theorem f156_56 : zi_fe 156 56 = some ((.aload_n 0), 1, 0, 0, 0, 0, 0) := (zl156_2 (Nat.le_of_ble_eq_true rfl)).trans rfl
theorem f156_57 : zi_fe 156 57 = some ((.getfield 7), 3, 8, 0, 3, 1065, 0) := (zl156_2 (Nat.le_of_ble_eq_true rfl)).trans rfl
theorem f156_60 : zi_fe 156 60 = some ((.sipush 313), 3, 0, 0, 0, 0, 0) := (zl156_2 (Nat.le_of_ble_eq_true rfl)).trans rfl
theorem zl156_3 {pc : Nat} (h : 63 ≤ pc) : zi_fe 156 pc = zu156_3.lookup pc := (zl156_2 (Nat.le_trans (Nat.le_of_ble_eq_true rfl) h)).trans (zi_lkA (a := zi_i156_2) (c := 63) rfl h)
theorem f156_63 : zi_fe 156 63 = some (.iaload, 1, 0, 0, 0, 0, 0) := (zl156_3 (Nat.le_of_ble_eq_true rfl)).trans rfl
theorem f156_64 : zi_fe 156 64 = some ((.goto 5), 3, 0, 0, 0, 0, 0) := (zl156_3 (Nat.le_of_ble_eq_true rfl)).trans rfl
theorem f156_67 : zi_fe 156 67 = some ((.iload 6), 2, 0, 0, 0, 0, 0) := (zl156_3 (Nat.le_of_ble_eq_true rfl)).trans rfl
theorem f156_69 : zi_fe 156 69 = some ((.invokevirtual 102), 3, 147, 0, 8, 1253, 4) := (zl156_3 (Nat.le_of_ble_eq_true rfl)).trans rfl
theorem f156_72 : zi_fe 156 72 = some ((.aload_n 0), 1, 0, 0, 0, 0, 0) := (zl156_3 (Nat.le_of_ble_eq_true rfl)).trans rfl
theorem f156_73 : zi_fe 156 73 = some ((.iload_n 1), 1, 0, 0, 0, 0, 0) := (zl156_3 (Nat.le_of_ble_eq_true rfl)).trans rfl
theorem f156_74 : zi_fe 156 74 = some ((.iconst 0), 1, 0, 0, 0, 0, 0) := (zl156_3 (Nat.le_of_ble_eq_true rfl)).trans rfl
theorem f156_75 : zi_fe 156 75 = some ((.iconst 3), 1, 0, 0, 0, 0, 0) := (zl156_3 (Nat.le_of_ble_eq_true rfl)).trans rfl
theorem f156_76 : zi_fe 156 76 = some ((.invokevirtual 102), 3, 147, 0, 8, 1253, 4) := (zl156_3 (Nat.le_of_ble_eq_true rfl)).trans rfl
theorem f156_79 : zi_fe 156 79 = some (.return_, 1, 0, 0, 0, 0, 0) := (zl156_3 (Nat.le_of_ble_eq_true rfl)).trans rfl
theorem b156_0 {h : zi_Hp} {a0 : Nat} {x1 : Int32} {x2 : Int32} {x3 : Int32} {x4 : Int32} {x5 : Int32} {u6 : Value} (g0 : a0 < zh_n h) (g1 : (zh_k h a0).1 = 8) : zv 2 156 0 [.ref a0, .int x1, .int x2, .int x3, .int x4, .int x5, u6] [] h = (zv 1 147 0 [.ref a0, .int x1, .int 8, .int x2] [] h).bind fun r => zv 2 156 8 [.ref a0, .int x1, .int x2, .int x3, .int x4, .int x5, u6] (r.1.toList ++ []) r.2 := by
  refine Eq.trans (zv_next f156_0 rfl) ?_
  refine Eq.trans (zv_next f156_1 rfl) ?_
  refine Eq.trans (zs_bp f156_2 bp_8) ?_
  refine Eq.trans (zv_next f156_4 rfl) ?_
  exact zs_callV f156_5 (Nat.le_of_ble_eq_true rfl) (Nat.le_of_ble_eq_true rfl) rfl g0 g1 me_147 (by decide) rfl
theorem b156_8 {h : zi_Hp} {a0 : Nat} {x1 : Int32} {x2 : Int32} {x3 : Int32} {x4 : Int32} {x5 : Int32} {u6 : Value} (g0 : a0 < zh_n h) (g1 : (zh_k h a0).1 = 8) : zv 2 156 8 [.ref a0, .int x1, .int x2, .int x3, .int x4, .int x5, u6] [] h = (zv 1 147 0 [.ref a0, .int x1, .int 9, .int x3] [] h).bind fun r => zv 2 156 16 [.ref a0, .int x1, .int x2, .int x3, .int x4, .int x5, u6] (r.1.toList ++ []) r.2 := by
  refine Eq.trans (zv_next f156_8 rfl) ?_
  refine Eq.trans (zv_next f156_9 rfl) ?_
  refine Eq.trans (zs_bp f156_10 bp_9) ?_
  refine Eq.trans (zv_next f156_12 rfl) ?_
  exact zs_callV f156_13 (Nat.le_of_ble_eq_true rfl) (Nat.le_of_ble_eq_true rfl) rfl g0 g1 me_147 (by decide) rfl
theorem b156_16 {h : zi_Hp} {a0 : Nat} {x1 : Int32} {x2 : Int32} {x3 : Int32} {x4 : Int32} {x5 : Int32} {u6 : Value} (g0 : a0 < zh_n h) (g1 : (zh_k h a0).1 = 8) : zv 2 156 16 [.ref a0, .int x1, .int x2, .int x3, .int x4, .int x5, u6] [] h = (zv 1 147 0 [.ref a0, .int x1, .int 10, .int x4] [] h).bind fun r => zv 2 156 25 [.ref a0, .int x1, .int x2, .int x3, .int x4, .int x5, u6] (r.1.toList ++ []) r.2 := by
  refine Eq.trans (zv_next f156_16 rfl) ?_
  refine Eq.trans (zv_next f156_17 rfl) ?_
  refine Eq.trans (zs_bp f156_18 bp_10) ?_
  refine Eq.trans (zv_next f156_20 rfl) ?_
  exact zs_callV f156_22 (Nat.le_of_ble_eq_true rfl) (Nat.le_of_ble_eq_true rfl) rfl g0 g1 me_147 (by decide) rfl
theorem b156_25 {h : zi_Hp} {a0 : Nat} {x1 : Int32} {x2 : Int32} {x3 : Int32} {x4 : Int32} {x5 : Int32} {u6 : Value} (g0 : a0 < zh_n h) (g1 : (zh_k h a0).1 = 8) : zv 2 156 25 [.ref a0, .int x1, .int x2, .int x3, .int x4, .int x5, u6] [] h = (zv 1 147 0 [.ref a0, .int x1, .int 11, .int x5] [] h).bind fun r => zv 2 156 34 [.ref a0, .int x1, .int x2, .int x3, .int x4, .int x5, u6] (r.1.toList ++ []) r.2 := by
  refine Eq.trans (zv_next f156_25 rfl) ?_
  refine Eq.trans (zv_next f156_26 rfl) ?_
  refine Eq.trans (zs_bp f156_27 bp_11) ?_
  refine Eq.trans (zv_next f156_29 rfl) ?_
  exact zs_callV f156_31 (Nat.le_of_ble_eq_true rfl) (Nat.le_of_ble_eq_true rfl) rfl g0 g1 me_147 (by decide) rfl
theorem b156_34 {h : zi_Hp} {a0 : Nat} {x1 : Int32} {x2 : Int32} {x3 : Int32} {x4 : Int32} {x5 : Int32} {u6 : Value} (g0 : a0 < zh_n h) (g1 : (zh_k h a0).1 = 8) : zv 2 156 34 [.ref a0, .int x1, .int x2, .int x3, .int x4, .int x5, u6] [] h = (zv 1 146 0 [.ref a0, .int x1, .int (12 + x4)] [] h).bind fun r => zv 2 156 44 [.ref a0, .int x1, .int x2, .int x3, .int x4, .int x5, u6] (r.1.toList ++ []) r.2 := by
  refine Eq.trans (zv_next f156_34 rfl) ?_
  refine Eq.trans (zv_next f156_35 rfl) ?_
  refine Eq.trans (zs_bp f156_36 bp_12) ?_
  refine Eq.trans (zv_next f156_38 rfl) ?_
  refine Eq.trans (zv_next f156_40 rfl) ?_
  exact zs_callV f156_41 (Nat.le_of_ble_eq_true rfl) (Nat.le_of_ble_eq_true rfl) rfl g0 g1 me_146 (by decide) rfl
theorem b156_44 {h : zi_Hp} {a0 : Nat} {x1 : Int32} {x2 : Int32} {x3 : Int32} {x4 : Int32} {x5 : Int32} {u6 : Value} {s0 : Int32}  : zv 2 156 44 [.ref a0, .int x1, .int x2, .int x3, .int x4, .int x5, u6] [.int s0] h = if s0 = (-4) then zv 2 156 56 [.ref a0, .int x1, .int x2, .int x3, .int x4, .int x5, .int s0] [.int 3, .int x1, .ref a0] h else zv 2 156 67 [.ref a0, .int x1, .int x2, .int x3, .int x4, .int x5, .int s0] [.int 3, .int x1, .ref a0] h := by
  refine Eq.trans (zv_next f156_44 rfl) ?_
  refine Eq.trans (zv_next f156_46 rfl) ?_
  refine Eq.trans (zv_next f156_47 rfl) ?_
  refine Eq.trans (zs_ic f156_48 ic_3) ?_
  refine Eq.trans (zv_next f156_49 rfl) ?_
  refine Eq.trans (zs_bp f156_51 bp_m4) ?_
  exact zs_icmp f156_53 rfl
theorem b156_56 {h : zi_Hp} {a0 : Nat} {x1 : Int32} {x2 : Int32} {x3 : Int32} {x4 : Int32} {x5 : Int32} {x6 : Int32} {t0 : Nat} {s1 : Int32} {s2 : Int32} (g0 : a0 < zh_n h) (g1 : (zh_k h a0).1 = 8) (g2 : zh_r h a0 0 = .ref (zq (zh_r h a0 0))) (g3 : (zq (zh_r h a0 0)) < zh_n h) (g4 : 313 < (zh_k h (zq (zh_r h a0 0))).2) (g5 : (zh_k h (zq (zh_r h a0 0))).1 = 100) : zv 2 156 56 [.ref a0, .int x1, .int x2, .int x3, .int x4, .int x5, .int x6] [.int s2, .int s1, .ref t0] h = zv 2 156 69 [.ref a0, .int x1, .int x2, .int x3, .int x4, .int x5, .int x6] [.int (zh_i h (zq (zh_r h a0 0)) 313), .int s2, .int s1, .ref t0] h := by
  refine Eq.trans (zv_next f156_56 rfl) ?_
  refine Eq.trans (zs_getr f156_57 g0 g1 g2) ?_
  refine Eq.trans (zs_sp f156_60 sp_313) ?_
  refine Eq.trans (zs_iald f156_63 g3 g5 (zj_lit (by decide) g4)) ?_
  refine Eq.trans (zs_goto (tgt := 69) f156_64 rfl) ?_
  rfl
theorem b156_67 {h : zi_Hp} {a0 : Nat} {x1 : Int32} {x2 : Int32} {x3 : Int32} {x4 : Int32} {x5 : Int32} {x6 : Int32} {t0 : Nat} {s1 : Int32} {s2 : Int32}  : zv 2 156 67 [.ref a0, .int x1, .int x2, .int x3, .int x4, .int x5, .int x6] [.int s2, .int s1, .ref t0] h = zv 2 156 69 [.ref a0, .int x1, .int x2, .int x3, .int x4, .int x5, .int x6] [.int x6, .int s2, .int s1, .ref t0] h := by
  refine Eq.trans (zv_next f156_67 rfl) ?_
  rfl
theorem b156_69 {h : zi_Hp} {a0 : Nat} {x1 : Int32} {x2 : Int32} {x3 : Int32} {x4 : Int32} {x5 : Int32} {x6 : Int32} {t0 : Nat} {s1 : Int32} {s2 : Int32} {s3 : Int32} (g0 : t0 < zh_n h) (g1 : (zh_k h t0).1 = 8) : zv 2 156 69 [.ref a0, .int x1, .int x2, .int x3, .int x4, .int x5, .int x6] [.int s3, .int s2, .int s1, .ref t0] h = (zv 1 147 0 [.ref t0, .int s1, .int s2, .int s3] [] h).bind fun r => zv 2 156 72 [.ref a0, .int x1, .int x2, .int x3, .int x4, .int x5, .int x6] (r.1.toList ++ []) r.2 := by
  exact zs_callV f156_69 (Nat.le_of_ble_eq_true rfl) (Nat.le_of_ble_eq_true rfl) rfl g0 g1 me_147 (by decide) rfl
theorem b156_72 {h : zi_Hp} {a0 : Nat} {x1 : Int32} {x2 : Int32} {x3 : Int32} {x4 : Int32} {x5 : Int32} {x6 : Int32} (g0 : a0 < zh_n h) (g1 : (zh_k h a0).1 = 8) : zv 2 156 72 [.ref a0, .int x1, .int x2, .int x3, .int x4, .int x5, .int x6] [] h = (zv 1 147 0 [.ref a0, .int x1, .int 0, .int 3] [] h).bind fun r => zv 2 156 79 [.ref a0, .int x1, .int x2, .int x3, .int x4, .int x5, .int x6] (r.1.toList ++ []) r.2 := by
  refine Eq.trans (zv_next f156_72 rfl) ?_
  refine Eq.trans (zv_next f156_73 rfl) ?_
  refine Eq.trans (zs_ic f156_74 ic_0) ?_
  refine Eq.trans (zs_ic f156_75 ic_3) ?_
  exact zs_callV f156_76 (Nat.le_of_ble_eq_true rfl) (Nat.le_of_ble_eq_true rfl) rfl g0 g1 me_147 (by decide) rfl
theorem b156_79 {h : zi_Hp} {a0 : Nat} {x1 : Int32} {x2 : Int32} {x3 : Int32} {x4 : Int32} {x5 : Int32} {x6 : Int32}  : zv 2 156 79 [.ref a0, .int x1, .int x2, .int x3, .int x4, .int x5, .int x6] [] h = some (none, h) := by
  exact zv_ret f156_79 rfl
set_option maxRecDepth 20000 in
theorem zq157 : zi_M[157]? = some zi_m157 := rfl
theorem zl157_0 {pc : Nat} (_ : 0 ≤ pc) : zi_fe 157 pc = zu157_0.lookup pc := zi_feA zq157 pc
theorem f157_0 : zi_fe 157 0 = some ((.aload_n 0), 1, 0, 0, 0, 0, 0) := (zl157_0 (Nat.le_of_ble_eq_true rfl)).trans rfl
theorem f157_1 : zi_fe 157 1 = some ((.iload_n 1), 1, 0, 0, 0, 0, 0) := (zl157_0 (Nat.le_of_ble_eq_true rfl)).trans rfl
theorem f157_2 : zi_fe 157 2 = some ((.iconst 3), 1, 0, 0, 0, 0, 0) := (zl157_0 (Nat.le_of_ble_eq_true rfl)).trans rfl
theorem f157_3 : zi_fe 157 3 = some ((.invokevirtual 83), 3, 146, 0, 8, 1276, 3) := (zl157_0 (Nat.le_of_ble_eq_true rfl)).trans rfl
theorem f157_6 : zi_fe 157 6 = some ((.istore_n 2), 1, 0, 0, 0, 0, 0) := (zl157_0 (Nat.le_of_ble_eq_true rfl)).trans rfl
theorem f157_7 : zi_fe 157 7 = some ((.aload_n 0), 1, 0, 0, 0, 0, 0) := (zl157_0 (Nat.le_of_ble_eq_true rfl)).trans rfl
theorem f157_8 : zi_fe 157 8 = some ((.getfield 98), 3, 8, 5, 0, 1070, 0) := (zl157_0 (Nat.le_of_ble_eq_true rfl)).trans rfl
theorem f157_11 : zi_fe 157 11 = some ((.iconst 1), 1, 0, 0, 0, 0, 0) := (zl157_0 (Nat.le_of_ble_eq_true rfl)).trans rfl
theorem f157_12 : zi_fe 157 12 = some (.iadd, 1, 0, 0, 0, 0, 0) := (zl157_0 (Nat.le_of_ble_eq_true rfl)).trans rfl
theorem f157_13 : zi_fe 157 13 = some ((.iconst 2), 1, 0, 0, 0, 0, 0) := (zl157_0 (Nat.le_of_ble_eq_true rfl)).trans rfl
theorem f157_14 : zi_fe 157 14 = some (.idiv, 1, 0, 0, 0, 0, 0) := (zl157_0 (Nat.le_of_ble_eq_true rfl)).trans rfl
theorem f157_15 : zi_fe 157 15 = some ((.istore_n 3), 1, 0, 0, 0, 0, 0) := (zl157_0 (Nat.le_of_ble_eq_true rfl)).trans rfl
theorem zl157_1 {pc : Nat} (h : 16 ≤ pc) : zi_fe 157 pc = zu157_1.lookup pc := (zl157_0 (Nat.le_trans (Nat.le_of_ble_eq_true rfl) h)).trans (zi_lkA (a := zi_i157_0) (c := 16) rfl h)
theorem f157_16 : zi_fe 157 16 = some ((.aload_n 0), 1, 0, 0, 0, 0, 0) := (zl157_1 (Nat.le_of_ble_eq_true rfl)).trans rfl
theorem f157_17 : zi_fe 157 17 = some ((.aload_n 0), 1, 0, 0, 0, 0, 0) := (zl157_1 (Nat.le_of_ble_eq_true rfl)).trans rfl
theorem f157_18 : zi_fe 157 18 = some ((.iload_n 2), 1, 0, 0, 0, 0, 0) := (zl157_1 (Nat.le_of_ble_eq_true rfl)).trans rfl
theorem f157_19 : zi_fe 157 19 = some ((.iconst 0), 1, 0, 0, 0, 0, 0) := (zl157_1 (Nat.le_of_ble_eq_true rfl)).trans rfl
theorem f157_20 : zi_fe 157 20 = some ((.invokevirtual 87), 3, 144, 0, 8, 1261, 3) := (zl157_1 (Nat.le_of_ble_eq_true rfl)).trans rfl
theorem f157_23 : zi_fe 157 23 = some ((.aload_n 0), 1, 0, 0, 0, 0, 0) := (zl157_1 (Nat.le_of_ble_eq_true rfl)).trans rfl
theorem f157_24 : zi_fe 157 24 = some ((.iload_n 2), 1, 0, 0, 0, 0, 0) := (zl157_1 (Nat.le_of_ble_eq_true rfl)).trans rfl
theorem f157_25 : zi_fe 157 25 = some ((.iconst 2), 1, 0, 0, 0, 0, 0) := (zl157_1 (Nat.le_of_ble_eq_true rfl)).trans rfl
theorem f157_26 : zi_fe 157 26 = some ((.invokevirtual 87), 3, 144, 0, 8, 1261, 3) := (zl157_1 (Nat.le_of_ble_eq_true rfl)).trans rfl
theorem f157_29 : zi_fe 157 29 = some ((.aload_n 0), 1, 0, 0, 0, 0, 0) := (zl157_1 (Nat.le_of_ble_eq_true rfl)).trans rfl
theorem f157_30 : zi_fe 157 30 = some ((.iload_n 2), 1, 0, 0, 0, 0, 0) := (zl157_1 (Nat.le_of_ble_eq_true rfl)).trans rfl
theorem f157_31 : zi_fe 157 31 = some ((.iconst 3), 1, 0, 0, 0, 0, 0) := (zl157_1 (Nat.le_of_ble_eq_true rfl)).trans rfl
theorem zl157_2 {pc : Nat} (h : 32 ≤ pc) : zi_fe 157 pc = zu157_2.lookup pc := (zl157_1 (Nat.le_trans (Nat.le_of_ble_eq_true rfl) h)).trans (zi_lkA (a := zi_i157_1) (c := 32) rfl h)
theorem f157_32 : zi_fe 157 32 = some ((.invokevirtual 87), 3, 144, 0, 8, 1261, 3) := (zl157_2 (Nat.le_of_ble_eq_true rfl)).trans rfl
theorem f157_35 : zi_fe 157 35 = some ((.invokevirtual 105), 3, 155, 0, 8, 1347, 4) := (zl157_2 (Nat.le_of_ble_eq_true rfl)).trans rfl
theorem f157_38 : zi_fe 157 38 = some ((.istore 4), 2, 0, 0, 0, 0, 0) := (zl157_2 (Nat.le_of_ble_eq_true rfl)).trans rfl
theorem f157_40 : zi_fe 157 40 = some ((.aload_n 0), 1, 0, 0, 0, 0, 0) := (zl157_2 (Nat.le_of_ble_eq_true rfl)).trans rfl
theorem f157_41 : zi_fe 157 41 = some ((.iload 4), 2, 0, 0, 0, 0, 0) := (zl157_2 (Nat.le_of_ble_eq_true rfl)).trans rfl
theorem f157_43 : zi_fe 157 43 = some ((.iload_n 3), 1, 0, 0, 0, 0, 0) := (zl157_2 (Nat.le_of_ble_eq_true rfl)).trans rfl
theorem f157_44 : zi_fe 157 44 = some ((.aload_n 0), 1, 0, 0, 0, 0, 0) := (zl157_2 (Nat.le_of_ble_eq_true rfl)).trans rfl
theorem f157_45 : zi_fe 157 45 = some ((.getfield 98), 3, 8, 5, 0, 1070, 0) := (zl157_2 (Nat.le_of_ble_eq_true rfl)).trans rfl
theorem f157_48 : zi_fe 157 48 = some ((.invokevirtual 109), 3, 154, 0, 8, 1339, 4) := (zl157_2 (Nat.le_of_ble_eq_true rfl)).trans rfl
theorem f157_51 : zi_fe 157 51 = some ((.aload_n 0), 1, 0, 0, 0, 0, 0) := (zl157_2 (Nat.le_of_ble_eq_true rfl)).trans rfl
theorem f157_52 : zi_fe 157 52 = some ((.iload_n 2), 1, 0, 0, 0, 0, 0) := (zl157_2 (Nat.le_of_ble_eq_true rfl)).trans rfl
theorem f157_53 : zi_fe 157 53 = some ((.iconst 0), 1, 0, 0, 0, 0, 0) := (zl157_2 (Nat.le_of_ble_eq_true rfl)).trans rfl
theorem zl157_3 {pc : Nat} (h : 54 ≤ pc) : zi_fe 157 pc = zu157_3.lookup pc := (zl157_2 (Nat.le_trans (Nat.le_of_ble_eq_true rfl) h)).trans (zi_lkA (a := zi_i157_2) (c := 54) rfl h)
theorem f157_54 : zi_fe 157 54 = some ((.iload_n 3), 1, 0, 0, 0, 0, 0) := (zl157_3 (Nat.le_of_ble_eq_true rfl)).trans rfl
theorem f157_55 : zi_fe 157 55 = some ((.invokevirtual 109), 3, 154, 0, 8, 1339, 4) := (zl157_3 (Nat.le_of_ble_eq_true rfl)).trans rfl
theorem f157_58 : zi_fe 157 58 = some ((.aload_n 0), 1, 0, 0, 0, 0, 0) := (zl157_3 (Nat.le_of_ble_eq_true rfl)).trans rfl
theorem f157_59 : zi_fe 157 59 = some ((.iload_n 2), 1, 0, 0, 0, 0, 0) := (zl157_3 (Nat.le_of_ble_eq_true rfl)).trans rfl
theorem f157_60 : zi_fe 157 60 = some ((.iconst 3), 1, 0, 0, 0, 0, 0) := (zl157_3 (Nat.le_of_ble_eq_true rfl)).trans rfl
theorem f157_61 : zi_fe 157 61 = some ((.iload 4), 2, 0, 0, 0, 0, 0) := (zl157_3 (Nat.le_of_ble_eq_true rfl)).trans rfl
theorem f157_63 : zi_fe 157 63 = some ((.invokevirtual 79), 3, 145, 0, 8, 1061, 4) := (zl157_3 (Nat.le_of_ble_eq_true rfl)).trans rfl
theorem f157_66 : zi_fe 157 66 = some ((.aload_n 0), 1, 0, 0, 0, 0, 0) := (zl157_3 (Nat.le_of_ble_eq_true rfl)).trans rfl
theorem f157_67 : zi_fe 157 67 = some ((.iload_n 2), 1, 0, 0, 0, 0, 0) := (zl157_3 (Nat.le_of_ble_eq_true rfl)).trans rfl
theorem f157_68 : zi_fe 157 68 = some ((.iconst 2), 1, 0, 0, 0, 0, 0) := (zl157_3 (Nat.le_of_ble_eq_true rfl)).trans rfl
theorem f157_69 : zi_fe 157 69 = some ((.aload_n 0), 1, 0, 0, 0, 0, 0) := (zl157_3 (Nat.le_of_ble_eq_true rfl)).trans rfl
theorem f157_70 : zi_fe 157 70 = some ((.getfield 20), 3, 8, 3, 3, 1068, 0) := (zl157_3 (Nat.le_of_ble_eq_true rfl)).trans rfl
theorem zl157_4 {pc : Nat} (h : 73 ≤ pc) : zi_fe 157 pc = zu157_4.lookup pc := (zl157_3 (Nat.le_trans (Nat.le_of_ble_eq_true rfl) h)).trans (zi_lkA (a := zi_i157_3) (c := 73) rfl h)
theorem f157_73 : zi_fe 157 73 = some ((.iload_n 3), 1, 0, 0, 0, 0, 0) := (zl157_4 (Nat.le_of_ble_eq_true rfl)).trans rfl
theorem f157_74 : zi_fe 157 74 = some ((.iconst 1), 1, 0, 0, 0, 0, 0) := (zl157_4 (Nat.le_of_ble_eq_true rfl)).trans rfl
theorem f157_75 : zi_fe 157 75 = some (.isub, 1, 0, 0, 0, 0, 0) := (zl157_4 (Nat.le_of_ble_eq_true rfl)).trans rfl
theorem f157_76 : zi_fe 157 76 = some (.iaload, 1, 0, 0, 0, 0, 0) := (zl157_4 (Nat.le_of_ble_eq_true rfl)).trans rfl
theorem f157_77 : zi_fe 157 77 = some ((.invokevirtual 79), 3, 145, 0, 8, 1061, 4) := (zl157_4 (Nat.le_of_ble_eq_true rfl)).trans rfl
theorem f157_80 : zi_fe 157 80 = some ((.aload_n 0), 1, 0, 0, 0, 0, 0) := (zl157_4 (Nat.le_of_ble_eq_true rfl)).trans rfl
theorem f157_81 : zi_fe 157 81 = some ((.iload_n 1), 1, 0, 0, 0, 0, 0) := (zl157_4 (Nat.le_of_ble_eq_true rfl)).trans rfl
theorem f157_82 : zi_fe 157 82 = some ((.aload_n 0), 1, 0, 0, 0, 0, 0) := (zl157_4 (Nat.le_of_ble_eq_true rfl)).trans rfl
theorem f157_83 : zi_fe 157 83 = some ((.getfield 20), 3, 8, 3, 3, 1068, 0) := (zl157_4 (Nat.le_of_ble_eq_true rfl)).trans rfl
theorem f157_86 : zi_fe 157 86 = some ((.iload_n 3), 1, 0, 0, 0, 0, 0) := (zl157_4 (Nat.le_of_ble_eq_true rfl)).trans rfl
theorem f157_87 : zi_fe 157 87 = some ((.iconst 1), 1, 0, 0, 0, 0, 0) := (zl157_4 (Nat.le_of_ble_eq_true rfl)).trans rfl
theorem f157_88 : zi_fe 157 88 = some (.isub, 1, 0, 0, 0, 0, 0) := (zl157_4 (Nat.le_of_ble_eq_true rfl)).trans rfl
theorem zl157_5 {pc : Nat} (h : 89 ≤ pc) : zi_fe 157 pc = zu157_5.lookup pc := (zl157_4 (Nat.le_trans (Nat.le_of_ble_eq_true rfl) h)).trans (zi_lkA (a := zi_i157_4) (c := 89) rfl h)
theorem f157_89 : zi_fe 157 89 = some (.iaload, 1, 0, 0, 0, 0, 0) := (zl157_5 (Nat.le_of_ble_eq_true rfl)).trans rfl
theorem f157_90 : zi_fe 157 90 = some ((.iload 4), 2, 0, 0, 0, 0, 0) := (zl157_5 (Nat.le_of_ble_eq_true rfl)).trans rfl
theorem f157_92 : zi_fe 157 92 = some ((.aload_n 0), 1, 0, 0, 0, 0, 0) := (zl157_5 (Nat.le_of_ble_eq_true rfl)).trans rfl
theorem f157_93 : zi_fe 157 93 = some ((.iload_n 2), 1, 0, 0, 0, 0, 0) := (zl157_5 (Nat.le_of_ble_eq_true rfl)).trans rfl
theorem f157_94 : zi_fe 157 94 = some ((.iconst 0), 1, 0, 0, 0, 0, 0) := (zl157_5 (Nat.le_of_ble_eq_true rfl)).trans rfl
theorem f157_95 : zi_fe 157 95 = some ((.invokevirtual 87), 3, 144, 0, 8, 1261, 3) := (zl157_5 (Nat.le_of_ble_eq_true rfl)).trans rfl
theorem f157_98 : zi_fe 157 98 = some ((.iconst 1), 1, 0, 0, 0, 0, 0) := (zl157_5 (Nat.le_of_ble_eq_true rfl)).trans rfl
theorem f157_99 : zi_fe 157 99 = some (.iadd, 1, 0, 0, 0, 0, 0) := (zl157_5 (Nat.le_of_ble_eq_true rfl)).trans rfl
theorem f157_100 : zi_fe 157 100 = some ((.iconst 0), 1, 0, 0, 0, 0, 0) := (zl157_5 (Nat.le_of_ble_eq_true rfl)).trans rfl
theorem f157_101 : zi_fe 157 101 = some ((.invokevirtual 112), 3, 156, 0, 8, 1351, 6) := (zl157_5 (Nat.le_of_ble_eq_true rfl)).trans rfl
theorem f157_104 : zi_fe 157 104 = some (.return_, 1, 0, 0, 0, 0, 0) := (zl157_5 (Nat.le_of_ble_eq_true rfl)).trans rfl
theorem b157_0 {h : zi_Hp} {a0 : Nat} {x1 : Int32} {u2 : Value} {u3 : Value} {u4 : Value} (g0 : a0 < zh_n h) (g1 : (zh_k h a0).1 = 8) : zv 3 157 0 [.ref a0, .int x1, u2, u3, u4] [] h = (zv 1 146 0 [.ref a0, .int x1, .int 3] [] h).bind fun r => zv 3 157 6 [.ref a0, .int x1, u2, u3, u4] (r.1.toList ++ []) r.2 := by
  refine Eq.trans (zv_next f157_0 rfl) ?_
  refine Eq.trans (zv_next f157_1 rfl) ?_
  refine Eq.trans (zs_ic f157_2 ic_3) ?_
  exact zs_callV f157_3 (Nat.le_of_ble_eq_true rfl) (Nat.le_of_ble_eq_true rfl) rfl g0 g1 me_146 (by decide) rfl
theorem b157_6 {h : zi_Hp} {a0 : Nat} {x1 : Int32} {u2 : Value} {u3 : Value} {u4 : Value} {s0 : Int32} (g0 : a0 < zh_n h) (g1 : (zh_k h a0).1 = 8) : zv 3 157 6 [.ref a0, .int x1, u2, u3, u4] [.int s0] h = (zv 1 144 0 [.ref a0, .int s0, .int 0] [] h).bind fun r => zv 3 157 23 [.ref a0, .int x1, .int s0, .int (((zh_i h a0 5) + 1) / 2), u4] (r.1.toList ++ [.ref a0]) r.2 := by
  refine Eq.trans (zv_next f157_6 rfl) ?_
  refine Eq.trans (zv_next f157_7 rfl) ?_
  refine Eq.trans (zs_geti f157_8 g0 g1) ?_
  refine Eq.trans (zs_ic f157_11 ic_1) ?_
  refine Eq.trans (zv_next f157_12 rfl) ?_
  refine Eq.trans (zs_ic f157_13 ic_2) ?_
  refine Eq.trans (zs_idiv f157_14 (by decide)) ?_
  refine Eq.trans (zv_next f157_15 rfl) ?_
  refine Eq.trans (zv_next f157_16 rfl) ?_
  refine Eq.trans (zv_next f157_17 rfl) ?_
  refine Eq.trans (zv_next f157_18 rfl) ?_
  refine Eq.trans (zs_ic f157_19 ic_0) ?_
  exact zs_callV f157_20 (Nat.le_of_ble_eq_true rfl) (Nat.le_of_ble_eq_true rfl) rfl g0 g1 me_144 (by decide) rfl
theorem b157_23 {h : zi_Hp} {a0 : Nat} {x1 : Int32} {x2 : Int32} {x3 : Int32} {u4 : Value} {t0 : Nat} {s1 : Int32} (g0 : a0 < zh_n h) (g1 : (zh_k h a0).1 = 8) : zv 3 157 23 [.ref a0, .int x1, .int x2, .int x3, u4] [.int s1, .ref t0] h = (zv 1 144 0 [.ref a0, .int x2, .int 2] [] h).bind fun r => zv 3 157 29 [.ref a0, .int x1, .int x2, .int x3, u4] (r.1.toList ++ [.int s1, .ref t0]) r.2 := by
  refine Eq.trans (zv_next f157_23 rfl) ?_
  refine Eq.trans (zv_next f157_24 rfl) ?_
  refine Eq.trans (zs_ic f157_25 ic_2) ?_
  exact zs_callV f157_26 (Nat.le_of_ble_eq_true rfl) (Nat.le_of_ble_eq_true rfl) rfl g0 g1 me_144 (by decide) rfl
theorem b157_29 {h : zi_Hp} {a0 : Nat} {x1 : Int32} {x2 : Int32} {x3 : Int32} {u4 : Value} {t0 : Nat} {s1 : Int32} {s2 : Int32} (g0 : a0 < zh_n h) (g1 : (zh_k h a0).1 = 8) : zv 3 157 29 [.ref a0, .int x1, .int x2, .int x3, u4] [.int s2, .int s1, .ref t0] h = (zv 1 144 0 [.ref a0, .int x2, .int 3] [] h).bind fun r => zv 3 157 35 [.ref a0, .int x1, .int x2, .int x3, u4] (r.1.toList ++ [.int s2, .int s1, .ref t0]) r.2 := by
  refine Eq.trans (zv_next f157_29 rfl) ?_
  refine Eq.trans (zv_next f157_30 rfl) ?_
  refine Eq.trans (zs_ic f157_31 ic_3) ?_
  exact zs_callV f157_32 (Nat.le_of_ble_eq_true rfl) (Nat.le_of_ble_eq_true rfl) rfl g0 g1 me_144 (by decide) rfl
theorem b157_35 {h : zi_Hp} {a0 : Nat} {x1 : Int32} {x2 : Int32} {x3 : Int32} {u4 : Value} {t0 : Nat} {s1 : Int32} {s2 : Int32} {s3 : Int32} (g0 : t0 < zh_n h) (g1 : (zh_k h t0).1 = 8) : zv 3 157 35 [.ref a0, .int x1, .int x2, .int x3, u4] [.int s3, .int s2, .int s1, .ref t0] h = (zv 2 155 0 [.ref t0, .int s1, .int s2, .int s3, .double 0] [] h).bind fun r => zv 3 157 38 [.ref a0, .int x1, .int x2, .int x3, u4] (r.1.toList ++ []) r.2 := by
  exact zs_callV f157_35 (Nat.le_of_ble_eq_true rfl) (Nat.le_of_ble_eq_true rfl) rfl g0 g1 me_155 (by decide) rfl
theorem b157_38 {h : zi_Hp} {a0 : Nat} {x1 : Int32} {x2 : Int32} {x3 : Int32} {u4 : Value} {s0 : Int32} (g0 : a0 < zh_n h) (g1 : (zh_k h a0).1 = 8) : zv 3 157 38 [.ref a0, .int x1, .int x2, .int x3, u4] [.int s0] h = (zv 2 154 0 [.ref a0, .int s0, .int x3, .int (zh_i h a0 5), .double 0] [] h).bind fun r => zv 3 157 51 [.ref a0, .int x1, .int x2, .int x3, .int s0] (r.1.toList ++ []) r.2 := by
  refine Eq.trans (zv_next f157_38 rfl) ?_
  refine Eq.trans (zv_next f157_40 rfl) ?_
  refine Eq.trans (zv_next f157_41 rfl) ?_
  refine Eq.trans (zv_next f157_43 rfl) ?_
  refine Eq.trans (zv_next f157_44 rfl) ?_
  refine Eq.trans (zs_geti f157_45 g0 g1) ?_
  exact zs_callV f157_48 (Nat.le_of_ble_eq_true rfl) (Nat.le_of_ble_eq_true rfl) rfl g0 g1 me_154 (by decide) rfl
theorem b157_51 {h : zi_Hp} {a0 : Nat} {x1 : Int32} {x2 : Int32} {x3 : Int32} {x4 : Int32} (g0 : a0 < zh_n h) (g1 : (zh_k h a0).1 = 8) : zv 3 157 51 [.ref a0, .int x1, .int x2, .int x3, .int x4] [] h = (zv 2 154 0 [.ref a0, .int x2, .int 0, .int x3, .double 0] [] h).bind fun r => zv 3 157 58 [.ref a0, .int x1, .int x2, .int x3, .int x4] (r.1.toList ++ []) r.2 := by
  refine Eq.trans (zv_next f157_51 rfl) ?_
  refine Eq.trans (zv_next f157_52 rfl) ?_
  refine Eq.trans (zs_ic f157_53 ic_0) ?_
  refine Eq.trans (zv_next f157_54 rfl) ?_
  exact zs_callV f157_55 (Nat.le_of_ble_eq_true rfl) (Nat.le_of_ble_eq_true rfl) rfl g0 g1 me_154 (by decide) rfl
theorem b157_58 {h : zi_Hp} {a0 : Nat} {x1 : Int32} {x2 : Int32} {x3 : Int32} {x4 : Int32} (g0 : a0 < zh_n h) (g1 : (zh_k h a0).1 = 8) : zv 3 157 58 [.ref a0, .int x1, .int x2, .int x3, .int x4] [] h = (zv 1 145 0 [.ref a0, .int x2, .int 3, .int x4] [] h).bind fun r => zv 3 157 66 [.ref a0, .int x1, .int x2, .int x3, .int x4] (r.1.toList ++ []) r.2 := by
  refine Eq.trans (zv_next f157_58 rfl) ?_
  refine Eq.trans (zv_next f157_59 rfl) ?_
  refine Eq.trans (zs_ic f157_60 ic_3) ?_
  refine Eq.trans (zv_next f157_61 rfl) ?_
  exact zs_callV f157_63 (Nat.le_of_ble_eq_true rfl) (Nat.le_of_ble_eq_true rfl) rfl g0 g1 me_145 (by decide) rfl
theorem b157_66 {h : zi_Hp} {a0 : Nat} {x1 : Int32} {x2 : Int32} {x3 : Int32} {x4 : Int32} (g0 : a0 < zh_n h) (g1 : (zh_k h a0).1 = 8) (g2 : zh_r h a0 3 = .ref (zq (zh_r h a0 3))) (g3 : (zq (zh_r h a0 3)) < zh_n h) (g4 : ¬ ((x3 - 1) < 0 ∨ (zh_k h (zq (zh_r h a0 3))).2 ≤ (x3 - 1).toNatClampNeg)) (g5 : (zh_k h (zq (zh_r h a0 3))).1 = 100) : zv 3 157 66 [.ref a0, .int x1, .int x2, .int x3, .int x4] [] h = (zv 1 145 0 [.ref a0, .int x2, .int 2, .int (zh_i h (zq (zh_r h a0 3)) (x3 - 1).toNatClampNeg)] [] h).bind fun r => zv 3 157 80 [.ref a0, .int x1, .int x2, .int x3, .int x4] (r.1.toList ++ []) r.2 := by
  refine Eq.trans (zv_next f157_66 rfl) ?_
  refine Eq.trans (zv_next f157_67 rfl) ?_
  refine Eq.trans (zs_ic f157_68 ic_2) ?_
  refine Eq.trans (zv_next f157_69 rfl) ?_
  refine Eq.trans (zs_getr f157_70 g0 g1 g2) ?_
  refine Eq.trans (zv_next f157_73 rfl) ?_
  refine Eq.trans (zs_ic f157_74 ic_1) ?_
  refine Eq.trans (zv_next f157_75 rfl) ?_
  refine Eq.trans (zs_iald f157_76 g3 g5 g4) ?_
  exact zs_callV f157_77 (Nat.le_of_ble_eq_true rfl) (Nat.le_of_ble_eq_true rfl) rfl g0 g1 me_145 (by decide) rfl
theorem b157_80 {h : zi_Hp} {a0 : Nat} {x1 : Int32} {x2 : Int32} {x3 : Int32} {x4 : Int32} (g0 : a0 < zh_n h) (g1 : (zh_k h a0).1 = 8) (g2 : zh_r h a0 3 = .ref (zq (zh_r h a0 3))) (g3 : (zq (zh_r h a0 3)) < zh_n h) (g4 : ¬ ((x3 - 1) < 0 ∨ (zh_k h (zq (zh_r h a0 3))).2 ≤ (x3 - 1).toNatClampNeg)) (g5 : (zh_k h (zq (zh_r h a0 3))).1 = 100) : zv 3 157 80 [.ref a0, .int x1, .int x2, .int x3, .int x4] [] h = (zv 1 144 0 [.ref a0, .int x2, .int 0] [] h).bind fun r => zv 3 157 98 [.ref a0, .int x1, .int x2, .int x3, .int x4] (r.1.toList ++ [.int x4, .int (zh_i h (zq (zh_r h a0 3)) (x3 - 1).toNatClampNeg), .int x1, .ref a0]) r.2 := by
  refine Eq.trans (zv_next f157_80 rfl) ?_
  refine Eq.trans (zv_next f157_81 rfl) ?_
  refine Eq.trans (zv_next f157_82 rfl) ?_
  refine Eq.trans (zs_getr f157_83 g0 g1 g2) ?_
  refine Eq.trans (zv_next f157_86 rfl) ?_
  refine Eq.trans (zs_ic f157_87 ic_1) ?_
  refine Eq.trans (zv_next f157_88 rfl) ?_
  refine Eq.trans (zs_iald f157_89 g3 g5 g4) ?_
  refine Eq.trans (zv_next f157_90 rfl) ?_
  refine Eq.trans (zv_next f157_92 rfl) ?_
  refine Eq.trans (zv_next f157_93 rfl) ?_
  refine Eq.trans (zs_ic f157_94 ic_0) ?_
  exact zs_callV f157_95 (Nat.le_of_ble_eq_true rfl) (Nat.le_of_ble_eq_true rfl) rfl g0 g1 me_144 (by decide) rfl
theorem b157_98 {h : zi_Hp} {a0 : Nat} {x1 : Int32} {x2 : Int32} {x3 : Int32} {x4 : Int32} {t0 : Nat} {s1 : Int32} {s2 : Int32} {s3 : Int32} {s4 : Int32} (g0 : t0 < zh_n h) (g1 : (zh_k h t0).1 = 8) : zv 3 157 98 [.ref a0, .int x1, .int x2, .int x3, .int x4] [.int s4, .int s3, .int s2, .int s1, .ref t0] h = (zv 2 156 0 [.ref t0, .int s1, .int s2, .int s3, .int (s4 + 1), .int 0, .double 0] [] h).bind fun r => zv 3 157 104 [.ref a0, .int x1, .int x2, .int x3, .int x4] (r.1.toList ++ []) r.2 := by
  refine Eq.trans (zs_ic f157_98 ic_1) ?_
  refine Eq.trans (zv_next f157_99 rfl) ?_
  refine Eq.trans (zs_ic f157_100 ic_0) ?_
  exact zs_callV f157_101 (Nat.le_of_ble_eq_true rfl) (Nat.le_of_ble_eq_true rfl) rfl g0 g1 me_156 (by decide) rfl
theorem b157_104 {h : zi_Hp} {a0 : Nat} {x1 : Int32} {x2 : Int32} {x3 : Int32} {x4 : Int32}  : zv 3 157 104 [.ref a0, .int x1, .int x2, .int x3, .int x4] [] h = some (none, h) := by
  exact zv_ret f157_104 rfl
set_option maxRecDepth 20000 in
theorem zq158 : zi_M[158]? = some zi_m158 := rfl
theorem zl158_0 {pc : Nat} (_ : 0 ≤ pc) : zi_fe 158 pc = zu158_0.lookup pc := zi_feA zq158 pc
theorem f158_0 : zi_fe 158 0 = some ((.aload_n 0), 1, 0, 0, 0, 0, 0) := (zl158_0 (Nat.le_of_ble_eq_true rfl)).trans rfl
theorem f158_1 : zi_fe 158 1 = some ((.iload_n 1), 1, 0, 0, 0, 0, 0) := (zl158_0 (Nat.le_of_ble_eq_true rfl)).trans rfl
theorem f158_2 : zi_fe 158 2 = some ((.iconst 0), 1, 0, 0, 0, 0, 0) := (zl158_0 (Nat.le_of_ble_eq_true rfl)).trans rfl
theorem f158_3 : zi_fe 158 3 = some ((.iconst 5), 1, 0, 0, 0, 0, 0) := (zl158_0 (Nat.le_of_ble_eq_true rfl)).trans rfl
theorem f158_4 : zi_fe 158 4 = some ((.invokevirtual 102), 3, 147, 0, 8, 1253, 4) := (zl158_0 (Nat.le_of_ble_eq_true rfl)).trans rfl
theorem f158_7 : zi_fe 158 7 = some ((.iload_n 2), 1, 0, 0, 0, 0, 0) := (zl158_0 (Nat.le_of_ble_eq_true rfl)).trans rfl
theorem f158_8 : zi_fe 158 8 = some (.ireturn, 1, 0, 0, 0, 0, 0) := (zl158_0 (Nat.le_of_ble_eq_true rfl)).trans rfl
theorem b158_0 {h : zi_Hp} {a0 : Nat} {x1 : Int32} {x2 : Int32} (g0 : a0 < zh_n h) (g1 : (zh_k h a0).1 = 8) : zv 2 158 0 [.ref a0, .int x1, .int x2] [] h = (zv 1 147 0 [.ref a0, .int x1, .int 0, .int 5] [] h).bind fun r => zv 2 158 7 [.ref a0, .int x1, .int x2] (r.1.toList ++ []) r.2 := by
  refine Eq.trans (zv_next f158_0 rfl) ?_
  refine Eq.trans (zv_next f158_1 rfl) ?_
  refine Eq.trans (zs_ic f158_2 ic_0) ?_
  refine Eq.trans (zs_ic f158_3 ic_5) ?_
  exact zs_callV f158_4 (Nat.le_of_ble_eq_true rfl) (Nat.le_of_ble_eq_true rfl) rfl g0 g1 me_147 (by decide) rfl
theorem b158_7 {h : zi_Hp} {a0 : Nat} {x1 : Int32} {x2 : Int32}  : zv 2 158 7 [.ref a0, .int x1, .int x2] [] h = some (some (.int x2), h) := by
  refine Eq.trans (zv_next f158_7 rfl) ?_
  exact zs_ret0 f158_8
set_option maxRecDepth 20000 in
theorem zq159 : zi_M[159]? = some zi_m159 := rfl
theorem zl159_0 {pc : Nat} (_ : 0 ≤ pc) : zi_fe 159 pc = zu159_0.lookup pc := zi_feA zq159 pc
theorem f159_0 : zi_fe 159 0 = some ((.aload_n 0), 1, 0, 0, 0, 0, 0) := (zl159_0 (Nat.le_of_ble_eq_true rfl)).trans rfl
theorem f159_1 : zi_fe 159 1 = some ((.iload_n 1), 1, 0, 0, 0, 0, 0) := (zl159_0 (Nat.le_of_ble_eq_true rfl)).trans rfl
theorem f159_2 : zi_fe 159 2 = some ((.iconst 4), 1, 0, 0, 0, 0, 0) := (zl159_0 (Nat.le_of_ble_eq_true rfl)).trans rfl
theorem f159_3 : zi_fe 159 3 = some ((.iload_n 2), 1, 0, 0, 0, 0, 0) := (zl159_0 (Nat.le_of_ble_eq_true rfl)).trans rfl
theorem f159_4 : zi_fe 159 4 = some ((.invokevirtual 102), 3, 147, 0, 8, 1253, 4) := (zl159_0 (Nat.le_of_ble_eq_true rfl)).trans rfl
theorem f159_7 : zi_fe 159 7 = some ((.aload_n 0), 1, 0, 0, 0, 0, 0) := (zl159_0 (Nat.le_of_ble_eq_true rfl)).trans rfl
theorem f159_8 : zi_fe 159 8 = some ((.iload_n 1), 1, 0, 0, 0, 0, 0) := (zl159_0 (Nat.le_of_ble_eq_true rfl)).trans rfl
theorem f159_9 : zi_fe 159 9 = some ((.iconst 3), 1, 0, 0, 0, 0, 0) := (zl159_0 (Nat.le_of_ble_eq_true rfl)).trans rfl
theorem f159_10 : zi_fe 159 10 = some ((.invokevirtual 116), 3, 158, 0, 8, 1319, 3) := (zl159_0 (Nat.le_of_ble_eq_true rfl)).trans rfl
theorem f159_13 : zi_fe 159 13 = some (.ireturn, 1, 0, 0, 0, 0, 0) := (zl159_0 (Nat.le_of_ble_eq_true rfl)).trans rfl
theorem b159_0 {h : zi_Hp} {a0 : Nat} {x1 : Int32} {x2 : Int32} (g0 : a0 < zh_n h) (g1 : (zh_k h a0).1 = 8) : zv 3 159 0 [.ref a0, .int x1, .int x2] [] h = (zv 1 147 0 [.ref a0, .int x1, .int 4, .int x2] [] h).bind fun r => zv 3 159 7 [.ref a0, .int x1, .int x2] (r.1.toList ++ []) r.2 := by
  refine Eq.trans (zv_next f159_0 rfl) ?_
  refine Eq.trans (zv_next f159_1 rfl) ?_
  refine Eq.trans (zs_ic f159_2 ic_4) ?_
  refine Eq.trans (zv_next f159_3 rfl) ?_
  exact zs_callV f159_4 (Nat.le_of_ble_eq_true rfl) (Nat.le_of_ble_eq_true rfl) rfl g0 g1 me_147 (by decide) rfl
theorem b159_7 {h : zi_Hp} {a0 : Nat} {x1 : Int32} {x2 : Int32} (g0 : a0 < zh_n h) (g1 : (zh_k h a0).1 = 8) : zv 3 159 7 [.ref a0, .int x1, .int x2] [] h = (zv 2 158 0 [.ref a0, .int x1, .int 3] [] h).bind fun r => zv 3 159 13 [.ref a0, .int x1, .int x2] (r.1.toList ++ []) r.2 := by
  refine Eq.trans (zv_next f159_7 rfl) ?_
  refine Eq.trans (zv_next f159_8 rfl) ?_
  refine Eq.trans (zs_ic f159_9 ic_3) ?_
  exact zs_callV f159_10 (Nat.le_of_ble_eq_true rfl) (Nat.le_of_ble_eq_true rfl) rfl g0 g1 me_158 (by decide) rfl
theorem b159_13 {h : zi_Hp} {a0 : Nat} {x1 : Int32} {x2 : Int32} {s0 : Int32}  : zv 3 159 13 [.ref a0, .int x1, .int x2] [.int s0] h = some (some (.int s0), h) := by
  exact zs_ret0 f159_13
set_option maxRecDepth 20000 in
theorem zq160 : zi_M[160]? = some zi_m160 := rfl
theorem zl160_0 {pc : Nat} (_ : 0 ≤ pc) : zi_fe 160 pc = zu160_0.lookup pc := zi_feA zq160 pc
theorem f160_0 : zi_fe 160 0 = some ((.aload_n 0), 1, 0, 0, 0, 0, 0) := (zl160_0 (Nat.le_of_ble_eq_true rfl)).trans rfl
theorem f160_1 : zi_fe 160 1 = some ((.iload_n 1), 1, 0, 0, 0, 0, 0) := (zl160_0 (Nat.le_of_ble_eq_true rfl)).trans rfl
theorem f160_2 : zi_fe 160 2 = some ((.iconst 3), 1, 0, 0, 0, 0, 0) := (zl160_0 (Nat.le_of_ble_eq_true rfl)).trans rfl
theorem f160_3 : zi_fe 160 3 = some ((.aload_n 0), 1, 0, 0, 0, 0, 0) := (zl160_0 (Nat.le_of_ble_eq_true rfl)).trans rfl
theorem f160_4 : zi_fe 160 4 = some ((.aload_n 0), 1, 0, 0, 0, 0, 0) := (zl160_0 (Nat.le_of_ble_eq_true rfl)).trans rfl
theorem f160_5 : zi_fe 160 5 = some ((.iload_n 1), 1, 0, 0, 0, 0, 0) := (zl160_0 (Nat.le_of_ble_eq_true rfl)).trans rfl
theorem f160_6 : zi_fe 160 6 = some ((.iconst 3), 1, 0, 0, 0, 0, 0) := (zl160_0 (Nat.le_of_ble_eq_true rfl)).trans rfl
theorem f160_7 : zi_fe 160 7 = some ((.invokevirtual 83), 3, 146, 0, 8, 1276, 3) := (zl160_0 (Nat.le_of_ble_eq_true rfl)).trans rfl
theorem f160_10 : zi_fe 160 10 = some ((.iconst 3), 1, 0, 0, 0, 0, 0) := (zl160_0 (Nat.le_of_ble_eq_true rfl)).trans rfl
theorem f160_11 : zi_fe 160 11 = some ((.invokevirtual 87), 3, 144, 0, 8, 1261, 3) := (zl160_0 (Nat.le_of_ble_eq_true rfl)).trans rfl
theorem f160_14 : zi_fe 160 14 = some ((.invokevirtual 102), 3, 147, 0, 8, 1253, 4) := (zl160_0 (Nat.le_of_ble_eq_true rfl)).trans rfl
theorem f160_17 : zi_fe 160 17 = some ((.iconst 1), 1, 0, 0, 0, 0, 0) := (zl160_0 (Nat.le_of_ble_eq_true rfl)).trans rfl
theorem zl160_1 {pc : Nat} (h : 18 ≤ pc) : zi_fe 160 pc = zu160_1.lookup pc := (zl160_0 (Nat.le_trans (Nat.le_of_ble_eq_true rfl) h)).trans (zi_lkA (a := zi_i160_0) (c := 18) rfl h)
theorem f160_18 : zi_fe 160 18 = some (.ireturn, 1, 0, 0, 0, 0, 0) := (zl160_1 (Nat.le_of_ble_eq_true rfl)).trans rfl
theorem b160_0 {h : zi_Hp} {a0 : Nat} {x1 : Int32} (g0 : a0 < zh_n h) (g1 : (zh_k h a0).1 = 8) : zv 2 160 0 [.ref a0, .int x1] [] h = (zv 1 146 0 [.ref a0, .int x1, .int 3] [] h).bind fun r => zv 2 160 10 [.ref a0, .int x1] (r.1.toList ++ [.ref a0, .int 3, .int x1, .ref a0]) r.2 := by
  refine Eq.trans (zv_next f160_0 rfl) ?_
  refine Eq.trans (zv_next f160_1 rfl) ?_
  refine Eq.trans (zs_ic f160_2 ic_3) ?_
  refine Eq.trans (zv_next f160_3 rfl) ?_
  refine Eq.trans (zv_next f160_4 rfl) ?_
  refine Eq.trans (zv_next f160_5 rfl) ?_
  refine Eq.trans (zs_ic f160_6 ic_3) ?_
  exact zs_callV f160_7 (Nat.le_of_ble_eq_true rfl) (Nat.le_of_ble_eq_true rfl) rfl g0 g1 me_146 (by decide) rfl
theorem b160_10 {h : zi_Hp} {a0 : Nat} {x1 : Int32} {t0 : Nat} {s1 : Int32} {s2 : Int32} {t3 : Nat} {s4 : Int32} (g0 : t3 < zh_n h) (g1 : (zh_k h t3).1 = 8) : zv 2 160 10 [.ref a0, .int x1] [.int s4, .ref t3, .int s2, .int s1, .ref t0] h = (zv 1 144 0 [.ref t3, .int s4, .int 3] [] h).bind fun r => zv 2 160 14 [.ref a0, .int x1] (r.1.toList ++ [.int s2, .int s1, .ref t0]) r.2 := by
  refine Eq.trans (zs_ic f160_10 ic_3) ?_
  exact zs_callV f160_11 (Nat.le_of_ble_eq_true rfl) (Nat.le_of_ble_eq_true rfl) rfl g0 g1 me_144 (by decide) rfl
theorem b160_14 {h : zi_Hp} {a0 : Nat} {x1 : Int32} {t0 : Nat} {s1 : Int32} {s2 : Int32} {s3 : Int32} (g0 : t0 < zh_n h) (g1 : (zh_k h t0).1 = 8) : zv 2 160 14 [.ref a0, .int x1] [.int s3, .int s2, .int s1, .ref t0] h = (zv 1 147 0 [.ref t0, .int s1, .int s2, .int s3] [] h).bind fun r => zv 2 160 17 [.ref a0, .int x1] (r.1.toList ++ []) r.2 := by
  exact zs_callV f160_14 (Nat.le_of_ble_eq_true rfl) (Nat.le_of_ble_eq_true rfl) rfl g0 g1 me_147 (by decide) rfl
theorem b160_17 {h : zi_Hp} {a0 : Nat} {x1 : Int32}  : zv 2 160 17 [.ref a0, .int x1] [] h = some (some (.int 1), h) := by
  refine Eq.trans (zs_ic f160_17 ic_1) ?_
  exact zs_ret0 f160_18
set_option maxRecDepth 20000 in
theorem zq161 : zi_M[161]? = some zi_m161 := rfl
theorem zl161_0 {pc : Nat} (_ : 0 ≤ pc) : zi_fe 161 pc = zu161_0.lookup pc := zi_feA zq161 pc
theorem f161_0 : zi_fe 161 0 = some ((.aload_n 0), 1, 0, 0, 0, 0, 0) := (zl161_0 (Nat.le_of_ble_eq_true rfl)).trans rfl
theorem f161_1 : zi_fe 161 1 = some ((.iload_n 1), 1, 0, 0, 0, 0, 0) := (zl161_0 (Nat.le_of_ble_eq_true rfl)).trans rfl
theorem f161_2 : zi_fe 161 2 = some ((.iconst 3), 1, 0, 0, 0, 0, 0) := (zl161_0 (Nat.le_of_ble_eq_true rfl)).trans rfl
theorem f161_3 : zi_fe 161 3 = some ((.invokevirtual 83), 3, 146, 0, 8, 1276, 3) := (zl161_0 (Nat.le_of_ble_eq_true rfl)).trans rfl
theorem f161_6 : zi_fe 161 6 = some ((.istore_n 3), 1, 0, 0, 0, 0, 0) := (zl161_0 (Nat.le_of_ble_eq_true rfl)).trans rfl
theorem f161_7 : zi_fe 161 7 = some ((.aload_n 0), 1, 0, 0, 0, 0, 0) := (zl161_0 (Nat.le_of_ble_eq_true rfl)).trans rfl
theorem f161_8 : zi_fe 161 8 = some ((.iload_n 1), 1, 0, 0, 0, 0, 0) := (zl161_0 (Nat.le_of_ble_eq_true rfl)).trans rfl
theorem f161_9 : zi_fe 161 9 = some ((.iconst 3), 1, 0, 0, 0, 0, 0) := (zl161_0 (Nat.le_of_ble_eq_true rfl)).trans rfl
theorem f161_10 : zi_fe 161 10 = some ((.aload_n 0), 1, 0, 0, 0, 0, 0) := (zl161_0 (Nat.le_of_ble_eq_true rfl)).trans rfl
theorem f161_11 : zi_fe 161 11 = some ((.iload_n 3), 1, 0, 0, 0, 0, 0) := (zl161_0 (Nat.le_of_ble_eq_true rfl)).trans rfl
theorem f161_12 : zi_fe 161 12 = some ((.bipush 9), 2, 0, 0, 0, 0, 0) := (zl161_0 (Nat.le_of_ble_eq_true rfl)).trans rfl
theorem f161_14 : zi_fe 161 14 = some ((.aload_n 0), 1, 0, 0, 0, 0, 0) := (zl161_0 (Nat.le_of_ble_eq_true rfl)).trans rfl
theorem zl161_1 {pc : Nat} (h : 15 ≤ pc) : zi_fe 161 pc = zu161_1.lookup pc := (zl161_0 (Nat.le_trans (Nat.le_of_ble_eq_true rfl) h)).trans (zi_lkA (a := zi_i161_0) (c := 15) rfl h)
theorem f161_15 : zi_fe 161 15 = some ((.iload_n 3), 1, 0, 0, 0, 0, 0) := (zl161_1 (Nat.le_of_ble_eq_true rfl)).trans rfl
theorem f161_16 : zi_fe 161 16 = some ((.iload_n 2), 1, 0, 0, 0, 0, 0) := (zl161_1 (Nat.le_of_ble_eq_true rfl)).trans rfl
theorem f161_17 : zi_fe 161 17 = some ((.invokevirtual 119), 3, 152, 0, 8, 1311, 3) := (zl161_1 (Nat.le_of_ble_eq_true rfl)).trans rfl
theorem f161_20 : zi_fe 161 20 = some (.iadd, 1, 0, 0, 0, 0, 0) := (zl161_1 (Nat.le_of_ble_eq_true rfl)).trans rfl
theorem f161_21 : zi_fe 161 21 = some ((.invokevirtual 87), 3, 144, 0, 8, 1261, 3) := (zl161_1 (Nat.le_of_ble_eq_true rfl)).trans rfl
theorem f161_24 : zi_fe 161 24 = some ((.invokevirtual 102), 3, 147, 0, 8, 1253, 4) := (zl161_1 (Nat.le_of_ble_eq_true rfl)).trans rfl
theorem f161_27 : zi_fe 161 27 = some ((.iconst 2), 1, 0, 0, 0, 0, 0) := (zl161_1 (Nat.le_of_ble_eq_true rfl)).trans rfl
theorem f161_28 : zi_fe 161 28 = some (.ireturn, 1, 0, 0, 0, 0, 0) := (zl161_1 (Nat.le_of_ble_eq_true rfl)).trans rfl
theorem b161_0 {h : zi_Hp} {a0 : Nat} {x1 : Int32} {x2 : Int32} {u3 : Value} (g0 : a0 < zh_n h) (g1 : (zh_k h a0).1 = 8) : zv 3 161 0 [.ref a0, .int x1, .int x2, u3] [] h = (zv 1 146 0 [.ref a0, .int x1, .int 3] [] h).bind fun r => zv 3 161 6 [.ref a0, .int x1, .int x2, u3] (r.1.toList ++ []) r.2 := by
  refine Eq.trans (zv_next f161_0 rfl) ?_
  refine Eq.trans (zv_next f161_1 rfl) ?_
  refine Eq.trans (zs_ic f161_2 ic_3) ?_
  exact zs_callV f161_3 (Nat.le_of_ble_eq_true rfl) (Nat.le_of_ble_eq_true rfl) rfl g0 g1 me_146 (by decide) rfl
theorem b161_6 {h : zi_Hp} {a0 : Nat} {x1 : Int32} {x2 : Int32} {u3 : Value} {s0 : Int32} (g0 : a0 < zh_n h) (g1 : (zh_k h a0).1 = 8) : zv 3 161 6 [.ref a0, .int x1, .int x2, u3] [.int s0] h = (zv 2 152 0 [.ref a0, .int s0, .int x2, .double 0] [] h).bind fun r => zv 3 161 20 [.ref a0, .int x1, .int x2, .int s0] (r.1.toList ++ [.int 9, .int s0, .ref a0, .int 3, .int x1, .ref a0]) r.2 := by
  refine Eq.trans (zv_next f161_6 rfl) ?_
  refine Eq.trans (zv_next f161_7 rfl) ?_
  refine Eq.trans (zv_next f161_8 rfl) ?_
  refine Eq.trans (zs_ic f161_9 ic_3) ?_
  refine Eq.trans (zv_next f161_10 rfl) ?_
  refine Eq.trans (zv_next f161_11 rfl) ?_
  refine Eq.trans (zs_bp f161_12 bp_9) ?_
  refine Eq.trans (zv_next f161_14 rfl) ?_
  refine Eq.trans (zv_next f161_15 rfl) ?_
  refine Eq.trans (zv_next f161_16 rfl) ?_
  exact zs_callV f161_17 (Nat.le_of_ble_eq_true rfl) (Nat.le_of_ble_eq_true rfl) rfl g0 g1 me_152 (by decide) rfl
theorem b161_20 {h : zi_Hp} {a0 : Nat} {x1 : Int32} {x2 : Int32} {x3 : Int32} {t0 : Nat} {s1 : Int32} {s2 : Int32} {t3 : Nat} {s4 : Int32} {s5 : Int32} {s6 : Int32} (g0 : t3 < zh_n h) (g1 : (zh_k h t3).1 = 8) : zv 3 161 20 [.ref a0, .int x1, .int x2, .int x3] [.int s6, .int s5, .int s4, .ref t3, .int s2, .int s1, .ref t0] h = (zv 1 144 0 [.ref t3, .int s4, .int (s5 + s6)] [] h).bind fun r => zv 3 161 24 [.ref a0, .int x1, .int x2, .int x3] (r.1.toList ++ [.int s2, .int s1, .ref t0]) r.2 := by
  refine Eq.trans (zv_next f161_20 rfl) ?_
  exact zs_callV f161_21 (Nat.le_of_ble_eq_true rfl) (Nat.le_of_ble_eq_true rfl) rfl g0 g1 me_144 (by decide) rfl
theorem b161_24 {h : zi_Hp} {a0 : Nat} {x1 : Int32} {x2 : Int32} {x3 : Int32} {t0 : Nat} {s1 : Int32} {s2 : Int32} {s3 : Int32} (g0 : t0 < zh_n h) (g1 : (zh_k h t0).1 = 8) : zv 3 161 24 [.ref a0, .int x1, .int x2, .int x3] [.int s3, .int s2, .int s1, .ref t0] h = (zv 1 147 0 [.ref t0, .int s1, .int s2, .int s3] [] h).bind fun r => zv 3 161 27 [.ref a0, .int x1, .int x2, .int x3] (r.1.toList ++ []) r.2 := by
  exact zs_callV f161_24 (Nat.le_of_ble_eq_true rfl) (Nat.le_of_ble_eq_true rfl) rfl g0 g1 me_147 (by decide) rfl
theorem b161_27 {h : zi_Hp} {a0 : Nat} {x1 : Int32} {x2 : Int32} {x3 : Int32}  : zv 3 161 27 [.ref a0, .int x1, .int x2, .int x3] [] h = some (some (.int 2), h) := by
  refine Eq.trans (zs_ic f161_27 ic_2) ?_
  exact zs_ret0 f161_28
set_option maxRecDepth 20000 in
theorem zq162 : zi_M[162]? = some zi_m162 := rfl
theorem zl162_0 {pc : Nat} (_ : 0 ≤ pc) : zi_fe 162 pc = zu162_0.lookup pc := zi_feA zq162 pc
theorem f162_0 : zi_fe 162 0 = some ((.aload_n 0), 1, 0, 0, 0, 0, 0) := (zl162_0 (Nat.le_of_ble_eq_true rfl)).trans rfl
theorem f162_1 : zi_fe 162 1 = some ((.aload_n 0), 1, 0, 0, 0, 0, 0) := (zl162_0 (Nat.le_of_ble_eq_true rfl)).trans rfl
theorem f162_2 : zi_fe 162 2 = some ((.iload_n 1), 1, 0, 0, 0, 0, 0) := (zl162_0 (Nat.le_of_ble_eq_true rfl)).trans rfl
theorem f162_3 : zi_fe 162 3 = some ((.iconst 3), 1, 0, 0, 0, 0, 0) := (zl162_0 (Nat.le_of_ble_eq_true rfl)).trans rfl
theorem f162_4 : zi_fe 162 4 = some ((.invokevirtual 83), 3, 146, 0, 8, 1276, 3) := (zl162_0 (Nat.le_of_ble_eq_true rfl)).trans rfl
theorem f162_7 : zi_fe 162 7 = some ((.invokevirtual 122), 3, 149, 0, 8, 1287, 2) := (zl162_0 (Nat.le_of_ble_eq_true rfl)).trans rfl
theorem f162_10 : zi_fe 162 10 = some ((.bipush (-4)), 2, 0, 0, 0, 0, 0) := (zl162_0 (Nat.le_of_ble_eq_true rfl)).trans rfl
theorem f162_12 : zi_fe 162 12 = some ((.if_icmp .eq 5), 3, 0, 0, 0, 0, 0) := (zl162_0 (Nat.le_of_ble_eq_true rfl)).trans rfl
theorem f162_15 : zi_fe 162 15 = some ((.iconst 0), 1, 0, 0, 0, 0, 0) := (zl162_0 (Nat.le_of_ble_eq_true rfl)).trans rfl
theorem f162_16 : zi_fe 162 16 = some (.ireturn, 1, 0, 0, 0, 0, 0) := (zl162_0 (Nat.le_of_ble_eq_true rfl)).trans rfl
theorem f162_17 : zi_fe 162 17 = some ((.aload_n 0), 1, 0, 0, 0, 0, 0) := (zl162_0 (Nat.le_of_ble_eq_true rfl)).trans rfl
theorem f162_18 : zi_fe 162 18 = some ((.iload_n 1), 1, 0, 0, 0, 0, 0) := (zl162_0 (Nat.le_of_ble_eq_true rfl)).trans rfl
theorem zl162_1 {pc : Nat} (h : 19 ≤ pc) : zi_fe 162 pc = zu162_1.lookup pc := (zl162_0 (Nat.le_trans (Nat.le_of_ble_eq_true rfl) h)).trans (zi_lkA (a := zi_i162_0) (c := 19) rfl h)
theorem f162_19 : zi_fe 162 19 = some ((.iconst 0), 1, 0, 0, 0, 0, 0) := (zl162_1 (Nat.le_of_ble_eq_true rfl)).trans rfl
theorem f162_20 : zi_fe 162 20 = some ((.iload_n 2), 1, 0, 0, 0, 0, 0) := (zl162_1 (Nat.le_of_ble_eq_true rfl)).trans rfl
theorem f162_21 : zi_fe 162 21 = some ((.invokevirtual 102), 3, 147, 0, 8, 1253, 4) := (zl162_1 (Nat.le_of_ble_eq_true rfl)).trans rfl
theorem f162_24 : zi_fe 162 24 = some ((.iconst 4), 1, 0, 0, 0, 0, 0) := (zl162_1 (Nat.le_of_ble_eq_true rfl)).trans rfl
theorem f162_25 : zi_fe 162 25 = some (.ireturn, 1, 0, 0, 0, 0, 0) := (zl162_1 (Nat.le_of_ble_eq_true rfl)).trans rfl
theorem b162_0 {h : zi_Hp} {a0 : Nat} {x1 : Int32} {x2 : Int32} (g0 : a0 < zh_n h) (g1 : (zh_k h a0).1 = 8) : zv 3 162 0 [.ref a0, .int x1, .int x2] [] h = (zv 1 146 0 [.ref a0, .int x1, .int 3] [] h).bind fun r => zv 3 162 7 [.ref a0, .int x1, .int x2] (r.1.toList ++ [.ref a0]) r.2 := by
  refine Eq.trans (zv_next f162_0 rfl) ?_
  refine Eq.trans (zv_next f162_1 rfl) ?_
  refine Eq.trans (zv_next f162_2 rfl) ?_
  refine Eq.trans (zs_ic f162_3 ic_3) ?_
  exact zs_callV f162_4 (Nat.le_of_ble_eq_true rfl) (Nat.le_of_ble_eq_true rfl) rfl g0 g1 me_146 (by decide) rfl
theorem b162_7 {h : zi_Hp} {a0 : Nat} {x1 : Int32} {x2 : Int32} {t0 : Nat} {s1 : Int32} (g0 : t0 < zh_n h) (g1 : (zh_k h t0).1 = 8) : zv 3 162 7 [.ref a0, .int x1, .int x2] [.int s1, .ref t0] h = (zv 2 149 0 [.ref t0, .int s1, .double 0, .double 0, .double 0] [] h).bind fun r => zv 3 162 10 [.ref a0, .int x1, .int x2] (r.1.toList ++ []) r.2 := by
  exact zs_callV f162_7 (Nat.le_of_ble_eq_true rfl) (Nat.le_of_ble_eq_true rfl) rfl g0 g1 me_149 (by decide) rfl
theorem b162_10 {h : zi_Hp} {a0 : Nat} {x1 : Int32} {x2 : Int32} {s0 : Int32}  : zv 3 162 10 [.ref a0, .int x1, .int x2] [.int s0] h = if s0 = (-4) then zv 3 162 17 [.ref a0, .int x1, .int x2] [] h else zv 3 162 15 [.ref a0, .int x1, .int x2] [] h := by
  refine Eq.trans (zs_bp f162_10 bp_m4) ?_
  exact zs_icmp f162_12 rfl
theorem b162_15 {h : zi_Hp} {a0 : Nat} {x1 : Int32} {x2 : Int32}  : zv 3 162 15 [.ref a0, .int x1, .int x2] [] h = some (some (.int 0), h) := by
  refine Eq.trans (zs_ic f162_15 ic_0) ?_
  exact zs_ret0 f162_16
theorem b162_17 {h : zi_Hp} {a0 : Nat} {x1 : Int32} {x2 : Int32} (g0 : a0 < zh_n h) (g1 : (zh_k h a0).1 = 8) : zv 3 162 17 [.ref a0, .int x1, .int x2] [] h = (zv 1 147 0 [.ref a0, .int x1, .int 0, .int x2] [] h).bind fun r => zv 3 162 24 [.ref a0, .int x1, .int x2] (r.1.toList ++ []) r.2 := by
  refine Eq.trans (zv_next f162_17 rfl) ?_
  refine Eq.trans (zv_next f162_18 rfl) ?_
  refine Eq.trans (zs_ic f162_19 ic_0) ?_
  refine Eq.trans (zv_next f162_20 rfl) ?_
  exact zs_callV f162_21 (Nat.le_of_ble_eq_true rfl) (Nat.le_of_ble_eq_true rfl) rfl g0 g1 me_147 (by decide) rfl
theorem b162_24 {h : zi_Hp} {a0 : Nat} {x1 : Int32} {x2 : Int32}  : zv 3 162 24 [.ref a0, .int x1, .int x2] [] h = some (some (.int 4), h) := by
  refine Eq.trans (zs_ic f162_24 ic_4) ?_
  exact zs_ret0 f162_25
set_option maxRecDepth 20000 in
theorem zq163 : zi_M[163]? = some zi_m163 := rfl
theorem zl163_0 {pc : Nat} (_ : 0 ≤ pc) : zi_fe 163 pc = zu163_0.lookup pc := zi_feA zq163 pc
theorem f163_0 : zi_fe 163 0 = some ((.aload_n 0), 1, 0, 0, 0, 0, 0) := (zl163_0 (Nat.le_of_ble_eq_true rfl)).trans rfl
theorem f163_1 : zi_fe 163 1 = some ((.iload_n 1), 1, 0, 0, 0, 0, 0) := (zl163_0 (Nat.le_of_ble_eq_true rfl)).trans rfl
theorem f163_2 : zi_fe 163 2 = some ((.iconst 3), 1, 0, 0, 0, 0, 0) := (zl163_0 (Nat.le_of_ble_eq_true rfl)).trans rfl
theorem f163_3 : zi_fe 163 3 = some ((.invokevirtual 83), 3, 146, 0, 8, 1276, 3) := (zl163_0 (Nat.le_of_ble_eq_true rfl)).trans rfl
theorem f163_6 : zi_fe 163 6 = some ((.istore_n 2), 1, 0, 0, 0, 0, 0) := (zl163_0 (Nat.le_of_ble_eq_true rfl)).trans rfl
theorem f163_7 : zi_fe 163 7 = some ((.aload_n 0), 1, 0, 0, 0, 0, 0) := (zl163_0 (Nat.le_of_ble_eq_true rfl)).trans rfl
theorem f163_8 : zi_fe 163 8 = some ((.iload_n 1), 1, 0, 0, 0, 0, 0) := (zl163_0 (Nat.le_of_ble_eq_true rfl)).trans rfl
theorem f163_9 : zi_fe 163 9 = some ((.iconst 2), 1, 0, 0, 0, 0, 0) := (zl163_0 (Nat.le_of_ble_eq_true rfl)).trans rfl
theorem f163_10 : zi_fe 163 10 = some ((.invokevirtual 83), 3, 146, 0, 8, 1276, 3) := (zl163_0 (Nat.le_of_ble_eq_true rfl)).trans rfl
theorem f163_13 : zi_fe 163 13 = some ((.istore_n 3), 1, 0, 0, 0, 0, 0) := (zl163_0 (Nat.le_of_ble_eq_true rfl)).trans rfl
theorem f163_14 : zi_fe 163 14 = some ((.aload_n 0), 1, 0, 0, 0, 0, 0) := (zl163_0 (Nat.le_of_ble_eq_true rfl)).trans rfl
theorem f163_15 : zi_fe 163 15 = some ((.iload_n 2), 1, 0, 0, 0, 0, 0) := (zl163_0 (Nat.le_of_ble_eq_true rfl)).trans rfl
theorem zl163_1 {pc : Nat} (h : 16 ≤ pc) : zi_fe 163 pc = zu163_1.lookup pc := (zl163_0 (Nat.le_trans (Nat.le_of_ble_eq_true rfl) h)).trans (zi_lkA (a := zi_i163_0) (c := 16) rfl h)
theorem f163_16 : zi_fe 163 16 = some ((.iconst 4), 1, 0, 0, 0, 0, 0) := (zl163_1 (Nat.le_of_ble_eq_true rfl)).trans rfl
theorem f163_17 : zi_fe 163 17 = some ((.invokevirtual 87), 3, 144, 0, 8, 1261, 3) := (zl163_1 (Nat.le_of_ble_eq_true rfl)).trans rfl
theorem f163_20 : zi_fe 163 20 = some ((.iconst 1), 1, 0, 0, 0, 0, 0) := (zl163_1 (Nat.le_of_ble_eq_true rfl)).trans rfl
theorem f163_21 : zi_fe 163 21 = some ((.if_icmp .eq 13), 3, 0, 0, 0, 0, 0) := (zl163_1 (Nat.le_of_ble_eq_true rfl)).trans rfl
theorem f163_24 : zi_fe 163 24 = some ((.iload_n 3), 1, 0, 0, 0, 0, 0) := (zl163_1 (Nat.le_of_ble_eq_true rfl)).trans rfl
theorem f163_25 : zi_fe 163 25 = some ((.aload_n 0), 1, 0, 0, 0, 0, 0) := (zl163_1 (Nat.le_of_ble_eq_true rfl)).trans rfl
theorem f163_26 : zi_fe 163 26 = some ((.iload_n 2), 1, 0, 0, 0, 0, 0) := (zl163_1 (Nat.le_of_ble_eq_true rfl)).trans rfl
theorem f163_27 : zi_fe 163 27 = some ((.iconst 2), 1, 0, 0, 0, 0, 0) := (zl163_1 (Nat.le_of_ble_eq_true rfl)).trans rfl
theorem f163_28 : zi_fe 163 28 = some ((.invokevirtual 87), 3, 144, 0, 8, 1261, 3) := (zl163_1 (Nat.le_of_ble_eq_true rfl)).trans rfl
theorem f163_31 : zi_fe 163 31 = some ((.if_icmp .le 9), 3, 0, 0, 0, 0, 0) := (zl163_1 (Nat.le_of_ble_eq_true rfl)).trans rfl
theorem f163_34 : zi_fe 163 34 = some ((.aload_n 0), 1, 0, 0, 0, 0, 0) := (zl163_1 (Nat.le_of_ble_eq_true rfl)).trans rfl
theorem f163_35 : zi_fe 163 35 = some ((.iload_n 1), 1, 0, 0, 0, 0, 0) := (zl163_1 (Nat.le_of_ble_eq_true rfl)).trans rfl
theorem zl163_2 {pc : Nat} (h : 36 ≤ pc) : zi_fe 163 pc = zu163_2.lookup pc := (zl163_1 (Nat.le_trans (Nat.le_of_ble_eq_true rfl) h)).trans (zi_lkA (a := zi_i163_1) (c := 36) rfl h)
theorem f163_36 : zi_fe 163 36 = some ((.invokevirtual 126), 3, 160, 0, 8, 1303, 2) := (zl163_2 (Nat.le_of_ble_eq_true rfl)).trans rfl
theorem f163_39 : zi_fe 163 39 = some (.ireturn, 1, 0, 0, 0, 0, 0) := (zl163_2 (Nat.le_of_ble_eq_true rfl)).trans rfl
theorem f163_40 : zi_fe 163 40 = some ((.aload_n 0), 1, 0, 0, 0, 0, 0) := (zl163_2 (Nat.le_of_ble_eq_true rfl)).trans rfl
theorem f163_41 : zi_fe 163 41 = some ((.iload_n 2), 1, 0, 0, 0, 0, 0) := (zl163_2 (Nat.le_of_ble_eq_true rfl)).trans rfl
theorem f163_42 : zi_fe 163 42 = some ((.iconst 0), 1, 0, 0, 0, 0, 0) := (zl163_2 (Nat.le_of_ble_eq_true rfl)).trans rfl
theorem f163_43 : zi_fe 163 43 = some ((.invokevirtual 87), 3, 144, 0, 8, 1261, 3) := (zl163_2 (Nat.le_of_ble_eq_true rfl)).trans rfl
theorem f163_46 : zi_fe 163 46 = some ((.ifCond .le 25), 3, 0, 0, 0, 0, 0) := (zl163_2 (Nat.le_of_ble_eq_true rfl)).trans rfl
theorem f163_49 : zi_fe 163 49 = some ((.aload_n 0), 1, 0, 0, 0, 0, 0) := (zl163_2 (Nat.le_of_ble_eq_true rfl)).trans rfl
theorem f163_50 : zi_fe 163 50 = some ((.iload_n 1), 1, 0, 0, 0, 0, 0) := (zl163_2 (Nat.le_of_ble_eq_true rfl)).trans rfl
theorem f163_51 : zi_fe 163 51 = some ((.bipush 12), 2, 0, 0, 0, 0, 0) := (zl163_2 (Nat.le_of_ble_eq_true rfl)).trans rfl
theorem f163_53 : zi_fe 163 53 = some ((.aload_n 0), 1, 0, 0, 0, 0, 0) := (zl163_2 (Nat.le_of_ble_eq_true rfl)).trans rfl
theorem f163_54 : zi_fe 163 54 = some ((.iload_n 2), 1, 0, 0, 0, 0, 0) := (zl163_2 (Nat.le_of_ble_eq_true rfl)).trans rfl
theorem zl163_3 {pc : Nat} (h : 55 ≤ pc) : zi_fe 163 pc = zu163_3.lookup pc := (zl163_2 (Nat.le_trans (Nat.le_of_ble_eq_true rfl) h)).trans (zi_lkA (a := zi_i163_2) (c := 55) rfl h)
theorem f163_55 : zi_fe 163 55 = some ((.iconst 0), 1, 0, 0, 0, 0, 0) := (zl163_3 (Nat.le_of_ble_eq_true rfl)).trans rfl
theorem f163_56 : zi_fe 163 56 = some ((.invokevirtual 87), 3, 144, 0, 8, 1261, 3) := (zl163_3 (Nat.le_of_ble_eq_true rfl)).trans rfl
theorem f163_59 : zi_fe 163 59 = some (.iadd, 1, 0, 0, 0, 0, 0) := (zl163_3 (Nat.le_of_ble_eq_true rfl)).trans rfl
theorem f163_60 : zi_fe 163 60 = some ((.iload_n 2), 1, 0, 0, 0, 0, 0) := (zl163_3 (Nat.le_of_ble_eq_true rfl)).trans rfl
theorem f163_61 : zi_fe 163 61 = some ((.invokevirtual 102), 3, 147, 0, 8, 1253, 4) := (zl163_3 (Nat.le_of_ble_eq_true rfl)).trans rfl
theorem f163_64 : zi_fe 163 64 = some ((.aload_n 0), 1, 0, 0, 0, 0, 0) := (zl163_3 (Nat.le_of_ble_eq_true rfl)).trans rfl
theorem f163_65 : zi_fe 163 65 = some ((.iload_n 1), 1, 0, 0, 0, 0, 0) := (zl163_3 (Nat.le_of_ble_eq_true rfl)).trans rfl
theorem f163_66 : zi_fe 163 66 = some ((.iload_n 3), 1, 0, 0, 0, 0, 0) := (zl163_3 (Nat.le_of_ble_eq_true rfl)).trans rfl
theorem f163_67 : zi_fe 163 67 = some ((.invokevirtual 129), 3, 161, 0, 8, 1307, 3) := (zl163_3 (Nat.le_of_ble_eq_true rfl)).trans rfl
theorem f163_70 : zi_fe 163 70 = some (.ireturn, 1, 0, 0, 0, 0, 0) := (zl163_3 (Nat.le_of_ble_eq_true rfl)).trans rfl
theorem f163_71 : zi_fe 163 71 = some ((.aload_n 0), 1, 0, 0, 0, 0, 0) := (zl163_3 (Nat.le_of_ble_eq_true rfl)).trans rfl
theorem f163_72 : zi_fe 163 72 = some ((.iload_n 1), 1, 0, 0, 0, 0, 0) := (zl163_3 (Nat.le_of_ble_eq_true rfl)).trans rfl
theorem zl163_4 {pc : Nat} (h : 73 ≤ pc) : zi_fe 163 pc = zu163_4.lookup pc := (zl163_3 (Nat.le_trans (Nat.le_of_ble_eq_true rfl) h)).trans (zi_lkA (a := zi_i163_3) (c := 73) rfl h)
theorem f163_73 : zi_fe 163 73 = some ((.iconst 1), 1, 0, 0, 0, 0, 0) := (zl163_4 (Nat.le_of_ble_eq_true rfl)).trans rfl
theorem f163_74 : zi_fe 163 74 = some ((.invokevirtual 83), 3, 146, 0, 8, 1276, 3) := (zl163_4 (Nat.le_of_ble_eq_true rfl)).trans rfl
theorem f163_77 : zi_fe 163 77 = some ((.ifCond .ne 20), 3, 0, 0, 0, 0, 0) := (zl163_4 (Nat.le_of_ble_eq_true rfl)).trans rfl
theorem f163_80 : zi_fe 163 80 = some ((.aload_n 0), 1, 0, 0, 0, 0, 0) := (zl163_4 (Nat.le_of_ble_eq_true rfl)).trans rfl
theorem f163_81 : zi_fe 163 81 = some ((.iload_n 1), 1, 0, 0, 0, 0, 0) := (zl163_4 (Nat.le_of_ble_eq_true rfl)).trans rfl
theorem f163_82 : zi_fe 163 82 = some ((.aload_n 0), 1, 0, 0, 0, 0, 0) := (zl163_4 (Nat.le_of_ble_eq_true rfl)).trans rfl
theorem f163_83 : zi_fe 163 83 = some ((.iload_n 2), 1, 0, 0, 0, 0, 0) := (zl163_4 (Nat.le_of_ble_eq_true rfl)).trans rfl
theorem f163_84 : zi_fe 163 84 = some ((.iload_n 3), 1, 0, 0, 0, 0, 0) := (zl163_4 (Nat.le_of_ble_eq_true rfl)).trans rfl
theorem f163_85 : zi_fe 163 85 = some ((.invokevirtual 90), 3, 150, 0, 8, 1265, 3) := (zl163_4 (Nat.le_of_ble_eq_true rfl)).trans rfl
theorem f163_88 : zi_fe 163 88 = some ((.invokestatic 94), 3, 143, 1, 8, 1269, 1) := (zl163_4 (Nat.le_of_ble_eq_true rfl)).trans rfl
theorem f163_91 : zi_fe 163 91 = some ((.invokevirtual 132), 3, 159, 0, 8, 1315, 3) := (zl163_4 (Nat.le_of_ble_eq_true rfl)).trans rfl
theorem f163_94 : zi_fe 163 94 = some ((.goto 9), 3, 0, 0, 0, 0, 0) := (zl163_4 (Nat.le_of_ble_eq_true rfl)).trans rfl
theorem zl163_5 {pc : Nat} (h : 97 ≤ pc) : zi_fe 163 pc = zu163_5.lookup pc := (zl163_4 (Nat.le_trans (Nat.le_of_ble_eq_true rfl) h)).trans (zi_lkA (a := zi_i163_4) (c := 97) rfl h)
theorem f163_97 : zi_fe 163 97 = some ((.aload_n 0), 1, 0, 0, 0, 0, 0) := (zl163_5 (Nat.le_of_ble_eq_true rfl)).trans rfl
theorem f163_98 : zi_fe 163 98 = some ((.iload_n 1), 1, 0, 0, 0, 0, 0) := (zl163_5 (Nat.le_of_ble_eq_true rfl)).trans rfl
theorem f163_99 : zi_fe 163 99 = some ((.iconst 2), 1, 0, 0, 0, 0, 0) := (zl163_5 (Nat.le_of_ble_eq_true rfl)).trans rfl
theorem f163_100 : zi_fe 163 100 = some ((.invokevirtual 135), 3, 162, 0, 8, 1323, 3) := (zl163_5 (Nat.le_of_ble_eq_true rfl)).trans rfl
theorem f163_103 : zi_fe 163 103 = some (.ireturn, 1, 0, 0, 0, 0, 0) := (zl163_5 (Nat.le_of_ble_eq_true rfl)).trans rfl
theorem b163_0 {h : zi_Hp} {a0 : Nat} {x1 : Int32} {u2 : Value} {u3 : Value} (g0 : a0 < zh_n h) (g1 : (zh_k h a0).1 = 8) : zv 4 163 0 [.ref a0, .int x1, u2, u3] [] h = (zv 1 146 0 [.ref a0, .int x1, .int 3] [] h).bind fun r => zv 4 163 6 [.ref a0, .int x1, u2, u3] (r.1.toList ++ []) r.2 := by
  refine Eq.trans (zv_next f163_0 rfl) ?_
  refine Eq.trans (zv_next f163_1 rfl) ?_
  refine Eq.trans (zs_ic f163_2 ic_3) ?_
  exact zs_callV f163_3 (Nat.le_of_ble_eq_true rfl) (Nat.le_of_ble_eq_true rfl) rfl g0 g1 me_146 (by decide) rfl
theorem b163_6 {h : zi_Hp} {a0 : Nat} {x1 : Int32} {u2 : Value} {u3 : Value} {s0 : Int32} (g0 : a0 < zh_n h) (g1 : (zh_k h a0).1 = 8) : zv 4 163 6 [.ref a0, .int x1, u2, u3] [.int s0] h = (zv 1 146 0 [.ref a0, .int x1, .int 2] [] h).bind fun r => zv 4 163 13 [.ref a0, .int x1, .int s0, u3] (r.1.toList ++ []) r.2 := by
  refine Eq.trans (zv_next f163_6 rfl) ?_
  refine Eq.trans (zv_next f163_7 rfl) ?_
  refine Eq.trans (zv_next f163_8 rfl) ?_
  refine Eq.trans (zs_ic f163_9 ic_2) ?_
  exact zs_callV f163_10 (Nat.le_of_ble_eq_true rfl) (Nat.le_of_ble_eq_true rfl) rfl g0 g1 me_146 (by decide) rfl
theorem b163_13 {h : zi_Hp} {a0 : Nat} {x1 : Int32} {x2 : Int32} {u3 : Value} {s0 : Int32} (g0 : a0 < zh_n h) (g1 : (zh_k h a0).1 = 8) : zv 4 163 13 [.ref a0, .int x1, .int x2, u3] [.int s0] h = (zv 1 144 0 [.ref a0, .int x2, .int 4] [] h).bind fun r => zv 4 163 20 [.ref a0, .int x1, .int x2, .int s0] (r.1.toList ++ []) r.2 := by
  refine Eq.trans (zv_next f163_13 rfl) ?_
  refine Eq.trans (zv_next f163_14 rfl) ?_
  refine Eq.trans (zv_next f163_15 rfl) ?_
  refine Eq.trans (zs_ic f163_16 ic_4) ?_
  exact zs_callV f163_17 (Nat.le_of_ble_eq_true rfl) (Nat.le_of_ble_eq_true rfl) rfl g0 g1 me_144 (by decide) rfl
theorem b163_20 {h : zi_Hp} {a0 : Nat} {x1 : Int32} {x2 : Int32} {x3 : Int32} {s0 : Int32}  : zv 4 163 20 [.ref a0, .int x1, .int x2, .int x3] [.int s0] h = if s0 = 1 then zv 4 163 34 [.ref a0, .int x1, .int x2, .int x3] [] h else zv 4 163 24 [.ref a0, .int x1, .int x2, .int x3] [] h := by
  refine Eq.trans (zs_ic f163_20 ic_1) ?_
  exact zs_icmp f163_21 rfl
theorem b163_24 {h : zi_Hp} {a0 : Nat} {x1 : Int32} {x2 : Int32} {x3 : Int32} (g0 : a0 < zh_n h) (g1 : (zh_k h a0).1 = 8) : zv 4 163 24 [.ref a0, .int x1, .int x2, .int x3] [] h = (zv 1 144 0 [.ref a0, .int x2, .int 2] [] h).bind fun r => zv 4 163 31 [.ref a0, .int x1, .int x2, .int x3] (r.1.toList ++ [.int x3]) r.2 := by
  refine Eq.trans (zv_next f163_24 rfl) ?_
  refine Eq.trans (zv_next f163_25 rfl) ?_
  refine Eq.trans (zv_next f163_26 rfl) ?_
  refine Eq.trans (zs_ic f163_27 ic_2) ?_
  exact zs_callV f163_28 (Nat.le_of_ble_eq_true rfl) (Nat.le_of_ble_eq_true rfl) rfl g0 g1 me_144 (by decide) rfl
theorem b163_31 {h : zi_Hp} {a0 : Nat} {x1 : Int32} {x2 : Int32} {x3 : Int32} {s0 : Int32} {s1 : Int32}  : zv 4 163 31 [.ref a0, .int x1, .int x2, .int x3] [.int s1, .int s0] h = if s1 < s0 then zv 4 163 34 [.ref a0, .int x1, .int x2, .int x3] [] h else zv 4 163 40 [.ref a0, .int x1, .int x2, .int x3] [] h := by
  exact zs_icmp f163_31 rfl
theorem b163_34 {h : zi_Hp} {a0 : Nat} {x1 : Int32} {x2 : Int32} {x3 : Int32} (g0 : a0 < zh_n h) (g1 : (zh_k h a0).1 = 8) : zv 4 163 34 [.ref a0, .int x1, .int x2, .int x3] [] h = (zv 2 160 0 [.ref a0, .int x1] [] h).bind fun r => zv 4 163 39 [.ref a0, .int x1, .int x2, .int x3] (r.1.toList ++ []) r.2 := by
  refine Eq.trans (zv_next f163_34 rfl) ?_
  refine Eq.trans (zv_next f163_35 rfl) ?_
  exact zs_callV f163_36 (Nat.le_of_ble_eq_true rfl) (Nat.le_of_ble_eq_true rfl) rfl g0 g1 me_160 (by decide) rfl
theorem b163_39 {h : zi_Hp} {a0 : Nat} {x1 : Int32} {x2 : Int32} {x3 : Int32} {s0 : Int32}  : zv 4 163 39 [.ref a0, .int x1, .int x2, .int x3] [.int s0] h = some (some (.int s0), h) := by
  exact zs_ret0 f163_39
theorem b163_40 {h : zi_Hp} {a0 : Nat} {x1 : Int32} {x2 : Int32} {x3 : Int32} (g0 : a0 < zh_n h) (g1 : (zh_k h a0).1 = 8) : zv 4 163 40 [.ref a0, .int x1, .int x2, .int x3] [] h = (zv 1 144 0 [.ref a0, .int x2, .int 0] [] h).bind fun r => zv 4 163 46 [.ref a0, .int x1, .int x2, .int x3] (r.1.toList ++ []) r.2 := by
  refine Eq.trans (zv_next f163_40 rfl) ?_
  refine Eq.trans (zv_next f163_41 rfl) ?_
  refine Eq.trans (zs_ic f163_42 ic_0) ?_
  exact zs_callV f163_43 (Nat.le_of_ble_eq_true rfl) (Nat.le_of_ble_eq_true rfl) rfl g0 g1 me_144 (by decide) rfl
theorem b163_46 {h : zi_Hp} {a0 : Nat} {x1 : Int32} {x2 : Int32} {x3 : Int32} {s0 : Int32}  : zv 4 163 46 [.ref a0, .int x1, .int x2, .int x3] [.int s0] h = if 0 < s0 then zv 4 163 49 [.ref a0, .int x1, .int x2, .int x3] [] h else zv 4 163 71 [.ref a0, .int x1, .int x2, .int x3] [] h := by
  exact zs_if f163_46 rfl
theorem b163_49 {h : zi_Hp} {a0 : Nat} {x1 : Int32} {x2 : Int32} {x3 : Int32} (g0 : a0 < zh_n h) (g1 : (zh_k h a0).1 = 8) : zv 4 163 49 [.ref a0, .int x1, .int x2, .int x3] [] h = (zv 1 144 0 [.ref a0, .int x2, .int 0] [] h).bind fun r => zv 4 163 59 [.ref a0, .int x1, .int x2, .int x3] (r.1.toList ++ [.int 12, .int x1, .ref a0]) r.2 := by
  refine Eq.trans (zv_next f163_49 rfl) ?_
  refine Eq.trans (zv_next f163_50 rfl) ?_
  refine Eq.trans (zs_bp f163_51 bp_12) ?_
  refine Eq.trans (zv_next f163_53 rfl) ?_
  refine Eq.trans (zv_next f163_54 rfl) ?_
  refine Eq.trans (zs_ic f163_55 ic_0) ?_
  exact zs_callV f163_56 (Nat.le_of_ble_eq_true rfl) (Nat.le_of_ble_eq_true rfl) rfl g0 g1 me_144 (by decide) rfl
theorem b163_59 {h : zi_Hp} {a0 : Nat} {x1 : Int32} {x2 : Int32} {x3 : Int32} {t0 : Nat} {s1 : Int32} {s2 : Int32} {s3 : Int32} (g0 : t0 < zh_n h) (g1 : (zh_k h t0).1 = 8) : zv 4 163 59 [.ref a0, .int x1, .int x2, .int x3] [.int s3, .int s2, .int s1, .ref t0] h = (zv 1 147 0 [.ref t0, .int s1, .int (s2 + s3), .int x2] [] h).bind fun r => zv 4 163 64 [.ref a0, .int x1, .int x2, .int x3] (r.1.toList ++ []) r.2 := by
  refine Eq.trans (zv_next f163_59 rfl) ?_
  refine Eq.trans (zv_next f163_60 rfl) ?_
  exact zs_callV f163_61 (Nat.le_of_ble_eq_true rfl) (Nat.le_of_ble_eq_true rfl) rfl g0 g1 me_147 (by decide) rfl
theorem b163_64 {h : zi_Hp} {a0 : Nat} {x1 : Int32} {x2 : Int32} {x3 : Int32} (g0 : a0 < zh_n h) (g1 : (zh_k h a0).1 = 8) : zv 4 163 64 [.ref a0, .int x1, .int x2, .int x3] [] h = (zv 3 161 0 [.ref a0, .int x1, .int x3, .double 0] [] h).bind fun r => zv 4 163 70 [.ref a0, .int x1, .int x2, .int x3] (r.1.toList ++ []) r.2 := by
  refine Eq.trans (zv_next f163_64 rfl) ?_
  refine Eq.trans (zv_next f163_65 rfl) ?_
  refine Eq.trans (zv_next f163_66 rfl) ?_
  exact zs_callV f163_67 (Nat.le_of_ble_eq_true rfl) (Nat.le_of_ble_eq_true rfl) rfl g0 g1 me_161 (by decide) rfl
theorem b163_70 {h : zi_Hp} {a0 : Nat} {x1 : Int32} {x2 : Int32} {x3 : Int32} {s0 : Int32}  : zv 4 163 70 [.ref a0, .int x1, .int x2, .int x3] [.int s0] h = some (some (.int s0), h) := by
  exact zs_ret0 f163_70
theorem b163_71 {h : zi_Hp} {a0 : Nat} {x1 : Int32} {x2 : Int32} {x3 : Int32} (g0 : a0 < zh_n h) (g1 : (zh_k h a0).1 = 8) : zv 4 163 71 [.ref a0, .int x1, .int x2, .int x3] [] h = (zv 1 146 0 [.ref a0, .int x1, .int 1] [] h).bind fun r => zv 4 163 77 [.ref a0, .int x1, .int x2, .int x3] (r.1.toList ++ []) r.2 := by
  refine Eq.trans (zv_next f163_71 rfl) ?_
  refine Eq.trans (zv_next f163_72 rfl) ?_
  refine Eq.trans (zs_ic f163_73 ic_1) ?_
  exact zs_callV f163_74 (Nat.le_of_ble_eq_true rfl) (Nat.le_of_ble_eq_true rfl) rfl g0 g1 me_146 (by decide) rfl
theorem b163_77 {h : zi_Hp} {a0 : Nat} {x1 : Int32} {x2 : Int32} {x3 : Int32} {s0 : Int32}  : zv 4 163 77 [.ref a0, .int x1, .int x2, .int x3] [.int s0] h = if s0 = 0 then zv 4 163 80 [.ref a0, .int x1, .int x2, .int x3] [] h else zv 4 163 97 [.ref a0, .int x1, .int x2, .int x3] [] h := by
  exact zs_if f163_77 rfl
theorem b163_80 {h : zi_Hp} {a0 : Nat} {x1 : Int32} {x2 : Int32} {x3 : Int32} (g0 : a0 < zh_n h) (g1 : (zh_k h a0).1 = 8) : zv 4 163 80 [.ref a0, .int x1, .int x2, .int x3] [] h = (zv 2 150 0 [.ref a0, .int x2, .int x3, .double 0, .double 0] [] h).bind fun r => zv 4 163 88 [.ref a0, .int x1, .int x2, .int x3] (r.1.toList ++ [.int x1, .ref a0]) r.2 := by
  refine Eq.trans (zv_next f163_80 rfl) ?_
  refine Eq.trans (zv_next f163_81 rfl) ?_
  refine Eq.trans (zv_next f163_82 rfl) ?_
  refine Eq.trans (zv_next f163_83 rfl) ?_
  refine Eq.trans (zv_next f163_84 rfl) ?_
  exact zs_callV f163_85 (Nat.le_of_ble_eq_true rfl) (Nat.le_of_ble_eq_true rfl) rfl g0 g1 me_150 (by decide) rfl
theorem b163_88 {h : zi_Hp} {a0 : Nat} {x1 : Int32} {x2 : Int32} {x3 : Int32} {t0 : Nat} {s1 : Int32} {s2 : Int32}  : zv 4 163 88 [.ref a0, .int x1, .int x2, .int x3] [.int s2, .int s1, .ref t0] h = (zv 1 143 0 [.int s2] [] h).bind fun r => zv 4 163 91 [.ref a0, .int x1, .int x2, .int x3] (r.1.toList ++ [.int s1, .ref t0]) r.2 := by
  exact zs_callS f163_88 (by decide) (Nat.le_of_ble_eq_true rfl) (Nat.le_of_ble_eq_true rfl) rfl me_143 (by decide) rfl
theorem b163_91 {h : zi_Hp} {a0 : Nat} {x1 : Int32} {x2 : Int32} {x3 : Int32} {t0 : Nat} {s1 : Int32} {s2 : Int32} (g0 : t0 < zh_n h) (g1 : (zh_k h t0).1 = 8) : zv 4 163 91 [.ref a0, .int x1, .int x2, .int x3] [.int s2, .int s1, .ref t0] h = (zv 3 159 0 [.ref t0, .int s1, .int s2] [] h).bind fun r => zv 4 163 94 [.ref a0, .int x1, .int x2, .int x3] (r.1.toList ++ []) r.2 := by
  exact zs_callV f163_91 (Nat.le_of_ble_eq_true rfl) (Nat.le_of_ble_eq_true rfl) rfl g0 g1 me_159 (by decide) rfl
theorem b163_94 {h : zi_Hp} {a0 : Nat} {x1 : Int32} {x2 : Int32} {x3 : Int32} {s0 : Int32}  : zv 4 163 94 [.ref a0, .int x1, .int x2, .int x3] [.int s0] h = zv 4 163 103 [.ref a0, .int x1, .int x2, .int x3] [.int s0] h := by
  refine Eq.trans (zs_goto (tgt := 103) f163_94 rfl) ?_
  rfl
theorem b163_97 {h : zi_Hp} {a0 : Nat} {x1 : Int32} {x2 : Int32} {x3 : Int32} (g0 : a0 < zh_n h) (g1 : (zh_k h a0).1 = 8) : zv 4 163 97 [.ref a0, .int x1, .int x2, .int x3] [] h = (zv 3 162 0 [.ref a0, .int x1, .int 2] [] h).bind fun r => zv 4 163 103 [.ref a0, .int x1, .int x2, .int x3] (r.1.toList ++ []) r.2 := by
  refine Eq.trans (zv_next f163_97 rfl) ?_
  refine Eq.trans (zv_next f163_98 rfl) ?_
  refine Eq.trans (zs_ic f163_99 ic_2) ?_
  exact zs_callV f163_100 (Nat.le_of_ble_eq_true rfl) (Nat.le_of_ble_eq_true rfl) rfl g0 g1 me_162 (by decide) rfl
theorem b163_103 {h : zi_Hp} {a0 : Nat} {x1 : Int32} {x2 : Int32} {x3 : Int32} {s0 : Int32}  : zv 4 163 103 [.ref a0, .int x1, .int x2, .int x3] [.int s0] h = some (some (.int s0), h) := by
  exact zs_ret0 f163_103
set_option maxRecDepth 20000 in
theorem zq164 : zi_M[164]? = some zi_m164 := rfl
theorem zl164_0 {pc : Nat} (_ : 0 ≤ pc) : zi_fe 164 pc = zu164_0.lookup pc := zi_feA zq164 pc
theorem f164_0 : zi_fe 164 0 = some ((.aload_n 0), 1, 0, 0, 0, 0, 0) := (zl164_0 (Nat.le_of_ble_eq_true rfl)).trans rfl
theorem f164_1 : zi_fe 164 1 = some ((.iconst 0), 1, 0, 0, 0, 0, 0) := (zl164_0 (Nat.le_of_ble_eq_true rfl)).trans rfl
theorem f164_2 : zi_fe 164 2 = some ((.putfield 98), 3, 8, 5, 0, 1070, 0) := (zl164_0 (Nat.le_of_ble_eq_true rfl)).trans rfl
theorem f164_5 : zi_fe 164 5 = some ((.iconst 0), 1, 0, 0, 0, 0, 0) := (zl164_0 (Nat.le_of_ble_eq_true rfl)).trans rfl
theorem f164_6 : zi_fe 164 6 = some ((.istore_n 3), 1, 0, 0, 0, 0, 0) := (zl164_0 (Nat.le_of_ble_eq_true rfl)).trans rfl
theorem f164_7 : zi_fe 164 7 = some ((.iconst 0), 1, 0, 0, 0, 0, 0) := (zl164_0 (Nat.le_of_ble_eq_true rfl)).trans rfl
theorem f164_8 : zi_fe 164 8 = some ((.istore 4), 2, 0, 0, 0, 0, 0) := (zl164_0 (Nat.le_of_ble_eq_true rfl)).trans rfl
theorem f164_10 : zi_fe 164 10 = some ((.iload 4), 2, 0, 0, 0, 0, 0) := (zl164_0 (Nat.le_of_ble_eq_true rfl)).trans rfl
theorem f164_12 : zi_fe 164 12 = some ((.aload_n 0), 1, 0, 0, 0, 0, 0) := (zl164_0 (Nat.le_of_ble_eq_true rfl)).trans rfl
theorem f164_13 : zi_fe 164 13 = some ((.iload_n 1), 1, 0, 0, 0, 0, 0) := (zl164_0 (Nat.le_of_ble_eq_true rfl)).trans rfl
theorem f164_14 : zi_fe 164 14 = some ((.iconst 1), 1, 0, 0, 0, 0, 0) := (zl164_0 (Nat.le_of_ble_eq_true rfl)).trans rfl
theorem f164_15 : zi_fe 164 15 = some ((.invokevirtual 87), 3, 144, 0, 8, 1261, 3) := (zl164_0 (Nat.le_of_ble_eq_true rfl)).trans rfl
theorem zl164_1 {pc : Nat} (h : 18 ≤ pc) : zi_fe 164 pc = zu164_1.lookup pc := (zl164_0 (Nat.le_trans (Nat.le_of_ble_eq_true rfl) h)).trans (zi_lkA (a := zi_i164_0) (c := 18) rfl h)
theorem f164_18 : zi_fe 164 18 = some ((.if_icmp .ge 50), 3, 0, 0, 0, 0, 0) := (zl164_1 (Nat.le_of_ble_eq_true rfl)).trans rfl
theorem f164_21 : zi_fe 164 21 = some ((.iload_n 3), 1, 0, 0, 0, 0, 0) := (zl164_1 (Nat.le_of_ble_eq_true rfl)).trans rfl
theorem f164_22 : zi_fe 164 22 = some ((.ifCond .ne 25), 3, 0, 0, 0, 0, 0) := (zl164_1 (Nat.le_of_ble_eq_true rfl)).trans rfl
theorem f164_25 : zi_fe 164 25 = some ((.aload_n 0), 1, 0, 0, 0, 0, 0) := (zl164_1 (Nat.le_of_ble_eq_true rfl)).trans rfl
theorem f164_26 : zi_fe 164 26 = some ((.iload_n 1), 1, 0, 0, 0, 0, 0) := (zl164_1 (Nat.le_of_ble_eq_true rfl)).trans rfl
theorem f164_27 : zi_fe 164 27 = some ((.iconst 5), 1, 0, 0, 0, 0, 0) := (zl164_1 (Nat.le_of_ble_eq_true rfl)).trans rfl
theorem f164_28 : zi_fe 164 28 = some ((.iload 4), 2, 0, 0, 0, 0, 0) := (zl164_1 (Nat.le_of_ble_eq_true rfl)).trans rfl
theorem f164_30 : zi_fe 164 30 = some (.iadd, 1, 0, 0, 0, 0, 0) := (zl164_1 (Nat.le_of_ble_eq_true rfl)).trans rfl
theorem f164_31 : zi_fe 164 31 = some ((.invokevirtual 87), 3, 144, 0, 8, 1261, 3) := (zl164_1 (Nat.le_of_ble_eq_true rfl)).trans rfl
theorem f164_34 : zi_fe 164 34 = some ((.iload_n 2), 1, 0, 0, 0, 0, 0) := (zl164_1 (Nat.le_of_ble_eq_true rfl)).trans rfl
theorem f164_35 : zi_fe 164 35 = some ((.if_icmp .le 12), 3, 0, 0, 0, 0, 0) := (zl164_1 (Nat.le_of_ble_eq_true rfl)).trans rfl
theorem f164_38 : zi_fe 164 38 = some ((.aload_n 0), 1, 0, 0, 0, 0, 0) := (zl164_1 (Nat.le_of_ble_eq_true rfl)).trans rfl
theorem zl164_2 {pc : Nat} (h : 39 ≤ pc) : zi_fe 164 pc = zu164_2.lookup pc := (zl164_1 (Nat.le_trans (Nat.le_of_ble_eq_true rfl) h)).trans (zi_lkA (a := zi_i164_1) (c := 39) rfl h)
theorem f164_39 : zi_fe 164 39 = some ((.iload_n 2), 1, 0, 0, 0, 0, 0) := (zl164_2 (Nat.le_of_ble_eq_true rfl)).trans rfl
theorem f164_40 : zi_fe 164 40 = some ((.bipush (-4)), 2, 0, 0, 0, 0, 0) := (zl164_2 (Nat.le_of_ble_eq_true rfl)).trans rfl
theorem f164_42 : zi_fe 164 42 = some ((.invokevirtual 138), 3, 153, 0, 8, 1335, 3) := (zl164_2 (Nat.le_of_ble_eq_true rfl)).trans rfl
theorem f164_45 : zi_fe 164 45 = some ((.iconst 1), 1, 0, 0, 0, 0, 0) := (zl164_2 (Nat.le_of_ble_eq_true rfl)).trans rfl
theorem f164_46 : zi_fe 164 46 = some ((.istore_n 3), 1, 0, 0, 0, 0, 0) := (zl164_2 (Nat.le_of_ble_eq_true rfl)).trans rfl
theorem f164_47 : zi_fe 164 47 = some ((.aload_n 0), 1, 0, 0, 0, 0, 0) := (zl164_2 (Nat.le_of_ble_eq_true rfl)).trans rfl
theorem f164_48 : zi_fe 164 48 = some ((.aload_n 0), 1, 0, 0, 0, 0, 0) := (zl164_2 (Nat.le_of_ble_eq_true rfl)).trans rfl
theorem f164_49 : zi_fe 164 49 = some ((.iload_n 1), 1, 0, 0, 0, 0, 0) := (zl164_2 (Nat.le_of_ble_eq_true rfl)).trans rfl
theorem f164_50 : zi_fe 164 50 = some ((.iconst 5), 1, 0, 0, 0, 0, 0) := (zl164_2 (Nat.le_of_ble_eq_true rfl)).trans rfl
theorem f164_51 : zi_fe 164 51 = some ((.iload 4), 2, 0, 0, 0, 0, 0) := (zl164_2 (Nat.le_of_ble_eq_true rfl)).trans rfl
theorem f164_53 : zi_fe 164 53 = some (.iadd, 1, 0, 0, 0, 0, 0) := (zl164_2 (Nat.le_of_ble_eq_true rfl)).trans rfl
theorem f164_54 : zi_fe 164 54 = some ((.invokevirtual 87), 3, 144, 0, 8, 1261, 3) := (zl164_2 (Nat.le_of_ble_eq_true rfl)).trans rfl
theorem zl164_3 {pc : Nat} (h : 57 ≤ pc) : zi_fe 164 pc = zu164_3.lookup pc := (zl164_2 (Nat.le_trans (Nat.le_of_ble_eq_true rfl) h)).trans (zi_lkA (a := zi_i164_2) (c := 57) rfl h)
theorem f164_57 : zi_fe 164 57 = some ((.bipush (-4)), 2, 0, 0, 0, 0, 0) := (zl164_3 (Nat.le_of_ble_eq_true rfl)).trans rfl
theorem f164_59 : zi_fe 164 59 = some ((.invokevirtual 138), 3, 153, 0, 8, 1335, 3) := (zl164_3 (Nat.le_of_ble_eq_true rfl)).trans rfl
theorem f164_62 : zi_fe 164 62 = some ((.iinc 4 1), 3, 0, 0, 0, 0, 0) := (zl164_3 (Nat.le_of_ble_eq_true rfl)).trans rfl
theorem f164_65 : zi_fe 164 65 = some ((.goto (-55)), 3, 0, 0, 0, 0, 0) := (zl164_3 (Nat.le_of_ble_eq_true rfl)).trans rfl
theorem f164_68 : zi_fe 164 68 = some ((.iload_n 3), 1, 0, 0, 0, 0, 0) := (zl164_3 (Nat.le_of_ble_eq_true rfl)).trans rfl
theorem f164_69 : zi_fe 164 69 = some ((.ifCond .ne 10), 3, 0, 0, 0, 0, 0) := (zl164_3 (Nat.le_of_ble_eq_true rfl)).trans rfl
theorem f164_72 : zi_fe 164 72 = some ((.aload_n 0), 1, 0, 0, 0, 0, 0) := (zl164_3 (Nat.le_of_ble_eq_true rfl)).trans rfl
theorem f164_73 : zi_fe 164 73 = some ((.iload_n 2), 1, 0, 0, 0, 0, 0) := (zl164_3 (Nat.le_of_ble_eq_true rfl)).trans rfl
theorem f164_74 : zi_fe 164 74 = some ((.bipush (-4)), 2, 0, 0, 0, 0, 0) := (zl164_3 (Nat.le_of_ble_eq_true rfl)).trans rfl
theorem f164_76 : zi_fe 164 76 = some ((.invokevirtual 138), 3, 153, 0, 8, 1335, 3) := (zl164_3 (Nat.le_of_ble_eq_true rfl)).trans rfl
theorem f164_79 : zi_fe 164 79 = some (.return_, 1, 0, 0, 0, 0, 0) := (zl164_3 (Nat.le_of_ble_eq_true rfl)).trans rfl
theorem b164_0 {h : zi_Hp} {a0 : Nat} {x1 : Int32} {x2 : Int32} {u3 : Value} {u4 : Value} (g0 : a0 < zh_n h) (g1 : (zh_k h a0).1 = 8) : zv 2 164 0 [.ref a0, .int x1, .int x2, u3, u4] [] h = zv 2 164 10 [.ref a0, .int x1, .int x2, .int 0, .int 0] [] (zh_wi h a0 5 0) := by
  refine Eq.trans (zv_next f164_0 rfl) ?_
  refine Eq.trans (zs_ic f164_1 ic_0) ?_
  refine Eq.trans (zs_put f164_2 g0 g1 rfl) ?_
  refine Eq.trans (zs_ic f164_5 ic_0) ?_
  refine Eq.trans (zv_next f164_6 rfl) ?_
  refine Eq.trans (zs_ic f164_7 ic_0) ?_
  refine Eq.trans (zv_next f164_8 rfl) ?_
  rfl
theorem b164_10 {h : zi_Hp} {a0 : Nat} {x1 : Int32} {x2 : Int32} {x3 : Int32} {x4 : Int32} (g0 : a0 < zh_n h) (g1 : (zh_k h a0).1 = 8) : zv 2 164 10 [.ref a0, .int x1, .int x2, .int x3, .int x4] [] h = (zv 1 144 0 [.ref a0, .int x1, .int 1] [] h).bind fun r => zv 2 164 18 [.ref a0, .int x1, .int x2, .int x3, .int x4] (r.1.toList ++ [.int x4]) r.2 := by
  refine Eq.trans (zv_next f164_10 rfl) ?_
  refine Eq.trans (zv_next f164_12 rfl) ?_
  refine Eq.trans (zv_next f164_13 rfl) ?_
  refine Eq.trans (zs_ic f164_14 ic_1) ?_
  exact zs_callV f164_15 (Nat.le_of_ble_eq_true rfl) (Nat.le_of_ble_eq_true rfl) rfl g0 g1 me_144 (by decide) rfl
theorem b164_18 {h : zi_Hp} {a0 : Nat} {x1 : Int32} {x2 : Int32} {x3 : Int32} {x4 : Int32} {s0 : Int32} {s1 : Int32}  : zv 2 164 18 [.ref a0, .int x1, .int x2, .int x3, .int x4] [.int s1, .int s0] h = if s0 < s1 then zv 2 164 21 [.ref a0, .int x1, .int x2, .int x3, .int x4] [] h else zv 2 164 68 [.ref a0, .int x1, .int x2, .int x3, .int x4] [] h := by
  exact zs_icmp f164_18 rfl
theorem b164_21 {h : zi_Hp} {a0 : Nat} {x1 : Int32} {x2 : Int32} {x3 : Int32} {x4 : Int32}  : zv 2 164 21 [.ref a0, .int x1, .int x2, .int x3, .int x4] [] h = if x3 = 0 then zv 2 164 25 [.ref a0, .int x1, .int x2, .int x3, .int x4] [] h else zv 2 164 47 [.ref a0, .int x1, .int x2, .int x3, .int x4] [] h := by
  refine Eq.trans (zv_next f164_21 rfl) ?_
  exact zs_if f164_22 rfl
theorem b164_25 {h : zi_Hp} {a0 : Nat} {x1 : Int32} {x2 : Int32} {x3 : Int32} {x4 : Int32} (g0 : a0 < zh_n h) (g1 : (zh_k h a0).1 = 8) : zv 2 164 25 [.ref a0, .int x1, .int x2, .int x3, .int x4] [] h = (zv 1 144 0 [.ref a0, .int x1, .int (5 + x4)] [] h).bind fun r => zv 2 164 34 [.ref a0, .int x1, .int x2, .int x3, .int x4] (r.1.toList ++ []) r.2 := by
  refine Eq.trans (zv_next f164_25 rfl) ?_
  refine Eq.trans (zv_next f164_26 rfl) ?_
  refine Eq.trans (zs_ic f164_27 ic_5) ?_
  refine Eq.trans (zv_next f164_28 rfl) ?_
  refine Eq.trans (zv_next f164_30 rfl) ?_
  exact zs_callV f164_31 (Nat.le_of_ble_eq_true rfl) (Nat.le_of_ble_eq_true rfl) rfl g0 g1 me_144 (by decide) rfl
theorem b164_34 {h : zi_Hp} {a0 : Nat} {x1 : Int32} {x2 : Int32} {x3 : Int32} {x4 : Int32} {s0 : Int32}  : zv 2 164 34 [.ref a0, .int x1, .int x2, .int x3, .int x4] [.int s0] h = if x2 < s0 then zv 2 164 38 [.ref a0, .int x1, .int x2, .int x3, .int x4] [] h else zv 2 164 47 [.ref a0, .int x1, .int x2, .int x3, .int x4] [] h := by
  refine Eq.trans (zv_next f164_34 rfl) ?_
  exact zs_icmp f164_35 rfl
theorem b164_38 {h : zi_Hp} {a0 : Nat} {x1 : Int32} {x2 : Int32} {x3 : Int32} {x4 : Int32} (g0 : a0 < zh_n h) (g1 : (zh_k h a0).1 = 8) : zv 2 164 38 [.ref a0, .int x1, .int x2, .int x3, .int x4] [] h = (zv 1 153 0 [.ref a0, .int x2, .int (-4)] [] h).bind fun r => zv 2 164 45 [.ref a0, .int x1, .int x2, .int x3, .int x4] (r.1.toList ++ []) r.2 := by
  refine Eq.trans (zv_next f164_38 rfl) ?_
  refine Eq.trans (zv_next f164_39 rfl) ?_
  refine Eq.trans (zs_bp f164_40 bp_m4) ?_
  exact zs_callV f164_42 (Nat.le_of_ble_eq_true rfl) (Nat.le_of_ble_eq_true rfl) rfl g0 g1 me_153 (by decide) rfl
theorem b164_45 {h : zi_Hp} {a0 : Nat} {x1 : Int32} {x2 : Int32} {x3 : Int32} {x4 : Int32}  : zv 2 164 45 [.ref a0, .int x1, .int x2, .int x3, .int x4] [] h = zv 2 164 47 [.ref a0, .int x1, .int x2, .int 1, .int x4] [] h := by
  refine Eq.trans (zs_ic f164_45 ic_1) ?_
  refine Eq.trans (zv_next f164_46 rfl) ?_
  rfl
theorem b164_47 {h : zi_Hp} {a0 : Nat} {x1 : Int32} {x2 : Int32} {x3 : Int32} {x4 : Int32} (g0 : a0 < zh_n h) (g1 : (zh_k h a0).1 = 8) : zv 2 164 47 [.ref a0, .int x1, .int x2, .int x3, .int x4] [] h = (zv 1 144 0 [.ref a0, .int x1, .int (5 + x4)] [] h).bind fun r => zv 2 164 57 [.ref a0, .int x1, .int x2, .int x3, .int x4] (r.1.toList ++ [.ref a0]) r.2 := by
  refine Eq.trans (zv_next f164_47 rfl) ?_
  refine Eq.trans (zv_next f164_48 rfl) ?_
  refine Eq.trans (zv_next f164_49 rfl) ?_
  refine Eq.trans (zs_ic f164_50 ic_5) ?_
  refine Eq.trans (zv_next f164_51 rfl) ?_
  refine Eq.trans (zv_next f164_53 rfl) ?_
  exact zs_callV f164_54 (Nat.le_of_ble_eq_true rfl) (Nat.le_of_ble_eq_true rfl) rfl g0 g1 me_144 (by decide) rfl
theorem b164_57 {h : zi_Hp} {a0 : Nat} {x1 : Int32} {x2 : Int32} {x3 : Int32} {x4 : Int32} {t0 : Nat} {s1 : Int32} (g0 : t0 < zh_n h) (g1 : (zh_k h t0).1 = 8) : zv 2 164 57 [.ref a0, .int x1, .int x2, .int x3, .int x4] [.int s1, .ref t0] h = (zv 1 153 0 [.ref t0, .int s1, .int (-4)] [] h).bind fun r => zv 2 164 62 [.ref a0, .int x1, .int x2, .int x3, .int x4] (r.1.toList ++ []) r.2 := by
  refine Eq.trans (zs_bp f164_57 bp_m4) ?_
  exact zs_callV f164_59 (Nat.le_of_ble_eq_true rfl) (Nat.le_of_ble_eq_true rfl) rfl g0 g1 me_153 (by decide) rfl
theorem b164_62 {h : zi_Hp} {a0 : Nat} {x1 : Int32} {x2 : Int32} {x3 : Int32} {x4 : Int32}  : zv 2 164 62 [.ref a0, .int x1, .int x2, .int x3, .int x4] [] h = zv 2 164 10 [.ref a0, .int x1, .int x2, .int x3, .int (x4 + 1)] [] h := by
  refine Eq.trans (zs_inc f164_62 rfl ic_1 rfl) ?_
  refine Eq.trans (zs_goto (tgt := 10) f164_65 rfl) ?_
  rfl
theorem b164_68 {h : zi_Hp} {a0 : Nat} {x1 : Int32} {x2 : Int32} {x3 : Int32} {x4 : Int32}  : zv 2 164 68 [.ref a0, .int x1, .int x2, .int x3, .int x4] [] h = if x3 = 0 then zv 2 164 72 [.ref a0, .int x1, .int x2, .int x3, .int x4] [] h else zv 2 164 79 [.ref a0, .int x1, .int x2, .int x3, .int x4] [] h := by
  refine Eq.trans (zv_next f164_68 rfl) ?_
  exact zs_if f164_69 rfl
theorem b164_72 {h : zi_Hp} {a0 : Nat} {x1 : Int32} {x2 : Int32} {x3 : Int32} {x4 : Int32} (g0 : a0 < zh_n h) (g1 : (zh_k h a0).1 = 8) : zv 2 164 72 [.ref a0, .int x1, .int x2, .int x3, .int x4] [] h = (zv 1 153 0 [.ref a0, .int x2, .int (-4)] [] h).bind fun r => zv 2 164 79 [.ref a0, .int x1, .int x2, .int x3, .int x4] (r.1.toList ++ []) r.2 := by
  refine Eq.trans (zv_next f164_72 rfl) ?_
  refine Eq.trans (zv_next f164_73 rfl) ?_
  refine Eq.trans (zs_bp f164_74 bp_m4) ?_
  exact zs_callV f164_76 (Nat.le_of_ble_eq_true rfl) (Nat.le_of_ble_eq_true rfl) rfl g0 g1 me_153 (by decide) rfl
theorem b164_79 {h : zi_Hp} {a0 : Nat} {x1 : Int32} {x2 : Int32} {x3 : Int32} {x4 : Int32}  : zv 2 164 79 [.ref a0, .int x1, .int x2, .int x3, .int x4] [] h = some (none, h) := by
  exact zv_ret f164_79 rfl
set_option maxRecDepth 20000 in
theorem zq165 : zi_M[165]? = some zi_m165 := rfl
theorem zl165_0 {pc : Nat} (_ : 0 ≤ pc) : zi_fe 165 pc = zu165_0.lookup pc := zi_feA zq165 pc
theorem f165_0 : zi_fe 165 0 = some ((.aload_n 0), 1, 0, 0, 0, 0, 0) := (zl165_0 (Nat.le_of_ble_eq_true rfl)).trans rfl
theorem f165_1 : zi_fe 165 1 = some ((.iload_n 1), 1, 0, 0, 0, 0, 0) := (zl165_0 (Nat.le_of_ble_eq_true rfl)).trans rfl
theorem f165_2 : zi_fe 165 2 = some ((.iconst 3), 1, 0, 0, 0, 0, 0) := (zl165_0 (Nat.le_of_ble_eq_true rfl)).trans rfl
theorem f165_3 : zi_fe 165 3 = some ((.invokevirtual 83), 3, 146, 0, 8, 1276, 3) := (zl165_0 (Nat.le_of_ble_eq_true rfl)).trans rfl
theorem f165_6 : zi_fe 165 6 = some ((.istore_n 2), 1, 0, 0, 0, 0, 0) := (zl165_0 (Nat.le_of_ble_eq_true rfl)).trans rfl
theorem f165_7 : zi_fe 165 7 = some ((.aload_n 0), 1, 0, 0, 0, 0, 0) := (zl165_0 (Nat.le_of_ble_eq_true rfl)).trans rfl
theorem f165_8 : zi_fe 165 8 = some ((.iload_n 1), 1, 0, 0, 0, 0, 0) := (zl165_0 (Nat.le_of_ble_eq_true rfl)).trans rfl
theorem f165_9 : zi_fe 165 9 = some ((.iconst 2), 1, 0, 0, 0, 0, 0) := (zl165_0 (Nat.le_of_ble_eq_true rfl)).trans rfl
theorem f165_10 : zi_fe 165 10 = some ((.invokevirtual 83), 3, 146, 0, 8, 1276, 3) := (zl165_0 (Nat.le_of_ble_eq_true rfl)).trans rfl
theorem f165_13 : zi_fe 165 13 = some ((.istore_n 3), 1, 0, 0, 0, 0, 0) := (zl165_0 (Nat.le_of_ble_eq_true rfl)).trans rfl
theorem f165_14 : zi_fe 165 14 = some ((.aload_n 0), 1, 0, 0, 0, 0, 0) := (zl165_0 (Nat.le_of_ble_eq_true rfl)).trans rfl
theorem f165_15 : zi_fe 165 15 = some ((.iload_n 2), 1, 0, 0, 0, 0, 0) := (zl165_0 (Nat.le_of_ble_eq_true rfl)).trans rfl
theorem zl165_1 {pc : Nat} (h : 16 ≤ pc) : zi_fe 165 pc = zu165_1.lookup pc := (zl165_0 (Nat.le_trans (Nat.le_of_ble_eq_true rfl) h)).trans (zi_lkA (a := zi_i165_0) (c := 16) rfl h)
theorem f165_16 : zi_fe 165 16 = some ((.iload_n 3), 1, 0, 0, 0, 0, 0) := (zl165_1 (Nat.le_of_ble_eq_true rfl)).trans rfl
theorem f165_17 : zi_fe 165 17 = some ((.invokevirtual 90), 3, 150, 0, 8, 1265, 3) := (zl165_1 (Nat.le_of_ble_eq_true rfl)).trans rfl
theorem f165_20 : zi_fe 165 20 = some ((.ifCond .eq 10), 3, 0, 0, 0, 0, 0) := (zl165_1 (Nat.le_of_ble_eq_true rfl)).trans rfl
theorem f165_23 : zi_fe 165 23 = some ((.aload_n 0), 1, 0, 0, 0, 0, 0) := (zl165_1 (Nat.le_of_ble_eq_true rfl)).trans rfl
theorem f165_24 : zi_fe 165 24 = some ((.iload_n 1), 1, 0, 0, 0, 0, 0) := (zl165_1 (Nat.le_of_ble_eq_true rfl)).trans rfl
theorem f165_25 : zi_fe 165 25 = some ((.iconst 0), 1, 0, 0, 0, 0, 0) := (zl165_1 (Nat.le_of_ble_eq_true rfl)).trans rfl
theorem f165_26 : zi_fe 165 26 = some ((.invokevirtual 132), 3, 159, 0, 8, 1315, 3) := (zl165_1 (Nat.le_of_ble_eq_true rfl)).trans rfl
theorem f165_29 : zi_fe 165 29 = some (.ireturn, 1, 0, 0, 0, 0, 0) := (zl165_1 (Nat.le_of_ble_eq_true rfl)).trans rfl
theorem f165_30 : zi_fe 165 30 = some ((.aload_n 0), 1, 0, 0, 0, 0, 0) := (zl165_1 (Nat.le_of_ble_eq_true rfl)).trans rfl
theorem f165_31 : zi_fe 165 31 = some ((.iload_n 2), 1, 0, 0, 0, 0, 0) := (zl165_1 (Nat.le_of_ble_eq_true rfl)).trans rfl
theorem f165_32 : zi_fe 165 32 = some ((.iload_n 3), 1, 0, 0, 0, 0, 0) := (zl165_1 (Nat.le_of_ble_eq_true rfl)).trans rfl
theorem f165_33 : zi_fe 165 33 = some ((.invokevirtual 142), 3, 164, 0, 8, 1331, 3) := (zl165_1 (Nat.le_of_ble_eq_true rfl)).trans rfl
theorem zl165_2 {pc : Nat} (h : 36 ≤ pc) : zi_fe 165 pc = zu165_2.lookup pc := (zl165_1 (Nat.le_trans (Nat.le_of_ble_eq_true rfl) h)).trans (zi_lkA (a := zi_i165_1) (c := 36) rfl h)
theorem f165_36 : zi_fe 165 36 = some ((.aload_n 0), 1, 0, 0, 0, 0, 0) := (zl165_2 (Nat.le_of_ble_eq_true rfl)).trans rfl
theorem f165_37 : zi_fe 165 37 = some ((.getfield 98), 3, 8, 5, 0, 1070, 0) := (zl165_2 (Nat.le_of_ble_eq_true rfl)).trans rfl
theorem f165_40 : zi_fe 165 40 = some ((.aload_n 0), 1, 0, 0, 0, 0, 0) := (zl165_2 (Nat.le_of_ble_eq_true rfl)).trans rfl
theorem f165_41 : zi_fe 165 41 = some ((.getfield 7), 3, 8, 0, 3, 1065, 0) := (zl165_2 (Nat.le_of_ble_eq_true rfl)).trans rfl
theorem f165_44 : zi_fe 165 44 = some ((.sipush 314), 3, 0, 0, 0, 0, 0) := (zl165_2 (Nat.le_of_ble_eq_true rfl)).trans rfl
theorem f165_47 : zi_fe 165 47 = some (.iaload, 1, 0, 0, 0, 0, 0) := (zl165_2 (Nat.le_of_ble_eq_true rfl)).trans rfl
theorem f165_48 : zi_fe 165 48 = some ((.if_icmp .gt 20), 3, 0, 0, 0, 0, 0) := (zl165_2 (Nat.le_of_ble_eq_true rfl)).trans rfl
theorem f165_51 : zi_fe 165 51 = some ((.aload_n 0), 1, 0, 0, 0, 0, 0) := (zl165_2 (Nat.le_of_ble_eq_true rfl)).trans rfl
theorem f165_52 : zi_fe 165 52 = some ((.iload_n 2), 1, 0, 0, 0, 0, 0) := (zl165_2 (Nat.le_of_ble_eq_true rfl)).trans rfl
theorem f165_53 : zi_fe 165 53 = some ((.iconst 0), 1, 0, 0, 0, 0, 0) := (zl165_2 (Nat.le_of_ble_eq_true rfl)).trans rfl
theorem f165_54 : zi_fe 165 54 = some ((.aload_n 0), 1, 0, 0, 0, 0, 0) := (zl165_2 (Nat.le_of_ble_eq_true rfl)).trans rfl
theorem f165_55 : zi_fe 165 55 = some ((.getfield 98), 3, 8, 5, 0, 1070, 0) := (zl165_2 (Nat.le_of_ble_eq_true rfl)).trans rfl
theorem zl165_3 {pc : Nat} (h : 58 ≤ pc) : zi_fe 165 pc = zu165_3.lookup pc := (zl165_2 (Nat.le_trans (Nat.le_of_ble_eq_true rfl) h)).trans (zi_lkA (a := zi_i165_2) (c := 58) rfl h)
theorem f165_58 : zi_fe 165 58 = some ((.invokevirtual 109), 3, 154, 0, 8, 1339, 4) := (zl165_3 (Nat.le_of_ble_eq_true rfl)).trans rfl
theorem f165_61 : zi_fe 165 61 = some ((.aload_n 0), 1, 0, 0, 0, 0, 0) := (zl165_3 (Nat.le_of_ble_eq_true rfl)).trans rfl
theorem f165_62 : zi_fe 165 62 = some ((.iload_n 1), 1, 0, 0, 0, 0, 0) := (zl165_3 (Nat.le_of_ble_eq_true rfl)).trans rfl
theorem f165_63 : zi_fe 165 63 = some ((.iconst 1), 1, 0, 0, 0, 0, 0) := (zl165_3 (Nat.le_of_ble_eq_true rfl)).trans rfl
theorem f165_64 : zi_fe 165 64 = some ((.invokevirtual 132), 3, 159, 0, 8, 1315, 3) := (zl165_3 (Nat.le_of_ble_eq_true rfl)).trans rfl
theorem f165_67 : zi_fe 165 67 = some (.ireturn, 1, 0, 0, 0, 0, 0) := (zl165_3 (Nat.le_of_ble_eq_true rfl)).trans rfl
theorem f165_68 : zi_fe 165 68 = some ((.aload_n 0), 1, 0, 0, 0, 0, 0) := (zl165_3 (Nat.le_of_ble_eq_true rfl)).trans rfl
theorem f165_69 : zi_fe 165 69 = some ((.getfield 7), 3, 8, 0, 3, 1065, 0) := (zl165_3 (Nat.le_of_ble_eq_true rfl)).trans rfl
theorem f165_72 : zi_fe 165 72 = some ((.sipush 312), 3, 0, 0, 0, 0, 0) := (zl165_3 (Nat.le_of_ble_eq_true rfl)).trans rfl
theorem f165_75 : zi_fe 165 75 = some (.iaload, 1, 0, 0, 0, 0, 0) := (zl165_3 (Nat.le_of_ble_eq_true rfl)).trans rfl
theorem f165_76 : zi_fe 165 76 = some ((.bipush 24), 2, 0, 0, 0, 0, 0) := (zl165_3 (Nat.le_of_ble_eq_true rfl)).trans rfl
theorem f165_78 : zi_fe 165 78 = some ((.if_icmp .ne 11), 3, 0, 0, 0, 0, 0) := (zl165_3 (Nat.le_of_ble_eq_true rfl)).trans rfl
theorem zl165_4 {pc : Nat} (h : 81 ≤ pc) : zi_fe 165 pc = zu165_4.lookup pc := (zl165_3 (Nat.le_trans (Nat.le_of_ble_eq_true rfl) h)).trans (zi_lkA (a := zi_i165_3) (c := 81) rfl h)
theorem f165_81 : zi_fe 165 81 = some ((.aload_n 0), 1, 0, 0, 0, 0, 0) := (zl165_4 (Nat.le_of_ble_eq_true rfl)).trans rfl
theorem f165_82 : zi_fe 165 82 = some ((.iload_n 1), 1, 0, 0, 0, 0, 0) := (zl165_4 (Nat.le_of_ble_eq_true rfl)).trans rfl
theorem f165_83 : zi_fe 165 83 = some ((.bipush (-3)), 2, 0, 0, 0, 0, 0) := (zl165_4 (Nat.le_of_ble_eq_true rfl)).trans rfl
theorem f165_85 : zi_fe 165 85 = some ((.invokevirtual 132), 3, 159, 0, 8, 1315, 3) := (zl165_4 (Nat.le_of_ble_eq_true rfl)).trans rfl
theorem f165_88 : zi_fe 165 88 = some (.ireturn, 1, 0, 0, 0, 0, 0) := (zl165_4 (Nat.le_of_ble_eq_true rfl)).trans rfl
theorem f165_89 : zi_fe 165 89 = some ((.aload_n 0), 1, 0, 0, 0, 0, 0) := (zl165_4 (Nat.le_of_ble_eq_true rfl)).trans rfl
theorem f165_90 : zi_fe 165 90 = some ((.iload_n 1), 1, 0, 0, 0, 0, 0) := (zl165_4 (Nat.le_of_ble_eq_true rfl)).trans rfl
theorem f165_91 : zi_fe 165 91 = some ((.invokevirtual 145), 3, 157, 0, 8, 1343, 2) := (zl165_4 (Nat.le_of_ble_eq_true rfl)).trans rfl
theorem f165_94 : zi_fe 165 94 = some ((.aload_n 0), 1, 0, 0, 0, 0, 0) := (zl165_4 (Nat.le_of_ble_eq_true rfl)).trans rfl
theorem f165_95 : zi_fe 165 95 = some ((.iload_n 1), 1, 0, 0, 0, 0, 0) := (zl165_4 (Nat.le_of_ble_eq_true rfl)).trans rfl
theorem f165_96 : zi_fe 165 96 = some ((.iconst 4), 1, 0, 0, 0, 0, 0) := (zl165_4 (Nat.le_of_ble_eq_true rfl)).trans rfl
theorem f165_97 : zi_fe 165 97 = some ((.iconst 1), 1, 0, 0, 0, 0, 0) := (zl165_4 (Nat.le_of_ble_eq_true rfl)).trans rfl
theorem zl165_5 {pc : Nat} (h : 98 ≤ pc) : zi_fe 165 pc = zu165_5.lookup pc := (zl165_4 (Nat.le_trans (Nat.le_of_ble_eq_true rfl) h)).trans (zi_lkA (a := zi_i165_4) (c := 98) rfl h)
theorem f165_98 : zi_fe 165 98 = some ((.invokevirtual 102), 3, 147, 0, 8, 1253, 4) := (zl165_5 (Nat.le_of_ble_eq_true rfl)).trans rfl
theorem f165_101 : zi_fe 165 101 = some ((.iconst 5), 1, 0, 0, 0, 0, 0) := (zl165_5 (Nat.le_of_ble_eq_true rfl)).trans rfl
theorem f165_102 : zi_fe 165 102 = some (.ireturn, 1, 0, 0, 0, 0, 0) := (zl165_5 (Nat.le_of_ble_eq_true rfl)).trans rfl
theorem b165_0 {h : zi_Hp} {a0 : Nat} {x1 : Int32} {u2 : Value} {u3 : Value} (g0 : a0 < zh_n h) (g1 : (zh_k h a0).1 = 8) : zv 4 165 0 [.ref a0, .int x1, u2, u3] [] h = (zv 1 146 0 [.ref a0, .int x1, .int 3] [] h).bind fun r => zv 4 165 6 [.ref a0, .int x1, u2, u3] (r.1.toList ++ []) r.2 := by
  refine Eq.trans (zv_next f165_0 rfl) ?_
  refine Eq.trans (zv_next f165_1 rfl) ?_
  refine Eq.trans (zs_ic f165_2 ic_3) ?_
  exact zs_callV f165_3 (Nat.le_of_ble_eq_true rfl) (Nat.le_of_ble_eq_true rfl) rfl g0 g1 me_146 (by decide) rfl
theorem b165_6 {h : zi_Hp} {a0 : Nat} {x1 : Int32} {u2 : Value} {u3 : Value} {s0 : Int32} (g0 : a0 < zh_n h) (g1 : (zh_k h a0).1 = 8) : zv 4 165 6 [.ref a0, .int x1, u2, u3] [.int s0] h = (zv 1 146 0 [.ref a0, .int x1, .int 2] [] h).bind fun r => zv 4 165 13 [.ref a0, .int x1, .int s0, u3] (r.1.toList ++ []) r.2 := by
  refine Eq.trans (zv_next f165_6 rfl) ?_
  refine Eq.trans (zv_next f165_7 rfl) ?_
  refine Eq.trans (zv_next f165_8 rfl) ?_
  refine Eq.trans (zs_ic f165_9 ic_2) ?_
  exact zs_callV f165_10 (Nat.le_of_ble_eq_true rfl) (Nat.le_of_ble_eq_true rfl) rfl g0 g1 me_146 (by decide) rfl
theorem b165_13 {h : zi_Hp} {a0 : Nat} {x1 : Int32} {x2 : Int32} {u3 : Value} {s0 : Int32} (g0 : a0 < zh_n h) (g1 : (zh_k h a0).1 = 8) : zv 4 165 13 [.ref a0, .int x1, .int x2, u3] [.int s0] h = (zv 2 150 0 [.ref a0, .int x2, .int s0, .double 0, .double 0] [] h).bind fun r => zv 4 165 20 [.ref a0, .int x1, .int x2, .int s0] (r.1.toList ++ []) r.2 := by
  refine Eq.trans (zv_next f165_13 rfl) ?_
  refine Eq.trans (zv_next f165_14 rfl) ?_
  refine Eq.trans (zv_next f165_15 rfl) ?_
  refine Eq.trans (zv_next f165_16 rfl) ?_
  exact zs_callV f165_17 (Nat.le_of_ble_eq_true rfl) (Nat.le_of_ble_eq_true rfl) rfl g0 g1 me_150 (by decide) rfl
theorem b165_20 {h : zi_Hp} {a0 : Nat} {x1 : Int32} {x2 : Int32} {x3 : Int32} {s0 : Int32}  : zv 4 165 20 [.ref a0, .int x1, .int x2, .int x3] [.int s0] h = if s0 = 0 then zv 4 165 30 [.ref a0, .int x1, .int x2, .int x3] [] h else zv 4 165 23 [.ref a0, .int x1, .int x2, .int x3] [] h := by
  exact zs_if f165_20 rfl
theorem b165_23 {h : zi_Hp} {a0 : Nat} {x1 : Int32} {x2 : Int32} {x3 : Int32} (g0 : a0 < zh_n h) (g1 : (zh_k h a0).1 = 8) : zv 4 165 23 [.ref a0, .int x1, .int x2, .int x3] [] h = (zv 3 159 0 [.ref a0, .int x1, .int 0] [] h).bind fun r => zv 4 165 29 [.ref a0, .int x1, .int x2, .int x3] (r.1.toList ++ []) r.2 := by
  refine Eq.trans (zv_next f165_23 rfl) ?_
  refine Eq.trans (zv_next f165_24 rfl) ?_
  refine Eq.trans (zs_ic f165_25 ic_0) ?_
  exact zs_callV f165_26 (Nat.le_of_ble_eq_true rfl) (Nat.le_of_ble_eq_true rfl) rfl g0 g1 me_159 (by decide) rfl
theorem b165_29 {h : zi_Hp} {a0 : Nat} {x1 : Int32} {x2 : Int32} {x3 : Int32} {s0 : Int32}  : zv 4 165 29 [.ref a0, .int x1, .int x2, .int x3] [.int s0] h = some (some (.int s0), h) := by
  exact zs_ret0 f165_29
theorem b165_30 {h : zi_Hp} {a0 : Nat} {x1 : Int32} {x2 : Int32} {x3 : Int32} (g0 : a0 < zh_n h) (g1 : (zh_k h a0).1 = 8) : zv 4 165 30 [.ref a0, .int x1, .int x2, .int x3] [] h = (zv 2 164 0 [.ref a0, .int x2, .int x3, .double 0, .double 0] [] h).bind fun r => zv 4 165 36 [.ref a0, .int x1, .int x2, .int x3] (r.1.toList ++ []) r.2 := by
  refine Eq.trans (zv_next f165_30 rfl) ?_
  refine Eq.trans (zv_next f165_31 rfl) ?_
  refine Eq.trans (zv_next f165_32 rfl) ?_
  exact zs_callV f165_33 (Nat.le_of_ble_eq_true rfl) (Nat.le_of_ble_eq_true rfl) rfl g0 g1 me_164 (by decide) rfl
theorem b165_36 {h : zi_Hp} {a0 : Nat} {x1 : Int32} {x2 : Int32} {x3 : Int32} (g0 : a0 < zh_n h) (g1 : (zh_k h a0).1 = 8) (g2 : zh_r h a0 0 = .ref (zq (zh_r h a0 0))) (g3 : (zq (zh_r h a0 0)) < zh_n h) (g4 : 314 < (zh_k h (zq (zh_r h a0 0))).2) (g5 : (zh_k h (zq (zh_r h a0 0))).1 = 100) : zv 4 165 36 [.ref a0, .int x1, .int x2, .int x3] [] h = if (zh_i h (zq (zh_r h a0 0)) 314) < (zh_i h a0 5) then zv 4 165 68 [.ref a0, .int x1, .int x2, .int x3] [] h else zv 4 165 51 [.ref a0, .int x1, .int x2, .int x3] [] h := by
  refine Eq.trans (zv_next f165_36 rfl) ?_
  refine Eq.trans (zs_geti f165_37 g0 g1) ?_
  refine Eq.trans (zv_next f165_40 rfl) ?_
  refine Eq.trans (zs_getr f165_41 g0 g1 g2) ?_
  refine Eq.trans (zs_sp f165_44 sp_314) ?_
  refine Eq.trans (zs_iald f165_47 g3 g5 (zj_lit (by decide) g4)) ?_
  exact zs_icmp f165_48 rfl
theorem b165_51 {h : zi_Hp} {a0 : Nat} {x1 : Int32} {x2 : Int32} {x3 : Int32} (g0 : a0 < zh_n h) (g1 : (zh_k h a0).1 = 8) : zv 4 165 51 [.ref a0, .int x1, .int x2, .int x3] [] h = (zv 2 154 0 [.ref a0, .int x2, .int 0, .int (zh_i h a0 5), .double 0] [] h).bind fun r => zv 4 165 61 [.ref a0, .int x1, .int x2, .int x3] (r.1.toList ++ []) r.2 := by
  refine Eq.trans (zv_next f165_51 rfl) ?_
  refine Eq.trans (zv_next f165_52 rfl) ?_
  refine Eq.trans (zs_ic f165_53 ic_0) ?_
  refine Eq.trans (zv_next f165_54 rfl) ?_
  refine Eq.trans (zs_geti f165_55 g0 g1) ?_
  exact zs_callV f165_58 (Nat.le_of_ble_eq_true rfl) (Nat.le_of_ble_eq_true rfl) rfl g0 g1 me_154 (by decide) rfl
theorem b165_61 {h : zi_Hp} {a0 : Nat} {x1 : Int32} {x2 : Int32} {x3 : Int32} (g0 : a0 < zh_n h) (g1 : (zh_k h a0).1 = 8) : zv 4 165 61 [.ref a0, .int x1, .int x2, .int x3] [] h = (zv 3 159 0 [.ref a0, .int x1, .int 1] [] h).bind fun r => zv 4 165 67 [.ref a0, .int x1, .int x2, .int x3] (r.1.toList ++ []) r.2 := by
  refine Eq.trans (zv_next f165_61 rfl) ?_
  refine Eq.trans (zv_next f165_62 rfl) ?_
  refine Eq.trans (zs_ic f165_63 ic_1) ?_
  exact zs_callV f165_64 (Nat.le_of_ble_eq_true rfl) (Nat.le_of_ble_eq_true rfl) rfl g0 g1 me_159 (by decide) rfl
theorem b165_67 {h : zi_Hp} {a0 : Nat} {x1 : Int32} {x2 : Int32} {x3 : Int32} {s0 : Int32}  : zv 4 165 67 [.ref a0, .int x1, .int x2, .int x3] [.int s0] h = some (some (.int s0), h) := by
  exact zs_ret0 f165_67
theorem b165_68 {h : zi_Hp} {a0 : Nat} {x1 : Int32} {x2 : Int32} {x3 : Int32} (g0 : a0 < zh_n h) (g1 : (zh_k h a0).1 = 8) (g2 : zh_r h a0 0 = .ref (zq (zh_r h a0 0))) (g3 : (zq (zh_r h a0 0)) < zh_n h) (g4 : 312 < (zh_k h (zq (zh_r h a0 0))).2) (g5 : (zh_k h (zq (zh_r h a0 0))).1 = 100) : zv 4 165 68 [.ref a0, .int x1, .int x2, .int x3] [] h = if (zh_i h (zq (zh_r h a0 0)) 312) = 24 then zv 4 165 81 [.ref a0, .int x1, .int x2, .int x3] [] h else zv 4 165 89 [.ref a0, .int x1, .int x2, .int x3] [] h := by
  refine Eq.trans (zv_next f165_68 rfl) ?_
  refine Eq.trans (zs_getr f165_69 g0 g1 g2) ?_
  refine Eq.trans (zs_sp f165_72 sp_312) ?_
  refine Eq.trans (zs_iald f165_75 g3 g5 (zj_lit (by decide) g4)) ?_
  refine Eq.trans (zs_bp f165_76 bp_24) ?_
  exact zs_icmp f165_78 rfl
theorem b165_81 {h : zi_Hp} {a0 : Nat} {x1 : Int32} {x2 : Int32} {x3 : Int32} (g0 : a0 < zh_n h) (g1 : (zh_k h a0).1 = 8) : zv 4 165 81 [.ref a0, .int x1, .int x2, .int x3] [] h = (zv 3 159 0 [.ref a0, .int x1, .int (-3)] [] h).bind fun r => zv 4 165 88 [.ref a0, .int x1, .int x2, .int x3] (r.1.toList ++ []) r.2 := by
  refine Eq.trans (zv_next f165_81 rfl) ?_
  refine Eq.trans (zv_next f165_82 rfl) ?_
  refine Eq.trans (zs_bp f165_83 bp_m3) ?_
  exact zs_callV f165_85 (Nat.le_of_ble_eq_true rfl) (Nat.le_of_ble_eq_true rfl) rfl g0 g1 me_159 (by decide) rfl
theorem b165_88 {h : zi_Hp} {a0 : Nat} {x1 : Int32} {x2 : Int32} {x3 : Int32} {s0 : Int32}  : zv 4 165 88 [.ref a0, .int x1, .int x2, .int x3] [.int s0] h = some (some (.int s0), h) := by
  exact zs_ret0 f165_88
theorem b165_89 {h : zi_Hp} {a0 : Nat} {x1 : Int32} {x2 : Int32} {x3 : Int32} (g0 : a0 < zh_n h) (g1 : (zh_k h a0).1 = 8) : zv 4 165 89 [.ref a0, .int x1, .int x2, .int x3] [] h = (zv 3 157 0 [.ref a0, .int x1, .double 0, .double 0, .double 0] [] h).bind fun r => zv 4 165 94 [.ref a0, .int x1, .int x2, .int x3] (r.1.toList ++ []) r.2 := by
  refine Eq.trans (zv_next f165_89 rfl) ?_
  refine Eq.trans (zv_next f165_90 rfl) ?_
  exact zs_callV f165_91 (Nat.le_of_ble_eq_true rfl) (Nat.le_of_ble_eq_true rfl) rfl g0 g1 me_157 (by decide) rfl
theorem b165_94 {h : zi_Hp} {a0 : Nat} {x1 : Int32} {x2 : Int32} {x3 : Int32} (g0 : a0 < zh_n h) (g1 : (zh_k h a0).1 = 8) : zv 4 165 94 [.ref a0, .int x1, .int x2, .int x3] [] h = (zv 1 147 0 [.ref a0, .int x1, .int 4, .int 1] [] h).bind fun r => zv 4 165 101 [.ref a0, .int x1, .int x2, .int x3] (r.1.toList ++ []) r.2 := by
  refine Eq.trans (zv_next f165_94 rfl) ?_
  refine Eq.trans (zv_next f165_95 rfl) ?_
  refine Eq.trans (zs_ic f165_96 ic_4) ?_
  refine Eq.trans (zs_ic f165_97 ic_1) ?_
  exact zs_callV f165_98 (Nat.le_of_ble_eq_true rfl) (Nat.le_of_ble_eq_true rfl) rfl g0 g1 me_147 (by decide) rfl
theorem b165_101 {h : zi_Hp} {a0 : Nat} {x1 : Int32} {x2 : Int32} {x3 : Int32}  : zv 4 165 101 [.ref a0, .int x1, .int x2, .int x3] [] h = some (some (.int 5), h) := by
  refine Eq.trans (zs_ic f165_101 ic_5) ?_
  exact zs_ret0 f165_102
set_option maxRecDepth 20000 in
theorem zq166 : zi_M[166]? = some zi_m166 := rfl
theorem zl166_0 {pc : Nat} (_ : 0 ≤ pc) : zi_fe 166 pc = zu166_0.lookup pc := zi_feA zq166 pc
theorem f166_0 : zi_fe 166 0 = some ((.aload_n 0), 1, 0, 0, 0, 0, 0) := (zl166_0 (Nat.le_of_ble_eq_true rfl)).trans rfl
theorem f166_1 : zi_fe 166 1 = some ((.iload_n 1), 1, 0, 0, 0, 0, 0) := (zl166_0 (Nat.le_of_ble_eq_true rfl)).trans rfl
theorem f166_2 : zi_fe 166 2 = some ((.iconst 3), 1, 0, 0, 0, 0, 0) := (zl166_0 (Nat.le_of_ble_eq_true rfl)).trans rfl
theorem f166_3 : zi_fe 166 3 = some ((.invokevirtual 83), 3, 146, 0, 8, 1276, 3) := (zl166_0 (Nat.le_of_ble_eq_true rfl)).trans rfl
theorem f166_6 : zi_fe 166 6 = some ((.istore_n 2), 1, 0, 0, 0, 0, 0) := (zl166_0 (Nat.le_of_ble_eq_true rfl)).trans rfl
theorem f166_7 : zi_fe 166 7 = some ((.aload_n 0), 1, 0, 0, 0, 0, 0) := (zl166_0 (Nat.le_of_ble_eq_true rfl)).trans rfl
theorem f166_8 : zi_fe 166 8 = some ((.iload_n 1), 1, 0, 0, 0, 0, 0) := (zl166_0 (Nat.le_of_ble_eq_true rfl)).trans rfl
theorem f166_9 : zi_fe 166 9 = some ((.iconst 2), 1, 0, 0, 0, 0, 0) := (zl166_0 (Nat.le_of_ble_eq_true rfl)).trans rfl
theorem f166_10 : zi_fe 166 10 = some ((.invokevirtual 83), 3, 146, 0, 8, 1276, 3) := (zl166_0 (Nat.le_of_ble_eq_true rfl)).trans rfl
theorem f166_13 : zi_fe 166 13 = some ((.istore_n 3), 1, 0, 0, 0, 0, 0) := (zl166_0 (Nat.le_of_ble_eq_true rfl)).trans rfl
theorem f166_14 : zi_fe 166 14 = some ((.aload_n 0), 1, 0, 0, 0, 0, 0) := (zl166_0 (Nat.le_of_ble_eq_true rfl)).trans rfl
theorem f166_15 : zi_fe 166 15 = some ((.iload_n 2), 1, 0, 0, 0, 0, 0) := (zl166_0 (Nat.le_of_ble_eq_true rfl)).trans rfl
theorem zl166_1 {pc : Nat} (h : 16 ≤ pc) : zi_fe 166 pc = zu166_1.lookup pc := (zl166_0 (Nat.le_trans (Nat.le_of_ble_eq_true rfl) h)).trans (zi_lkA (a := zi_i166_0) (c := 16) rfl h)
theorem f166_16 : zi_fe 166 16 = some ((.iload_n 3), 1, 0, 0, 0, 0, 0) := (zl166_1 (Nat.le_of_ble_eq_true rfl)).trans rfl
theorem f166_17 : zi_fe 166 17 = some ((.invokevirtual 90), 3, 150, 0, 8, 1265, 3) := (zl166_1 (Nat.le_of_ble_eq_true rfl)).trans rfl
theorem f166_20 : zi_fe 166 20 = some ((.ifCond .ne 10), 3, 0, 0, 0, 0, 0) := (zl166_1 (Nat.le_of_ble_eq_true rfl)).trans rfl
theorem f166_23 : zi_fe 166 23 = some ((.aload_n 0), 1, 0, 0, 0, 0, 0) := (zl166_1 (Nat.le_of_ble_eq_true rfl)).trans rfl
theorem f166_24 : zi_fe 166 24 = some ((.iload_n 1), 1, 0, 0, 0, 0, 0) := (zl166_1 (Nat.le_of_ble_eq_true rfl)).trans rfl
theorem f166_25 : zi_fe 166 25 = some ((.iconst 0), 1, 0, 0, 0, 0, 0) := (zl166_1 (Nat.le_of_ble_eq_true rfl)).trans rfl
theorem f166_26 : zi_fe 166 26 = some ((.invokevirtual 132), 3, 159, 0, 8, 1315, 3) := (zl166_1 (Nat.le_of_ble_eq_true rfl)).trans rfl
theorem f166_29 : zi_fe 166 29 = some (.ireturn, 1, 0, 0, 0, 0, 0) := (zl166_1 (Nat.le_of_ble_eq_true rfl)).trans rfl
theorem f166_30 : zi_fe 166 30 = some ((.aload_n 0), 1, 0, 0, 0, 0, 0) := (zl166_1 (Nat.le_of_ble_eq_true rfl)).trans rfl
theorem f166_31 : zi_fe 166 31 = some ((.iconst 0), 1, 0, 0, 0, 0, 0) := (zl166_1 (Nat.le_of_ble_eq_true rfl)).trans rfl
theorem f166_32 : zi_fe 166 32 = some ((.putfield 98), 3, 8, 5, 0, 1070, 0) := (zl166_1 (Nat.le_of_ble_eq_true rfl)).trans rfl
theorem f166_35 : zi_fe 166 35 = some ((.iconst 0), 1, 0, 0, 0, 0, 0) := (zl166_1 (Nat.le_of_ble_eq_true rfl)).trans rfl
theorem zl166_2 {pc : Nat} (h : 36 ≤ pc) : zi_fe 166 pc = zu166_2.lookup pc := (zl166_1 (Nat.le_trans (Nat.le_of_ble_eq_true rfl) h)).trans (zi_lkA (a := zi_i166_1) (c := 36) rfl h)
theorem f166_36 : zi_fe 166 36 = some ((.istore 4), 2, 0, 0, 0, 0, 0) := (zl166_2 (Nat.le_of_ble_eq_true rfl)).trans rfl
theorem f166_38 : zi_fe 166 38 = some ((.iload 4), 2, 0, 0, 0, 0, 0) := (zl166_2 (Nat.le_of_ble_eq_true rfl)).trans rfl
theorem f166_40 : zi_fe 166 40 = some ((.aload_n 0), 1, 0, 0, 0, 0, 0) := (zl166_2 (Nat.le_of_ble_eq_true rfl)).trans rfl
theorem f166_41 : zi_fe 166 41 = some ((.iload_n 2), 1, 0, 0, 0, 0, 0) := (zl166_2 (Nat.le_of_ble_eq_true rfl)).trans rfl
theorem f166_42 : zi_fe 166 42 = some ((.iconst 1), 1, 0, 0, 0, 0, 0) := (zl166_2 (Nat.le_of_ble_eq_true rfl)).trans rfl
theorem f166_43 : zi_fe 166 43 = some ((.invokevirtual 87), 3, 144, 0, 8, 1261, 3) := (zl166_2 (Nat.le_of_ble_eq_true rfl)).trans rfl
theorem f166_46 : zi_fe 166 46 = some ((.if_icmp .ge 37), 3, 0, 0, 0, 0, 0) := (zl166_2 (Nat.le_of_ble_eq_true rfl)).trans rfl
theorem f166_49 : zi_fe 166 49 = some ((.aload_n 0), 1, 0, 0, 0, 0, 0) := (zl166_2 (Nat.le_of_ble_eq_true rfl)).trans rfl
theorem f166_50 : zi_fe 166 50 = some ((.iload_n 2), 1, 0, 0, 0, 0, 0) := (zl166_2 (Nat.le_of_ble_eq_true rfl)).trans rfl
theorem f166_51 : zi_fe 166 51 = some ((.iconst 5), 1, 0, 0, 0, 0, 0) := (zl166_2 (Nat.le_of_ble_eq_true rfl)).trans rfl
theorem f166_52 : zi_fe 166 52 = some ((.iload 4), 2, 0, 0, 0, 0, 0) := (zl166_2 (Nat.le_of_ble_eq_true rfl)).trans rfl
theorem f166_54 : zi_fe 166 54 = some (.iadd, 1, 0, 0, 0, 0, 0) := (zl166_2 (Nat.le_of_ble_eq_true rfl)).trans rfl
theorem zl166_3 {pc : Nat} (h : 55 ≤ pc) : zi_fe 166 pc = zu166_3.lookup pc := (zl166_2 (Nat.le_trans (Nat.le_of_ble_eq_true rfl) h)).trans (zi_lkA (a := zi_i166_2) (c := 55) rfl h)
theorem f166_55 : zi_fe 166 55 = some ((.invokevirtual 87), 3, 144, 0, 8, 1261, 3) := (zl166_3 (Nat.le_of_ble_eq_true rfl)).trans rfl
theorem f166_58 : zi_fe 166 58 = some ((.iload_n 3), 1, 0, 0, 0, 0, 0) := (zl166_3 (Nat.le_of_ble_eq_true rfl)).trans rfl
theorem f166_59 : zi_fe 166 59 = some ((.if_icmp .eq 18), 3, 0, 0, 0, 0, 0) := (zl166_3 (Nat.le_of_ble_eq_true rfl)).trans rfl
theorem f166_62 : zi_fe 166 62 = some ((.aload_n 0), 1, 0, 0, 0, 0, 0) := (zl166_3 (Nat.le_of_ble_eq_true rfl)).trans rfl
theorem f166_63 : zi_fe 166 63 = some ((.aload_n 0), 1, 0, 0, 0, 0, 0) := (zl166_3 (Nat.le_of_ble_eq_true rfl)).trans rfl
theorem f166_64 : zi_fe 166 64 = some ((.iload_n 2), 1, 0, 0, 0, 0, 0) := (zl166_3 (Nat.le_of_ble_eq_true rfl)).trans rfl
theorem f166_65 : zi_fe 166 65 = some ((.iconst 5), 1, 0, 0, 0, 0, 0) := (zl166_3 (Nat.le_of_ble_eq_true rfl)).trans rfl
theorem f166_66 : zi_fe 166 66 = some ((.iload 4), 2, 0, 0, 0, 0, 0) := (zl166_3 (Nat.le_of_ble_eq_true rfl)).trans rfl
theorem f166_68 : zi_fe 166 68 = some (.iadd, 1, 0, 0, 0, 0, 0) := (zl166_3 (Nat.le_of_ble_eq_true rfl)).trans rfl
theorem f166_69 : zi_fe 166 69 = some ((.invokevirtual 87), 3, 144, 0, 8, 1261, 3) := (zl166_3 (Nat.le_of_ble_eq_true rfl)).trans rfl
theorem f166_72 : zi_fe 166 72 = some ((.bipush (-4)), 2, 0, 0, 0, 0, 0) := (zl166_3 (Nat.le_of_ble_eq_true rfl)).trans rfl
theorem f166_74 : zi_fe 166 74 = some ((.invokevirtual 138), 3, 153, 0, 8, 1335, 3) := (zl166_3 (Nat.le_of_ble_eq_true rfl)).trans rfl
theorem zl166_4 {pc : Nat} (h : 77 ≤ pc) : zi_fe 166 pc = zu166_4.lookup pc := (zl166_3 (Nat.le_trans (Nat.le_of_ble_eq_true rfl) h)).trans (zi_lkA (a := zi_i166_3) (c := 77) rfl h)
theorem f166_77 : zi_fe 166 77 = some ((.iinc 4 1), 3, 0, 0, 0, 0, 0) := (zl166_4 (Nat.le_of_ble_eq_true rfl)).trans rfl
theorem f166_80 : zi_fe 166 80 = some ((.goto (-42)), 3, 0, 0, 0, 0, 0) := (zl166_4 (Nat.le_of_ble_eq_true rfl)).trans rfl
theorem f166_83 : zi_fe 166 83 = some ((.aload_n 0), 1, 0, 0, 0, 0, 0) := (zl166_4 (Nat.le_of_ble_eq_true rfl)).trans rfl
theorem f166_84 : zi_fe 166 84 = some ((.iload_n 2), 1, 0, 0, 0, 0, 0) := (zl166_4 (Nat.le_of_ble_eq_true rfl)).trans rfl
theorem f166_85 : zi_fe 166 85 = some ((.iconst 0), 1, 0, 0, 0, 0, 0) := (zl166_4 (Nat.le_of_ble_eq_true rfl)).trans rfl
theorem f166_86 : zi_fe 166 86 = some ((.aload_n 0), 1, 0, 0, 0, 0, 0) := (zl166_4 (Nat.le_of_ble_eq_true rfl)).trans rfl
theorem f166_87 : zi_fe 166 87 = some ((.getfield 98), 3, 8, 5, 0, 1070, 0) := (zl166_4 (Nat.le_of_ble_eq_true rfl)).trans rfl
theorem f166_90 : zi_fe 166 90 = some ((.invokevirtual 109), 3, 154, 0, 8, 1339, 4) := (zl166_4 (Nat.le_of_ble_eq_true rfl)).trans rfl
theorem f166_93 : zi_fe 166 93 = some ((.aload_n 0), 1, 0, 0, 0, 0, 0) := (zl166_4 (Nat.le_of_ble_eq_true rfl)).trans rfl
theorem f166_94 : zi_fe 166 94 = some ((.getfield 98), 3, 8, 5, 0, 1070, 0) := (zl166_4 (Nat.le_of_ble_eq_true rfl)).trans rfl
theorem f166_97 : zi_fe 166 97 = some ((.ifCond .gt 14), 3, 0, 0, 0, 0, 0) := (zl166_4 (Nat.le_of_ble_eq_true rfl)).trans rfl
theorem f166_100 : zi_fe 166 100 = some ((.aload_n 0), 1, 0, 0, 0, 0, 0) := (zl166_4 (Nat.le_of_ble_eq_true rfl)).trans rfl
theorem zl166_5 {pc : Nat} (h : 101 ≤ pc) : zi_fe 166 pc = zu166_5.lookup pc := (zl166_4 (Nat.le_trans (Nat.le_of_ble_eq_true rfl) h)).trans (zi_lkA (a := zi_i166_4) (c := 101) rfl h)
theorem f166_101 : zi_fe 166 101 = some ((.iload_n 2), 1, 0, 0, 0, 0, 0) := (zl166_5 (Nat.le_of_ble_eq_true rfl)).trans rfl
theorem f166_102 : zi_fe 166 102 = some ((.iconst 3), 1, 0, 0, 0, 0, 0) := (zl166_5 (Nat.le_of_ble_eq_true rfl)).trans rfl
theorem f166_103 : zi_fe 166 103 = some ((.invokevirtual 87), 3, 144, 0, 8, 1261, 3) := (zl166_5 (Nat.le_of_ble_eq_true rfl)).trans rfl
theorem f166_106 : zi_fe 166 106 = some ((.bipush (-4)), 2, 0, 0, 0, 0, 0) := (zl166_5 (Nat.le_of_ble_eq_true rfl)).trans rfl
theorem f166_108 : zi_fe 166 108 = some ((.if_icmp .ne 10), 3, 0, 0, 0, 0, 0) := (zl166_5 (Nat.le_of_ble_eq_true rfl)).trans rfl
theorem f166_111 : zi_fe 166 111 = some ((.aload_n 0), 1, 0, 0, 0, 0, 0) := (zl166_5 (Nat.le_of_ble_eq_true rfl)).trans rfl
theorem f166_112 : zi_fe 166 112 = some ((.iload_n 1), 1, 0, 0, 0, 0, 0) := (zl166_5 (Nat.le_of_ble_eq_true rfl)).trans rfl
theorem f166_113 : zi_fe 166 113 = some ((.iconst 1), 1, 0, 0, 0, 0, 0) := (zl166_5 (Nat.le_of_ble_eq_true rfl)).trans rfl
theorem f166_114 : zi_fe 166 114 = some ((.invokevirtual 132), 3, 159, 0, 8, 1315, 3) := (zl166_5 (Nat.le_of_ble_eq_true rfl)).trans rfl
theorem f166_117 : zi_fe 166 117 = some (.ireturn, 1, 0, 0, 0, 0, 0) := (zl166_5 (Nat.le_of_ble_eq_true rfl)).trans rfl
theorem f166_118 : zi_fe 166 118 = some ((.aload_n 0), 1, 0, 0, 0, 0, 0) := (zl166_5 (Nat.le_of_ble_eq_true rfl)).trans rfl
theorem f166_119 : zi_fe 166 119 = some ((.iload_n 1), 1, 0, 0, 0, 0, 0) := (zl166_5 (Nat.le_of_ble_eq_true rfl)).trans rfl
theorem zl166_6 {pc : Nat} (h : 120 ≤ pc) : zi_fe 166 pc = zu166_6.lookup pc := (zl166_5 (Nat.le_trans (Nat.le_of_ble_eq_true rfl) h)).trans (zi_lkA (a := zi_i166_5) (c := 120) rfl h)
theorem f166_120 : zi_fe 166 120 = some ((.iconst 4), 1, 0, 0, 0, 0, 0) := (zl166_6 (Nat.le_of_ble_eq_true rfl)).trans rfl
theorem f166_121 : zi_fe 166 121 = some ((.iconst 1), 1, 0, 0, 0, 0, 0) := (zl166_6 (Nat.le_of_ble_eq_true rfl)).trans rfl
theorem f166_122 : zi_fe 166 122 = some ((.invokevirtual 102), 3, 147, 0, 8, 1253, 4) := (zl166_6 (Nat.le_of_ble_eq_true rfl)).trans rfl
theorem f166_125 : zi_fe 166 125 = some ((.aload_n 0), 1, 0, 0, 0, 0, 0) := (zl166_6 (Nat.le_of_ble_eq_true rfl)).trans rfl
theorem f166_126 : zi_fe 166 126 = some ((.iload_n 2), 1, 0, 0, 0, 0, 0) := (zl166_6 (Nat.le_of_ble_eq_true rfl)).trans rfl
theorem f166_127 : zi_fe 166 127 = some ((.iconst 4), 1, 0, 0, 0, 0, 0) := (zl166_6 (Nat.le_of_ble_eq_true rfl)).trans rfl
theorem f166_128 : zi_fe 166 128 = some ((.iconst 1), 1, 0, 0, 0, 0, 0) := (zl166_6 (Nat.le_of_ble_eq_true rfl)).trans rfl
theorem f166_129 : zi_fe 166 129 = some ((.invokevirtual 79), 3, 145, 0, 8, 1061, 4) := (zl166_6 (Nat.le_of_ble_eq_true rfl)).trans rfl
theorem f166_132 : zi_fe 166 132 = some ((.aload_n 0), 1, 0, 0, 0, 0, 0) := (zl166_6 (Nat.le_of_ble_eq_true rfl)).trans rfl
theorem f166_133 : zi_fe 166 133 = some ((.iload_n 1), 1, 0, 0, 0, 0, 0) := (zl166_6 (Nat.le_of_ble_eq_true rfl)).trans rfl
theorem f166_134 : zi_fe 166 134 = some ((.aload_n 0), 1, 0, 0, 0, 0, 0) := (zl166_6 (Nat.le_of_ble_eq_true rfl)).trans rfl
theorem f166_135 : zi_fe 166 135 = some ((.iload_n 2), 1, 0, 0, 0, 0, 0) := (zl166_6 (Nat.le_of_ble_eq_true rfl)).trans rfl
theorem zl166_7 {pc : Nat} (h : 136 ≤ pc) : zi_fe 166 pc = zu166_7.lookup pc := (zl166_6 (Nat.le_trans (Nat.le_of_ble_eq_true rfl) h)).trans (zi_lkA (a := zi_i166_6) (c := 136) rfl h)
theorem f166_136 : zi_fe 166 136 = some ((.iconst 2), 1, 0, 0, 0, 0, 0) := (zl166_7 (Nat.le_of_ble_eq_true rfl)).trans rfl
theorem f166_137 : zi_fe 166 137 = some ((.invokevirtual 87), 3, 144, 0, 8, 1261, 3) := (zl166_7 (Nat.le_of_ble_eq_true rfl)).trans rfl
theorem f166_140 : zi_fe 166 140 = some ((.iload_n 2), 1, 0, 0, 0, 0, 0) := (zl166_7 (Nat.le_of_ble_eq_true rfl)).trans rfl
theorem f166_141 : zi_fe 166 141 = some ((.iconst 1), 1, 0, 0, 0, 0, 0) := (zl166_7 (Nat.le_of_ble_eq_true rfl)).trans rfl
theorem f166_142 : zi_fe 166 142 = some ((.iconst 1), 1, 0, 0, 0, 0, 0) := (zl166_7 (Nat.le_of_ble_eq_true rfl)).trans rfl
theorem f166_143 : zi_fe 166 143 = some ((.invokevirtual 112), 3, 156, 0, 8, 1351, 6) := (zl166_7 (Nat.le_of_ble_eq_true rfl)).trans rfl
theorem f166_146 : zi_fe 166 146 = some ((.bipush 6), 2, 0, 0, 0, 0, 0) := (zl166_7 (Nat.le_of_ble_eq_true rfl)).trans rfl
theorem f166_148 : zi_fe 166 148 = some (.ireturn, 1, 0, 0, 0, 0, 0) := (zl166_7 (Nat.le_of_ble_eq_true rfl)).trans rfl
theorem b166_0 {h : zi_Hp} {a0 : Nat} {x1 : Int32} {u2 : Value} {u3 : Value} {u4 : Value} (g0 : a0 < zh_n h) (g1 : (zh_k h a0).1 = 8) : zv 4 166 0 [.ref a0, .int x1, u2, u3, u4] [] h = (zv 1 146 0 [.ref a0, .int x1, .int 3] [] h).bind fun r => zv 4 166 6 [.ref a0, .int x1, u2, u3, u4] (r.1.toList ++ []) r.2 := by
  refine Eq.trans (zv_next f166_0 rfl) ?_
  refine Eq.trans (zv_next f166_1 rfl) ?_
  refine Eq.trans (zs_ic f166_2 ic_3) ?_
  exact zs_callV f166_3 (Nat.le_of_ble_eq_true rfl) (Nat.le_of_ble_eq_true rfl) rfl g0 g1 me_146 (by decide) rfl
theorem b166_6 {h : zi_Hp} {a0 : Nat} {x1 : Int32} {u2 : Value} {u3 : Value} {u4 : Value} {s0 : Int32} (g0 : a0 < zh_n h) (g1 : (zh_k h a0).1 = 8) : zv 4 166 6 [.ref a0, .int x1, u2, u3, u4] [.int s0] h = (zv 1 146 0 [.ref a0, .int x1, .int 2] [] h).bind fun r => zv 4 166 13 [.ref a0, .int x1, .int s0, u3, u4] (r.1.toList ++ []) r.2 := by
  refine Eq.trans (zv_next f166_6 rfl) ?_
  refine Eq.trans (zv_next f166_7 rfl) ?_
  refine Eq.trans (zv_next f166_8 rfl) ?_
  refine Eq.trans (zs_ic f166_9 ic_2) ?_
  exact zs_callV f166_10 (Nat.le_of_ble_eq_true rfl) (Nat.le_of_ble_eq_true rfl) rfl g0 g1 me_146 (by decide) rfl
theorem b166_13 {h : zi_Hp} {a0 : Nat} {x1 : Int32} {x2 : Int32} {u3 : Value} {u4 : Value} {s0 : Int32} (g0 : a0 < zh_n h) (g1 : (zh_k h a0).1 = 8) : zv 4 166 13 [.ref a0, .int x1, .int x2, u3, u4] [.int s0] h = (zv 2 150 0 [.ref a0, .int x2, .int s0, .double 0, .double 0] [] h).bind fun r => zv 4 166 20 [.ref a0, .int x1, .int x2, .int s0, u4] (r.1.toList ++ []) r.2 := by
  refine Eq.trans (zv_next f166_13 rfl) ?_
  refine Eq.trans (zv_next f166_14 rfl) ?_
  refine Eq.trans (zv_next f166_15 rfl) ?_
  refine Eq.trans (zv_next f166_16 rfl) ?_
  exact zs_callV f166_17 (Nat.le_of_ble_eq_true rfl) (Nat.le_of_ble_eq_true rfl) rfl g0 g1 me_150 (by decide) rfl
theorem b166_20 {h : zi_Hp} {a0 : Nat} {x1 : Int32} {x2 : Int32} {x3 : Int32} {u4 : Value} {s0 : Int32}  : zv 4 166 20 [.ref a0, .int x1, .int x2, .int x3, u4] [.int s0] h = if s0 = 0 then zv 4 166 23 [.ref a0, .int x1, .int x2, .int x3, u4] [] h else zv 4 166 30 [.ref a0, .int x1, .int x2, .int x3, u4] [] h := by
  exact zs_if f166_20 rfl
theorem b166_23 {h : zi_Hp} {a0 : Nat} {x1 : Int32} {x2 : Int32} {x3 : Int32} {u4 : Value} (g0 : a0 < zh_n h) (g1 : (zh_k h a0).1 = 8) : zv 4 166 23 [.ref a0, .int x1, .int x2, .int x3, u4] [] h = (zv 3 159 0 [.ref a0, .int x1, .int 0] [] h).bind fun r => zv 4 166 29 [.ref a0, .int x1, .int x2, .int x3, u4] (r.1.toList ++ []) r.2 := by
  refine Eq.trans (zv_next f166_23 rfl) ?_
  refine Eq.trans (zv_next f166_24 rfl) ?_
  refine Eq.trans (zs_ic f166_25 ic_0) ?_
  exact zs_callV f166_26 (Nat.le_of_ble_eq_true rfl) (Nat.le_of_ble_eq_true rfl) rfl g0 g1 me_159 (by decide) rfl
theorem b166_29 {h : zi_Hp} {a0 : Nat} {x1 : Int32} {x2 : Int32} {x3 : Int32} {u4 : Value} {s0 : Int32}  : zv 4 166 29 [.ref a0, .int x1, .int x2, .int x3, u4] [.int s0] h = some (some (.int s0), h) := by
  exact zs_ret0 f166_29
theorem b166_30 {h : zi_Hp} {a0 : Nat} {x1 : Int32} {x2 : Int32} {x3 : Int32} {u4 : Value} (g0 : a0 < zh_n h) (g1 : (zh_k h a0).1 = 8) : zv 4 166 30 [.ref a0, .int x1, .int x2, .int x3, u4] [] h = zv 4 166 38 [.ref a0, .int x1, .int x2, .int x3, .int 0] [] (zh_wi h a0 5 0) := by
  refine Eq.trans (zv_next f166_30 rfl) ?_
  refine Eq.trans (zs_ic f166_31 ic_0) ?_
  refine Eq.trans (zs_put f166_32 g0 g1 rfl) ?_
  refine Eq.trans (zs_ic f166_35 ic_0) ?_
  refine Eq.trans (zv_next f166_36 rfl) ?_
  rfl
theorem b166_38 {h : zi_Hp} {a0 : Nat} {x1 : Int32} {x2 : Int32} {x3 : Int32} {x4 : Int32} (g0 : a0 < zh_n h) (g1 : (zh_k h a0).1 = 8) : zv 4 166 38 [.ref a0, .int x1, .int x2, .int x3, .int x4] [] h = (zv 1 144 0 [.ref a0, .int x2, .int 1] [] h).bind fun r => zv 4 166 46 [.ref a0, .int x1, .int x2, .int x3, .int x4] (r.1.toList ++ [.int x4]) r.2 := by
  refine Eq.trans (zv_next f166_38 rfl) ?_
  refine Eq.trans (zv_next f166_40 rfl) ?_
  refine Eq.trans (zv_next f166_41 rfl) ?_
  refine Eq.trans (zs_ic f166_42 ic_1) ?_
  exact zs_callV f166_43 (Nat.le_of_ble_eq_true rfl) (Nat.le_of_ble_eq_true rfl) rfl g0 g1 me_144 (by decide) rfl
theorem b166_46 {h : zi_Hp} {a0 : Nat} {x1 : Int32} {x2 : Int32} {x3 : Int32} {x4 : Int32} {s0 : Int32} {s1 : Int32}  : zv 4 166 46 [.ref a0, .int x1, .int x2, .int x3, .int x4] [.int s1, .int s0] h = if s0 < s1 then zv 4 166 49 [.ref a0, .int x1, .int x2, .int x3, .int x4] [] h else zv 4 166 83 [.ref a0, .int x1, .int x2, .int x3, .int x4] [] h := by
  exact zs_icmp f166_46 rfl
theorem b166_49 {h : zi_Hp} {a0 : Nat} {x1 : Int32} {x2 : Int32} {x3 : Int32} {x4 : Int32} (g0 : a0 < zh_n h) (g1 : (zh_k h a0).1 = 8) : zv 4 166 49 [.ref a0, .int x1, .int x2, .int x3, .int x4] [] h = (zv 1 144 0 [.ref a0, .int x2, .int (5 + x4)] [] h).bind fun r => zv 4 166 58 [.ref a0, .int x1, .int x2, .int x3, .int x4] (r.1.toList ++ []) r.2 := by
  refine Eq.trans (zv_next f166_49 rfl) ?_
  refine Eq.trans (zv_next f166_50 rfl) ?_
  refine Eq.trans (zs_ic f166_51 ic_5) ?_
  refine Eq.trans (zv_next f166_52 rfl) ?_
  refine Eq.trans (zv_next f166_54 rfl) ?_
  exact zs_callV f166_55 (Nat.le_of_ble_eq_true rfl) (Nat.le_of_ble_eq_true rfl) rfl g0 g1 me_144 (by decide) rfl
theorem b166_58 {h : zi_Hp} {a0 : Nat} {x1 : Int32} {x2 : Int32} {x3 : Int32} {x4 : Int32} {s0 : Int32}  : zv 4 166 58 [.ref a0, .int x1, .int x2, .int x3, .int x4] [.int s0] h = if s0 = x3 then zv 4 166 77 [.ref a0, .int x1, .int x2, .int x3, .int x4] [] h else zv 4 166 62 [.ref a0, .int x1, .int x2, .int x3, .int x4] [] h := by
  refine Eq.trans (zv_next f166_58 rfl) ?_
  exact zs_icmp f166_59 rfl
theorem b166_62 {h : zi_Hp} {a0 : Nat} {x1 : Int32} {x2 : Int32} {x3 : Int32} {x4 : Int32} (g0 : a0 < zh_n h) (g1 : (zh_k h a0).1 = 8) : zv 4 166 62 [.ref a0, .int x1, .int x2, .int x3, .int x4] [] h = (zv 1 144 0 [.ref a0, .int x2, .int (5 + x4)] [] h).bind fun r => zv 4 166 72 [.ref a0, .int x1, .int x2, .int x3, .int x4] (r.1.toList ++ [.ref a0]) r.2 := by
  refine Eq.trans (zv_next f166_62 rfl) ?_
  refine Eq.trans (zv_next f166_63 rfl) ?_
  refine Eq.trans (zv_next f166_64 rfl) ?_
  refine Eq.trans (zs_ic f166_65 ic_5) ?_
  refine Eq.trans (zv_next f166_66 rfl) ?_
  refine Eq.trans (zv_next f166_68 rfl) ?_
  exact zs_callV f166_69 (Nat.le_of_ble_eq_true rfl) (Nat.le_of_ble_eq_true rfl) rfl g0 g1 me_144 (by decide) rfl
theorem b166_72 {h : zi_Hp} {a0 : Nat} {x1 : Int32} {x2 : Int32} {x3 : Int32} {x4 : Int32} {t0 : Nat} {s1 : Int32} (g0 : t0 < zh_n h) (g1 : (zh_k h t0).1 = 8) : zv 4 166 72 [.ref a0, .int x1, .int x2, .int x3, .int x4] [.int s1, .ref t0] h = (zv 1 153 0 [.ref t0, .int s1, .int (-4)] [] h).bind fun r => zv 4 166 77 [.ref a0, .int x1, .int x2, .int x3, .int x4] (r.1.toList ++ []) r.2 := by
  refine Eq.trans (zs_bp f166_72 bp_m4) ?_
  exact zs_callV f166_74 (Nat.le_of_ble_eq_true rfl) (Nat.le_of_ble_eq_true rfl) rfl g0 g1 me_153 (by decide) rfl
theorem b166_77 {h : zi_Hp} {a0 : Nat} {x1 : Int32} {x2 : Int32} {x3 : Int32} {x4 : Int32}  : zv 4 166 77 [.ref a0, .int x1, .int x2, .int x3, .int x4] [] h = zv 4 166 38 [.ref a0, .int x1, .int x2, .int x3, .int (x4 + 1)] [] h := by
  refine Eq.trans (zs_inc f166_77 rfl ic_1 rfl) ?_
  refine Eq.trans (zs_goto (tgt := 38) f166_80 rfl) ?_
  rfl
theorem b166_83 {h : zi_Hp} {a0 : Nat} {x1 : Int32} {x2 : Int32} {x3 : Int32} {x4 : Int32} (g0 : a0 < zh_n h) (g1 : (zh_k h a0).1 = 8) : zv 4 166 83 [.ref a0, .int x1, .int x2, .int x3, .int x4] [] h = (zv 2 154 0 [.ref a0, .int x2, .int 0, .int (zh_i h a0 5), .double 0] [] h).bind fun r => zv 4 166 93 [.ref a0, .int x1, .int x2, .int x3, .int x4] (r.1.toList ++ []) r.2 := by
  refine Eq.trans (zv_next f166_83 rfl) ?_
  refine Eq.trans (zv_next f166_84 rfl) ?_
  refine Eq.trans (zs_ic f166_85 ic_0) ?_
  refine Eq.trans (zv_next f166_86 rfl) ?_
  refine Eq.trans (zs_geti f166_87 g0 g1) ?_
  exact zs_callV f166_90 (Nat.le_of_ble_eq_true rfl) (Nat.le_of_ble_eq_true rfl) rfl g0 g1 me_154 (by decide) rfl
theorem b166_93 {h : zi_Hp} {a0 : Nat} {x1 : Int32} {x2 : Int32} {x3 : Int32} {x4 : Int32} (g0 : a0 < zh_n h) (g1 : (zh_k h a0).1 = 8) : zv 4 166 93 [.ref a0, .int x1, .int x2, .int x3, .int x4] [] h = if 0 < (zh_i h a0 5) then zv 4 166 111 [.ref a0, .int x1, .int x2, .int x3, .int x4] [] h else zv 4 166 100 [.ref a0, .int x1, .int x2, .int x3, .int x4] [] h := by
  refine Eq.trans (zv_next f166_93 rfl) ?_
  refine Eq.trans (zs_geti f166_94 g0 g1) ?_
  exact zs_if f166_97 rfl
theorem b166_100 {h : zi_Hp} {a0 : Nat} {x1 : Int32} {x2 : Int32} {x3 : Int32} {x4 : Int32} (g0 : a0 < zh_n h) (g1 : (zh_k h a0).1 = 8) : zv 4 166 100 [.ref a0, .int x1, .int x2, .int x3, .int x4] [] h = (zv 1 144 0 [.ref a0, .int x2, .int 3] [] h).bind fun r => zv 4 166 106 [.ref a0, .int x1, .int x2, .int x3, .int x4] (r.1.toList ++ []) r.2 := by
  refine Eq.trans (zv_next f166_100 rfl) ?_
  refine Eq.trans (zv_next f166_101 rfl) ?_
  refine Eq.trans (zs_ic f166_102 ic_3) ?_
  exact zs_callV f166_103 (Nat.le_of_ble_eq_true rfl) (Nat.le_of_ble_eq_true rfl) rfl g0 g1 me_144 (by decide) rfl
theorem b166_106 {h : zi_Hp} {a0 : Nat} {x1 : Int32} {x2 : Int32} {x3 : Int32} {x4 : Int32} {s0 : Int32}  : zv 4 166 106 [.ref a0, .int x1, .int x2, .int x3, .int x4] [.int s0] h = if s0 = (-4) then zv 4 166 111 [.ref a0, .int x1, .int x2, .int x3, .int x4] [] h else zv 4 166 118 [.ref a0, .int x1, .int x2, .int x3, .int x4] [] h := by
  refine Eq.trans (zs_bp f166_106 bp_m4) ?_
  exact zs_icmp f166_108 rfl
theorem b166_111 {h : zi_Hp} {a0 : Nat} {x1 : Int32} {x2 : Int32} {x3 : Int32} {x4 : Int32} (g0 : a0 < zh_n h) (g1 : (zh_k h a0).1 = 8) : zv 4 166 111 [.ref a0, .int x1, .int x2, .int x3, .int x4] [] h = (zv 3 159 0 [.ref a0, .int x1, .int 1] [] h).bind fun r => zv 4 166 117 [.ref a0, .int x1, .int x2, .int x3, .int x4] (r.1.toList ++ []) r.2 := by
  refine Eq.trans (zv_next f166_111 rfl) ?_
  refine Eq.trans (zv_next f166_112 rfl) ?_
  refine Eq.trans (zs_ic f166_113 ic_1) ?_
  exact zs_callV f166_114 (Nat.le_of_ble_eq_true rfl) (Nat.le_of_ble_eq_true rfl) rfl g0 g1 me_159 (by decide) rfl
theorem b166_117 {h : zi_Hp} {a0 : Nat} {x1 : Int32} {x2 : Int32} {x3 : Int32} {x4 : Int32} {s0 : Int32}  : zv 4 166 117 [.ref a0, .int x1, .int x2, .int x3, .int x4] [.int s0] h = some (some (.int s0), h) := by
  exact zs_ret0 f166_117
theorem b166_118 {h : zi_Hp} {a0 : Nat} {x1 : Int32} {x2 : Int32} {x3 : Int32} {x4 : Int32} (g0 : a0 < zh_n h) (g1 : (zh_k h a0).1 = 8) : zv 4 166 118 [.ref a0, .int x1, .int x2, .int x3, .int x4] [] h = (zv 1 147 0 [.ref a0, .int x1, .int 4, .int 1] [] h).bind fun r => zv 4 166 125 [.ref a0, .int x1, .int x2, .int x3, .int x4] (r.1.toList ++ []) r.2 := by
  refine Eq.trans (zv_next f166_118 rfl) ?_
  refine Eq.trans (zv_next f166_119 rfl) ?_
  refine Eq.trans (zs_ic f166_120 ic_4) ?_
  refine Eq.trans (zs_ic f166_121 ic_1) ?_
  exact zs_callV f166_122 (Nat.le_of_ble_eq_true rfl) (Nat.le_of_ble_eq_true rfl) rfl g0 g1 me_147 (by decide) rfl
theorem b166_125 {h : zi_Hp} {a0 : Nat} {x1 : Int32} {x2 : Int32} {x3 : Int32} {x4 : Int32} (g0 : a0 < zh_n h) (g1 : (zh_k h a0).1 = 8) : zv 4 166 125 [.ref a0, .int x1, .int x2, .int x3, .int x4] [] h = (zv 1 145 0 [.ref a0, .int x2, .int 4, .int 1] [] h).bind fun r => zv 4 166 132 [.ref a0, .int x1, .int x2, .int x3, .int x4] (r.1.toList ++ []) r.2 := by
  refine Eq.trans (zv_next f166_125 rfl) ?_
  refine Eq.trans (zv_next f166_126 rfl) ?_
  refine Eq.trans (zs_ic f166_127 ic_4) ?_
  refine Eq.trans (zs_ic f166_128 ic_1) ?_
  exact zs_callV f166_129 (Nat.le_of_ble_eq_true rfl) (Nat.le_of_ble_eq_true rfl) rfl g0 g1 me_145 (by decide) rfl
theorem b166_132 {h : zi_Hp} {a0 : Nat} {x1 : Int32} {x2 : Int32} {x3 : Int32} {x4 : Int32} (g0 : a0 < zh_n h) (g1 : (zh_k h a0).1 = 8) : zv 4 166 132 [.ref a0, .int x1, .int x2, .int x3, .int x4] [] h = (zv 1 144 0 [.ref a0, .int x2, .int 2] [] h).bind fun r => zv 4 166 140 [.ref a0, .int x1, .int x2, .int x3, .int x4] (r.1.toList ++ [.int x1, .ref a0]) r.2 := by
  refine Eq.trans (zv_next f166_132 rfl) ?_
  refine Eq.trans (zv_next f166_133 rfl) ?_
  refine Eq.trans (zv_next f166_134 rfl) ?_
  refine Eq.trans (zv_next f166_135 rfl) ?_
  refine Eq.trans (zs_ic f166_136 ic_2) ?_
  exact zs_callV f166_137 (Nat.le_of_ble_eq_true rfl) (Nat.le_of_ble_eq_true rfl) rfl g0 g1 me_144 (by decide) rfl
theorem b166_140 {h : zi_Hp} {a0 : Nat} {x1 : Int32} {x2 : Int32} {x3 : Int32} {x4 : Int32} {t0 : Nat} {s1 : Int32} {s2 : Int32} (g0 : t0 < zh_n h) (g1 : (zh_k h t0).1 = 8) : zv 4 166 140 [.ref a0, .int x1, .int x2, .int x3, .int x4] [.int s2, .int s1, .ref t0] h = (zv 2 156 0 [.ref t0, .int s1, .int s2, .int x2, .int 1, .int 1, .double 0] [] h).bind fun r => zv 4 166 146 [.ref a0, .int x1, .int x2, .int x3, .int x4] (r.1.toList ++ []) r.2 := by
  refine Eq.trans (zv_next f166_140 rfl) ?_
  refine Eq.trans (zs_ic f166_141 ic_1) ?_
  refine Eq.trans (zs_ic f166_142 ic_1) ?_
  exact zs_callV f166_143 (Nat.le_of_ble_eq_true rfl) (Nat.le_of_ble_eq_true rfl) rfl g0 g1 me_156 (by decide) rfl
theorem b166_146 {h : zi_Hp} {a0 : Nat} {x1 : Int32} {x2 : Int32} {x3 : Int32} {x4 : Int32}  : zv 4 166 146 [.ref a0, .int x1, .int x2, .int x3, .int x4] [] h = some (some (.int 6), h) := by
  refine Eq.trans (zs_bp f166_146 bp_6) ?_
  exact zs_ret0 f166_148
set_option maxRecDepth 20000 in
theorem zq167 : zi_M[167]? = some zi_m167 := rfl
theorem zl167_0 {pc : Nat} (_ : 0 ≤ pc) : zi_fe 167 pc = zu167_0.lookup pc := zi_feA zq167 pc
theorem f167_0 : zi_fe 167 0 = some ((.aload_n 0), 1, 0, 0, 0, 0, 0) := (zl167_0 (Nat.le_of_ble_eq_true rfl)).trans rfl
theorem f167_1 : zi_fe 167 1 = some ((.iconst 0), 1, 0, 0, 0, 0, 0) := (zl167_0 (Nat.le_of_ble_eq_true rfl)).trans rfl
theorem f167_2 : zi_fe 167 2 = some ((.putfield 98), 3, 8, 5, 0, 1070, 0) := (zl167_0 (Nat.le_of_ble_eq_true rfl)).trans rfl
theorem f167_5 : zi_fe 167 5 = some ((.aload_n 0), 1, 0, 0, 0, 0, 0) := (zl167_0 (Nat.le_of_ble_eq_true rfl)).trans rfl
theorem f167_6 : zi_fe 167 6 = some ((.aload_n 0), 1, 0, 0, 0, 0, 0) := (zl167_0 (Nat.le_of_ble_eq_true rfl)).trans rfl
theorem f167_7 : zi_fe 167 7 = some ((.iload_n 1), 1, 0, 0, 0, 0, 0) := (zl167_0 (Nat.le_of_ble_eq_true rfl)).trans rfl
theorem f167_8 : zi_fe 167 8 = some ((.bipush 8), 2, 0, 0, 0, 0, 0) := (zl167_0 (Nat.le_of_ble_eq_true rfl)).trans rfl
theorem f167_10 : zi_fe 167 10 = some ((.invokevirtual 83), 3, 146, 0, 8, 1276, 3) := (zl167_0 (Nat.le_of_ble_eq_true rfl)).trans rfl
theorem f167_13 : zi_fe 167 13 = some ((.aload_n 0), 1, 0, 0, 0, 0, 0) := (zl167_0 (Nat.le_of_ble_eq_true rfl)).trans rfl
theorem f167_14 : zi_fe 167 14 = some ((.getfield 7), 3, 8, 0, 3, 1065, 0) := (zl167_0 (Nat.le_of_ble_eq_true rfl)).trans rfl
theorem f167_17 : zi_fe 167 17 = some ((.sipush 313), 3, 0, 0, 0, 0, 0) := (zl167_0 (Nat.le_of_ble_eq_true rfl)).trans rfl
theorem f167_20 : zi_fe 167 20 = some (.iaload, 1, 0, 0, 0, 0, 0) := (zl167_0 (Nat.le_of_ble_eq_true rfl)).trans rfl
theorem zl167_1 {pc : Nat} (h : 21 ≤ pc) : zi_fe 167 pc = zu167_1.lookup pc := (zl167_0 (Nat.le_trans (Nat.le_of_ble_eq_true rfl) h)).trans (zi_lkA (a := zi_i167_0) (c := 21) rfl h)
theorem f167_21 : zi_fe 167 21 = some ((.invokevirtual 138), 3, 153, 0, 8, 1335, 3) := (zl167_1 (Nat.le_of_ble_eq_true rfl)).trans rfl
theorem f167_24 : zi_fe 167 24 = some ((.aload_n 0), 1, 0, 0, 0, 0, 0) := (zl167_1 (Nat.le_of_ble_eq_true rfl)).trans rfl
theorem f167_25 : zi_fe 167 25 = some ((.bipush 100), 2, 0, 0, 0, 0, 0) := (zl167_1 (Nat.le_of_ble_eq_true rfl)).trans rfl
theorem f167_27 : zi_fe 167 27 = some ((.aload_n 0), 1, 0, 0, 0, 0, 0) := (zl167_1 (Nat.le_of_ble_eq_true rfl)).trans rfl
theorem f167_28 : zi_fe 167 28 = some ((.iload_n 1), 1, 0, 0, 0, 0, 0) := (zl167_1 (Nat.le_of_ble_eq_true rfl)).trans rfl
theorem f167_29 : zi_fe 167 29 = some ((.bipush 9), 2, 0, 0, 0, 0, 0) := (zl167_1 (Nat.le_of_ble_eq_true rfl)).trans rfl
theorem f167_31 : zi_fe 167 31 = some ((.invokevirtual 83), 3, 146, 0, 8, 1276, 3) := (zl167_1 (Nat.le_of_ble_eq_true rfl)).trans rfl
theorem f167_34 : zi_fe 167 34 = some ((.invokevirtual 138), 3, 153, 0, 8, 1335, 3) := (zl167_1 (Nat.le_of_ble_eq_true rfl)).trans rfl
theorem f167_37 : zi_fe 167 37 = some ((.aload_n 0), 1, 0, 0, 0, 0, 0) := (zl167_1 (Nat.le_of_ble_eq_true rfl)).trans rfl
theorem f167_38 : zi_fe 167 38 = some ((.aload_n 0), 1, 0, 0, 0, 0, 0) := (zl167_1 (Nat.le_of_ble_eq_true rfl)).trans rfl
theorem f167_39 : zi_fe 167 39 = some ((.iload_n 1), 1, 0, 0, 0, 0, 0) := (zl167_1 (Nat.le_of_ble_eq_true rfl)).trans rfl
theorem f167_40 : zi_fe 167 40 = some ((.bipush 10), 2, 0, 0, 0, 0, 0) := (zl167_1 (Nat.le_of_ble_eq_true rfl)).trans rfl
theorem zl167_2 {pc : Nat} (h : 42 ≤ pc) : zi_fe 167 pc = zu167_2.lookup pc := (zl167_1 (Nat.le_trans (Nat.le_of_ble_eq_true rfl) h)).trans (zi_lkA (a := zi_i167_1) (c := 42) rfl h)
theorem f167_42 : zi_fe 167 42 = some ((.invokevirtual 83), 3, 146, 0, 8, 1276, 3) := (zl167_2 (Nat.le_of_ble_eq_true rfl)).trans rfl
theorem f167_45 : zi_fe 167 45 = some ((.bipush 100), 2, 0, 0, 0, 0, 0) := (zl167_2 (Nat.le_of_ble_eq_true rfl)).trans rfl
theorem f167_47 : zi_fe 167 47 = some ((.bipush (-4)), 2, 0, 0, 0, 0, 0) := (zl167_2 (Nat.le_of_ble_eq_true rfl)).trans rfl
theorem f167_49 : zi_fe 167 49 = some ((.invokevirtual 105), 3, 155, 0, 8, 1347, 4) := (zl167_2 (Nat.le_of_ble_eq_true rfl)).trans rfl
theorem f167_52 : zi_fe 167 52 = some ((.istore_n 2), 1, 0, 0, 0, 0, 0) := (zl167_2 (Nat.le_of_ble_eq_true rfl)).trans rfl
theorem f167_53 : zi_fe 167 53 = some ((.aload_n 0), 1, 0, 0, 0, 0, 0) := (zl167_2 (Nat.le_of_ble_eq_true rfl)).trans rfl
theorem f167_54 : zi_fe 167 54 = some ((.iload_n 2), 1, 0, 0, 0, 0, 0) := (zl167_2 (Nat.le_of_ble_eq_true rfl)).trans rfl
theorem f167_55 : zi_fe 167 55 = some ((.iconst 0), 1, 0, 0, 0, 0, 0) := (zl167_2 (Nat.le_of_ble_eq_true rfl)).trans rfl
theorem f167_56 : zi_fe 167 56 = some ((.iconst 2), 1, 0, 0, 0, 0, 0) := (zl167_2 (Nat.le_of_ble_eq_true rfl)).trans rfl
theorem f167_57 : zi_fe 167 57 = some ((.invokevirtual 109), 3, 154, 0, 8, 1339, 4) := (zl167_2 (Nat.le_of_ble_eq_true rfl)).trans rfl
theorem f167_60 : zi_fe 167 60 = some ((.aload_n 0), 1, 0, 0, 0, 0, 0) := (zl167_2 (Nat.le_of_ble_eq_true rfl)).trans rfl
theorem f167_61 : zi_fe 167 61 = some ((.getfield 7), 3, 8, 0, 3, 1065, 0) := (zl167_2 (Nat.le_of_ble_eq_true rfl)).trans rfl
theorem zl167_3 {pc : Nat} (h : 64 ≤ pc) : zi_fe 167 pc = zu167_3.lookup pc := (zl167_2 (Nat.le_trans (Nat.le_of_ble_eq_true rfl) h)).trans (zi_lkA (a := zi_i167_2) (c := 64) rfl h)
theorem f167_64 : zi_fe 167 64 = some ((.sipush 313), 3, 0, 0, 0, 0, 0) := (zl167_3 (Nat.le_of_ble_eq_true rfl)).trans rfl
theorem f167_67 : zi_fe 167 67 = some ((.iload_n 2), 1, 0, 0, 0, 0, 0) := (zl167_3 (Nat.le_of_ble_eq_true rfl)).trans rfl
theorem f167_68 : zi_fe 167 68 = some (.iastore, 1, 0, 0, 0, 0, 0) := (zl167_3 (Nat.le_of_ble_eq_true rfl)).trans rfl
theorem f167_69 : zi_fe 167 69 = some ((.aload_n 0), 1, 0, 0, 0, 0, 0) := (zl167_3 (Nat.le_of_ble_eq_true rfl)).trans rfl
theorem f167_70 : zi_fe 167 70 = some ((.iload_n 1), 1, 0, 0, 0, 0, 0) := (zl167_3 (Nat.le_of_ble_eq_true rfl)).trans rfl
theorem f167_71 : zi_fe 167 71 = some ((.bipush 7), 2, 0, 0, 0, 0, 0) := (zl167_3 (Nat.le_of_ble_eq_true rfl)).trans rfl
theorem f167_73 : zi_fe 167 73 = some ((.invokevirtual 116), 3, 158, 0, 8, 1319, 3) := (zl167_3 (Nat.le_of_ble_eq_true rfl)).trans rfl
theorem f167_76 : zi_fe 167 76 = some (.ireturn, 1, 0, 0, 0, 0, 0) := (zl167_3 (Nat.le_of_ble_eq_true rfl)).trans rfl
theorem b167_0 {h : zi_Hp} {a0 : Nat} {x1 : Int32} {u2 : Value} (g0 : a0 < zh_n h) (g1 : (zh_k h a0).1 = 8) : zv 3 167 0 [.ref a0, .int x1, u2] [] h = (zv 1 146 0 [.ref a0, .int x1, .int 8] [] (zh_wi h a0 5 0)).bind fun r => zv 3 167 13 [.ref a0, .int x1, u2] (r.1.toList ++ [.ref a0]) r.2 := by
  refine Eq.trans (zv_next f167_0 rfl) ?_
  refine Eq.trans (zs_ic f167_1 ic_0) ?_
  refine Eq.trans (zs_put f167_2 g0 g1 rfl) ?_
  refine Eq.trans (zv_next f167_5 rfl) ?_
  refine Eq.trans (zv_next f167_6 rfl) ?_
  refine Eq.trans (zv_next f167_7 rfl) ?_
  refine Eq.trans (zs_bp f167_8 bp_8) ?_
  exact zs_callV f167_10 (Nat.le_of_ble_eq_true rfl) (Nat.le_of_ble_eq_true rfl) rfl g0 g1 me_146 (by decide) rfl
theorem b167_13 {h : zi_Hp} {a0 : Nat} {x1 : Int32} {u2 : Value} {t0 : Nat} {s1 : Int32} (g0 : a0 < zh_n h) (g1 : (zh_k h a0).1 = 8) (g2 : zh_r h a0 0 = .ref (zq (zh_r h a0 0))) (g3 : (zq (zh_r h a0 0)) < zh_n h) (g4 : 313 < (zh_k h (zq (zh_r h a0 0))).2) (g5 : (zh_k h (zq (zh_r h a0 0))).1 = 100) (g6 : t0 < zh_n h) (g7 : (zh_k h t0).1 = 8) : zv 3 167 13 [.ref a0, .int x1, u2] [.int s1, .ref t0] h = (zv 1 153 0 [.ref t0, .int s1, .int (zh_i h (zq (zh_r h a0 0)) 313)] [] h).bind fun r => zv 3 167 24 [.ref a0, .int x1, u2] (r.1.toList ++ []) r.2 := by
  refine Eq.trans (zv_next f167_13 rfl) ?_
  refine Eq.trans (zs_getr f167_14 g0 g1 g2) ?_
  refine Eq.trans (zs_sp f167_17 sp_313) ?_
  refine Eq.trans (zs_iald f167_20 g3 g5 (zj_lit (by decide) g4)) ?_
  exact zs_callV f167_21 (Nat.le_of_ble_eq_true rfl) (Nat.le_of_ble_eq_true rfl) rfl g6 g7 me_153 (by decide) rfl
theorem b167_24 {h : zi_Hp} {a0 : Nat} {x1 : Int32} {u2 : Value} (g0 : a0 < zh_n h) (g1 : (zh_k h a0).1 = 8) : zv 3 167 24 [.ref a0, .int x1, u2] [] h = (zv 1 146 0 [.ref a0, .int x1, .int 9] [] h).bind fun r => zv 3 167 34 [.ref a0, .int x1, u2] (r.1.toList ++ [.int 100, .ref a0]) r.2 := by
  refine Eq.trans (zv_next f167_24 rfl) ?_
  refine Eq.trans (zs_bp f167_25 bp_100) ?_
  refine Eq.trans (zv_next f167_27 rfl) ?_
  refine Eq.trans (zv_next f167_28 rfl) ?_
  refine Eq.trans (zs_bp f167_29 bp_9) ?_
  exact zs_callV f167_31 (Nat.le_of_ble_eq_true rfl) (Nat.le_of_ble_eq_true rfl) rfl g0 g1 me_146 (by decide) rfl
theorem b167_34 {h : zi_Hp} {a0 : Nat} {x1 : Int32} {u2 : Value} {t0 : Nat} {s1 : Int32} {s2 : Int32} (g0 : t0 < zh_n h) (g1 : (zh_k h t0).1 = 8) : zv 3 167 34 [.ref a0, .int x1, u2] [.int s2, .int s1, .ref t0] h = (zv 1 153 0 [.ref t0, .int s1, .int s2] [] h).bind fun r => zv 3 167 37 [.ref a0, .int x1, u2] (r.1.toList ++ []) r.2 := by
  exact zs_callV f167_34 (Nat.le_of_ble_eq_true rfl) (Nat.le_of_ble_eq_true rfl) rfl g0 g1 me_153 (by decide) rfl
theorem b167_37 {h : zi_Hp} {a0 : Nat} {x1 : Int32} {u2 : Value} (g0 : a0 < zh_n h) (g1 : (zh_k h a0).1 = 8) : zv 3 167 37 [.ref a0, .int x1, u2] [] h = (zv 1 146 0 [.ref a0, .int x1, .int 10] [] h).bind fun r => zv 3 167 45 [.ref a0, .int x1, u2] (r.1.toList ++ [.ref a0]) r.2 := by
  refine Eq.trans (zv_next f167_37 rfl) ?_
  refine Eq.trans (zv_next f167_38 rfl) ?_
  refine Eq.trans (zv_next f167_39 rfl) ?_
  refine Eq.trans (zs_bp f167_40 bp_10) ?_
  exact zs_callV f167_42 (Nat.le_of_ble_eq_true rfl) (Nat.le_of_ble_eq_true rfl) rfl g0 g1 me_146 (by decide) rfl
theorem b167_45 {h : zi_Hp} {a0 : Nat} {x1 : Int32} {u2 : Value} {t0 : Nat} {s1 : Int32} (g0 : t0 < zh_n h) (g1 : (zh_k h t0).1 = 8) : zv 3 167 45 [.ref a0, .int x1, u2] [.int s1, .ref t0] h = (zv 2 155 0 [.ref t0, .int s1, .int 100, .int (-4), .double 0] [] h).bind fun r => zv 3 167 52 [.ref a0, .int x1, u2] (r.1.toList ++ []) r.2 := by
  refine Eq.trans (zs_bp f167_45 bp_100) ?_
  refine Eq.trans (zs_bp f167_47 bp_m4) ?_
  exact zs_callV f167_49 (Nat.le_of_ble_eq_true rfl) (Nat.le_of_ble_eq_true rfl) rfl g0 g1 me_155 (by decide) rfl
theorem b167_52 {h : zi_Hp} {a0 : Nat} {x1 : Int32} {u2 : Value} {s0 : Int32} (g0 : a0 < zh_n h) (g1 : (zh_k h a0).1 = 8) : zv 3 167 52 [.ref a0, .int x1, u2] [.int s0] h = (zv 2 154 0 [.ref a0, .int s0, .int 0, .int 2, .double 0] [] h).bind fun r => zv 3 167 60 [.ref a0, .int x1, .int s0] (r.1.toList ++ []) r.2 := by
  refine Eq.trans (zv_next f167_52 rfl) ?_
  refine Eq.trans (zv_next f167_53 rfl) ?_
  refine Eq.trans (zv_next f167_54 rfl) ?_
  refine Eq.trans (zs_ic f167_55 ic_0) ?_
  refine Eq.trans (zs_ic f167_56 ic_2) ?_
  exact zs_callV f167_57 (Nat.le_of_ble_eq_true rfl) (Nat.le_of_ble_eq_true rfl) rfl g0 g1 me_154 (by decide) rfl
theorem b167_60 {h : zi_Hp} {a0 : Nat} {x1 : Int32} {x2 : Int32} (g0 : a0 < zh_n h) (g1 : (zh_k h a0).1 = 8) (g2 : zh_r h a0 0 = .ref (zq (zh_r h a0 0))) (g3 : (zq (zh_r h a0 0)) < zh_n h) (g4 : 313 < (zh_k h (zq (zh_r h a0 0))).2) (g5 : (zh_k h (zq (zh_r h a0 0))).1 = 100) : zv 3 167 60 [.ref a0, .int x1, .int x2] [] h = (zv 2 158 0 [.ref a0, .int x1, .int 7] [] (zh_wi h (zq (zh_r h a0 0)) 313 x2)).bind fun r => zv 3 167 76 [.ref a0, .int x1, .int x2] (r.1.toList ++ []) r.2 := by
  refine Eq.trans (zv_next f167_60 rfl) ?_
  refine Eq.trans (zs_getr f167_61 g0 g1 g2) ?_
  refine Eq.trans (zs_sp f167_64 sp_313) ?_
  refine Eq.trans (zv_next f167_67 rfl) ?_
  refine Eq.trans (zs_iast f167_68 g3 g5 (zj_lit (by decide) g4)) ?_
  refine Eq.trans (zv_next f167_69 rfl) ?_
  refine Eq.trans (zv_next f167_70 rfl) ?_
  refine Eq.trans (zs_bp f167_71 bp_7) ?_
  exact zs_callV f167_73 (Nat.le_of_ble_eq_true rfl) (Nat.le_of_ble_eq_true rfl) rfl g0 g1 me_158 (by decide) rfl
theorem b167_76 {h : zi_Hp} {a0 : Nat} {x1 : Int32} {x2 : Int32} {s0 : Int32}  : zv 3 167 76 [.ref a0, .int x1, .int x2] [.int s0] h = some (some (.int s0), h) := by
  exact zs_ret0 f167_76
set_option maxRecDepth 20000 in
theorem zq168 : zi_M[168]? = some zi_m168 := rfl
theorem zl168_0 {pc : Nat} (_ : 0 ≤ pc) : zi_fe 168 pc = zu168_0.lookup pc := zi_feA zq168 pc
theorem f168_0 : zi_fe 168 0 = some ((.aload_n 0), 1, 0, 0, 0, 0, 0) := (zl168_0 (Nat.le_of_ble_eq_true rfl)).trans rfl
theorem f168_1 : zi_fe 168 1 = some ((.iload_n 1), 1, 0, 0, 0, 0, 0) := (zl168_0 (Nat.le_of_ble_eq_true rfl)).trans rfl
theorem f168_2 : zi_fe 168 2 = some ((.iconst 3), 1, 0, 0, 0, 0, 0) := (zl168_0 (Nat.le_of_ble_eq_true rfl)).trans rfl
theorem f168_3 : zi_fe 168 3 = some ((.invokevirtual 83), 3, 146, 0, 8, 1276, 3) := (zl168_0 (Nat.le_of_ble_eq_true rfl)).trans rfl
theorem f168_6 : zi_fe 168 6 = some ((.istore_n 2), 1, 0, 0, 0, 0, 0) := (zl168_0 (Nat.le_of_ble_eq_true rfl)).trans rfl
theorem f168_7 : zi_fe 168 7 = some ((.aload_n 0), 1, 0, 0, 0, 0, 0) := (zl168_0 (Nat.le_of_ble_eq_true rfl)).trans rfl
theorem f168_8 : zi_fe 168 8 = some ((.iload_n 1), 1, 0, 0, 0, 0, 0) := (zl168_0 (Nat.le_of_ble_eq_true rfl)).trans rfl
theorem f168_9 : zi_fe 168 9 = some ((.bipush 10), 2, 0, 0, 0, 0, 0) := (zl168_0 (Nat.le_of_ble_eq_true rfl)).trans rfl
theorem f168_11 : zi_fe 168 11 = some ((.invokevirtual 83), 3, 146, 0, 8, 1276, 3) := (zl168_0 (Nat.le_of_ble_eq_true rfl)).trans rfl
theorem f168_14 : zi_fe 168 14 = some ((.istore_n 3), 1, 0, 0, 0, 0, 0) := (zl168_0 (Nat.le_of_ble_eq_true rfl)).trans rfl
theorem f168_15 : zi_fe 168 15 = some ((.aload_n 0), 1, 0, 0, 0, 0, 0) := (zl168_0 (Nat.le_of_ble_eq_true rfl)).trans rfl
theorem f168_16 : zi_fe 168 16 = some ((.aload_n 0), 1, 0, 0, 0, 0, 0) := (zl168_0 (Nat.le_of_ble_eq_true rfl)).trans rfl
theorem zl168_1 {pc : Nat} (h : 17 ≤ pc) : zi_fe 168 pc = zu168_1.lookup pc := (zl168_0 (Nat.le_trans (Nat.le_of_ble_eq_true rfl) h)).trans (zi_lkA (a := zi_i168_0) (c := 17) rfl h)
theorem f168_17 : zi_fe 168 17 = some ((.getfield 7), 3, 8, 0, 3, 1065, 0) := (zl168_1 (Nat.le_of_ble_eq_true rfl)).trans rfl
theorem f168_20 : zi_fe 168 20 = some ((.sipush 313), 3, 0, 0, 0, 0, 0) := (zl168_1 (Nat.le_of_ble_eq_true rfl)).trans rfl
theorem f168_23 : zi_fe 168 23 = some (.iaload, 1, 0, 0, 0, 0, 0) := (zl168_1 (Nat.le_of_ble_eq_true rfl)).trans rfl
theorem f168_24 : zi_fe 168 24 = some ((.iconst 0), 1, 0, 0, 0, 0, 0) := (zl168_1 (Nat.le_of_ble_eq_true rfl)).trans rfl
theorem f168_25 : zi_fe 168 25 = some ((.invokevirtual 87), 3, 144, 0, 8, 1261, 3) := (zl168_1 (Nat.le_of_ble_eq_true rfl)).trans rfl
theorem f168_28 : zi_fe 168 28 = some ((.iload_n 3), 1, 0, 0, 0, 0, 0) := (zl168_1 (Nat.le_of_ble_eq_true rfl)).trans rfl
theorem f168_29 : zi_fe 168 29 = some ((.if_icmp .ge 42), 3, 0, 0, 0, 0, 0) := (zl168_1 (Nat.le_of_ble_eq_true rfl)).trans rfl
theorem f168_32 : zi_fe 168 32 = some ((.aload_n 0), 1, 0, 0, 0, 0, 0) := (zl168_1 (Nat.le_of_ble_eq_true rfl)).trans rfl
theorem f168_33 : zi_fe 168 33 = some ((.iload_n 1), 1, 0, 0, 0, 0, 0) := (zl168_1 (Nat.le_of_ble_eq_true rfl)).trans rfl
theorem f168_34 : zi_fe 168 34 = some ((.bipush 11), 2, 0, 0, 0, 0, 0) := (zl168_1 (Nat.le_of_ble_eq_true rfl)).trans rfl
theorem f168_36 : zi_fe 168 36 = some ((.invokevirtual 83), 3, 146, 0, 8, 1276, 3) := (zl168_1 (Nat.le_of_ble_eq_true rfl)).trans rfl
theorem f168_39 : zi_fe 168 39 = some ((.iconst 1), 1, 0, 0, 0, 0, 0) := (zl168_1 (Nat.le_of_ble_eq_true rfl)).trans rfl
theorem zl168_2 {pc : Nat} (h : 40 ≤ pc) : zi_fe 168 pc = zu168_2.lookup pc := (zl168_1 (Nat.le_trans (Nat.le_of_ble_eq_true rfl) h)).trans (zi_lkA (a := zi_i168_1) (c := 40) rfl h)
theorem f168_40 : zi_fe 168 40 = some ((.if_icmp .eq 16), 3, 0, 0, 0, 0, 0) := (zl168_2 (Nat.le_of_ble_eq_true rfl)).trans rfl
theorem f168_43 : zi_fe 168 43 = some ((.aload_n 0), 1, 0, 0, 0, 0, 0) := (zl168_2 (Nat.le_of_ble_eq_true rfl)).trans rfl
theorem f168_44 : zi_fe 168 44 = some ((.getfield 7), 3, 8, 0, 3, 1065, 0) := (zl168_2 (Nat.le_of_ble_eq_true rfl)).trans rfl
theorem f168_47 : zi_fe 168 47 = some ((.sipush 312), 3, 0, 0, 0, 0, 0) := (zl168_2 (Nat.le_of_ble_eq_true rfl)).trans rfl
theorem f168_50 : zi_fe 168 50 = some (.iaload, 1, 0, 0, 0, 0, 0) := (zl168_2 (Nat.le_of_ble_eq_true rfl)).trans rfl
theorem f168_51 : zi_fe 168 51 = some ((.bipush 24), 2, 0, 0, 0, 0, 0) := (zl168_2 (Nat.le_of_ble_eq_true rfl)).trans rfl
theorem f168_53 : zi_fe 168 53 = some ((.if_icmp .ne 12), 3, 0, 0, 0, 0, 0) := (zl168_2 (Nat.le_of_ble_eq_true rfl)).trans rfl
theorem f168_56 : zi_fe 168 56 = some ((.aload_n 0), 1, 0, 0, 0, 0, 0) := (zl168_2 (Nat.le_of_ble_eq_true rfl)).trans rfl
theorem f168_57 : zi_fe 168 57 = some ((.iload_n 1), 1, 0, 0, 0, 0, 0) := (zl168_2 (Nat.le_of_ble_eq_true rfl)).trans rfl
theorem f168_58 : zi_fe 168 58 = some ((.iconst 3), 1, 0, 0, 0, 0, 0) := (zl168_2 (Nat.le_of_ble_eq_true rfl)).trans rfl
theorem f168_59 : zi_fe 168 59 = some ((.invokevirtual 116), 3, 158, 0, 8, 1319, 3) := (zl168_2 (Nat.le_of_ble_eq_true rfl)).trans rfl
theorem f168_62 : zi_fe 168 62 = some ((.goto 8), 3, 0, 0, 0, 0, 0) := (zl168_2 (Nat.le_of_ble_eq_true rfl)).trans rfl
theorem zl168_3 {pc : Nat} (h : 65 ≤ pc) : zi_fe 168 pc = zu168_3.lookup pc := (zl168_2 (Nat.le_trans (Nat.le_of_ble_eq_true rfl) h)).trans (zi_lkA (a := zi_i168_2) (c := 65) rfl h)
theorem f168_65 : zi_fe 168 65 = some ((.aload_n 0), 1, 0, 0, 0, 0, 0) := (zl168_3 (Nat.le_of_ble_eq_true rfl)).trans rfl
theorem f168_66 : zi_fe 168 66 = some ((.iload_n 1), 1, 0, 0, 0, 0, 0) := (zl168_3 (Nat.le_of_ble_eq_true rfl)).trans rfl
theorem f168_67 : zi_fe 168 67 = some ((.invokevirtual 148), 3, 167, 0, 8, 1363, 2) := (zl168_3 (Nat.le_of_ble_eq_true rfl)).trans rfl
theorem f168_70 : zi_fe 168 70 = some (.ireturn, 1, 0, 0, 0, 0, 0) := (zl168_3 (Nat.le_of_ble_eq_true rfl)).trans rfl
theorem f168_71 : zi_fe 168 71 = some ((.aload_n 0), 1, 0, 0, 0, 0, 0) := (zl168_3 (Nat.le_of_ble_eq_true rfl)).trans rfl
theorem f168_72 : zi_fe 168 72 = some ((.iload_n 2), 1, 0, 0, 0, 0, 0) := (zl168_3 (Nat.le_of_ble_eq_true rfl)).trans rfl
theorem f168_73 : zi_fe 168 73 = some ((.iconst 0), 1, 0, 0, 0, 0, 0) := (zl168_3 (Nat.le_of_ble_eq_true rfl)).trans rfl
theorem f168_74 : zi_fe 168 74 = some ((.invokevirtual 87), 3, 144, 0, 8, 1261, 3) := (zl168_3 (Nat.le_of_ble_eq_true rfl)).trans rfl
theorem f168_77 : zi_fe 168 77 = some ((.iload_n 3), 1, 0, 0, 0, 0, 0) := (zl168_3 (Nat.le_of_ble_eq_true rfl)).trans rfl
theorem f168_78 : zi_fe 168 78 = some ((.if_icmp .ge 20), 3, 0, 0, 0, 0, 0) := (zl168_3 (Nat.le_of_ble_eq_true rfl)).trans rfl
theorem f168_81 : zi_fe 168 81 = some ((.aload_n 0), 1, 0, 0, 0, 0, 0) := (zl168_3 (Nat.le_of_ble_eq_true rfl)).trans rfl
theorem f168_82 : zi_fe 168 82 = some ((.iload_n 1), 1, 0, 0, 0, 0, 0) := (zl168_3 (Nat.le_of_ble_eq_true rfl)).trans rfl
theorem zl168_4 {pc : Nat} (h : 83 ≤ pc) : zi_fe 168 pc = zu168_4.lookup pc := (zl168_3 (Nat.le_trans (Nat.le_of_ble_eq_true rfl) h)).trans (zi_lkA (a := zi_i168_3) (c := 83) rfl h)
theorem f168_83 : zi_fe 168 83 = some ((.iconst 3), 1, 0, 0, 0, 0, 0) := (zl168_4 (Nat.le_of_ble_eq_true rfl)).trans rfl
theorem f168_84 : zi_fe 168 84 = some ((.aload_n 0), 1, 0, 0, 0, 0, 0) := (zl168_4 (Nat.le_of_ble_eq_true rfl)).trans rfl
theorem f168_85 : zi_fe 168 85 = some ((.getfield 7), 3, 8, 0, 3, 1065, 0) := (zl168_4 (Nat.le_of_ble_eq_true rfl)).trans rfl
theorem f168_88 : zi_fe 168 88 = some ((.sipush 313), 3, 0, 0, 0, 0, 0) := (zl168_4 (Nat.le_of_ble_eq_true rfl)).trans rfl
theorem f168_91 : zi_fe 168 91 = some (.iaload, 1, 0, 0, 0, 0, 0) := (zl168_4 (Nat.le_of_ble_eq_true rfl)).trans rfl
theorem f168_92 : zi_fe 168 92 = some ((.invokevirtual 102), 3, 147, 0, 8, 1253, 4) := (zl168_4 (Nat.le_of_ble_eq_true rfl)).trans rfl
theorem f168_95 : zi_fe 168 95 = some ((.bipush 9), 2, 0, 0, 0, 0, 0) := (zl168_4 (Nat.le_of_ble_eq_true rfl)).trans rfl
theorem f168_97 : zi_fe 168 97 = some (.ireturn, 1, 0, 0, 0, 0, 0) := (zl168_4 (Nat.le_of_ble_eq_true rfl)).trans rfl
theorem f168_98 : zi_fe 168 98 = some ((.aload_n 0), 1, 0, 0, 0, 0, 0) := (zl168_4 (Nat.le_of_ble_eq_true rfl)).trans rfl
theorem f168_99 : zi_fe 168 99 = some ((.iload_n 1), 1, 0, 0, 0, 0, 0) := (zl168_4 (Nat.le_of_ble_eq_true rfl)).trans rfl
theorem f168_100 : zi_fe 168 100 = some ((.bipush 8), 2, 0, 0, 0, 0, 0) := (zl168_4 (Nat.le_of_ble_eq_true rfl)).trans rfl
theorem f168_102 : zi_fe 168 102 = some ((.invokevirtual 83), 3, 146, 0, 8, 1276, 3) := (zl168_4 (Nat.le_of_ble_eq_true rfl)).trans rfl
theorem zl168_5 {pc : Nat} (h : 105 ≤ pc) : zi_fe 168 pc = zu168_5.lookup pc := (zl168_4 (Nat.le_trans (Nat.le_of_ble_eq_true rfl) h)).trans (zi_lkA (a := zi_i168_4) (c := 105) rfl h)
theorem f168_105 : zi_fe 168 105 = some ((.aload_n 0), 1, 0, 0, 0, 0, 0) := (zl168_5 (Nat.le_of_ble_eq_true rfl)).trans rfl
theorem f168_106 : zi_fe 168 106 = some ((.iload_n 2), 1, 0, 0, 0, 0, 0) := (zl168_5 (Nat.le_of_ble_eq_true rfl)).trans rfl
theorem f168_107 : zi_fe 168 107 = some ((.iconst 2), 1, 0, 0, 0, 0, 0) := (zl168_5 (Nat.le_of_ble_eq_true rfl)).trans rfl
theorem f168_108 : zi_fe 168 108 = some ((.invokevirtual 87), 3, 144, 0, 8, 1261, 3) := (zl168_5 (Nat.le_of_ble_eq_true rfl)).trans rfl
theorem f168_111 : zi_fe 168 111 = some ((.if_icmp .le 9), 3, 0, 0, 0, 0, 0) := (zl168_5 (Nat.le_of_ble_eq_true rfl)).trans rfl
theorem f168_114 : zi_fe 168 114 = some ((.aload_n 0), 1, 0, 0, 0, 0, 0) := (zl168_5 (Nat.le_of_ble_eq_true rfl)).trans rfl
theorem f168_115 : zi_fe 168 115 = some ((.iload_n 1), 1, 0, 0, 0, 0, 0) := (zl168_5 (Nat.le_of_ble_eq_true rfl)).trans rfl
theorem f168_116 : zi_fe 168 116 = some ((.invokevirtual 126), 3, 160, 0, 8, 1303, 2) := (zl168_5 (Nat.le_of_ble_eq_true rfl)).trans rfl
theorem f168_119 : zi_fe 168 119 = some (.ireturn, 1, 0, 0, 0, 0, 0) := (zl168_5 (Nat.le_of_ble_eq_true rfl)).trans rfl
theorem f168_120 : zi_fe 168 120 = some ((.aload_n 0), 1, 0, 0, 0, 0, 0) := (zl168_5 (Nat.le_of_ble_eq_true rfl)).trans rfl
theorem f168_121 : zi_fe 168 121 = some ((.iload_n 2), 1, 0, 0, 0, 0, 0) := (zl168_5 (Nat.le_of_ble_eq_true rfl)).trans rfl
theorem f168_122 : zi_fe 168 122 = some ((.iconst 0), 1, 0, 0, 0, 0, 0) := (zl168_5 (Nat.le_of_ble_eq_true rfl)).trans rfl
theorem zl168_6 {pc : Nat} (h : 123 ≤ pc) : zi_fe 168 pc = zu168_6.lookup pc := (zl168_5 (Nat.le_trans (Nat.le_of_ble_eq_true rfl) h)).trans (zi_lkA (a := zi_i168_5) (c := 123) rfl h)
theorem f168_123 : zi_fe 168 123 = some ((.invokevirtual 87), 3, 144, 0, 8, 1261, 3) := (zl168_6 (Nat.le_of_ble_eq_true rfl)).trans rfl
theorem f168_126 : zi_fe 168 126 = some ((.iload_n 3), 1, 0, 0, 0, 0, 0) := (zl168_6 (Nat.le_of_ble_eq_true rfl)).trans rfl
theorem f168_127 : zi_fe 168 127 = some ((.if_icmp .le 18), 3, 0, 0, 0, 0, 0) := (zl168_6 (Nat.le_of_ble_eq_true rfl)).trans rfl
theorem f168_130 : zi_fe 168 130 = some ((.aload_n 0), 1, 0, 0, 0, 0, 0) := (zl168_6 (Nat.le_of_ble_eq_true rfl)).trans rfl
theorem f168_131 : zi_fe 168 131 = some ((.iload_n 1), 1, 0, 0, 0, 0, 0) := (zl168_6 (Nat.le_of_ble_eq_true rfl)).trans rfl
theorem f168_132 : zi_fe 168 132 = some ((.aload_n 0), 1, 0, 0, 0, 0, 0) := (zl168_6 (Nat.le_of_ble_eq_true rfl)).trans rfl
theorem f168_133 : zi_fe 168 133 = some ((.iload_n 1), 1, 0, 0, 0, 0, 0) := (zl168_6 (Nat.le_of_ble_eq_true rfl)).trans rfl
theorem f168_134 : zi_fe 168 134 = some ((.bipush 8), 2, 0, 0, 0, 0, 0) := (zl168_6 (Nat.le_of_ble_eq_true rfl)).trans rfl
theorem f168_136 : zi_fe 168 136 = some ((.invokevirtual 83), 3, 146, 0, 8, 1276, 3) := (zl168_6 (Nat.le_of_ble_eq_true rfl)).trans rfl
theorem f168_139 : zi_fe 168 139 = some ((.invokevirtual 129), 3, 161, 0, 8, 1307, 3) := (zl168_6 (Nat.le_of_ble_eq_true rfl)).trans rfl
theorem f168_142 : zi_fe 168 142 = some ((.goto 9), 3, 0, 0, 0, 0, 0) := (zl168_6 (Nat.le_of_ble_eq_true rfl)).trans rfl
theorem f168_145 : zi_fe 168 145 = some ((.aload_n 0), 1, 0, 0, 0, 0, 0) := (zl168_6 (Nat.le_of_ble_eq_true rfl)).trans rfl
theorem zl168_7 {pc : Nat} (h : 146 ≤ pc) : zi_fe 168 pc = zu168_7.lookup pc := (zl168_6 (Nat.le_trans (Nat.le_of_ble_eq_true rfl) h)).trans (zi_lkA (a := zi_i168_6) (c := 146) rfl h)
theorem f168_146 : zi_fe 168 146 = some ((.iload_n 1), 1, 0, 0, 0, 0, 0) := (zl168_7 (Nat.le_of_ble_eq_true rfl)).trans rfl
theorem f168_147 : zi_fe 168 147 = some ((.iconst 4), 1, 0, 0, 0, 0, 0) := (zl168_7 (Nat.le_of_ble_eq_true rfl)).trans rfl
theorem f168_148 : zi_fe 168 148 = some ((.invokevirtual 135), 3, 162, 0, 8, 1323, 3) := (zl168_7 (Nat.le_of_ble_eq_true rfl)).trans rfl
theorem f168_151 : zi_fe 168 151 = some (.ireturn, 1, 0, 0, 0, 0, 0) := (zl168_7 (Nat.le_of_ble_eq_true rfl)).trans rfl
theorem b168_0 {h : zi_Hp} {a0 : Nat} {x1 : Int32} {u2 : Value} {u3 : Value} (g0 : a0 < zh_n h) (g1 : (zh_k h a0).1 = 8) : zv 4 168 0 [.ref a0, .int x1, u2, u3] [] h = (zv 1 146 0 [.ref a0, .int x1, .int 3] [] h).bind fun r => zv 4 168 6 [.ref a0, .int x1, u2, u3] (r.1.toList ++ []) r.2 := by
  refine Eq.trans (zv_next f168_0 rfl) ?_
  refine Eq.trans (zv_next f168_1 rfl) ?_
  refine Eq.trans (zs_ic f168_2 ic_3) ?_
  exact zs_callV f168_3 (Nat.le_of_ble_eq_true rfl) (Nat.le_of_ble_eq_true rfl) rfl g0 g1 me_146 (by decide) rfl
theorem b168_6 {h : zi_Hp} {a0 : Nat} {x1 : Int32} {u2 : Value} {u3 : Value} {s0 : Int32} (g0 : a0 < zh_n h) (g1 : (zh_k h a0).1 = 8) : zv 4 168 6 [.ref a0, .int x1, u2, u3] [.int s0] h = (zv 1 146 0 [.ref a0, .int x1, .int 10] [] h).bind fun r => zv 4 168 14 [.ref a0, .int x1, .int s0, u3] (r.1.toList ++ []) r.2 := by
  refine Eq.trans (zv_next f168_6 rfl) ?_
  refine Eq.trans (zv_next f168_7 rfl) ?_
  refine Eq.trans (zv_next f168_8 rfl) ?_
  refine Eq.trans (zs_bp f168_9 bp_10) ?_
  exact zs_callV f168_11 (Nat.le_of_ble_eq_true rfl) (Nat.le_of_ble_eq_true rfl) rfl g0 g1 me_146 (by decide) rfl
theorem b168_14 {h : zi_Hp} {a0 : Nat} {x1 : Int32} {x2 : Int32} {u3 : Value} {s0 : Int32} (g0 : a0 < zh_n h) (g1 : (zh_k h a0).1 = 8) (g2 : zh_r h a0 0 = .ref (zq (zh_r h a0 0))) (g3 : (zq (zh_r h a0 0)) < zh_n h) (g4 : 313 < (zh_k h (zq (zh_r h a0 0))).2) (g5 : (zh_k h (zq (zh_r h a0 0))).1 = 100) : zv 4 168 14 [.ref a0, .int x1, .int x2, u3] [.int s0] h = (zv 1 144 0 [.ref a0, .int (zh_i h (zq (zh_r h a0 0)) 313), .int 0] [] h).bind fun r => zv 4 168 28 [.ref a0, .int x1, .int x2, .int s0] (r.1.toList ++ []) r.2 := by
  refine Eq.trans (zv_next f168_14 rfl) ?_
  refine Eq.trans (zv_next f168_15 rfl) ?_
  refine Eq.trans (zv_next f168_16 rfl) ?_
  refine Eq.trans (zs_getr f168_17 g0 g1 g2) ?_
  refine Eq.trans (zs_sp f168_20 sp_313) ?_
  refine Eq.trans (zs_iald f168_23 g3 g5 (zj_lit (by decide) g4)) ?_
  refine Eq.trans (zs_ic f168_24 ic_0) ?_
  exact zs_callV f168_25 (Nat.le_of_ble_eq_true rfl) (Nat.le_of_ble_eq_true rfl) rfl g0 g1 me_144 (by decide) rfl
theorem b168_28 {h : zi_Hp} {a0 : Nat} {x1 : Int32} {x2 : Int32} {x3 : Int32} {s0 : Int32}  : zv 4 168 28 [.ref a0, .int x1, .int x2, .int x3] [.int s0] h = if s0 < x3 then zv 4 168 32 [.ref a0, .int x1, .int x2, .int x3] [] h else zv 4 168 71 [.ref a0, .int x1, .int x2, .int x3] [] h := by
  refine Eq.trans (zv_next f168_28 rfl) ?_
  exact zs_icmp f168_29 rfl
theorem b168_32 {h : zi_Hp} {a0 : Nat} {x1 : Int32} {x2 : Int32} {x3 : Int32} (g0 : a0 < zh_n h) (g1 : (zh_k h a0).1 = 8) : zv 4 168 32 [.ref a0, .int x1, .int x2, .int x3] [] h = (zv 1 146 0 [.ref a0, .int x1, .int 11] [] h).bind fun r => zv 4 168 39 [.ref a0, .int x1, .int x2, .int x3] (r.1.toList ++ []) r.2 := by
  refine Eq.trans (zv_next f168_32 rfl) ?_
  refine Eq.trans (zv_next f168_33 rfl) ?_
  refine Eq.trans (zs_bp f168_34 bp_11) ?_
  exact zs_callV f168_36 (Nat.le_of_ble_eq_true rfl) (Nat.le_of_ble_eq_true rfl) rfl g0 g1 me_146 (by decide) rfl
theorem b168_39 {h : zi_Hp} {a0 : Nat} {x1 : Int32} {x2 : Int32} {x3 : Int32} {s0 : Int32}  : zv 4 168 39 [.ref a0, .int x1, .int x2, .int x3] [.int s0] h = if s0 = 1 then zv 4 168 56 [.ref a0, .int x1, .int x2, .int x3] [] h else zv 4 168 43 [.ref a0, .int x1, .int x2, .int x3] [] h := by
  refine Eq.trans (zs_ic f168_39 ic_1) ?_
  exact zs_icmp f168_40 rfl
theorem b168_43 {h : zi_Hp} {a0 : Nat} {x1 : Int32} {x2 : Int32} {x3 : Int32} (g0 : a0 < zh_n h) (g1 : (zh_k h a0).1 = 8) (g2 : zh_r h a0 0 = .ref (zq (zh_r h a0 0))) (g3 : (zq (zh_r h a0 0)) < zh_n h) (g4 : 312 < (zh_k h (zq (zh_r h a0 0))).2) (g5 : (zh_k h (zq (zh_r h a0 0))).1 = 100) : zv 4 168 43 [.ref a0, .int x1, .int x2, .int x3] [] h = if (zh_i h (zq (zh_r h a0 0)) 312) = 24 then zv 4 168 56 [.ref a0, .int x1, .int x2, .int x3] [] h else zv 4 168 65 [.ref a0, .int x1, .int x2, .int x3] [] h := by
  refine Eq.trans (zv_next f168_43 rfl) ?_
  refine Eq.trans (zs_getr f168_44 g0 g1 g2) ?_
  refine Eq.trans (zs_sp f168_47 sp_312) ?_
  refine Eq.trans (zs_iald f168_50 g3 g5 (zj_lit (by decide) g4)) ?_
  refine Eq.trans (zs_bp f168_51 bp_24) ?_
  exact zs_icmp f168_53 rfl
theorem b168_56 {h : zi_Hp} {a0 : Nat} {x1 : Int32} {x2 : Int32} {x3 : Int32} (g0 : a0 < zh_n h) (g1 : (zh_k h a0).1 = 8) : zv 4 168 56 [.ref a0, .int x1, .int x2, .int x3] [] h = (zv 2 158 0 [.ref a0, .int x1, .int 3] [] h).bind fun r => zv 4 168 62 [.ref a0, .int x1, .int x2, .int x3] (r.1.toList ++ []) r.2 := by
  refine Eq.trans (zv_next f168_56 rfl) ?_
  refine Eq.trans (zv_next f168_57 rfl) ?_
  refine Eq.trans (zs_ic f168_58 ic_3) ?_
  exact zs_callV f168_59 (Nat.le_of_ble_eq_true rfl) (Nat.le_of_ble_eq_true rfl) rfl g0 g1 me_158 (by decide) rfl
theorem b168_62 {h : zi_Hp} {a0 : Nat} {x1 : Int32} {x2 : Int32} {x3 : Int32} {s0 : Int32}  : zv 4 168 62 [.ref a0, .int x1, .int x2, .int x3] [.int s0] h = zv 4 168 70 [.ref a0, .int x1, .int x2, .int x3] [.int s0] h := by
  refine Eq.trans (zs_goto (tgt := 70) f168_62 rfl) ?_
  rfl
theorem b168_65 {h : zi_Hp} {a0 : Nat} {x1 : Int32} {x2 : Int32} {x3 : Int32} (g0 : a0 < zh_n h) (g1 : (zh_k h a0).1 = 8) : zv 4 168 65 [.ref a0, .int x1, .int x2, .int x3] [] h = (zv 3 167 0 [.ref a0, .int x1, .double 0] [] h).bind fun r => zv 4 168 70 [.ref a0, .int x1, .int x2, .int x3] (r.1.toList ++ []) r.2 := by
  refine Eq.trans (zv_next f168_65 rfl) ?_
  refine Eq.trans (zv_next f168_66 rfl) ?_
  exact zs_callV f168_67 (Nat.le_of_ble_eq_true rfl) (Nat.le_of_ble_eq_true rfl) rfl g0 g1 me_167 (by decide) rfl
theorem b168_70 {h : zi_Hp} {a0 : Nat} {x1 : Int32} {x2 : Int32} {x3 : Int32} {s0 : Int32}  : zv 4 168 70 [.ref a0, .int x1, .int x2, .int x3] [.int s0] h = some (some (.int s0), h) := by
  exact zs_ret0 f168_70
theorem b168_71 {h : zi_Hp} {a0 : Nat} {x1 : Int32} {x2 : Int32} {x3 : Int32} (g0 : a0 < zh_n h) (g1 : (zh_k h a0).1 = 8) : zv 4 168 71 [.ref a0, .int x1, .int x2, .int x3] [] h = (zv 1 144 0 [.ref a0, .int x2, .int 0] [] h).bind fun r => zv 4 168 77 [.ref a0, .int x1, .int x2, .int x3] (r.1.toList ++ []) r.2 := by
  refine Eq.trans (zv_next f168_71 rfl) ?_
  refine Eq.trans (zv_next f168_72 rfl) ?_
  refine Eq.trans (zs_ic f168_73 ic_0) ?_
  exact zs_callV f168_74 (Nat.le_of_ble_eq_true rfl) (Nat.le_of_ble_eq_true rfl) rfl g0 g1 me_144 (by decide) rfl
theorem b168_77 {h : zi_Hp} {a0 : Nat} {x1 : Int32} {x2 : Int32} {x3 : Int32} {s0 : Int32}  : zv 4 168 77 [.ref a0, .int x1, .int x2, .int x3] [.int s0] h = if s0 < x3 then zv 4 168 81 [.ref a0, .int x1, .int x2, .int x3] [] h else zv 4 168 98 [.ref a0, .int x1, .int x2, .int x3] [] h := by
  refine Eq.trans (zv_next f168_77 rfl) ?_
  exact zs_icmp f168_78 rfl
theorem b168_81 {h : zi_Hp} {a0 : Nat} {x1 : Int32} {x2 : Int32} {x3 : Int32} (g0 : a0 < zh_n h) (g1 : (zh_k h a0).1 = 8) (g2 : zh_r h a0 0 = .ref (zq (zh_r h a0 0))) (g3 : (zq (zh_r h a0 0)) < zh_n h) (g4 : 313 < (zh_k h (zq (zh_r h a0 0))).2) (g5 : (zh_k h (zq (zh_r h a0 0))).1 = 100) : zv 4 168 81 [.ref a0, .int x1, .int x2, .int x3] [] h = (zv 1 147 0 [.ref a0, .int x1, .int 3, .int (zh_i h (zq (zh_r h a0 0)) 313)] [] h).bind fun r => zv 4 168 95 [.ref a0, .int x1, .int x2, .int x3] (r.1.toList ++ []) r.2 := by
  refine Eq.trans (zv_next f168_81 rfl) ?_
  refine Eq.trans (zv_next f168_82 rfl) ?_
  refine Eq.trans (zs_ic f168_83 ic_3) ?_
  refine Eq.trans (zv_next f168_84 rfl) ?_
  refine Eq.trans (zs_getr f168_85 g0 g1 g2) ?_
  refine Eq.trans (zs_sp f168_88 sp_313) ?_
  refine Eq.trans (zs_iald f168_91 g3 g5 (zj_lit (by decide) g4)) ?_
  exact zs_callV f168_92 (Nat.le_of_ble_eq_true rfl) (Nat.le_of_ble_eq_true rfl) rfl g0 g1 me_147 (by decide) rfl
theorem b168_95 {h : zi_Hp} {a0 : Nat} {x1 : Int32} {x2 : Int32} {x3 : Int32}  : zv 4 168 95 [.ref a0, .int x1, .int x2, .int x3] [] h = some (some (.int 9), h) := by
  refine Eq.trans (zs_bp f168_95 bp_9) ?_
  exact zs_ret0 f168_97
theorem b168_98 {h : zi_Hp} {a0 : Nat} {x1 : Int32} {x2 : Int32} {x3 : Int32} (g0 : a0 < zh_n h) (g1 : (zh_k h a0).1 = 8) : zv 4 168 98 [.ref a0, .int x1, .int x2, .int x3] [] h = (zv 1 146 0 [.ref a0, .int x1, .int 8] [] h).bind fun r => zv 4 168 105 [.ref a0, .int x1, .int x2, .int x3] (r.1.toList ++ []) r.2 := by
  refine Eq.trans (zv_next f168_98 rfl) ?_
  refine Eq.trans (zv_next f168_99 rfl) ?_
  refine Eq.trans (zs_bp f168_100 bp_8) ?_
  exact zs_callV f168_102 (Nat.le_of_ble_eq_true rfl) (Nat.le_of_ble_eq_true rfl) rfl g0 g1 me_146 (by decide) rfl
theorem b168_105 {h : zi_Hp} {a0 : Nat} {x1 : Int32} {x2 : Int32} {x3 : Int32} {s0 : Int32} (g0 : a0 < zh_n h) (g1 : (zh_k h a0).1 = 8) : zv 4 168 105 [.ref a0, .int x1, .int x2, .int x3] [.int s0] h = (zv 1 144 0 [.ref a0, .int x2, .int 2] [] h).bind fun r => zv 4 168 111 [.ref a0, .int x1, .int x2, .int x3] (r.1.toList ++ [.int s0]) r.2 := by
  refine Eq.trans (zv_next f168_105 rfl) ?_
  refine Eq.trans (zv_next f168_106 rfl) ?_
  refine Eq.trans (zs_ic f168_107 ic_2) ?_
  exact zs_callV f168_108 (Nat.le_of_ble_eq_true rfl) (Nat.le_of_ble_eq_true rfl) rfl g0 g1 me_144 (by decide) rfl
theorem b168_111 {h : zi_Hp} {a0 : Nat} {x1 : Int32} {x2 : Int32} {x3 : Int32} {s0 : Int32} {s1 : Int32}  : zv 4 168 111 [.ref a0, .int x1, .int x2, .int x3] [.int s1, .int s0] h = if s1 < s0 then zv 4 168 114 [.ref a0, .int x1, .int x2, .int x3] [] h else zv 4 168 120 [.ref a0, .int x1, .int x2, .int x3] [] h := by
  exact zs_icmp f168_111 rfl
theorem b168_114 {h : zi_Hp} {a0 : Nat} {x1 : Int32} {x2 : Int32} {x3 : Int32} (g0 : a0 < zh_n h) (g1 : (zh_k h a0).1 = 8) : zv 4 168 114 [.ref a0, .int x1, .int x2, .int x3] [] h = (zv 2 160 0 [.ref a0, .int x1] [] h).bind fun r => zv 4 168 119 [.ref a0, .int x1, .int x2, .int x3] (r.1.toList ++ []) r.2 := by
  refine Eq.trans (zv_next f168_114 rfl) ?_
  refine Eq.trans (zv_next f168_115 rfl) ?_
  exact zs_callV f168_116 (Nat.le_of_ble_eq_true rfl) (Nat.le_of_ble_eq_true rfl) rfl g0 g1 me_160 (by decide) rfl
theorem b168_119 {h : zi_Hp} {a0 : Nat} {x1 : Int32} {x2 : Int32} {x3 : Int32} {s0 : Int32}  : zv 4 168 119 [.ref a0, .int x1, .int x2, .int x3] [.int s0] h = some (some (.int s0), h) := by
  exact zs_ret0 f168_119
theorem b168_120 {h : zi_Hp} {a0 : Nat} {x1 : Int32} {x2 : Int32} {x3 : Int32} (g0 : a0 < zh_n h) (g1 : (zh_k h a0).1 = 8) : zv 4 168 120 [.ref a0, .int x1, .int x2, .int x3] [] h = (zv 1 144 0 [.ref a0, .int x2, .int 0] [] h).bind fun r => zv 4 168 126 [.ref a0, .int x1, .int x2, .int x3] (r.1.toList ++ []) r.2 := by
  refine Eq.trans (zv_next f168_120 rfl) ?_
  refine Eq.trans (zv_next f168_121 rfl) ?_
  refine Eq.trans (zs_ic f168_122 ic_0) ?_
  exact zs_callV f168_123 (Nat.le_of_ble_eq_true rfl) (Nat.le_of_ble_eq_true rfl) rfl g0 g1 me_144 (by decide) rfl
theorem b168_126 {h : zi_Hp} {a0 : Nat} {x1 : Int32} {x2 : Int32} {x3 : Int32} {s0 : Int32}  : zv 4 168 126 [.ref a0, .int x1, .int x2, .int x3] [.int s0] h = if x3 < s0 then zv 4 168 130 [.ref a0, .int x1, .int x2, .int x3] [] h else zv 4 168 145 [.ref a0, .int x1, .int x2, .int x3] [] h := by
  refine Eq.trans (zv_next f168_126 rfl) ?_
  exact zs_icmp f168_127 rfl
theorem b168_130 {h : zi_Hp} {a0 : Nat} {x1 : Int32} {x2 : Int32} {x3 : Int32} (g0 : a0 < zh_n h) (g1 : (zh_k h a0).1 = 8) : zv 4 168 130 [.ref a0, .int x1, .int x2, .int x3] [] h = (zv 1 146 0 [.ref a0, .int x1, .int 8] [] h).bind fun r => zv 4 168 139 [.ref a0, .int x1, .int x2, .int x3] (r.1.toList ++ [.int x1, .ref a0]) r.2 := by
  refine Eq.trans (zv_next f168_130 rfl) ?_
  refine Eq.trans (zv_next f168_131 rfl) ?_
  refine Eq.trans (zv_next f168_132 rfl) ?_
  refine Eq.trans (zv_next f168_133 rfl) ?_
  refine Eq.trans (zs_bp f168_134 bp_8) ?_
  exact zs_callV f168_136 (Nat.le_of_ble_eq_true rfl) (Nat.le_of_ble_eq_true rfl) rfl g0 g1 me_146 (by decide) rfl
theorem b168_139 {h : zi_Hp} {a0 : Nat} {x1 : Int32} {x2 : Int32} {x3 : Int32} {t0 : Nat} {s1 : Int32} {s2 : Int32} (g0 : t0 < zh_n h) (g1 : (zh_k h t0).1 = 8) : zv 4 168 139 [.ref a0, .int x1, .int x2, .int x3] [.int s2, .int s1, .ref t0] h = (zv 3 161 0 [.ref t0, .int s1, .int s2, .double 0] [] h).bind fun r => zv 4 168 142 [.ref a0, .int x1, .int x2, .int x3] (r.1.toList ++ []) r.2 := by
  exact zs_callV f168_139 (Nat.le_of_ble_eq_true rfl) (Nat.le_of_ble_eq_true rfl) rfl g0 g1 me_161 (by decide) rfl
theorem b168_142 {h : zi_Hp} {a0 : Nat} {x1 : Int32} {x2 : Int32} {x3 : Int32} {s0 : Int32}  : zv 4 168 142 [.ref a0, .int x1, .int x2, .int x3] [.int s0] h = zv 4 168 151 [.ref a0, .int x1, .int x2, .int x3] [.int s0] h := by
  refine Eq.trans (zs_goto (tgt := 151) f168_142 rfl) ?_
  rfl
theorem b168_145 {h : zi_Hp} {a0 : Nat} {x1 : Int32} {x2 : Int32} {x3 : Int32} (g0 : a0 < zh_n h) (g1 : (zh_k h a0).1 = 8) : zv 4 168 145 [.ref a0, .int x1, .int x2, .int x3] [] h = (zv 3 162 0 [.ref a0, .int x1, .int 4] [] h).bind fun r => zv 4 168 151 [.ref a0, .int x1, .int x2, .int x3] (r.1.toList ++ []) r.2 := by
  refine Eq.trans (zv_next f168_145 rfl) ?_
  refine Eq.trans (zv_next f168_146 rfl) ?_
  refine Eq.trans (zs_ic f168_147 ic_4) ?_
  exact zs_callV f168_148 (Nat.le_of_ble_eq_true rfl) (Nat.le_of_ble_eq_true rfl) rfl g0 g1 me_162 (by decide) rfl
theorem b168_151 {h : zi_Hp} {a0 : Nat} {x1 : Int32} {x2 : Int32} {x3 : Int32} {s0 : Int32}  : zv 4 168 151 [.ref a0, .int x1, .int x2, .int x3] [.int s0] h = some (some (.int s0), h) := by
  exact zs_ret0 f168_151
set_option maxRecDepth 20000 in
theorem zq169 : zi_M[169]? = some zi_m169 := rfl
theorem zl169_0 {pc : Nat} (_ : 0 ≤ pc) : zi_fe 169 pc = zu169_0.lookup pc := zi_feA zq169 pc
theorem f169_0 : zi_fe 169 0 = some ((.aload_n 0), 1, 0, 0, 0, 0, 0) := (zl169_0 (Nat.le_of_ble_eq_true rfl)).trans rfl
theorem f169_1 : zi_fe 169 1 = some ((.iconst 0), 1, 0, 0, 0, 0, 0) := (zl169_0 (Nat.le_of_ble_eq_true rfl)).trans rfl
theorem f169_2 : zi_fe 169 2 = some ((.putfield 98), 3, 8, 5, 0, 1070, 0) := (zl169_0 (Nat.le_of_ble_eq_true rfl)).trans rfl
theorem f169_5 : zi_fe 169 5 = some ((.iconst 0), 1, 0, 0, 0, 0, 0) := (zl169_0 (Nat.le_of_ble_eq_true rfl)).trans rfl
theorem f169_6 : zi_fe 169 6 = some ((.istore_n 3), 1, 0, 0, 0, 0, 0) := (zl169_0 (Nat.le_of_ble_eq_true rfl)).trans rfl
theorem f169_7 : zi_fe 169 7 = some ((.iload_n 3), 1, 0, 0, 0, 0, 0) := (zl169_0 (Nat.le_of_ble_eq_true rfl)).trans rfl
theorem f169_8 : zi_fe 169 8 = some ((.aload_n 0), 1, 0, 0, 0, 0, 0) := (zl169_0 (Nat.le_of_ble_eq_true rfl)).trans rfl
theorem f169_9 : zi_fe 169 9 = some ((.iload_n 1), 1, 0, 0, 0, 0, 0) := (zl169_0 (Nat.le_of_ble_eq_true rfl)).trans rfl
theorem f169_10 : zi_fe 169 10 = some ((.iconst 1), 1, 0, 0, 0, 0, 0) := (zl169_0 (Nat.le_of_ble_eq_true rfl)).trans rfl
theorem f169_11 : zi_fe 169 11 = some ((.invokevirtual 87), 3, 144, 0, 8, 1261, 3) := (zl169_0 (Nat.le_of_ble_eq_true rfl)).trans rfl
theorem f169_14 : zi_fe 169 14 = some ((.if_icmp .ge 35), 3, 0, 0, 0, 0, 0) := (zl169_0 (Nat.le_of_ble_eq_true rfl)).trans rfl
theorem f169_17 : zi_fe 169 17 = some ((.iload_n 3), 1, 0, 0, 0, 0, 0) := (zl169_0 (Nat.le_of_ble_eq_true rfl)).trans rfl
theorem zl169_1 {pc : Nat} (h : 18 ≤ pc) : zi_fe 169 pc = zu169_1.lookup pc := (zl169_0 (Nat.le_trans (Nat.le_of_ble_eq_true rfl) h)).trans (zi_lkA (a := zi_i169_0) (c := 18) rfl h)
theorem f169_18 : zi_fe 169 18 = some ((.iload_n 2), 1, 0, 0, 0, 0, 0) := (zl169_1 (Nat.le_of_ble_eq_true rfl)).trans rfl
theorem f169_19 : zi_fe 169 19 = some ((.if_icmp .eq 24), 3, 0, 0, 0, 0, 0) := (zl169_1 (Nat.le_of_ble_eq_true rfl)).trans rfl
theorem f169_22 : zi_fe 169 22 = some ((.aload_n 0), 1, 0, 0, 0, 0, 0) := (zl169_1 (Nat.le_of_ble_eq_true rfl)).trans rfl
theorem f169_23 : zi_fe 169 23 = some ((.aload_n 0), 1, 0, 0, 0, 0, 0) := (zl169_1 (Nat.le_of_ble_eq_true rfl)).trans rfl
theorem f169_24 : zi_fe 169 24 = some ((.iload_n 1), 1, 0, 0, 0, 0, 0) := (zl169_1 (Nat.le_of_ble_eq_true rfl)).trans rfl
theorem f169_25 : zi_fe 169 25 = some ((.iconst 5), 1, 0, 0, 0, 0, 0) := (zl169_1 (Nat.le_of_ble_eq_true rfl)).trans rfl
theorem f169_26 : zi_fe 169 26 = some ((.iload_n 3), 1, 0, 0, 0, 0, 0) := (zl169_1 (Nat.le_of_ble_eq_true rfl)).trans rfl
theorem f169_27 : zi_fe 169 27 = some (.iadd, 1, 0, 0, 0, 0, 0) := (zl169_1 (Nat.le_of_ble_eq_true rfl)).trans rfl
theorem f169_28 : zi_fe 169 28 = some ((.invokevirtual 87), 3, 144, 0, 8, 1261, 3) := (zl169_1 (Nat.le_of_ble_eq_true rfl)).trans rfl
theorem f169_31 : zi_fe 169 31 = some ((.aload_n 0), 1, 0, 0, 0, 0, 0) := (zl169_1 (Nat.le_of_ble_eq_true rfl)).trans rfl
theorem f169_32 : zi_fe 169 32 = some ((.iload_n 1), 1, 0, 0, 0, 0, 0) := (zl169_1 (Nat.le_of_ble_eq_true rfl)).trans rfl
theorem f169_33 : zi_fe 169 33 = some ((.bipush 9), 2, 0, 0, 0, 0, 0) := (zl169_1 (Nat.le_of_ble_eq_true rfl)).trans rfl
theorem zl169_2 {pc : Nat} (h : 35 ≤ pc) : zi_fe 169 pc = zu169_2.lookup pc := (zl169_1 (Nat.le_trans (Nat.le_of_ble_eq_true rfl) h)).trans (zi_lkA (a := zi_i169_1) (c := 35) rfl h)
theorem f169_35 : zi_fe 169 35 = some ((.iload_n 3), 1, 0, 0, 0, 0, 0) := (zl169_2 (Nat.le_of_ble_eq_true rfl)).trans rfl
theorem f169_36 : zi_fe 169 36 = some (.iadd, 1, 0, 0, 0, 0, 0) := (zl169_2 (Nat.le_of_ble_eq_true rfl)).trans rfl
theorem f169_37 : zi_fe 169 37 = some ((.invokevirtual 87), 3, 144, 0, 8, 1261, 3) := (zl169_2 (Nat.le_of_ble_eq_true rfl)).trans rfl
theorem f169_40 : zi_fe 169 40 = some ((.invokevirtual 138), 3, 153, 0, 8, 1335, 3) := (zl169_2 (Nat.le_of_ble_eq_true rfl)).trans rfl
theorem f169_43 : zi_fe 169 43 = some ((.iinc 3 1), 3, 0, 0, 0, 0, 0) := (zl169_2 (Nat.le_of_ble_eq_true rfl)).trans rfl
theorem f169_46 : zi_fe 169 46 = some ((.goto (-39)), 3, 0, 0, 0, 0, 0) := (zl169_2 (Nat.le_of_ble_eq_true rfl)).trans rfl
theorem f169_49 : zi_fe 169 49 = some (.return_, 1, 0, 0, 0, 0, 0) := (zl169_2 (Nat.le_of_ble_eq_true rfl)).trans rfl
theorem b169_0 {h : zi_Hp} {a0 : Nat} {x1 : Int32} {x2 : Int32} {u3 : Value} (g0 : a0 < zh_n h) (g1 : (zh_k h a0).1 = 8) : zv 2 169 0 [.ref a0, .int x1, .int x2, u3] [] h = zv 2 169 7 [.ref a0, .int x1, .int x2, .int 0] [] (zh_wi h a0 5 0) := by
  refine Eq.trans (zv_next f169_0 rfl) ?_
  refine Eq.trans (zs_ic f169_1 ic_0) ?_
  refine Eq.trans (zs_put f169_2 g0 g1 rfl) ?_
  refine Eq.trans (zs_ic f169_5 ic_0) ?_
  refine Eq.trans (zv_next f169_6 rfl) ?_
  rfl
theorem b169_7 {h : zi_Hp} {a0 : Nat} {x1 : Int32} {x2 : Int32} {x3 : Int32} (g0 : a0 < zh_n h) (g1 : (zh_k h a0).1 = 8) : zv 2 169 7 [.ref a0, .int x1, .int x2, .int x3] [] h = (zv 1 144 0 [.ref a0, .int x1, .int 1] [] h).bind fun r => zv 2 169 14 [.ref a0, .int x1, .int x2, .int x3] (r.1.toList ++ [.int x3]) r.2 := by
  refine Eq.trans (zv_next f169_7 rfl) ?_
  refine Eq.trans (zv_next f169_8 rfl) ?_
  refine Eq.trans (zv_next f169_9 rfl) ?_
  refine Eq.trans (zs_ic f169_10 ic_1) ?_
  exact zs_callV f169_11 (Nat.le_of_ble_eq_true rfl) (Nat.le_of_ble_eq_true rfl) rfl g0 g1 me_144 (by decide) rfl
theorem b169_14 {h : zi_Hp} {a0 : Nat} {x1 : Int32} {x2 : Int32} {x3 : Int32} {s0 : Int32} {s1 : Int32}  : zv 2 169 14 [.ref a0, .int x1, .int x2, .int x3] [.int s1, .int s0] h = if s0 < s1 then zv 2 169 17 [.ref a0, .int x1, .int x2, .int x3] [] h else zv 2 169 49 [.ref a0, .int x1, .int x2, .int x3] [] h := by
  exact zs_icmp f169_14 rfl
theorem b169_17 {h : zi_Hp} {a0 : Nat} {x1 : Int32} {x2 : Int32} {x3 : Int32}  : zv 2 169 17 [.ref a0, .int x1, .int x2, .int x3] [] h = if x3 = x2 then zv 2 169 43 [.ref a0, .int x1, .int x2, .int x3] [] h else zv 2 169 22 [.ref a0, .int x1, .int x2, .int x3] [] h := by
  refine Eq.trans (zv_next f169_17 rfl) ?_
  refine Eq.trans (zv_next f169_18 rfl) ?_
  exact zs_icmp f169_19 rfl
theorem b169_22 {h : zi_Hp} {a0 : Nat} {x1 : Int32} {x2 : Int32} {x3 : Int32} (g0 : a0 < zh_n h) (g1 : (zh_k h a0).1 = 8) : zv 2 169 22 [.ref a0, .int x1, .int x2, .int x3] [] h = (zv 1 144 0 [.ref a0, .int x1, .int (5 + x3)] [] h).bind fun r => zv 2 169 31 [.ref a0, .int x1, .int x2, .int x3] (r.1.toList ++ [.ref a0]) r.2 := by
  refine Eq.trans (zv_next f169_22 rfl) ?_
  refine Eq.trans (zv_next f169_23 rfl) ?_
  refine Eq.trans (zv_next f169_24 rfl) ?_
  refine Eq.trans (zs_ic f169_25 ic_5) ?_
  refine Eq.trans (zv_next f169_26 rfl) ?_
  refine Eq.trans (zv_next f169_27 rfl) ?_
  exact zs_callV f169_28 (Nat.le_of_ble_eq_true rfl) (Nat.le_of_ble_eq_true rfl) rfl g0 g1 me_144 (by decide) rfl
theorem b169_31 {h : zi_Hp} {a0 : Nat} {x1 : Int32} {x2 : Int32} {x3 : Int32} {t0 : Nat} {s1 : Int32} (g0 : a0 < zh_n h) (g1 : (zh_k h a0).1 = 8) : zv 2 169 31 [.ref a0, .int x1, .int x2, .int x3] [.int s1, .ref t0] h = (zv 1 144 0 [.ref a0, .int x1, .int (9 + x3)] [] h).bind fun r => zv 2 169 40 [.ref a0, .int x1, .int x2, .int x3] (r.1.toList ++ [.int s1, .ref t0]) r.2 := by
  refine Eq.trans (zv_next f169_31 rfl) ?_
  refine Eq.trans (zv_next f169_32 rfl) ?_
  refine Eq.trans (zs_bp f169_33 bp_9) ?_
  refine Eq.trans (zv_next f169_35 rfl) ?_
  refine Eq.trans (zv_next f169_36 rfl) ?_
  exact zs_callV f169_37 (Nat.le_of_ble_eq_true rfl) (Nat.le_of_ble_eq_true rfl) rfl g0 g1 me_144 (by decide) rfl
theorem b169_40 {h : zi_Hp} {a0 : Nat} {x1 : Int32} {x2 : Int32} {x3 : Int32} {t0 : Nat} {s1 : Int32} {s2 : Int32} (g0 : t0 < zh_n h) (g1 : (zh_k h t0).1 = 8) : zv 2 169 40 [.ref a0, .int x1, .int x2, .int x3] [.int s2, .int s1, .ref t0] h = (zv 1 153 0 [.ref t0, .int s1, .int s2] [] h).bind fun r => zv 2 169 43 [.ref a0, .int x1, .int x2, .int x3] (r.1.toList ++ []) r.2 := by
  exact zs_callV f169_40 (Nat.le_of_ble_eq_true rfl) (Nat.le_of_ble_eq_true rfl) rfl g0 g1 me_153 (by decide) rfl
theorem b169_43 {h : zi_Hp} {a0 : Nat} {x1 : Int32} {x2 : Int32} {x3 : Int32}  : zv 2 169 43 [.ref a0, .int x1, .int x2, .int x3] [] h = zv 2 169 7 [.ref a0, .int x1, .int x2, .int (x3 + 1)] [] h := by
  refine Eq.trans (zs_inc f169_43 rfl ic_1 rfl) ?_
  refine Eq.trans (zs_goto (tgt := 7) f169_46 rfl) ?_
  rfl
theorem b169_49 {h : zi_Hp} {a0 : Nat} {x1 : Int32} {x2 : Int32} {x3 : Int32}  : zv 2 169 49 [.ref a0, .int x1, .int x2, .int x3] [] h = some (none, h) := by
  exact zv_ret f169_49 rfl
set_option maxRecDepth 20000 in
theorem zq170 : zi_M[170]? = some zi_m170 := rfl
theorem zl170_0 {pc : Nat} (_ : 0 ≤ pc) : zi_fe 170 pc = zu170_0.lookup pc := zi_feA zq170 pc
theorem f170_0 : zi_fe 170 0 = some ((.aload_n 0), 1, 0, 0, 0, 0, 0) := (zl170_0 (Nat.le_of_ble_eq_true rfl)).trans rfl
theorem f170_1 : zi_fe 170 1 = some ((.iload_n 1), 1, 0, 0, 0, 0, 0) := (zl170_0 (Nat.le_of_ble_eq_true rfl)).trans rfl
theorem f170_2 : zi_fe 170 2 = some ((.iconst 3), 1, 0, 0, 0, 0, 0) := (zl170_0 (Nat.le_of_ble_eq_true rfl)).trans rfl
theorem f170_3 : zi_fe 170 3 = some ((.invokevirtual 83), 3, 146, 0, 8, 1276, 3) := (zl170_0 (Nat.le_of_ble_eq_true rfl)).trans rfl
theorem f170_6 : zi_fe 170 6 = some ((.istore_n 2), 1, 0, 0, 0, 0, 0) := (zl170_0 (Nat.le_of_ble_eq_true rfl)).trans rfl
theorem f170_7 : zi_fe 170 7 = some ((.aload_n 0), 1, 0, 0, 0, 0, 0) := (zl170_0 (Nat.le_of_ble_eq_true rfl)).trans rfl
theorem f170_8 : zi_fe 170 8 = some ((.iload_n 2), 1, 0, 0, 0, 0, 0) := (zl170_0 (Nat.le_of_ble_eq_true rfl)).trans rfl
theorem f170_9 : zi_fe 170 9 = some ((.aload_n 0), 1, 0, 0, 0, 0, 0) := (zl170_0 (Nat.le_of_ble_eq_true rfl)).trans rfl
theorem f170_10 : zi_fe 170 10 = some ((.iload_n 1), 1, 0, 0, 0, 0, 0) := (zl170_0 (Nat.le_of_ble_eq_true rfl)).trans rfl
theorem f170_11 : zi_fe 170 11 = some ((.bipush 8), 2, 0, 0, 0, 0, 0) := (zl170_0 (Nat.le_of_ble_eq_true rfl)).trans rfl
theorem f170_13 : zi_fe 170 13 = some ((.invokevirtual 83), 3, 146, 0, 8, 1276, 3) := (zl170_0 (Nat.le_of_ble_eq_true rfl)).trans rfl
theorem f170_16 : zi_fe 170 16 = some ((.invokevirtual 119), 3, 152, 0, 8, 1311, 3) := (zl170_0 (Nat.le_of_ble_eq_true rfl)).trans rfl
theorem zl170_1 {pc : Nat} (h : 19 ≤ pc) : zi_fe 170 pc = zu170_1.lookup pc := (zl170_0 (Nat.le_trans (Nat.le_of_ble_eq_true rfl) h)).trans (zi_lkA (a := zi_i170_0) (c := 19) rfl h)
theorem f170_19 : zi_fe 170 19 = some ((.istore_n 3), 1, 0, 0, 0, 0, 0) := (zl170_1 (Nat.le_of_ble_eq_true rfl)).trans rfl
theorem f170_20 : zi_fe 170 20 = some ((.aload_n 0), 1, 0, 0, 0, 0, 0) := (zl170_1 (Nat.le_of_ble_eq_true rfl)).trans rfl
theorem f170_21 : zi_fe 170 21 = some ((.iload_n 2), 1, 0, 0, 0, 0, 0) := (zl170_1 (Nat.le_of_ble_eq_true rfl)).trans rfl
theorem f170_22 : zi_fe 170 22 = some ((.iconst 5), 1, 0, 0, 0, 0, 0) := (zl170_1 (Nat.le_of_ble_eq_true rfl)).trans rfl
theorem f170_23 : zi_fe 170 23 = some ((.iload_n 3), 1, 0, 0, 0, 0, 0) := (zl170_1 (Nat.le_of_ble_eq_true rfl)).trans rfl
theorem f170_24 : zi_fe 170 24 = some (.iadd, 1, 0, 0, 0, 0, 0) := (zl170_1 (Nat.le_of_ble_eq_true rfl)).trans rfl
theorem f170_25 : zi_fe 170 25 = some ((.invokevirtual 87), 3, 144, 0, 8, 1261, 3) := (zl170_1 (Nat.le_of_ble_eq_true rfl)).trans rfl
theorem f170_28 : zi_fe 170 28 = some ((.aload_n 0), 1, 0, 0, 0, 0, 0) := (zl170_1 (Nat.le_of_ble_eq_true rfl)).trans rfl
theorem f170_29 : zi_fe 170 29 = some ((.iload_n 1), 1, 0, 0, 0, 0, 0) := (zl170_1 (Nat.le_of_ble_eq_true rfl)).trans rfl
theorem f170_30 : zi_fe 170 30 = some ((.bipush 8), 2, 0, 0, 0, 0, 0) := (zl170_1 (Nat.le_of_ble_eq_true rfl)).trans rfl
theorem f170_32 : zi_fe 170 32 = some ((.invokevirtual 83), 3, 146, 0, 8, 1276, 3) := (zl170_1 (Nat.le_of_ble_eq_true rfl)).trans rfl
theorem f170_35 : zi_fe 170 35 = some ((.if_icmp .ne 34), 3, 0, 0, 0, 0, 0) := (zl170_1 (Nat.le_of_ble_eq_true rfl)).trans rfl
theorem zl170_2 {pc : Nat} (h : 38 ≤ pc) : zi_fe 170 pc = zu170_2.lookup pc := (zl170_1 (Nat.le_trans (Nat.le_of_ble_eq_true rfl) h)).trans (zi_lkA (a := zi_i170_1) (c := 38) rfl h)
theorem f170_38 : zi_fe 170 38 = some ((.aload_n 0), 1, 0, 0, 0, 0, 0) := (zl170_2 (Nat.le_of_ble_eq_true rfl)).trans rfl
theorem f170_39 : zi_fe 170 39 = some ((.iload_n 2), 1, 0, 0, 0, 0, 0) := (zl170_2 (Nat.le_of_ble_eq_true rfl)).trans rfl
theorem f170_40 : zi_fe 170 40 = some ((.bipush 9), 2, 0, 0, 0, 0, 0) := (zl170_2 (Nat.le_of_ble_eq_true rfl)).trans rfl
theorem f170_42 : zi_fe 170 42 = some ((.iload_n 3), 1, 0, 0, 0, 0, 0) := (zl170_2 (Nat.le_of_ble_eq_true rfl)).trans rfl
theorem f170_43 : zi_fe 170 43 = some (.iadd, 1, 0, 0, 0, 0, 0) := (zl170_2 (Nat.le_of_ble_eq_true rfl)).trans rfl
theorem f170_44 : zi_fe 170 44 = some ((.invokevirtual 87), 3, 144, 0, 8, 1261, 3) := (zl170_2 (Nat.le_of_ble_eq_true rfl)).trans rfl
theorem f170_47 : zi_fe 170 47 = some ((.aload_n 0), 1, 0, 0, 0, 0, 0) := (zl170_2 (Nat.le_of_ble_eq_true rfl)).trans rfl
theorem f170_48 : zi_fe 170 48 = some ((.iload_n 1), 1, 0, 0, 0, 0, 0) := (zl170_2 (Nat.le_of_ble_eq_true rfl)).trans rfl
theorem f170_49 : zi_fe 170 49 = some ((.bipush 9), 2, 0, 0, 0, 0, 0) := (zl170_2 (Nat.le_of_ble_eq_true rfl)).trans rfl
theorem f170_51 : zi_fe 170 51 = some ((.invokevirtual 83), 3, 146, 0, 8, 1276, 3) := (zl170_2 (Nat.le_of_ble_eq_true rfl)).trans rfl
theorem f170_54 : zi_fe 170 54 = some ((.if_icmp .ne 15), 3, 0, 0, 0, 0, 0) := (zl170_2 (Nat.le_of_ble_eq_true rfl)).trans rfl
theorem f170_57 : zi_fe 170 57 = some ((.iload_n 3), 1, 0, 0, 0, 0, 0) := (zl170_2 (Nat.le_of_ble_eq_true rfl)).trans rfl
theorem zl170_3 {pc : Nat} (h : 58 ≤ pc) : zi_fe 170 pc = zu170_3.lookup pc := (zl170_2 (Nat.le_trans (Nat.le_of_ble_eq_true rfl) h)).trans (zi_lkA (a := zi_i170_2) (c := 58) rfl h)
theorem f170_58 : zi_fe 170 58 = some ((.aload_n 0), 1, 0, 0, 0, 0, 0) := (zl170_3 (Nat.le_of_ble_eq_true rfl)).trans rfl
theorem f170_59 : zi_fe 170 59 = some ((.iload_n 2), 1, 0, 0, 0, 0, 0) := (zl170_3 (Nat.le_of_ble_eq_true rfl)).trans rfl
theorem f170_60 : zi_fe 170 60 = some ((.iconst 1), 1, 0, 0, 0, 0, 0) := (zl170_3 (Nat.le_of_ble_eq_true rfl)).trans rfl
theorem f170_61 : zi_fe 170 61 = some ((.invokevirtual 87), 3, 144, 0, 8, 1261, 3) := (zl170_3 (Nat.le_of_ble_eq_true rfl)).trans rfl
theorem f170_64 : zi_fe 170 64 = some ((.iconst 1), 1, 0, 0, 0, 0, 0) := (zl170_3 (Nat.le_of_ble_eq_true rfl)).trans rfl
theorem f170_65 : zi_fe 170 65 = some (.isub, 1, 0, 0, 0, 0, 0) := (zl170_3 (Nat.le_of_ble_eq_true rfl)).trans rfl
theorem f170_66 : zi_fe 170 66 = some ((.if_icmp .ne 10), 3, 0, 0, 0, 0, 0) := (zl170_3 (Nat.le_of_ble_eq_true rfl)).trans rfl
theorem f170_69 : zi_fe 170 69 = some ((.aload_n 0), 1, 0, 0, 0, 0, 0) := (zl170_3 (Nat.le_of_ble_eq_true rfl)).trans rfl
theorem f170_70 : zi_fe 170 70 = some ((.iload_n 1), 1, 0, 0, 0, 0, 0) := (zl170_3 (Nat.le_of_ble_eq_true rfl)).trans rfl
theorem f170_71 : zi_fe 170 71 = some ((.iconst 3), 1, 0, 0, 0, 0, 0) := (zl170_3 (Nat.le_of_ble_eq_true rfl)).trans rfl
theorem f170_72 : zi_fe 170 72 = some ((.invokevirtual 116), 3, 158, 0, 8, 1319, 3) := (zl170_3 (Nat.le_of_ble_eq_true rfl)).trans rfl
theorem f170_75 : zi_fe 170 75 = some (.ireturn, 1, 0, 0, 0, 0, 0) := (zl170_3 (Nat.le_of_ble_eq_true rfl)).trans rfl
theorem zl170_4 {pc : Nat} (h : 76 ≤ pc) : zi_fe 170 pc = zu170_4.lookup pc := (zl170_3 (Nat.le_trans (Nat.le_of_ble_eq_true rfl) h)).trans (zi_lkA (a := zi_i170_3) (c := 76) rfl h)
theorem f170_76 : zi_fe 170 76 = some ((.aload_n 0), 1, 0, 0, 0, 0, 0) := (zl170_4 (Nat.le_of_ble_eq_true rfl)).trans rfl
theorem f170_77 : zi_fe 170 77 = some ((.iload_n 2), 1, 0, 0, 0, 0, 0) := (zl170_4 (Nat.le_of_ble_eq_true rfl)).trans rfl
theorem f170_78 : zi_fe 170 78 = some ((.iload_n 3), 1, 0, 0, 0, 0, 0) := (zl170_4 (Nat.le_of_ble_eq_true rfl)).trans rfl
theorem f170_79 : zi_fe 170 79 = some ((.invokevirtual 151), 3, 169, 0, 8, 1371, 3) := (zl170_4 (Nat.le_of_ble_eq_true rfl)).trans rfl
theorem f170_82 : zi_fe 170 82 = some ((.aload_n 0), 1, 0, 0, 0, 0, 0) := (zl170_4 (Nat.le_of_ble_eq_true rfl)).trans rfl
theorem f170_83 : zi_fe 170 83 = some ((.iload_n 2), 1, 0, 0, 0, 0, 0) := (zl170_4 (Nat.le_of_ble_eq_true rfl)).trans rfl
theorem f170_84 : zi_fe 170 84 = some ((.iconst 0), 1, 0, 0, 0, 0, 0) := (zl170_4 (Nat.le_of_ble_eq_true rfl)).trans rfl
theorem f170_85 : zi_fe 170 85 = some ((.aload_n 0), 1, 0, 0, 0, 0, 0) := (zl170_4 (Nat.le_of_ble_eq_true rfl)).trans rfl
theorem f170_86 : zi_fe 170 86 = some ((.getfield 98), 3, 8, 5, 0, 1070, 0) := (zl170_4 (Nat.le_of_ble_eq_true rfl)).trans rfl
theorem f170_89 : zi_fe 170 89 = some ((.invokevirtual 109), 3, 154, 0, 8, 1339, 4) := (zl170_4 (Nat.le_of_ble_eq_true rfl)).trans rfl
theorem f170_92 : zi_fe 170 92 = some ((.aload_n 0), 1, 0, 0, 0, 0, 0) := (zl170_4 (Nat.le_of_ble_eq_true rfl)).trans rfl
theorem f170_93 : zi_fe 170 93 = some ((.iload_n 1), 1, 0, 0, 0, 0, 0) := (zl170_4 (Nat.le_of_ble_eq_true rfl)).trans rfl
theorem zl170_5 {pc : Nat} (h : 94 ≤ pc) : zi_fe 170 pc = zu170_5.lookup pc := (zl170_4 (Nat.le_trans (Nat.le_of_ble_eq_true rfl) h)).trans (zi_lkA (a := zi_i170_4) (c := 94) rfl h)
theorem f170_94 : zi_fe 170 94 = some ((.bipush 8), 2, 0, 0, 0, 0, 0) := (zl170_5 (Nat.le_of_ble_eq_true rfl)).trans rfl
theorem f170_96 : zi_fe 170 96 = some ((.invokevirtual 116), 3, 158, 0, 8, 1319, 3) := (zl170_5 (Nat.le_of_ble_eq_true rfl)).trans rfl
theorem f170_99 : zi_fe 170 99 = some (.ireturn, 1, 0, 0, 0, 0, 0) := (zl170_5 (Nat.le_of_ble_eq_true rfl)).trans rfl
theorem b170_0 {h : zi_Hp} {a0 : Nat} {x1 : Int32} {u2 : Value} {u3 : Value} (g0 : a0 < zh_n h) (g1 : (zh_k h a0).1 = 8) : zv 3 170 0 [.ref a0, .int x1, u2, u3] [] h = (zv 1 146 0 [.ref a0, .int x1, .int 3] [] h).bind fun r => zv 3 170 6 [.ref a0, .int x1, u2, u3] (r.1.toList ++ []) r.2 := by
  refine Eq.trans (zv_next f170_0 rfl) ?_
  refine Eq.trans (zv_next f170_1 rfl) ?_
  refine Eq.trans (zs_ic f170_2 ic_3) ?_
  exact zs_callV f170_3 (Nat.le_of_ble_eq_true rfl) (Nat.le_of_ble_eq_true rfl) rfl g0 g1 me_146 (by decide) rfl
theorem b170_6 {h : zi_Hp} {a0 : Nat} {x1 : Int32} {u2 : Value} {u3 : Value} {s0 : Int32} (g0 : a0 < zh_n h) (g1 : (zh_k h a0).1 = 8) : zv 3 170 6 [.ref a0, .int x1, u2, u3] [.int s0] h = (zv 1 146 0 [.ref a0, .int x1, .int 8] [] h).bind fun r => zv 3 170 16 [.ref a0, .int x1, .int s0, u3] (r.1.toList ++ [.int s0, .ref a0]) r.2 := by
  refine Eq.trans (zv_next f170_6 rfl) ?_
  refine Eq.trans (zv_next f170_7 rfl) ?_
  refine Eq.trans (zv_next f170_8 rfl) ?_
  refine Eq.trans (zv_next f170_9 rfl) ?_
  refine Eq.trans (zv_next f170_10 rfl) ?_
  refine Eq.trans (zs_bp f170_11 bp_8) ?_
  exact zs_callV f170_13 (Nat.le_of_ble_eq_true rfl) (Nat.le_of_ble_eq_true rfl) rfl g0 g1 me_146 (by decide) rfl
theorem b170_16 {h : zi_Hp} {a0 : Nat} {x1 : Int32} {x2 : Int32} {u3 : Value} {t0 : Nat} {s1 : Int32} {s2 : Int32} (g0 : t0 < zh_n h) (g1 : (zh_k h t0).1 = 8) : zv 3 170 16 [.ref a0, .int x1, .int x2, u3] [.int s2, .int s1, .ref t0] h = (zv 2 152 0 [.ref t0, .int s1, .int s2, .double 0] [] h).bind fun r => zv 3 170 19 [.ref a0, .int x1, .int x2, u3] (r.1.toList ++ []) r.2 := by
  exact zs_callV f170_16 (Nat.le_of_ble_eq_true rfl) (Nat.le_of_ble_eq_true rfl) rfl g0 g1 me_152 (by decide) rfl
theorem b170_19 {h : zi_Hp} {a0 : Nat} {x1 : Int32} {x2 : Int32} {u3 : Value} {s0 : Int32} (g0 : a0 < zh_n h) (g1 : (zh_k h a0).1 = 8) : zv 3 170 19 [.ref a0, .int x1, .int x2, u3] [.int s0] h = (zv 1 144 0 [.ref a0, .int x2, .int (5 + s0)] [] h).bind fun r => zv 3 170 28 [.ref a0, .int x1, .int x2, .int s0] (r.1.toList ++ []) r.2 := by
  refine Eq.trans (zv_next f170_19 rfl) ?_
  refine Eq.trans (zv_next f170_20 rfl) ?_
  refine Eq.trans (zv_next f170_21 rfl) ?_
  refine Eq.trans (zs_ic f170_22 ic_5) ?_
  refine Eq.trans (zv_next f170_23 rfl) ?_
  refine Eq.trans (zv_next f170_24 rfl) ?_
  exact zs_callV f170_25 (Nat.le_of_ble_eq_true rfl) (Nat.le_of_ble_eq_true rfl) rfl g0 g1 me_144 (by decide) rfl
theorem b170_28 {h : zi_Hp} {a0 : Nat} {x1 : Int32} {x2 : Int32} {x3 : Int32} {s0 : Int32} (g0 : a0 < zh_n h) (g1 : (zh_k h a0).1 = 8) : zv 3 170 28 [.ref a0, .int x1, .int x2, .int x3] [.int s0] h = (zv 1 146 0 [.ref a0, .int x1, .int 8] [] h).bind fun r => zv 3 170 35 [.ref a0, .int x1, .int x2, .int x3] (r.1.toList ++ [.int s0]) r.2 := by
  refine Eq.trans (zv_next f170_28 rfl) ?_
  refine Eq.trans (zv_next f170_29 rfl) ?_
  refine Eq.trans (zs_bp f170_30 bp_8) ?_
  exact zs_callV f170_32 (Nat.le_of_ble_eq_true rfl) (Nat.le_of_ble_eq_true rfl) rfl g0 g1 me_146 (by decide) rfl
theorem b170_35 {h : zi_Hp} {a0 : Nat} {x1 : Int32} {x2 : Int32} {x3 : Int32} {s0 : Int32} {s1 : Int32}  : zv 3 170 35 [.ref a0, .int x1, .int x2, .int x3] [.int s1, .int s0] h = if s0 = s1 then zv 3 170 38 [.ref a0, .int x1, .int x2, .int x3] [] h else zv 3 170 69 [.ref a0, .int x1, .int x2, .int x3] [] h := by
  exact zs_icmp f170_35 rfl
theorem b170_38 {h : zi_Hp} {a0 : Nat} {x1 : Int32} {x2 : Int32} {x3 : Int32} (g0 : a0 < zh_n h) (g1 : (zh_k h a0).1 = 8) : zv 3 170 38 [.ref a0, .int x1, .int x2, .int x3] [] h = (zv 1 144 0 [.ref a0, .int x2, .int (9 + x3)] [] h).bind fun r => zv 3 170 47 [.ref a0, .int x1, .int x2, .int x3] (r.1.toList ++ []) r.2 := by
  refine Eq.trans (zv_next f170_38 rfl) ?_
  refine Eq.trans (zv_next f170_39 rfl) ?_
  refine Eq.trans (zs_bp f170_40 bp_9) ?_
  refine Eq.trans (zv_next f170_42 rfl) ?_
  refine Eq.trans (zv_next f170_43 rfl) ?_
  exact zs_callV f170_44 (Nat.le_of_ble_eq_true rfl) (Nat.le_of_ble_eq_true rfl) rfl g0 g1 me_144 (by decide) rfl
theorem b170_47 {h : zi_Hp} {a0 : Nat} {x1 : Int32} {x2 : Int32} {x3 : Int32} {s0 : Int32} (g0 : a0 < zh_n h) (g1 : (zh_k h a0).1 = 8) : zv 3 170 47 [.ref a0, .int x1, .int x2, .int x3] [.int s0] h = (zv 1 146 0 [.ref a0, .int x1, .int 9] [] h).bind fun r => zv 3 170 54 [.ref a0, .int x1, .int x2, .int x3] (r.1.toList ++ [.int s0]) r.2 := by
  refine Eq.trans (zv_next f170_47 rfl) ?_
  refine Eq.trans (zv_next f170_48 rfl) ?_
  refine Eq.trans (zs_bp f170_49 bp_9) ?_
  exact zs_callV f170_51 (Nat.le_of_ble_eq_true rfl) (Nat.le_of_ble_eq_true rfl) rfl g0 g1 me_146 (by decide) rfl
theorem b170_54 {h : zi_Hp} {a0 : Nat} {x1 : Int32} {x2 : Int32} {x3 : Int32} {s0 : Int32} {s1 : Int32}  : zv 3 170 54 [.ref a0, .int x1, .int x2, .int x3] [.int s1, .int s0] h = if s0 = s1 then zv 3 170 57 [.ref a0, .int x1, .int x2, .int x3] [] h else zv 3 170 69 [.ref a0, .int x1, .int x2, .int x3] [] h := by
  exact zs_icmp f170_54 rfl
theorem b170_57 {h : zi_Hp} {a0 : Nat} {x1 : Int32} {x2 : Int32} {x3 : Int32} (g0 : a0 < zh_n h) (g1 : (zh_k h a0).1 = 8) : zv 3 170 57 [.ref a0, .int x1, .int x2, .int x3] [] h = (zv 1 144 0 [.ref a0, .int x2, .int 1] [] h).bind fun r => zv 3 170 64 [.ref a0, .int x1, .int x2, .int x3] (r.1.toList ++ [.int x3]) r.2 := by
  refine Eq.trans (zv_next f170_57 rfl) ?_
  refine Eq.trans (zv_next f170_58 rfl) ?_
  refine Eq.trans (zv_next f170_59 rfl) ?_
  refine Eq.trans (zs_ic f170_60 ic_1) ?_
  exact zs_callV f170_61 (Nat.le_of_ble_eq_true rfl) (Nat.le_of_ble_eq_true rfl) rfl g0 g1 me_144 (by decide) rfl
theorem b170_64 {h : zi_Hp} {a0 : Nat} {x1 : Int32} {x2 : Int32} {x3 : Int32} {s0 : Int32} {s1 : Int32}  : zv 3 170 64 [.ref a0, .int x1, .int x2, .int x3] [.int s1, .int s0] h = if s0 = (s1 - 1) then zv 3 170 69 [.ref a0, .int x1, .int x2, .int x3] [] h else zv 3 170 76 [.ref a0, .int x1, .int x2, .int x3] [] h := by
  refine Eq.trans (zs_ic f170_64 ic_1) ?_
  refine Eq.trans (zv_next f170_65 rfl) ?_
  exact zs_icmp f170_66 rfl
theorem b170_69 {h : zi_Hp} {a0 : Nat} {x1 : Int32} {x2 : Int32} {x3 : Int32} (g0 : a0 < zh_n h) (g1 : (zh_k h a0).1 = 8) : zv 3 170 69 [.ref a0, .int x1, .int x2, .int x3] [] h = (zv 2 158 0 [.ref a0, .int x1, .int 3] [] h).bind fun r => zv 3 170 75 [.ref a0, .int x1, .int x2, .int x3] (r.1.toList ++ []) r.2 := by
  refine Eq.trans (zv_next f170_69 rfl) ?_
  refine Eq.trans (zv_next f170_70 rfl) ?_
  refine Eq.trans (zs_ic f170_71 ic_3) ?_
  exact zs_callV f170_72 (Nat.le_of_ble_eq_true rfl) (Nat.le_of_ble_eq_true rfl) rfl g0 g1 me_158 (by decide) rfl
theorem b170_75 {h : zi_Hp} {a0 : Nat} {x1 : Int32} {x2 : Int32} {x3 : Int32} {s0 : Int32}  : zv 3 170 75 [.ref a0, .int x1, .int x2, .int x3] [.int s0] h = some (some (.int s0), h) := by
  exact zs_ret0 f170_75
theorem b170_76 {h : zi_Hp} {a0 : Nat} {x1 : Int32} {x2 : Int32} {x3 : Int32} (g0 : a0 < zh_n h) (g1 : (zh_k h a0).1 = 8) : zv 3 170 76 [.ref a0, .int x1, .int x2, .int x3] [] h = (zv 2 169 0 [.ref a0, .int x2, .int x3, .double 0] [] h).bind fun r => zv 3 170 82 [.ref a0, .int x1, .int x2, .int x3] (r.1.toList ++ []) r.2 := by
  refine Eq.trans (zv_next f170_76 rfl) ?_
  refine Eq.trans (zv_next f170_77 rfl) ?_
  refine Eq.trans (zv_next f170_78 rfl) ?_
  exact zs_callV f170_79 (Nat.le_of_ble_eq_true rfl) (Nat.le_of_ble_eq_true rfl) rfl g0 g1 me_169 (by decide) rfl
theorem b170_82 {h : zi_Hp} {a0 : Nat} {x1 : Int32} {x2 : Int32} {x3 : Int32} (g0 : a0 < zh_n h) (g1 : (zh_k h a0).1 = 8) : zv 3 170 82 [.ref a0, .int x1, .int x2, .int x3] [] h = (zv 2 154 0 [.ref a0, .int x2, .int 0, .int (zh_i h a0 5), .double 0] [] h).bind fun r => zv 3 170 92 [.ref a0, .int x1, .int x2, .int x3] (r.1.toList ++ []) r.2 := by
  refine Eq.trans (zv_next f170_82 rfl) ?_
  refine Eq.trans (zv_next f170_83 rfl) ?_
  refine Eq.trans (zs_ic f170_84 ic_0) ?_
  refine Eq.trans (zv_next f170_85 rfl) ?_
  refine Eq.trans (zs_geti f170_86 g0 g1) ?_
  exact zs_callV f170_89 (Nat.le_of_ble_eq_true rfl) (Nat.le_of_ble_eq_true rfl) rfl g0 g1 me_154 (by decide) rfl
theorem b170_92 {h : zi_Hp} {a0 : Nat} {x1 : Int32} {x2 : Int32} {x3 : Int32} (g0 : a0 < zh_n h) (g1 : (zh_k h a0).1 = 8) : zv 3 170 92 [.ref a0, .int x1, .int x2, .int x3] [] h = (zv 2 158 0 [.ref a0, .int x1, .int 8] [] h).bind fun r => zv 3 170 99 [.ref a0, .int x1, .int x2, .int x3] (r.1.toList ++ []) r.2 := by
  refine Eq.trans (zv_next f170_92 rfl) ?_
  refine Eq.trans (zv_next f170_93 rfl) ?_
  refine Eq.trans (zs_bp f170_94 bp_8) ?_
  exact zs_callV f170_96 (Nat.le_of_ble_eq_true rfl) (Nat.le_of_ble_eq_true rfl) rfl g0 g1 me_158 (by decide) rfl
theorem b170_99 {h : zi_Hp} {a0 : Nat} {x1 : Int32} {x2 : Int32} {x3 : Int32} {s0 : Int32}  : zv 3 170 99 [.ref a0, .int x1, .int x2, .int x3] [.int s0] h = some (some (.int s0), h) := by
  exact zs_ret0 f170_99
set_option maxRecDepth 20000 in
theorem zq171 : zi_M[171]? = some zi_m171 := rfl
theorem zl171_0 {pc : Nat} (_ : 0 ≤ pc) : zi_fe 171 pc = zu171_0.lookup pc := zi_feA zq171 pc
theorem f171_0 : zi_fe 171 0 = some ((.aload_n 0), 1, 0, 0, 0, 0, 0) := (zl171_0 (Nat.le_of_ble_eq_true rfl)).trans rfl
theorem f171_1 : zi_fe 171 1 = some ((.iload_n 1), 1, 0, 0, 0, 0, 0) := (zl171_0 (Nat.le_of_ble_eq_true rfl)).trans rfl
theorem f171_2 : zi_fe 171 2 = some ((.iconst 3), 1, 0, 0, 0, 0, 0) := (zl171_0 (Nat.le_of_ble_eq_true rfl)).trans rfl
theorem f171_3 : zi_fe 171 3 = some ((.invokevirtual 83), 3, 146, 0, 8, 1276, 3) := (zl171_0 (Nat.le_of_ble_eq_true rfl)).trans rfl
theorem f171_6 : zi_fe 171 6 = some ((.istore_n 2), 1, 0, 0, 0, 0, 0) := (zl171_0 (Nat.le_of_ble_eq_true rfl)).trans rfl
theorem f171_7 : zi_fe 171 7 = some ((.aload_n 0), 1, 0, 0, 0, 0, 0) := (zl171_0 (Nat.le_of_ble_eq_true rfl)).trans rfl
theorem f171_8 : zi_fe 171 8 = some ((.iload_n 1), 1, 0, 0, 0, 0, 0) := (zl171_0 (Nat.le_of_ble_eq_true rfl)).trans rfl
theorem f171_9 : zi_fe 171 9 = some ((.bipush 8), 2, 0, 0, 0, 0, 0) := (zl171_0 (Nat.le_of_ble_eq_true rfl)).trans rfl
theorem f171_11 : zi_fe 171 11 = some ((.invokevirtual 83), 3, 146, 0, 8, 1276, 3) := (zl171_0 (Nat.le_of_ble_eq_true rfl)).trans rfl
theorem f171_14 : zi_fe 171 14 = some ((.istore_n 3), 1, 0, 0, 0, 0, 0) := (zl171_0 (Nat.le_of_ble_eq_true rfl)).trans rfl
theorem f171_15 : zi_fe 171 15 = some ((.aload_n 0), 1, 0, 0, 0, 0, 0) := (zl171_0 (Nat.le_of_ble_eq_true rfl)).trans rfl
theorem f171_16 : zi_fe 171 16 = some ((.iload_n 2), 1, 0, 0, 0, 0, 0) := (zl171_0 (Nat.le_of_ble_eq_true rfl)).trans rfl
theorem zl171_1 {pc : Nat} (h : 17 ≤ pc) : zi_fe 171 pc = zu171_1.lookup pc := (zl171_0 (Nat.le_trans (Nat.le_of_ble_eq_true rfl) h)).trans (zi_lkA (a := zi_i171_0) (c := 17) rfl h)
theorem f171_17 : zi_fe 171 17 = some ((.iload_n 3), 1, 0, 0, 0, 0, 0) := (zl171_1 (Nat.le_of_ble_eq_true rfl)).trans rfl
theorem f171_18 : zi_fe 171 18 = some ((.invokevirtual 119), 3, 152, 0, 8, 1311, 3) := (zl171_1 (Nat.le_of_ble_eq_true rfl)).trans rfl
theorem f171_21 : zi_fe 171 21 = some ((.istore 4), 2, 0, 0, 0, 0, 0) := (zl171_1 (Nat.le_of_ble_eq_true rfl)).trans rfl
theorem f171_23 : zi_fe 171 23 = some ((.aload_n 0), 1, 0, 0, 0, 0, 0) := (zl171_1 (Nat.le_of_ble_eq_true rfl)).trans rfl
theorem f171_24 : zi_fe 171 24 = some ((.iload_n 2), 1, 0, 0, 0, 0, 0) := (zl171_1 (Nat.le_of_ble_eq_true rfl)).trans rfl
theorem f171_25 : zi_fe 171 25 = some ((.iconst 5), 1, 0, 0, 0, 0, 0) := (zl171_1 (Nat.le_of_ble_eq_true rfl)).trans rfl
theorem f171_26 : zi_fe 171 26 = some ((.iload 4), 2, 0, 0, 0, 0, 0) := (zl171_1 (Nat.le_of_ble_eq_true rfl)).trans rfl
theorem f171_28 : zi_fe 171 28 = some (.iadd, 1, 0, 0, 0, 0, 0) := (zl171_1 (Nat.le_of_ble_eq_true rfl)).trans rfl
theorem f171_29 : zi_fe 171 29 = some ((.invokevirtual 87), 3, 144, 0, 8, 1261, 3) := (zl171_1 (Nat.le_of_ble_eq_true rfl)).trans rfl
theorem f171_32 : zi_fe 171 32 = some ((.iload_n 3), 1, 0, 0, 0, 0, 0) := (zl171_1 (Nat.le_of_ble_eq_true rfl)).trans rfl
theorem f171_33 : zi_fe 171 33 = some ((.if_icmp .ne 10), 3, 0, 0, 0, 0, 0) := (zl171_1 (Nat.le_of_ble_eq_true rfl)).trans rfl
theorem f171_36 : zi_fe 171 36 = some ((.aload_n 0), 1, 0, 0, 0, 0, 0) := (zl171_1 (Nat.le_of_ble_eq_true rfl)).trans rfl
theorem zl171_2 {pc : Nat} (h : 37 ≤ pc) : zi_fe 171 pc = zu171_2.lookup pc := (zl171_1 (Nat.le_trans (Nat.le_of_ble_eq_true rfl) h)).trans (zi_lkA (a := zi_i171_1) (c := 37) rfl h)
theorem f171_37 : zi_fe 171 37 = some ((.iload_n 1), 1, 0, 0, 0, 0, 0) := (zl171_2 (Nat.le_of_ble_eq_true rfl)).trans rfl
theorem f171_38 : zi_fe 171 38 = some ((.iconst 3), 1, 0, 0, 0, 0, 0) := (zl171_2 (Nat.le_of_ble_eq_true rfl)).trans rfl
theorem f171_39 : zi_fe 171 39 = some ((.invokevirtual 116), 3, 158, 0, 8, 1319, 3) := (zl171_2 (Nat.le_of_ble_eq_true rfl)).trans rfl
theorem f171_42 : zi_fe 171 42 = some (.ireturn, 1, 0, 0, 0, 0, 0) := (zl171_2 (Nat.le_of_ble_eq_true rfl)).trans rfl
theorem f171_43 : zi_fe 171 43 = some ((.aload_n 0), 1, 0, 0, 0, 0, 0) := (zl171_2 (Nat.le_of_ble_eq_true rfl)).trans rfl
theorem f171_44 : zi_fe 171 44 = some ((.iconst 0), 1, 0, 0, 0, 0, 0) := (zl171_2 (Nat.le_of_ble_eq_true rfl)).trans rfl
theorem f171_45 : zi_fe 171 45 = some ((.putfield 98), 3, 8, 5, 0, 1070, 0) := (zl171_2 (Nat.le_of_ble_eq_true rfl)).trans rfl
theorem f171_48 : zi_fe 171 48 = some ((.iconst 0), 1, 0, 0, 0, 0, 0) := (zl171_2 (Nat.le_of_ble_eq_true rfl)).trans rfl
theorem f171_49 : zi_fe 171 49 = some ((.istore 5), 2, 0, 0, 0, 0, 0) := (zl171_2 (Nat.le_of_ble_eq_true rfl)).trans rfl
theorem f171_51 : zi_fe 171 51 = some ((.iload 5), 2, 0, 0, 0, 0, 0) := (zl171_2 (Nat.le_of_ble_eq_true rfl)).trans rfl
theorem f171_53 : zi_fe 171 53 = some ((.aload_n 0), 1, 0, 0, 0, 0, 0) := (zl171_2 (Nat.le_of_ble_eq_true rfl)).trans rfl
theorem f171_54 : zi_fe 171 54 = some ((.iload_n 2), 1, 0, 0, 0, 0, 0) := (zl171_2 (Nat.le_of_ble_eq_true rfl)).trans rfl
theorem zl171_3 {pc : Nat} (h : 55 ≤ pc) : zi_fe 171 pc = zu171_3.lookup pc := (zl171_2 (Nat.le_trans (Nat.le_of_ble_eq_true rfl) h)).trans (zi_lkA (a := zi_i171_2) (c := 55) rfl h)
theorem f171_55 : zi_fe 171 55 = some ((.iconst 1), 1, 0, 0, 0, 0, 0) := (zl171_3 (Nat.le_of_ble_eq_true rfl)).trans rfl
theorem f171_56 : zi_fe 171 56 = some ((.invokevirtual 87), 3, 144, 0, 8, 1261, 3) := (zl171_3 (Nat.le_of_ble_eq_true rfl)).trans rfl
theorem f171_59 : zi_fe 171 59 = some ((.if_icmp .ge 71), 3, 0, 0, 0, 0, 0) := (zl171_3 (Nat.le_of_ble_eq_true rfl)).trans rfl
theorem f171_62 : zi_fe 171 62 = some ((.iload 5), 2, 0, 0, 0, 0, 0) := (zl171_3 (Nat.le_of_ble_eq_true rfl)).trans rfl
theorem f171_64 : zi_fe 171 64 = some ((.iload 4), 2, 0, 0, 0, 0, 0) := (zl171_3 (Nat.le_of_ble_eq_true rfl)).trans rfl
theorem f171_66 : zi_fe 171 66 = some ((.if_icmp .ne 18), 3, 0, 0, 0, 0, 0) := (zl171_3 (Nat.le_of_ble_eq_true rfl)).trans rfl
theorem f171_69 : zi_fe 171 69 = some ((.aload_n 0), 1, 0, 0, 0, 0, 0) := (zl171_3 (Nat.le_of_ble_eq_true rfl)).trans rfl
theorem f171_70 : zi_fe 171 70 = some ((.iload_n 3), 1, 0, 0, 0, 0, 0) := (zl171_3 (Nat.le_of_ble_eq_true rfl)).trans rfl
theorem f171_71 : zi_fe 171 71 = some ((.aload_n 0), 1, 0, 0, 0, 0, 0) := (zl171_3 (Nat.le_of_ble_eq_true rfl)).trans rfl
theorem f171_72 : zi_fe 171 72 = some ((.iload_n 2), 1, 0, 0, 0, 0, 0) := (zl171_3 (Nat.le_of_ble_eq_true rfl)).trans rfl
theorem f171_73 : zi_fe 171 73 = some ((.bipush 9), 2, 0, 0, 0, 0, 0) := (zl171_3 (Nat.le_of_ble_eq_true rfl)).trans rfl
theorem f171_75 : zi_fe 171 75 = some ((.iload 5), 2, 0, 0, 0, 0, 0) := (zl171_3 (Nat.le_of_ble_eq_true rfl)).trans rfl
theorem zl171_4 {pc : Nat} (h : 77 ≤ pc) : zi_fe 171 pc = zu171_4.lookup pc := (zl171_3 (Nat.le_trans (Nat.le_of_ble_eq_true rfl) h)).trans (zi_lkA (a := zi_i171_3) (c := 77) rfl h)
theorem f171_77 : zi_fe 171 77 = some (.iadd, 1, 0, 0, 0, 0, 0) := (zl171_4 (Nat.le_of_ble_eq_true rfl)).trans rfl
theorem f171_78 : zi_fe 171 78 = some ((.invokevirtual 87), 3, 144, 0, 8, 1261, 3) := (zl171_4 (Nat.le_of_ble_eq_true rfl)).trans rfl
theorem f171_81 : zi_fe 171 81 = some ((.invokevirtual 138), 3, 153, 0, 8, 1335, 3) := (zl171_4 (Nat.le_of_ble_eq_true rfl)).trans rfl
theorem f171_84 : zi_fe 171 84 = some ((.aload_n 0), 1, 0, 0, 0, 0, 0) := (zl171_4 (Nat.le_of_ble_eq_true rfl)).trans rfl
theorem f171_85 : zi_fe 171 85 = some ((.aload_n 0), 1, 0, 0, 0, 0, 0) := (zl171_4 (Nat.le_of_ble_eq_true rfl)).trans rfl
theorem f171_86 : zi_fe 171 86 = some ((.iload_n 2), 1, 0, 0, 0, 0, 0) := (zl171_4 (Nat.le_of_ble_eq_true rfl)).trans rfl
theorem f171_87 : zi_fe 171 87 = some ((.iconst 5), 1, 0, 0, 0, 0, 0) := (zl171_4 (Nat.le_of_ble_eq_true rfl)).trans rfl
theorem f171_88 : zi_fe 171 88 = some ((.iload 5), 2, 0, 0, 0, 0, 0) := (zl171_4 (Nat.le_of_ble_eq_true rfl)).trans rfl
theorem f171_90 : zi_fe 171 90 = some (.iadd, 1, 0, 0, 0, 0, 0) := (zl171_4 (Nat.le_of_ble_eq_true rfl)).trans rfl
theorem f171_91 : zi_fe 171 91 = some ((.invokevirtual 87), 3, 144, 0, 8, 1261, 3) := (zl171_4 (Nat.le_of_ble_eq_true rfl)).trans rfl
theorem f171_94 : zi_fe 171 94 = some ((.iload 5), 2, 0, 0, 0, 0, 0) := (zl171_4 (Nat.le_of_ble_eq_true rfl)).trans rfl
theorem f171_96 : zi_fe 171 96 = some ((.iload 4), 2, 0, 0, 0, 0, 0) := (zl171_4 (Nat.le_of_ble_eq_true rfl)).trans rfl
theorem zl171_5 {pc : Nat} (h : 98 ≤ pc) : zi_fe 171 pc = zu171_5.lookup pc := (zl171_4 (Nat.le_trans (Nat.le_of_ble_eq_true rfl) h)).trans (zi_lkA (a := zi_i171_4) (c := 98) rfl h)
theorem f171_98 : zi_fe 171 98 = some ((.if_icmp .ne 13), 3, 0, 0, 0, 0, 0) := (zl171_5 (Nat.le_of_ble_eq_true rfl)).trans rfl
theorem f171_101 : zi_fe 171 101 = some ((.aload_n 0), 1, 0, 0, 0, 0, 0) := (zl171_5 (Nat.le_of_ble_eq_true rfl)).trans rfl
theorem f171_102 : zi_fe 171 102 = some ((.iload_n 1), 1, 0, 0, 0, 0, 0) := (zl171_5 (Nat.le_of_ble_eq_true rfl)).trans rfl
theorem f171_103 : zi_fe 171 103 = some ((.bipush 9), 2, 0, 0, 0, 0, 0) := (zl171_5 (Nat.le_of_ble_eq_true rfl)).trans rfl
theorem f171_105 : zi_fe 171 105 = some ((.invokevirtual 83), 3, 146, 0, 8, 1276, 3) := (zl171_5 (Nat.le_of_ble_eq_true rfl)).trans rfl
theorem f171_108 : zi_fe 171 108 = some ((.goto 13), 3, 0, 0, 0, 0, 0) := (zl171_5 (Nat.le_of_ble_eq_true rfl)).trans rfl
theorem f171_111 : zi_fe 171 111 = some ((.aload_n 0), 1, 0, 0, 0, 0, 0) := (zl171_5 (Nat.le_of_ble_eq_true rfl)).trans rfl
theorem f171_112 : zi_fe 171 112 = some ((.iload_n 2), 1, 0, 0, 0, 0, 0) := (zl171_5 (Nat.le_of_ble_eq_true rfl)).trans rfl
theorem f171_113 : zi_fe 171 113 = some ((.bipush 9), 2, 0, 0, 0, 0, 0) := (zl171_5 (Nat.le_of_ble_eq_true rfl)).trans rfl
theorem f171_115 : zi_fe 171 115 = some ((.iload 5), 2, 0, 0, 0, 0, 0) := (zl171_5 (Nat.le_of_ble_eq_true rfl)).trans rfl
theorem f171_117 : zi_fe 171 117 = some (.iadd, 1, 0, 0, 0, 0, 0) := (zl171_5 (Nat.le_of_ble_eq_true rfl)).trans rfl
theorem f171_118 : zi_fe 171 118 = some ((.invokevirtual 87), 3, 144, 0, 8, 1261, 3) := (zl171_5 (Nat.le_of_ble_eq_true rfl)).trans rfl
theorem zl171_6 {pc : Nat} (h : 121 ≤ pc) : zi_fe 171 pc = zu171_6.lookup pc := (zl171_5 (Nat.le_trans (Nat.le_of_ble_eq_true rfl) h)).trans (zi_lkA (a := zi_i171_5) (c := 121) rfl h)
theorem f171_121 : zi_fe 171 121 = some ((.invokevirtual 138), 3, 153, 0, 8, 1335, 3) := (zl171_6 (Nat.le_of_ble_eq_true rfl)).trans rfl
theorem f171_124 : zi_fe 171 124 = some ((.iinc 5 1), 3, 0, 0, 0, 0, 0) := (zl171_6 (Nat.le_of_ble_eq_true rfl)).trans rfl
theorem f171_127 : zi_fe 171 127 = some ((.goto (-76)), 3, 0, 0, 0, 0, 0) := (zl171_6 (Nat.le_of_ble_eq_true rfl)).trans rfl
theorem f171_130 : zi_fe 171 130 = some ((.aload_n 0), 1, 0, 0, 0, 0, 0) := (zl171_6 (Nat.le_of_ble_eq_true rfl)).trans rfl
theorem f171_131 : zi_fe 171 131 = some ((.getfield 98), 3, 8, 5, 0, 1070, 0) := (zl171_6 (Nat.le_of_ble_eq_true rfl)).trans rfl
theorem f171_134 : zi_fe 171 134 = some ((.aload_n 0), 1, 0, 0, 0, 0, 0) := (zl171_6 (Nat.le_of_ble_eq_true rfl)).trans rfl
theorem f171_135 : zi_fe 171 135 = some ((.getfield 7), 3, 8, 0, 3, 1065, 0) := (zl171_6 (Nat.le_of_ble_eq_true rfl)).trans rfl
theorem f171_138 : zi_fe 171 138 = some ((.sipush 314), 3, 0, 0, 0, 0, 0) := (zl171_6 (Nat.le_of_ble_eq_true rfl)).trans rfl
theorem f171_141 : zi_fe 171 141 = some (.iaload, 1, 0, 0, 0, 0, 0) := (zl171_6 (Nat.le_of_ble_eq_true rfl)).trans rfl
theorem f171_142 : zi_fe 171 142 = some ((.if_icmp .gt 21), 3, 0, 0, 0, 0, 0) := (zl171_6 (Nat.le_of_ble_eq_true rfl)).trans rfl
theorem f171_145 : zi_fe 171 145 = some ((.aload_n 0), 1, 0, 0, 0, 0, 0) := (zl171_6 (Nat.le_of_ble_eq_true rfl)).trans rfl
theorem f171_146 : zi_fe 171 146 = some ((.iload_n 2), 1, 0, 0, 0, 0, 0) := (zl171_6 (Nat.le_of_ble_eq_true rfl)).trans rfl
theorem zl171_7 {pc : Nat} (h : 147 ≤ pc) : zi_fe 171 pc = zu171_7.lookup pc := (zl171_6 (Nat.le_trans (Nat.le_of_ble_eq_true rfl) h)).trans (zi_lkA (a := zi_i171_6) (c := 147) rfl h)
theorem f171_147 : zi_fe 171 147 = some ((.iconst 0), 1, 0, 0, 0, 0, 0) := (zl171_7 (Nat.le_of_ble_eq_true rfl)).trans rfl
theorem f171_148 : zi_fe 171 148 = some ((.aload_n 0), 1, 0, 0, 0, 0, 0) := (zl171_7 (Nat.le_of_ble_eq_true rfl)).trans rfl
theorem f171_149 : zi_fe 171 149 = some ((.getfield 98), 3, 8, 5, 0, 1070, 0) := (zl171_7 (Nat.le_of_ble_eq_true rfl)).trans rfl
theorem f171_152 : zi_fe 171 152 = some ((.invokevirtual 109), 3, 154, 0, 8, 1339, 4) := (zl171_7 (Nat.le_of_ble_eq_true rfl)).trans rfl
theorem f171_155 : zi_fe 171 155 = some ((.aload_n 0), 1, 0, 0, 0, 0, 0) := (zl171_7 (Nat.le_of_ble_eq_true rfl)).trans rfl
theorem f171_156 : zi_fe 171 156 = some ((.iload_n 1), 1, 0, 0, 0, 0, 0) := (zl171_7 (Nat.le_of_ble_eq_true rfl)).trans rfl
theorem f171_157 : zi_fe 171 157 = some ((.bipush 8), 2, 0, 0, 0, 0, 0) := (zl171_7 (Nat.le_of_ble_eq_true rfl)).trans rfl
theorem f171_159 : zi_fe 171 159 = some ((.invokevirtual 116), 3, 158, 0, 8, 1319, 3) := (zl171_7 (Nat.le_of_ble_eq_true rfl)).trans rfl
theorem f171_162 : zi_fe 171 162 = some (.ireturn, 1, 0, 0, 0, 0, 0) := (zl171_7 (Nat.le_of_ble_eq_true rfl)).trans rfl
theorem f171_163 : zi_fe 171 163 = some ((.aload_n 0), 1, 0, 0, 0, 0, 0) := (zl171_7 (Nat.le_of_ble_eq_true rfl)).trans rfl
theorem f171_164 : zi_fe 171 164 = some ((.getfield 7), 3, 8, 0, 3, 1065, 0) := (zl171_7 (Nat.le_of_ble_eq_true rfl)).trans rfl
theorem f171_167 : zi_fe 171 167 = some ((.sipush 312), 3, 0, 0, 0, 0, 0) := (zl171_7 (Nat.le_of_ble_eq_true rfl)).trans rfl
theorem zl171_8 {pc : Nat} (h : 170 ≤ pc) : zi_fe 171 pc = zu171_8.lookup pc := (zl171_7 (Nat.le_trans (Nat.le_of_ble_eq_true rfl) h)).trans (zi_lkA (a := zi_i171_7) (c := 170) rfl h)
theorem f171_170 : zi_fe 171 170 = some (.iaload, 1, 0, 0, 0, 0, 0) := (zl171_8 (Nat.le_of_ble_eq_true rfl)).trans rfl
theorem f171_171 : zi_fe 171 171 = some ((.bipush 24), 2, 0, 0, 0, 0, 0) := (zl171_8 (Nat.le_of_ble_eq_true rfl)).trans rfl
theorem f171_173 : zi_fe 171 173 = some ((.if_icmp .ne 10), 3, 0, 0, 0, 0, 0) := (zl171_8 (Nat.le_of_ble_eq_true rfl)).trans rfl
theorem f171_176 : zi_fe 171 176 = some ((.aload_n 0), 1, 0, 0, 0, 0, 0) := (zl171_8 (Nat.le_of_ble_eq_true rfl)).trans rfl
theorem f171_177 : zi_fe 171 177 = some ((.iload_n 1), 1, 0, 0, 0, 0, 0) := (zl171_8 (Nat.le_of_ble_eq_true rfl)).trans rfl
theorem f171_178 : zi_fe 171 178 = some ((.iconst 3), 1, 0, 0, 0, 0, 0) := (zl171_8 (Nat.le_of_ble_eq_true rfl)).trans rfl
theorem f171_179 : zi_fe 171 179 = some ((.invokevirtual 116), 3, 158, 0, 8, 1319, 3) := (zl171_8 (Nat.le_of_ble_eq_true rfl)).trans rfl
theorem f171_182 : zi_fe 171 182 = some (.ireturn, 1, 0, 0, 0, 0, 0) := (zl171_8 (Nat.le_of_ble_eq_true rfl)).trans rfl
theorem f171_183 : zi_fe 171 183 = some ((.aload_n 0), 1, 0, 0, 0, 0, 0) := (zl171_8 (Nat.le_of_ble_eq_true rfl)).trans rfl
theorem f171_184 : zi_fe 171 184 = some ((.iload_n 1), 1, 0, 0, 0, 0, 0) := (zl171_8 (Nat.le_of_ble_eq_true rfl)).trans rfl
theorem f171_185 : zi_fe 171 185 = some ((.invokevirtual 145), 3, 157, 0, 8, 1343, 2) := (zl171_8 (Nat.le_of_ble_eq_true rfl)).trans rfl
theorem f171_188 : zi_fe 171 188 = some ((.iconst 5), 1, 0, 0, 0, 0, 0) := (zl171_8 (Nat.le_of_ble_eq_true rfl)).trans rfl
theorem zl171_9 {pc : Nat} (h : 189 ≤ pc) : zi_fe 171 pc = zu171_9.lookup pc := (zl171_8 (Nat.le_trans (Nat.le_of_ble_eq_true rfl) h)).trans (zi_lkA (a := zi_i171_8) (c := 189) rfl h)
theorem f171_189 : zi_fe 171 189 = some (.ireturn, 1, 0, 0, 0, 0, 0) := (zl171_9 (Nat.le_of_ble_eq_true rfl)).trans rfl
theorem b171_0 {h : zi_Hp} {a0 : Nat} {x1 : Int32} {u2 : Value} {u3 : Value} {u4 : Value} {u5 : Value} (g0 : a0 < zh_n h) (g1 : (zh_k h a0).1 = 8) : zv 4 171 0 [.ref a0, .int x1, u2, u3, u4, u5] [] h = (zv 1 146 0 [.ref a0, .int x1, .int 3] [] h).bind fun r => zv 4 171 6 [.ref a0, .int x1, u2, u3, u4, u5] (r.1.toList ++ []) r.2 := by
  refine Eq.trans (zv_next f171_0 rfl) ?_
  refine Eq.trans (zv_next f171_1 rfl) ?_
  refine Eq.trans (zs_ic f171_2 ic_3) ?_
  exact zs_callV f171_3 (Nat.le_of_ble_eq_true rfl) (Nat.le_of_ble_eq_true rfl) rfl g0 g1 me_146 (by decide) rfl
theorem b171_6 {h : zi_Hp} {a0 : Nat} {x1 : Int32} {u2 : Value} {u3 : Value} {u4 : Value} {u5 : Value} {s0 : Int32} (g0 : a0 < zh_n h) (g1 : (zh_k h a0).1 = 8) : zv 4 171 6 [.ref a0, .int x1, u2, u3, u4, u5] [.int s0] h = (zv 1 146 0 [.ref a0, .int x1, .int 8] [] h).bind fun r => zv 4 171 14 [.ref a0, .int x1, .int s0, u3, u4, u5] (r.1.toList ++ []) r.2 := by
  refine Eq.trans (zv_next f171_6 rfl) ?_
  refine Eq.trans (zv_next f171_7 rfl) ?_
  refine Eq.trans (zv_next f171_8 rfl) ?_
  refine Eq.trans (zs_bp f171_9 bp_8) ?_
  exact zs_callV f171_11 (Nat.le_of_ble_eq_true rfl) (Nat.le_of_ble_eq_true rfl) rfl g0 g1 me_146 (by decide) rfl
theorem b171_14 {h : zi_Hp} {a0 : Nat} {x1 : Int32} {x2 : Int32} {u3 : Value} {u4 : Value} {u5 : Value} {s0 : Int32} (g0 : a0 < zh_n h) (g1 : (zh_k h a0).1 = 8) : zv 4 171 14 [.ref a0, .int x1, .int x2, u3, u4, u5] [.int s0] h = (zv 2 152 0 [.ref a0, .int x2, .int s0, .double 0] [] h).bind fun r => zv 4 171 21 [.ref a0, .int x1, .int x2, .int s0, u4, u5] (r.1.toList ++ []) r.2 := by
  refine Eq.trans (zv_next f171_14 rfl) ?_
  refine Eq.trans (zv_next f171_15 rfl) ?_
  refine Eq.trans (zv_next f171_16 rfl) ?_
  refine Eq.trans (zv_next f171_17 rfl) ?_
  exact zs_callV f171_18 (Nat.le_of_ble_eq_true rfl) (Nat.le_of_ble_eq_true rfl) rfl g0 g1 me_152 (by decide) rfl
theorem b171_21 {h : zi_Hp} {a0 : Nat} {x1 : Int32} {x2 : Int32} {x3 : Int32} {u4 : Value} {u5 : Value} {s0 : Int32} (g0 : a0 < zh_n h) (g1 : (zh_k h a0).1 = 8) : zv 4 171 21 [.ref a0, .int x1, .int x2, .int x3, u4, u5] [.int s0] h = (zv 1 144 0 [.ref a0, .int x2, .int (5 + s0)] [] h).bind fun r => zv 4 171 32 [.ref a0, .int x1, .int x2, .int x3, .int s0, u5] (r.1.toList ++ []) r.2 := by
  refine Eq.trans (zv_next f171_21 rfl) ?_
  refine Eq.trans (zv_next f171_23 rfl) ?_
  refine Eq.trans (zv_next f171_24 rfl) ?_
  refine Eq.trans (zs_ic f171_25 ic_5) ?_
  refine Eq.trans (zv_next f171_26 rfl) ?_
  refine Eq.trans (zv_next f171_28 rfl) ?_
  exact zs_callV f171_29 (Nat.le_of_ble_eq_true rfl) (Nat.le_of_ble_eq_true rfl) rfl g0 g1 me_144 (by decide) rfl
theorem b171_32 {h : zi_Hp} {a0 : Nat} {x1 : Int32} {x2 : Int32} {x3 : Int32} {x4 : Int32} {u5 : Value} {s0 : Int32}  : zv 4 171 32 [.ref a0, .int x1, .int x2, .int x3, .int x4, u5] [.int s0] h = if s0 = x3 then zv 4 171 36 [.ref a0, .int x1, .int x2, .int x3, .int x4, u5] [] h else zv 4 171 43 [.ref a0, .int x1, .int x2, .int x3, .int x4, u5] [] h := by
  refine Eq.trans (zv_next f171_32 rfl) ?_
  exact zs_icmp f171_33 rfl
theorem b171_36 {h : zi_Hp} {a0 : Nat} {x1 : Int32} {x2 : Int32} {x3 : Int32} {x4 : Int32} {u5 : Value} (g0 : a0 < zh_n h) (g1 : (zh_k h a0).1 = 8) : zv 4 171 36 [.ref a0, .int x1, .int x2, .int x3, .int x4, u5] [] h = (zv 2 158 0 [.ref a0, .int x1, .int 3] [] h).bind fun r => zv 4 171 42 [.ref a0, .int x1, .int x2, .int x3, .int x4, u5] (r.1.toList ++ []) r.2 := by
  refine Eq.trans (zv_next f171_36 rfl) ?_
  refine Eq.trans (zv_next f171_37 rfl) ?_
  refine Eq.trans (zs_ic f171_38 ic_3) ?_
  exact zs_callV f171_39 (Nat.le_of_ble_eq_true rfl) (Nat.le_of_ble_eq_true rfl) rfl g0 g1 me_158 (by decide) rfl
theorem b171_42 {h : zi_Hp} {a0 : Nat} {x1 : Int32} {x2 : Int32} {x3 : Int32} {x4 : Int32} {u5 : Value} {s0 : Int32}  : zv 4 171 42 [.ref a0, .int x1, .int x2, .int x3, .int x4, u5] [.int s0] h = some (some (.int s0), h) := by
  exact zs_ret0 f171_42
theorem b171_43 {h : zi_Hp} {a0 : Nat} {x1 : Int32} {x2 : Int32} {x3 : Int32} {x4 : Int32} {u5 : Value} (g0 : a0 < zh_n h) (g1 : (zh_k h a0).1 = 8) : zv 4 171 43 [.ref a0, .int x1, .int x2, .int x3, .int x4, u5] [] h = zv 4 171 51 [.ref a0, .int x1, .int x2, .int x3, .int x4, .int 0] [] (zh_wi h a0 5 0) := by
  refine Eq.trans (zv_next f171_43 rfl) ?_
  refine Eq.trans (zs_ic f171_44 ic_0) ?_
  refine Eq.trans (zs_put f171_45 g0 g1 rfl) ?_
  refine Eq.trans (zs_ic f171_48 ic_0) ?_
  refine Eq.trans (zv_next f171_49 rfl) ?_
  rfl
theorem b171_51 {h : zi_Hp} {a0 : Nat} {x1 : Int32} {x2 : Int32} {x3 : Int32} {x4 : Int32} {x5 : Int32} (g0 : a0 < zh_n h) (g1 : (zh_k h a0).1 = 8) : zv 4 171 51 [.ref a0, .int x1, .int x2, .int x3, .int x4, .int x5] [] h = (zv 1 144 0 [.ref a0, .int x2, .int 1] [] h).bind fun r => zv 4 171 59 [.ref a0, .int x1, .int x2, .int x3, .int x4, .int x5] (r.1.toList ++ [.int x5]) r.2 := by
  refine Eq.trans (zv_next f171_51 rfl) ?_
  refine Eq.trans (zv_next f171_53 rfl) ?_
  refine Eq.trans (zv_next f171_54 rfl) ?_
  refine Eq.trans (zs_ic f171_55 ic_1) ?_
  exact zs_callV f171_56 (Nat.le_of_ble_eq_true rfl) (Nat.le_of_ble_eq_true rfl) rfl g0 g1 me_144 (by decide) rfl
theorem b171_59 {h : zi_Hp} {a0 : Nat} {x1 : Int32} {x2 : Int32} {x3 : Int32} {x4 : Int32} {x5 : Int32} {s0 : Int32} {s1 : Int32}  : zv 4 171 59 [.ref a0, .int x1, .int x2, .int x3, .int x4, .int x5] [.int s1, .int s0] h = if s0 < s1 then zv 4 171 62 [.ref a0, .int x1, .int x2, .int x3, .int x4, .int x5] [] h else zv 4 171 130 [.ref a0, .int x1, .int x2, .int x3, .int x4, .int x5] [] h := by
  exact zs_icmp f171_59 rfl
theorem b171_62 {h : zi_Hp} {a0 : Nat} {x1 : Int32} {x2 : Int32} {x3 : Int32} {x4 : Int32} {x5 : Int32}  : zv 4 171 62 [.ref a0, .int x1, .int x2, .int x3, .int x4, .int x5] [] h = if x5 = x4 then zv 4 171 69 [.ref a0, .int x1, .int x2, .int x3, .int x4, .int x5] [] h else zv 4 171 84 [.ref a0, .int x1, .int x2, .int x3, .int x4, .int x5] [] h := by
  refine Eq.trans (zv_next f171_62 rfl) ?_
  refine Eq.trans (zv_next f171_64 rfl) ?_
  exact zs_icmp f171_66 rfl
theorem b171_69 {h : zi_Hp} {a0 : Nat} {x1 : Int32} {x2 : Int32} {x3 : Int32} {x4 : Int32} {x5 : Int32} (g0 : a0 < zh_n h) (g1 : (zh_k h a0).1 = 8) : zv 4 171 69 [.ref a0, .int x1, .int x2, .int x3, .int x4, .int x5] [] h = (zv 1 144 0 [.ref a0, .int x2, .int (9 + x5)] [] h).bind fun r => zv 4 171 81 [.ref a0, .int x1, .int x2, .int x3, .int x4, .int x5] (r.1.toList ++ [.int x3, .ref a0]) r.2 := by
  refine Eq.trans (zv_next f171_69 rfl) ?_
  refine Eq.trans (zv_next f171_70 rfl) ?_
  refine Eq.trans (zv_next f171_71 rfl) ?_
  refine Eq.trans (zv_next f171_72 rfl) ?_
  refine Eq.trans (zs_bp f171_73 bp_9) ?_
  refine Eq.trans (zv_next f171_75 rfl) ?_
  refine Eq.trans (zv_next f171_77 rfl) ?_
  exact zs_callV f171_78 (Nat.le_of_ble_eq_true rfl) (Nat.le_of_ble_eq_true rfl) rfl g0 g1 me_144 (by decide) rfl
theorem b171_81 {h : zi_Hp} {a0 : Nat} {x1 : Int32} {x2 : Int32} {x3 : Int32} {x4 : Int32} {x5 : Int32} {t0 : Nat} {s1 : Int32} {s2 : Int32} (g0 : t0 < zh_n h) (g1 : (zh_k h t0).1 = 8) : zv 4 171 81 [.ref a0, .int x1, .int x2, .int x3, .int x4, .int x5] [.int s2, .int s1, .ref t0] h = (zv 1 153 0 [.ref t0, .int s1, .int s2] [] h).bind fun r => zv 4 171 84 [.ref a0, .int x1, .int x2, .int x3, .int x4, .int x5] (r.1.toList ++ []) r.2 := by
  exact zs_callV f171_81 (Nat.le_of_ble_eq_true rfl) (Nat.le_of_ble_eq_true rfl) rfl g0 g1 me_153 (by decide) rfl
theorem b171_84 {h : zi_Hp} {a0 : Nat} {x1 : Int32} {x2 : Int32} {x3 : Int32} {x4 : Int32} {x5 : Int32} (g0 : a0 < zh_n h) (g1 : (zh_k h a0).1 = 8) : zv 4 171 84 [.ref a0, .int x1, .int x2, .int x3, .int x4, .int x5] [] h = (zv 1 144 0 [.ref a0, .int x2, .int (5 + x5)] [] h).bind fun r => zv 4 171 94 [.ref a0, .int x1, .int x2, .int x3, .int x4, .int x5] (r.1.toList ++ [.ref a0]) r.2 := by
  refine Eq.trans (zv_next f171_84 rfl) ?_
  refine Eq.trans (zv_next f171_85 rfl) ?_
  refine Eq.trans (zv_next f171_86 rfl) ?_
  refine Eq.trans (zs_ic f171_87 ic_5) ?_
  refine Eq.trans (zv_next f171_88 rfl) ?_
  refine Eq.trans (zv_next f171_90 rfl) ?_
  exact zs_callV f171_91 (Nat.le_of_ble_eq_true rfl) (Nat.le_of_ble_eq_true rfl) rfl g0 g1 me_144 (by decide) rfl
theorem b171_94 {h : zi_Hp} {a0 : Nat} {x1 : Int32} {x2 : Int32} {x3 : Int32} {x4 : Int32} {x5 : Int32} {t0 : Nat} {s1 : Int32}  : zv 4 171 94 [.ref a0, .int x1, .int x2, .int x3, .int x4, .int x5] [.int s1, .ref t0] h = if x5 = x4 then zv 4 171 101 [.ref a0, .int x1, .int x2, .int x3, .int x4, .int x5] [.int s1, .ref t0] h else zv 4 171 111 [.ref a0, .int x1, .int x2, .int x3, .int x4, .int x5] [.int s1, .ref t0] h := by
  refine Eq.trans (zv_next f171_94 rfl) ?_
  refine Eq.trans (zv_next f171_96 rfl) ?_
  exact zs_icmp f171_98 rfl
theorem b171_101 {h : zi_Hp} {a0 : Nat} {x1 : Int32} {x2 : Int32} {x3 : Int32} {x4 : Int32} {x5 : Int32} {t0 : Nat} {s1 : Int32} (g0 : a0 < zh_n h) (g1 : (zh_k h a0).1 = 8) : zv 4 171 101 [.ref a0, .int x1, .int x2, .int x3, .int x4, .int x5] [.int s1, .ref t0] h = (zv 1 146 0 [.ref a0, .int x1, .int 9] [] h).bind fun r => zv 4 171 108 [.ref a0, .int x1, .int x2, .int x3, .int x4, .int x5] (r.1.toList ++ [.int s1, .ref t0]) r.2 := by
  refine Eq.trans (zv_next f171_101 rfl) ?_
  refine Eq.trans (zv_next f171_102 rfl) ?_
  refine Eq.trans (zs_bp f171_103 bp_9) ?_
  exact zs_callV f171_105 (Nat.le_of_ble_eq_true rfl) (Nat.le_of_ble_eq_true rfl) rfl g0 g1 me_146 (by decide) rfl
theorem b171_108 {h : zi_Hp} {a0 : Nat} {x1 : Int32} {x2 : Int32} {x3 : Int32} {x4 : Int32} {x5 : Int32} {t0 : Nat} {s1 : Int32} {s2 : Int32}  : zv 4 171 108 [.ref a0, .int x1, .int x2, .int x3, .int x4, .int x5] [.int s2, .int s1, .ref t0] h = zv 4 171 121 [.ref a0, .int x1, .int x2, .int x3, .int x4, .int x5] [.int s2, .int s1, .ref t0] h := by
  refine Eq.trans (zs_goto (tgt := 121) f171_108 rfl) ?_
  rfl
theorem b171_111 {h : zi_Hp} {a0 : Nat} {x1 : Int32} {x2 : Int32} {x3 : Int32} {x4 : Int32} {x5 : Int32} {t0 : Nat} {s1 : Int32} (g0 : a0 < zh_n h) (g1 : (zh_k h a0).1 = 8) : zv 4 171 111 [.ref a0, .int x1, .int x2, .int x3, .int x4, .int x5] [.int s1, .ref t0] h = (zv 1 144 0 [.ref a0, .int x2, .int (9 + x5)] [] h).bind fun r => zv 4 171 121 [.ref a0, .int x1, .int x2, .int x3, .int x4, .int x5] (r.1.toList ++ [.int s1, .ref t0]) r.2 := by
  refine Eq.trans (zv_next f171_111 rfl) ?_
  refine Eq.trans (zv_next f171_112 rfl) ?_
  refine Eq.trans (zs_bp f171_113 bp_9) ?_
  refine Eq.trans (zv_next f171_115 rfl) ?_
  refine Eq.trans (zv_next f171_117 rfl) ?_
  exact zs_callV f171_118 (Nat.le_of_ble_eq_true rfl) (Nat.le_of_ble_eq_true rfl) rfl g0 g1 me_144 (by decide) rfl
theorem b171_121 {h : zi_Hp} {a0 : Nat} {x1 : Int32} {x2 : Int32} {x3 : Int32} {x4 : Int32} {x5 : Int32} {t0 : Nat} {s1 : Int32} {s2 : Int32} (g0 : t0 < zh_n h) (g1 : (zh_k h t0).1 = 8) : zv 4 171 121 [.ref a0, .int x1, .int x2, .int x3, .int x4, .int x5] [.int s2, .int s1, .ref t0] h = (zv 1 153 0 [.ref t0, .int s1, .int s2] [] h).bind fun r => zv 4 171 124 [.ref a0, .int x1, .int x2, .int x3, .int x4, .int x5] (r.1.toList ++ []) r.2 := by
  exact zs_callV f171_121 (Nat.le_of_ble_eq_true rfl) (Nat.le_of_ble_eq_true rfl) rfl g0 g1 me_153 (by decide) rfl
theorem b171_124 {h : zi_Hp} {a0 : Nat} {x1 : Int32} {x2 : Int32} {x3 : Int32} {x4 : Int32} {x5 : Int32}  : zv 4 171 124 [.ref a0, .int x1, .int x2, .int x3, .int x4, .int x5] [] h = zv 4 171 51 [.ref a0, .int x1, .int x2, .int x3, .int x4, .int (x5 + 1)] [] h := by
  refine Eq.trans (zs_inc f171_124 rfl ic_1 rfl) ?_
  refine Eq.trans (zs_goto (tgt := 51) f171_127 rfl) ?_
  rfl
theorem b171_130 {h : zi_Hp} {a0 : Nat} {x1 : Int32} {x2 : Int32} {x3 : Int32} {x4 : Int32} {x5 : Int32} (g0 : a0 < zh_n h) (g1 : (zh_k h a0).1 = 8) (g2 : zh_r h a0 0 = .ref (zq (zh_r h a0 0))) (g3 : (zq (zh_r h a0 0)) < zh_n h) (g4 : 314 < (zh_k h (zq (zh_r h a0 0))).2) (g5 : (zh_k h (zq (zh_r h a0 0))).1 = 100) : zv 4 171 130 [.ref a0, .int x1, .int x2, .int x3, .int x4, .int x5] [] h = if (zh_i h (zq (zh_r h a0 0)) 314) < (zh_i h a0 5) then zv 4 171 163 [.ref a0, .int x1, .int x2, .int x3, .int x4, .int x5] [] h else zv 4 171 145 [.ref a0, .int x1, .int x2, .int x3, .int x4, .int x5] [] h := by
  refine Eq.trans (zv_next f171_130 rfl) ?_
  refine Eq.trans (zs_geti f171_131 g0 g1) ?_
  refine Eq.trans (zv_next f171_134 rfl) ?_
  refine Eq.trans (zs_getr f171_135 g0 g1 g2) ?_
  refine Eq.trans (zs_sp f171_138 sp_314) ?_
  refine Eq.trans (zs_iald f171_141 g3 g5 (zj_lit (by decide) g4)) ?_
  exact zs_icmp f171_142 rfl
theorem b171_145 {h : zi_Hp} {a0 : Nat} {x1 : Int32} {x2 : Int32} {x3 : Int32} {x4 : Int32} {x5 : Int32} (g0 : a0 < zh_n h) (g1 : (zh_k h a0).1 = 8) : zv 4 171 145 [.ref a0, .int x1, .int x2, .int x3, .int x4, .int x5] [] h = (zv 2 154 0 [.ref a0, .int x2, .int 0, .int (zh_i h a0 5), .double 0] [] h).bind fun r => zv 4 171 155 [.ref a0, .int x1, .int x2, .int x3, .int x4, .int x5] (r.1.toList ++ []) r.2 := by
  refine Eq.trans (zv_next f171_145 rfl) ?_
  refine Eq.trans (zv_next f171_146 rfl) ?_
  refine Eq.trans (zs_ic f171_147 ic_0) ?_
  refine Eq.trans (zv_next f171_148 rfl) ?_
  refine Eq.trans (zs_geti f171_149 g0 g1) ?_
  exact zs_callV f171_152 (Nat.le_of_ble_eq_true rfl) (Nat.le_of_ble_eq_true rfl) rfl g0 g1 me_154 (by decide) rfl
theorem b171_155 {h : zi_Hp} {a0 : Nat} {x1 : Int32} {x2 : Int32} {x3 : Int32} {x4 : Int32} {x5 : Int32} (g0 : a0 < zh_n h) (g1 : (zh_k h a0).1 = 8) : zv 4 171 155 [.ref a0, .int x1, .int x2, .int x3, .int x4, .int x5] [] h = (zv 2 158 0 [.ref a0, .int x1, .int 8] [] h).bind fun r => zv 4 171 162 [.ref a0, .int x1, .int x2, .int x3, .int x4, .int x5] (r.1.toList ++ []) r.2 := by
  refine Eq.trans (zv_next f171_155 rfl) ?_
  refine Eq.trans (zv_next f171_156 rfl) ?_
  refine Eq.trans (zs_bp f171_157 bp_8) ?_
  exact zs_callV f171_159 (Nat.le_of_ble_eq_true rfl) (Nat.le_of_ble_eq_true rfl) rfl g0 g1 me_158 (by decide) rfl
theorem b171_162 {h : zi_Hp} {a0 : Nat} {x1 : Int32} {x2 : Int32} {x3 : Int32} {x4 : Int32} {x5 : Int32} {s0 : Int32}  : zv 4 171 162 [.ref a0, .int x1, .int x2, .int x3, .int x4, .int x5] [.int s0] h = some (some (.int s0), h) := by
  exact zs_ret0 f171_162
theorem b171_163 {h : zi_Hp} {a0 : Nat} {x1 : Int32} {x2 : Int32} {x3 : Int32} {x4 : Int32} {x5 : Int32} (g0 : a0 < zh_n h) (g1 : (zh_k h a0).1 = 8) (g2 : zh_r h a0 0 = .ref (zq (zh_r h a0 0))) (g3 : (zq (zh_r h a0 0)) < zh_n h) (g4 : 312 < (zh_k h (zq (zh_r h a0 0))).2) (g5 : (zh_k h (zq (zh_r h a0 0))).1 = 100) : zv 4 171 163 [.ref a0, .int x1, .int x2, .int x3, .int x4, .int x5] [] h = if (zh_i h (zq (zh_r h a0 0)) 312) = 24 then zv 4 171 176 [.ref a0, .int x1, .int x2, .int x3, .int x4, .int x5] [] h else zv 4 171 183 [.ref a0, .int x1, .int x2, .int x3, .int x4, .int x5] [] h := by
  refine Eq.trans (zv_next f171_163 rfl) ?_
  refine Eq.trans (zs_getr f171_164 g0 g1 g2) ?_
  refine Eq.trans (zs_sp f171_167 sp_312) ?_
  refine Eq.trans (zs_iald f171_170 g3 g5 (zj_lit (by decide) g4)) ?_
  refine Eq.trans (zs_bp f171_171 bp_24) ?_
  exact zs_icmp f171_173 rfl
theorem b171_176 {h : zi_Hp} {a0 : Nat} {x1 : Int32} {x2 : Int32} {x3 : Int32} {x4 : Int32} {x5 : Int32} (g0 : a0 < zh_n h) (g1 : (zh_k h a0).1 = 8) : zv 4 171 176 [.ref a0, .int x1, .int x2, .int x3, .int x4, .int x5] [] h = (zv 2 158 0 [.ref a0, .int x1, .int 3] [] h).bind fun r => zv 4 171 182 [.ref a0, .int x1, .int x2, .int x3, .int x4, .int x5] (r.1.toList ++ []) r.2 := by
  refine Eq.trans (zv_next f171_176 rfl) ?_
  refine Eq.trans (zv_next f171_177 rfl) ?_
  refine Eq.trans (zs_ic f171_178 ic_3) ?_
  exact zs_callV f171_179 (Nat.le_of_ble_eq_true rfl) (Nat.le_of_ble_eq_true rfl) rfl g0 g1 me_158 (by decide) rfl
theorem b171_182 {h : zi_Hp} {a0 : Nat} {x1 : Int32} {x2 : Int32} {x3 : Int32} {x4 : Int32} {x5 : Int32} {s0 : Int32}  : zv 4 171 182 [.ref a0, .int x1, .int x2, .int x3, .int x4, .int x5] [.int s0] h = some (some (.int s0), h) := by
  exact zs_ret0 f171_182
theorem b171_183 {h : zi_Hp} {a0 : Nat} {x1 : Int32} {x2 : Int32} {x3 : Int32} {x4 : Int32} {x5 : Int32} (g0 : a0 < zh_n h) (g1 : (zh_k h a0).1 = 8) : zv 4 171 183 [.ref a0, .int x1, .int x2, .int x3, .int x4, .int x5] [] h = (zv 3 157 0 [.ref a0, .int x1, .double 0, .double 0, .double 0] [] h).bind fun r => zv 4 171 188 [.ref a0, .int x1, .int x2, .int x3, .int x4, .int x5] (r.1.toList ++ []) r.2 := by
  refine Eq.trans (zv_next f171_183 rfl) ?_
  refine Eq.trans (zv_next f171_184 rfl) ?_
  exact zs_callV f171_185 (Nat.le_of_ble_eq_true rfl) (Nat.le_of_ble_eq_true rfl) rfl g0 g1 me_157 (by decide) rfl
theorem b171_188 {h : zi_Hp} {a0 : Nat} {x1 : Int32} {x2 : Int32} {x3 : Int32} {x4 : Int32} {x5 : Int32}  : zv 4 171 188 [.ref a0, .int x1, .int x2, .int x3, .int x4, .int x5] [] h = some (some (.int 5), h) := by
  refine Eq.trans (zs_ic f171_188 ic_5) ?_
  exact zs_ret0 f171_189
set_option maxRecDepth 20000 in
theorem zq172 : zi_M[172]? = some zi_m172 := rfl
theorem zl172_0 {pc : Nat} (_ : 0 ≤ pc) : zi_fe 172 pc = zu172_0.lookup pc := zi_feA zq172 pc
theorem f172_0 : zi_fe 172 0 = some ((.aload_n 0), 1, 0, 0, 0, 0, 0) := (zl172_0 (Nat.le_of_ble_eq_true rfl)).trans rfl
theorem f172_1 : zi_fe 172 1 = some ((.iload_n 1), 1, 0, 0, 0, 0, 0) := (zl172_0 (Nat.le_of_ble_eq_true rfl)).trans rfl
theorem f172_2 : zi_fe 172 2 = some ((.iconst 0), 1, 0, 0, 0, 0, 0) := (zl172_0 (Nat.le_of_ble_eq_true rfl)).trans rfl
theorem f172_3 : zi_fe 172 3 = some ((.invokevirtual 83), 3, 146, 0, 8, 1276, 3) := (zl172_0 (Nat.le_of_ble_eq_true rfl)).trans rfl
theorem f172_6 : zi_fe 172 6 = some ((.tableswitch 91 1 4 #[30, 36, 60, 66]), 30, 0, 0, 0, 0, 0) := (zl172_0 (Nat.le_of_ble_eq_true rfl)).trans rfl
theorem f172_36 : zi_fe 172 36 = some ((.aload_n 0), 1, 0, 0, 0, 0, 0) := (zl172_0 (Nat.le_of_ble_eq_true rfl)).trans rfl
theorem f172_37 : zi_fe 172 37 = some ((.iload_n 1), 1, 0, 0, 0, 0, 0) := (zl172_0 (Nat.le_of_ble_eq_true rfl)).trans rfl
theorem f172_38 : zi_fe 172 38 = some ((.invokevirtual 154), 3, 163, 0, 8, 1299, 2) := (zl172_0 (Nat.le_of_ble_eq_true rfl)).trans rfl
theorem f172_41 : zi_fe 172 41 = some (.ireturn, 1, 0, 0, 0, 0, 0) := (zl172_0 (Nat.le_of_ble_eq_true rfl)).trans rfl
theorem f172_42 : zi_fe 172 42 = some ((.aload_n 0), 1, 0, 0, 0, 0, 0) := (zl172_0 (Nat.le_of_ble_eq_true rfl)).trans rfl
theorem f172_43 : zi_fe 172 43 = some ((.iload_n 1), 1, 0, 0, 0, 0, 0) := (zl172_0 (Nat.le_of_ble_eq_true rfl)).trans rfl
theorem f172_44 : zi_fe 172 44 = some ((.iconst 1), 1, 0, 0, 0, 0, 0) := (zl172_0 (Nat.le_of_ble_eq_true rfl)).trans rfl
theorem zl172_1 {pc : Nat} (h : 45 ≤ pc) : zi_fe 172 pc = zu172_1.lookup pc := (zl172_0 (Nat.le_trans (Nat.le_of_ble_eq_true rfl) h)).trans (zi_lkA (a := zi_i172_0) (c := 45) rfl h)
theorem f172_45 : zi_fe 172 45 = some ((.invokevirtual 83), 3, 146, 0, 8, 1276, 3) := (zl172_1 (Nat.le_of_ble_eq_true rfl)).trans rfl
theorem f172_48 : zi_fe 172 48 = some ((.iconst 1), 1, 0, 0, 0, 0, 0) := (zl172_1 (Nat.le_of_ble_eq_true rfl)).trans rfl
theorem f172_49 : zi_fe 172 49 = some ((.if_icmp .ne 11), 3, 0, 0, 0, 0, 0) := (zl172_1 (Nat.le_of_ble_eq_true rfl)).trans rfl
theorem f172_52 : zi_fe 172 52 = some ((.aload_n 0), 1, 0, 0, 0, 0, 0) := (zl172_1 (Nat.le_of_ble_eq_true rfl)).trans rfl
theorem f172_53 : zi_fe 172 53 = some ((.iload_n 1), 1, 0, 0, 0, 0, 0) := (zl172_1 (Nat.le_of_ble_eq_true rfl)).trans rfl
theorem f172_54 : zi_fe 172 54 = some ((.invokevirtual 157), 3, 165, 0, 8, 1327, 2) := (zl172_1 (Nat.le_of_ble_eq_true rfl)).trans rfl
theorem f172_57 : zi_fe 172 57 = some ((.goto 8), 3, 0, 0, 0, 0, 0) := (zl172_1 (Nat.le_of_ble_eq_true rfl)).trans rfl
theorem f172_60 : zi_fe 172 60 = some ((.aload_n 0), 1, 0, 0, 0, 0, 0) := (zl172_1 (Nat.le_of_ble_eq_true rfl)).trans rfl
theorem f172_61 : zi_fe 172 61 = some ((.iload_n 1), 1, 0, 0, 0, 0, 0) := (zl172_1 (Nat.le_of_ble_eq_true rfl)).trans rfl
theorem f172_62 : zi_fe 172 62 = some ((.invokevirtual 160), 3, 166, 0, 8, 1355, 2) := (zl172_1 (Nat.le_of_ble_eq_true rfl)).trans rfl
theorem f172_65 : zi_fe 172 65 = some (.ireturn, 1, 0, 0, 0, 0, 0) := (zl172_1 (Nat.le_of_ble_eq_true rfl)).trans rfl
theorem f172_66 : zi_fe 172 66 = some ((.aload_n 0), 1, 0, 0, 0, 0, 0) := (zl172_1 (Nat.le_of_ble_eq_true rfl)).trans rfl
theorem zl172_2 {pc : Nat} (h : 67 ≤ pc) : zi_fe 172 pc = zu172_2.lookup pc := (zl172_1 (Nat.le_trans (Nat.le_of_ble_eq_true rfl) h)).trans (zi_lkA (a := zi_i172_1) (c := 67) rfl h)
theorem f172_67 : zi_fe 172 67 = some ((.iload_n 1), 1, 0, 0, 0, 0, 0) := (zl172_2 (Nat.le_of_ble_eq_true rfl)).trans rfl
theorem f172_68 : zi_fe 172 68 = some ((.invokevirtual 163), 3, 168, 0, 8, 1359, 2) := (zl172_2 (Nat.le_of_ble_eq_true rfl)).trans rfl
theorem f172_71 : zi_fe 172 71 = some (.ireturn, 1, 0, 0, 0, 0, 0) := (zl172_2 (Nat.le_of_ble_eq_true rfl)).trans rfl
theorem f172_72 : zi_fe 172 72 = some ((.aload_n 0), 1, 0, 0, 0, 0, 0) := (zl172_2 (Nat.le_of_ble_eq_true rfl)).trans rfl
theorem f172_73 : zi_fe 172 73 = some ((.iload_n 1), 1, 0, 0, 0, 0, 0) := (zl172_2 (Nat.le_of_ble_eq_true rfl)).trans rfl
theorem f172_74 : zi_fe 172 74 = some ((.bipush 11), 2, 0, 0, 0, 0, 0) := (zl172_2 (Nat.le_of_ble_eq_true rfl)).trans rfl
theorem f172_76 : zi_fe 172 76 = some ((.invokevirtual 83), 3, 146, 0, 8, 1276, 3) := (zl172_2 (Nat.le_of_ble_eq_true rfl)).trans rfl
theorem f172_79 : zi_fe 172 79 = some ((.iconst 1), 1, 0, 0, 0, 0, 0) := (zl172_2 (Nat.le_of_ble_eq_true rfl)).trans rfl
theorem f172_80 : zi_fe 172 80 = some ((.if_icmp .ne 11), 3, 0, 0, 0, 0, 0) := (zl172_2 (Nat.le_of_ble_eq_true rfl)).trans rfl
theorem f172_83 : zi_fe 172 83 = some ((.aload_n 0), 1, 0, 0, 0, 0, 0) := (zl172_2 (Nat.le_of_ble_eq_true rfl)).trans rfl
theorem f172_84 : zi_fe 172 84 = some ((.iload_n 1), 1, 0, 0, 0, 0, 0) := (zl172_2 (Nat.le_of_ble_eq_true rfl)).trans rfl
theorem f172_85 : zi_fe 172 85 = some ((.invokevirtual 166), 3, 170, 0, 8, 1367, 2) := (zl172_2 (Nat.le_of_ble_eq_true rfl)).trans rfl
theorem zl172_3 {pc : Nat} (h : 88 ≤ pc) : zi_fe 172 pc = zu172_3.lookup pc := (zl172_2 (Nat.le_trans (Nat.le_of_ble_eq_true rfl) h)).trans (zi_lkA (a := zi_i172_2) (c := 88) rfl h)
theorem f172_88 : zi_fe 172 88 = some ((.goto 8), 3, 0, 0, 0, 0, 0) := (zl172_3 (Nat.le_of_ble_eq_true rfl)).trans rfl
theorem f172_91 : zi_fe 172 91 = some ((.aload_n 0), 1, 0, 0, 0, 0, 0) := (zl172_3 (Nat.le_of_ble_eq_true rfl)).trans rfl
theorem f172_92 : zi_fe 172 92 = some ((.iload_n 1), 1, 0, 0, 0, 0, 0) := (zl172_3 (Nat.le_of_ble_eq_true rfl)).trans rfl
theorem f172_93 : zi_fe 172 93 = some ((.invokevirtual 169), 3, 171, 0, 8, 1375, 2) := (zl172_3 (Nat.le_of_ble_eq_true rfl)).trans rfl
theorem f172_96 : zi_fe 172 96 = some (.ireturn, 1, 0, 0, 0, 0, 0) := (zl172_3 (Nat.le_of_ble_eq_true rfl)).trans rfl
theorem f172_97 : zi_fe 172 97 = some ((.iconst 0), 1, 0, 0, 0, 0, 0) := (zl172_3 (Nat.le_of_ble_eq_true rfl)).trans rfl
theorem f172_98 : zi_fe 172 98 = some (.ireturn, 1, 0, 0, 0, 0, 0) := (zl172_3 (Nat.le_of_ble_eq_true rfl)).trans rfl
theorem b172_0 {h : zi_Hp} {a0 : Nat} {x1 : Int32} (g0 : a0 < zh_n h) (g1 : (zh_k h a0).1 = 8) : zv 5 172 0 [.ref a0, .int x1] [] h = (zv 1 146 0 [.ref a0, .int x1, .int 0] [] h).bind fun r => zv 5 172 6 [.ref a0, .int x1] (r.1.toList ++ []) r.2 := by
  refine Eq.trans (zv_next f172_0 rfl) ?_
  refine Eq.trans (zv_next f172_1 rfl) ?_
  refine Eq.trans (zs_ic f172_2 ic_0) ?_
  exact zs_callV f172_3 (Nat.le_of_ble_eq_true rfl) (Nat.le_of_ble_eq_true rfl) rfl g0 g1 me_146 (by decide) rfl
theorem b172_6_c1 {h : zi_Hp} {a0 : Nat} {x1 : Int32} {s0 : Int32}  (hx : s0 = 1) : zv 5 172 6 [.ref a0, .int x1] [.int s0] h = zv 5 172 36 [.ref a0, .int x1] [] h := by
  exact zs_sw (off := 30) (v := 1) f172_6 (by decide) (by decide) rfl hx
theorem b172_6_c2 {h : zi_Hp} {a0 : Nat} {x1 : Int32} {s0 : Int32}  (hx : s0 = 2) : zv 5 172 6 [.ref a0, .int x1] [.int s0] h = zv 5 172 42 [.ref a0, .int x1] [] h := by
  exact zs_sw (off := 36) (v := 2) f172_6 (by decide) (by decide) rfl hx
theorem b172_6_c3 {h : zi_Hp} {a0 : Nat} {x1 : Int32} {s0 : Int32}  (hx : s0 = 3) : zv 5 172 6 [.ref a0, .int x1] [.int s0] h = zv 5 172 66 [.ref a0, .int x1] [] h := by
  exact zs_sw (off := 60) (v := 3) f172_6 (by decide) (by decide) rfl hx
theorem b172_6_c4 {h : zi_Hp} {a0 : Nat} {x1 : Int32} {s0 : Int32}  (hx : s0 = 4) : zv 5 172 6 [.ref a0, .int x1] [.int s0] h = zv 5 172 72 [.ref a0, .int x1] [] h := by
  exact zs_sw (off := 66) (v := 4) f172_6 (by decide) (by decide) rfl hx
theorem b172_6_d {h : zi_Hp} {a0 : Nat} {x1 : Int32} {s0 : Int32}  (hx : (s0).toInt < 1 ∨ 4 < (s0).toInt) : zv 5 172 6 [.ref a0, .int x1] [.int s0] h = zv 5 172 97 [.ref a0, .int x1] [] h := by
  exact zs_swO f172_6 rfl hx
theorem b172_36 {h : zi_Hp} {a0 : Nat} {x1 : Int32} (g0 : a0 < zh_n h) (g1 : (zh_k h a0).1 = 8) : zv 5 172 36 [.ref a0, .int x1] [] h = (zv 4 163 0 [.ref a0, .int x1, .double 0, .double 0] [] h).bind fun r => zv 5 172 41 [.ref a0, .int x1] (r.1.toList ++ []) r.2 := by
  refine Eq.trans (zv_next f172_36 rfl) ?_
  refine Eq.trans (zv_next f172_37 rfl) ?_
  exact zs_callV f172_38 (Nat.le_of_ble_eq_true rfl) (Nat.le_of_ble_eq_true rfl) rfl g0 g1 me_163 (by decide) rfl
theorem b172_41 {h : zi_Hp} {a0 : Nat} {x1 : Int32} {s0 : Int32}  : zv 5 172 41 [.ref a0, .int x1] [.int s0] h = some (some (.int s0), h) := by
  exact zs_ret0 f172_41
theorem b172_42 {h : zi_Hp} {a0 : Nat} {x1 : Int32} (g0 : a0 < zh_n h) (g1 : (zh_k h a0).1 = 8) : zv 5 172 42 [.ref a0, .int x1] [] h = (zv 1 146 0 [.ref a0, .int x1, .int 1] [] h).bind fun r => zv 5 172 48 [.ref a0, .int x1] (r.1.toList ++ []) r.2 := by
  refine Eq.trans (zv_next f172_42 rfl) ?_
  refine Eq.trans (zv_next f172_43 rfl) ?_
  refine Eq.trans (zs_ic f172_44 ic_1) ?_
  exact zs_callV f172_45 (Nat.le_of_ble_eq_true rfl) (Nat.le_of_ble_eq_true rfl) rfl g0 g1 me_146 (by decide) rfl
theorem b172_48 {h : zi_Hp} {a0 : Nat} {x1 : Int32} {s0 : Int32}  : zv 5 172 48 [.ref a0, .int x1] [.int s0] h = if s0 = 1 then zv 5 172 52 [.ref a0, .int x1] [] h else zv 5 172 60 [.ref a0, .int x1] [] h := by
  refine Eq.trans (zs_ic f172_48 ic_1) ?_
  exact zs_icmp f172_49 rfl
theorem b172_52 {h : zi_Hp} {a0 : Nat} {x1 : Int32} (g0 : a0 < zh_n h) (g1 : (zh_k h a0).1 = 8) : zv 5 172 52 [.ref a0, .int x1] [] h = (zv 4 165 0 [.ref a0, .int x1, .double 0, .double 0] [] h).bind fun r => zv 5 172 57 [.ref a0, .int x1] (r.1.toList ++ []) r.2 := by
  refine Eq.trans (zv_next f172_52 rfl) ?_
  refine Eq.trans (zv_next f172_53 rfl) ?_
  exact zs_callV f172_54 (Nat.le_of_ble_eq_true rfl) (Nat.le_of_ble_eq_true rfl) rfl g0 g1 me_165 (by decide) rfl
theorem b172_57 {h : zi_Hp} {a0 : Nat} {x1 : Int32} {s0 : Int32}  : zv 5 172 57 [.ref a0, .int x1] [.int s0] h = zv 5 172 65 [.ref a0, .int x1] [.int s0] h := by
  refine Eq.trans (zs_goto (tgt := 65) f172_57 rfl) ?_
  rfl
theorem b172_60 {h : zi_Hp} {a0 : Nat} {x1 : Int32} (g0 : a0 < zh_n h) (g1 : (zh_k h a0).1 = 8) : zv 5 172 60 [.ref a0, .int x1] [] h = (zv 4 166 0 [.ref a0, .int x1, .double 0, .double 0, .double 0] [] h).bind fun r => zv 5 172 65 [.ref a0, .int x1] (r.1.toList ++ []) r.2 := by
  refine Eq.trans (zv_next f172_60 rfl) ?_
  refine Eq.trans (zv_next f172_61 rfl) ?_
  exact zs_callV f172_62 (Nat.le_of_ble_eq_true rfl) (Nat.le_of_ble_eq_true rfl) rfl g0 g1 me_166 (by decide) rfl
theorem b172_65 {h : zi_Hp} {a0 : Nat} {x1 : Int32} {s0 : Int32}  : zv 5 172 65 [.ref a0, .int x1] [.int s0] h = some (some (.int s0), h) := by
  exact zs_ret0 f172_65
theorem b172_66 {h : zi_Hp} {a0 : Nat} {x1 : Int32} (g0 : a0 < zh_n h) (g1 : (zh_k h a0).1 = 8) : zv 5 172 66 [.ref a0, .int x1] [] h = (zv 4 168 0 [.ref a0, .int x1, .double 0, .double 0] [] h).bind fun r => zv 5 172 71 [.ref a0, .int x1] (r.1.toList ++ []) r.2 := by
  refine Eq.trans (zv_next f172_66 rfl) ?_
  refine Eq.trans (zv_next f172_67 rfl) ?_
  exact zs_callV f172_68 (Nat.le_of_ble_eq_true rfl) (Nat.le_of_ble_eq_true rfl) rfl g0 g1 me_168 (by decide) rfl
theorem b172_71 {h : zi_Hp} {a0 : Nat} {x1 : Int32} {s0 : Int32}  : zv 5 172 71 [.ref a0, .int x1] [.int s0] h = some (some (.int s0), h) := by
  exact zs_ret0 f172_71
theorem b172_72 {h : zi_Hp} {a0 : Nat} {x1 : Int32} (g0 : a0 < zh_n h) (g1 : (zh_k h a0).1 = 8) : zv 5 172 72 [.ref a0, .int x1] [] h = (zv 1 146 0 [.ref a0, .int x1, .int 11] [] h).bind fun r => zv 5 172 79 [.ref a0, .int x1] (r.1.toList ++ []) r.2 := by
  refine Eq.trans (zv_next f172_72 rfl) ?_
  refine Eq.trans (zv_next f172_73 rfl) ?_
  refine Eq.trans (zs_bp f172_74 bp_11) ?_
  exact zs_callV f172_76 (Nat.le_of_ble_eq_true rfl) (Nat.le_of_ble_eq_true rfl) rfl g0 g1 me_146 (by decide) rfl
theorem b172_79 {h : zi_Hp} {a0 : Nat} {x1 : Int32} {s0 : Int32}  : zv 5 172 79 [.ref a0, .int x1] [.int s0] h = if s0 = 1 then zv 5 172 83 [.ref a0, .int x1] [] h else zv 5 172 91 [.ref a0, .int x1] [] h := by
  refine Eq.trans (zs_ic f172_79 ic_1) ?_
  exact zs_icmp f172_80 rfl
theorem b172_83 {h : zi_Hp} {a0 : Nat} {x1 : Int32} (g0 : a0 < zh_n h) (g1 : (zh_k h a0).1 = 8) : zv 5 172 83 [.ref a0, .int x1] [] h = (zv 3 170 0 [.ref a0, .int x1, .double 0, .double 0] [] h).bind fun r => zv 5 172 88 [.ref a0, .int x1] (r.1.toList ++ []) r.2 := by
  refine Eq.trans (zv_next f172_83 rfl) ?_
  refine Eq.trans (zv_next f172_84 rfl) ?_
  exact zs_callV f172_85 (Nat.le_of_ble_eq_true rfl) (Nat.le_of_ble_eq_true rfl) rfl g0 g1 me_170 (by decide) rfl
theorem b172_88 {h : zi_Hp} {a0 : Nat} {x1 : Int32} {s0 : Int32}  : zv 5 172 88 [.ref a0, .int x1] [.int s0] h = zv 5 172 96 [.ref a0, .int x1] [.int s0] h := by
  refine Eq.trans (zs_goto (tgt := 96) f172_88 rfl) ?_
  rfl
theorem b172_91 {h : zi_Hp} {a0 : Nat} {x1 : Int32} (g0 : a0 < zh_n h) (g1 : (zh_k h a0).1 = 8) : zv 5 172 91 [.ref a0, .int x1] [] h = (zv 4 171 0 [.ref a0, .int x1, .double 0, .double 0, .double 0, .double 0] [] h).bind fun r => zv 5 172 96 [.ref a0, .int x1] (r.1.toList ++ []) r.2 := by
  refine Eq.trans (zv_next f172_91 rfl) ?_
  refine Eq.trans (zv_next f172_92 rfl) ?_
  exact zs_callV f172_93 (Nat.le_of_ble_eq_true rfl) (Nat.le_of_ble_eq_true rfl) rfl g0 g1 me_171 (by decide) rfl
theorem b172_96 {h : zi_Hp} {a0 : Nat} {x1 : Int32} {s0 : Int32}  : zv 5 172 96 [.ref a0, .int x1] [.int s0] h = some (some (.int s0), h) := by
  exact zs_ret0 f172_96
theorem b172_97 {h : zi_Hp} {a0 : Nat} {x1 : Int32}  : zv 5 172 97 [.ref a0, .int x1] [] h = some (some (.int 0), h) := by
  refine Eq.trans (zs_ic f172_97 ic_0) ?_
  exact zs_ret0 f172_98
set_option maxRecDepth 20000 in
theorem zq173 : zi_M[173]? = some zi_m173 := rfl
theorem zl173_0 {pc : Nat} (_ : 0 ≤ pc) : zi_fe 173 pc = zu173_0.lookup pc := zi_feA zq173 pc
theorem f173_0 : zi_fe 173 0 = some ((.iload_n 0), 1, 0, 0, 0, 0, 0) := (zl173_0 (Nat.le_of_ble_eq_true rfl)).trans rfl
theorem f173_1 : zi_fe 173 1 = some ((.iconst 1), 1, 0, 0, 0, 0, 0) := (zl173_0 (Nat.le_of_ble_eq_true rfl)).trans rfl
theorem f173_2 : zi_fe 173 2 = some ((.if_icmp .lt 12), 3, 0, 0, 0, 0, 0) := (zl173_0 (Nat.le_of_ble_eq_true rfl)).trans rfl
theorem f173_5 : zi_fe 173 5 = some ((.iload_n 0), 1, 0, 0, 0, 0, 0) := (zl173_0 (Nat.le_of_ble_eq_true rfl)).trans rfl
theorem f173_6 : zi_fe 173 6 = some ((.iconst 4), 1, 0, 0, 0, 0, 0) := (zl173_0 (Nat.le_of_ble_eq_true rfl)).trans rfl
theorem f173_7 : zi_fe 173 7 = some ((.if_icmp .gt 7), 3, 0, 0, 0, 0, 0) := (zl173_0 (Nat.le_of_ble_eq_true rfl)).trans rfl
theorem f173_10 : zi_fe 173 10 = some ((.iconst 1), 1, 0, 0, 0, 0, 0) := (zl173_0 (Nat.le_of_ble_eq_true rfl)).trans rfl
theorem f173_11 : zi_fe 173 11 = some ((.goto 4), 3, 0, 0, 0, 0, 0) := (zl173_0 (Nat.le_of_ble_eq_true rfl)).trans rfl
theorem f173_14 : zi_fe 173 14 = some ((.iconst 0), 1, 0, 0, 0, 0, 0) := (zl173_0 (Nat.le_of_ble_eq_true rfl)).trans rfl
theorem f173_15 : zi_fe 173 15 = some (.ireturn, 1, 1, 0, 0, 0, 0) := (zl173_0 (Nat.le_of_ble_eq_true rfl)).trans rfl
theorem b173_0 {h : zi_Hp} {x0 : Int32}  : zv 1 173 0 [.int x0] [] h = if x0 < 1 then zv 1 173 14 [.int x0] [] h else zv 1 173 5 [.int x0] [] h := by
  refine Eq.trans (zv_next f173_0 rfl) ?_
  refine Eq.trans (zs_ic f173_1 ic_1) ?_
  exact zs_icmp f173_2 rfl
theorem b173_5 {h : zi_Hp} {x0 : Int32}  : zv 1 173 5 [.int x0] [] h = if 4 < x0 then zv 1 173 14 [.int x0] [] h else zv 1 173 10 [.int x0] [] h := by
  refine Eq.trans (zv_next f173_5 rfl) ?_
  refine Eq.trans (zs_ic f173_6 ic_4) ?_
  exact zs_icmp f173_7 rfl
theorem b173_10 {h : zi_Hp} {x0 : Int32}  : zv 1 173 10 [.int x0] [] h = zv 1 173 15 [.int x0] [.int 1] h := by
  refine Eq.trans (zs_ic f173_10 ic_1) ?_
  refine Eq.trans (zs_goto (tgt := 15) f173_11 rfl) ?_
  rfl
theorem b173_14 {h : zi_Hp} {x0 : Int32}  : zv 1 173 14 [.int x0] [] h = zv 1 173 15 [.int x0] [.int 0] h := by
  refine Eq.trans (zs_ic f173_14 ic_0) ?_
  rfl
theorem b173_15 {h : zi_Hp} {x0 : Int32} {s0 : Int32} (g0 : s0 = 0 ∨ s0 = 1) : zv 1 173 15 [.int x0] [.int s0] h = some (some (.int s0), h) := by
  exact zs_ret1 f173_15 g0
set_option maxRecDepth 20000 in
theorem zq174 : zi_M[174]? = some zi_m174 := rfl
theorem zl174_0 {pc : Nat} (_ : 0 ≤ pc) : zi_fe 174 pc = zu174_0.lookup pc := zi_feA zq174 pc
theorem f174_0 : zi_fe 174 0 = some ((.iconst 0), 1, 0, 0, 0, 0, 0) := (zl174_0 (Nat.le_of_ble_eq_true rfl)).trans rfl
theorem f174_1 : zi_fe 174 1 = some ((.istore_n 2), 1, 0, 0, 0, 0, 0) := (zl174_0 (Nat.le_of_ble_eq_true rfl)).trans rfl
theorem f174_2 : zi_fe 174 2 = some ((.iload_n 2), 1, 0, 0, 0, 0, 0) := (zl174_0 (Nat.le_of_ble_eq_true rfl)).trans rfl
theorem f174_3 : zi_fe 174 3 = some ((.iconst 3), 1, 0, 0, 0, 0, 0) := (zl174_0 (Nat.le_of_ble_eq_true rfl)).trans rfl
theorem f174_4 : zi_fe 174 4 = some ((.if_icmp .ge 24), 3, 0, 0, 0, 0, 0) := (zl174_0 (Nat.le_of_ble_eq_true rfl)).trans rfl
theorem f174_7 : zi_fe 174 7 = some ((.aload_n 0), 1, 0, 0, 0, 0, 0) := (zl174_0 (Nat.le_of_ble_eq_true rfl)).trans rfl
theorem f174_8 : zi_fe 174 8 = some ((.getfield 26), 3, 8, 6, 3, 1071, 0) := (zl174_0 (Nat.le_of_ble_eq_true rfl)).trans rfl
theorem f174_11 : zi_fe 174 11 = some ((.iload_n 2), 1, 0, 0, 0, 0, 0) := (zl174_0 (Nat.le_of_ble_eq_true rfl)).trans rfl
theorem f174_12 : zi_fe 174 12 = some ((.aload_n 0), 1, 0, 0, 0, 0, 0) := (zl174_0 (Nat.le_of_ble_eq_true rfl)).trans rfl
theorem f174_13 : zi_fe 174 13 = some ((.iload_n 2), 1, 0, 0, 0, 0, 0) := (zl174_0 (Nat.le_of_ble_eq_true rfl)).trans rfl
theorem f174_14 : zi_fe 174 14 = some ((.iconst 0), 1, 0, 0, 0, 0, 0) := (zl174_0 (Nat.le_of_ble_eq_true rfl)).trans rfl
theorem f174_15 : zi_fe 174 15 = some ((.invokevirtual 83), 3, 146, 0, 8, 1276, 3) := (zl174_0 (Nat.le_of_ble_eq_true rfl)).trans rfl
theorem zl174_1 {pc : Nat} (h : 18 ≤ pc) : zi_fe 174 pc = zu174_1.lookup pc := (zl174_0 (Nat.le_trans (Nat.le_of_ble_eq_true rfl) h)).trans (zi_lkA (a := zi_i174_0) (c := 18) rfl h)
theorem f174_18 : zi_fe 174 18 = some ((.invokestatic 172), 3, 173, 1, 8, 1280, 1) := (zl174_1 (Nat.le_of_ble_eq_true rfl)).trans rfl
theorem f174_21 : zi_fe 174 21 = some (.bastore, 1, 0, 0, 0, 0, 0) := (zl174_1 (Nat.le_of_ble_eq_true rfl)).trans rfl
theorem f174_22 : zi_fe 174 22 = some ((.iinc 2 1), 3, 0, 0, 0, 0, 0) := (zl174_1 (Nat.le_of_ble_eq_true rfl)).trans rfl
theorem f174_25 : zi_fe 174 25 = some ((.goto (-23)), 3, 0, 0, 0, 0, 0) := (zl174_1 (Nat.le_of_ble_eq_true rfl)).trans rfl
theorem f174_28 : zi_fe 174 28 = some ((.aload_n 0), 1, 0, 0, 0, 0, 0) := (zl174_1 (Nat.le_of_ble_eq_true rfl)).trans rfl
theorem f174_29 : zi_fe 174 29 = some ((.iload_n 1), 1, 0, 0, 0, 0, 0) := (zl174_1 (Nat.le_of_ble_eq_true rfl)).trans rfl
theorem f174_30 : zi_fe 174 30 = some ((.invokevirtual 176), 3, 172, 0, 8, 1295, 2) := (zl174_1 (Nat.le_of_ble_eq_true rfl)).trans rfl
theorem f174_33 : zi_fe 174 33 = some ((.istore_n 2), 1, 0, 0, 0, 0, 0) := (zl174_1 (Nat.le_of_ble_eq_true rfl)).trans rfl
theorem f174_34 : zi_fe 174 34 = some ((.iload_n 2), 1, 0, 0, 0, 0, 0) := (zl174_1 (Nat.le_of_ble_eq_true rfl)).trans rfl
theorem f174_35 : zi_fe 174 35 = some ((.ifCond .le 94), 3, 0, 0, 0, 0, 0) := (zl174_1 (Nat.le_of_ble_eq_true rfl)).trans rfl
theorem f174_38 : zi_fe 174 38 = some ((.aload_n 0), 1, 0, 0, 0, 0, 0) := (zl174_1 (Nat.le_of_ble_eq_true rfl)).trans rfl
theorem f174_39 : zi_fe 174 39 = some ((.iload_n 1), 1, 0, 0, 0, 0, 0) := (zl174_1 (Nat.le_of_ble_eq_true rfl)).trans rfl
theorem zl174_2 {pc : Nat} (h : 40 ≤ pc) : zi_fe 174 pc = zu174_2.lookup pc := (zl174_1 (Nat.le_trans (Nat.le_of_ble_eq_true rfl) h)).trans (zi_lkA (a := zi_i174_1) (c := 40) rfl h)
theorem f174_40 : zi_fe 174 40 = some ((.bipush 6), 2, 0, 0, 0, 0, 0) := (zl174_2 (Nat.le_of_ble_eq_true rfl)).trans rfl
theorem f174_42 : zi_fe 174 42 = some ((.aload_n 0), 1, 0, 0, 0, 0, 0) := (zl174_2 (Nat.le_of_ble_eq_true rfl)).trans rfl
theorem f174_43 : zi_fe 174 43 = some ((.iload_n 1), 1, 0, 0, 0, 0, 0) := (zl174_2 (Nat.le_of_ble_eq_true rfl)).trans rfl
theorem f174_44 : zi_fe 174 44 = some ((.bipush 6), 2, 0, 0, 0, 0, 0) := (zl174_2 (Nat.le_of_ble_eq_true rfl)).trans rfl
theorem f174_46 : zi_fe 174 46 = some ((.invokevirtual 83), 3, 146, 0, 8, 1276, 3) := (zl174_2 (Nat.le_of_ble_eq_true rfl)).trans rfl
theorem f174_49 : zi_fe 174 49 = some ((.iconst 1), 1, 0, 0, 0, 0, 0) := (zl174_2 (Nat.le_of_ble_eq_true rfl)).trans rfl
theorem f174_50 : zi_fe 174 50 = some (.iadd, 1, 0, 0, 0, 0, 0) := (zl174_2 (Nat.le_of_ble_eq_true rfl)).trans rfl
theorem f174_51 : zi_fe 174 51 = some ((.invokevirtual 102), 3, 147, 0, 8, 1253, 4) := (zl174_2 (Nat.le_of_ble_eq_true rfl)).trans rfl
theorem f174_54 : zi_fe 174 54 = some ((.aload_n 0), 1, 0, 0, 0, 0, 0) := (zl174_2 (Nat.le_of_ble_eq_true rfl)).trans rfl
theorem f174_55 : zi_fe 174 55 = some ((.iload_n 1), 1, 0, 0, 0, 0, 0) := (zl174_2 (Nat.le_of_ble_eq_true rfl)).trans rfl
theorem f174_56 : zi_fe 174 56 = some ((.bipush 7), 2, 0, 0, 0, 0, 0) := (zl174_2 (Nat.le_of_ble_eq_true rfl)).trans rfl
theorem f174_58 : zi_fe 174 58 = some ((.aload_n 0), 1, 0, 0, 0, 0, 0) := (zl174_2 (Nat.le_of_ble_eq_true rfl)).trans rfl
theorem zl174_3 {pc : Nat} (h : 59 ≤ pc) : zi_fe 174 pc = zu174_3.lookup pc := (zl174_2 (Nat.le_trans (Nat.le_of_ble_eq_true rfl) h)).trans (zi_lkA (a := zi_i174_2) (c := 59) rfl h)
theorem f174_59 : zi_fe 174 59 = some ((.iload_n 1), 1, 0, 0, 0, 0, 0) := (zl174_3 (Nat.le_of_ble_eq_true rfl)).trans rfl
theorem f174_60 : zi_fe 174 60 = some ((.bipush 7), 2, 0, 0, 0, 0, 0) := (zl174_3 (Nat.le_of_ble_eq_true rfl)).trans rfl
theorem f174_62 : zi_fe 174 62 = some ((.invokevirtual 83), 3, 146, 0, 8, 1276, 3) := (zl174_3 (Nat.le_of_ble_eq_true rfl)).trans rfl
theorem f174_65 : zi_fe 174 65 = some ((.iload_n 2), 1, 0, 0, 0, 0, 0) := (zl174_3 (Nat.le_of_ble_eq_true rfl)).trans rfl
theorem f174_66 : zi_fe 174 66 = some ((.iconst 1), 1, 0, 0, 0, 0, 0) := (zl174_3 (Nat.le_of_ble_eq_true rfl)).trans rfl
theorem f174_67 : zi_fe 174 67 = some ((.if_icmp .ne 7), 3, 0, 0, 0, 0, 0) := (zl174_3 (Nat.le_of_ble_eq_true rfl)).trans rfl
theorem f174_70 : zi_fe 174 70 = some ((.iconst 1), 1, 0, 0, 0, 0, 0) := (zl174_3 (Nat.le_of_ble_eq_true rfl)).trans rfl
theorem f174_71 : zi_fe 174 71 = some ((.goto 4), 3, 0, 0, 0, 0, 0) := (zl174_3 (Nat.le_of_ble_eq_true rfl)).trans rfl
theorem f174_74 : zi_fe 174 74 = some ((.iconst 0), 1, 0, 0, 0, 0, 0) := (zl174_3 (Nat.le_of_ble_eq_true rfl)).trans rfl
theorem f174_75 : zi_fe 174 75 = some ((.invokestatic 94), 3, 143, 1, 8, 1269, 1) := (zl174_3 (Nat.le_of_ble_eq_true rfl)).trans rfl
theorem f174_78 : zi_fe 174 78 = some (.iadd, 1, 0, 0, 0, 0, 0) := (zl174_3 (Nat.le_of_ble_eq_true rfl)).trans rfl
theorem f174_79 : zi_fe 174 79 = some ((.invokevirtual 102), 3, 147, 0, 8, 1253, 4) := (zl174_3 (Nat.le_of_ble_eq_true rfl)).trans rfl
theorem zl174_4 {pc : Nat} (h : 82 ≤ pc) : zi_fe 174 pc = zu174_4.lookup pc := (zl174_3 (Nat.le_trans (Nat.le_of_ble_eq_true rfl) h)).trans (zi_lkA (a := zi_i174_3) (c := 82) rfl h)
theorem f174_82 : zi_fe 174 82 = some ((.iconst 0), 1, 0, 0, 0, 0, 0) := (zl174_4 (Nat.le_of_ble_eq_true rfl)).trans rfl
theorem f174_83 : zi_fe 174 83 = some ((.istore_n 3), 1, 0, 0, 0, 0, 0) := (zl174_4 (Nat.le_of_ble_eq_true rfl)).trans rfl
theorem f174_84 : zi_fe 174 84 = some ((.iload_n 3), 1, 0, 0, 0, 0, 0) := (zl174_4 (Nat.le_of_ble_eq_true rfl)).trans rfl
theorem f174_85 : zi_fe 174 85 = some ((.iconst 3), 1, 0, 0, 0, 0, 0) := (zl174_4 (Nat.le_of_ble_eq_true rfl)).trans rfl
theorem f174_86 : zi_fe 174 86 = some ((.if_icmp .ge 43), 3, 0, 0, 0, 0, 0) := (zl174_4 (Nat.le_of_ble_eq_true rfl)).trans rfl
theorem f174_89 : zi_fe 174 89 = some ((.aload_n 0), 1, 0, 0, 0, 0, 0) := (zl174_4 (Nat.le_of_ble_eq_true rfl)).trans rfl
theorem f174_90 : zi_fe 174 90 = some ((.getfield 26), 3, 8, 6, 3, 1071, 0) := (zl174_4 (Nat.le_of_ble_eq_true rfl)).trans rfl
theorem f174_93 : zi_fe 174 93 = some ((.iload_n 3), 1, 0, 0, 0, 0, 0) := (zl174_4 (Nat.le_of_ble_eq_true rfl)).trans rfl
theorem f174_94 : zi_fe 174 94 = some (.baload, 1, 0, 0, 0, 0, 0) := (zl174_4 (Nat.le_of_ble_eq_true rfl)).trans rfl
theorem f174_95 : zi_fe 174 95 = some ((.ifCond .eq 28), 3, 0, 0, 0, 0, 0) := (zl174_4 (Nat.le_of_ble_eq_true rfl)).trans rfl
theorem f174_98 : zi_fe 174 98 = some ((.aload_n 0), 1, 0, 0, 0, 0, 0) := (zl174_4 (Nat.le_of_ble_eq_true rfl)).trans rfl
theorem f174_99 : zi_fe 174 99 = some ((.iload_n 3), 1, 0, 0, 0, 0, 0) := (zl174_4 (Nat.le_of_ble_eq_true rfl)).trans rfl
theorem zl174_5 {pc : Nat} (h : 100 ≤ pc) : zi_fe 174 pc = zu174_5.lookup pc := (zl174_4 (Nat.le_trans (Nat.le_of_ble_eq_true rfl) h)).trans (zi_lkA (a := zi_i174_4) (c := 100) rfl h)
theorem f174_100 : zi_fe 174 100 = some ((.iconst 5), 1, 0, 0, 0, 0, 0) := (zl174_5 (Nat.le_of_ble_eq_true rfl)).trans rfl
theorem f174_101 : zi_fe 174 101 = some ((.aload_n 0), 1, 0, 0, 0, 0, 0) := (zl174_5 (Nat.le_of_ble_eq_true rfl)).trans rfl
theorem f174_102 : zi_fe 174 102 = some ((.iload_n 3), 1, 0, 0, 0, 0, 0) := (zl174_5 (Nat.le_of_ble_eq_true rfl)).trans rfl
theorem f174_103 : zi_fe 174 103 = some ((.iconst 5), 1, 0, 0, 0, 0, 0) := (zl174_5 (Nat.le_of_ble_eq_true rfl)).trans rfl
theorem f174_104 : zi_fe 174 104 = some ((.invokevirtual 83), 3, 146, 0, 8, 1276, 3) := (zl174_5 (Nat.le_of_ble_eq_true rfl)).trans rfl
theorem f174_107 : zi_fe 174 107 = some ((.iconst 1), 1, 0, 0, 0, 0, 0) := (zl174_5 (Nat.le_of_ble_eq_true rfl)).trans rfl
theorem f174_108 : zi_fe 174 108 = some ((.aload_n 0), 1, 0, 0, 0, 0, 0) := (zl174_5 (Nat.le_of_ble_eq_true rfl)).trans rfl
theorem f174_109 : zi_fe 174 109 = some ((.aload_n 0), 1, 0, 0, 0, 0, 0) := (zl174_5 (Nat.le_of_ble_eq_true rfl)).trans rfl
theorem f174_110 : zi_fe 174 110 = some ((.iload_n 3), 1, 0, 0, 0, 0, 0) := (zl174_5 (Nat.le_of_ble_eq_true rfl)).trans rfl
theorem f174_111 : zi_fe 174 111 = some ((.iconst 2), 1, 0, 0, 0, 0, 0) := (zl174_5 (Nat.le_of_ble_eq_true rfl)).trans rfl
theorem f174_112 : zi_fe 174 112 = some ((.invokevirtual 83), 3, 146, 0, 8, 1276, 3) := (zl174_5 (Nat.le_of_ble_eq_true rfl)).trans rfl
theorem f174_115 : zi_fe 174 115 = some ((.invokevirtual 179), 3, 151, 0, 8, 1257, 2) := (zl174_5 (Nat.le_of_ble_eq_true rfl)).trans rfl
theorem zl174_6 {pc : Nat} (h : 118 ≤ pc) : zi_fe 174 pc = zu174_6.lookup pc := (zl174_5 (Nat.le_trans (Nat.le_of_ble_eq_true rfl) h)).trans (zi_lkA (a := zi_i174_5) (c := 118) rfl h)
theorem f174_118 : zi_fe 174 118 = some (.ishl, 1, 0, 0, 0, 0, 0) := (zl174_6 (Nat.le_of_ble_eq_true rfl)).trans rfl
theorem f174_119 : zi_fe 174 119 = some (.ior, 1, 0, 0, 0, 0, 0) := (zl174_6 (Nat.le_of_ble_eq_true rfl)).trans rfl
theorem f174_120 : zi_fe 174 120 = some ((.invokevirtual 102), 3, 147, 0, 8, 1253, 4) := (zl174_6 (Nat.le_of_ble_eq_true rfl)).trans rfl
theorem f174_123 : zi_fe 174 123 = some ((.iinc 3 1), 3, 0, 0, 0, 0, 0) := (zl174_6 (Nat.le_of_ble_eq_true rfl)).trans rfl
theorem f174_126 : zi_fe 174 126 = some ((.goto (-42)), 3, 0, 0, 0, 0, 0) := (zl174_6 (Nat.le_of_ble_eq_true rfl)).trans rfl
theorem f174_129 : zi_fe 174 129 = some ((.iload_n 2), 1, 0, 0, 0, 0, 0) := (zl174_6 (Nat.le_of_ble_eq_true rfl)).trans rfl
theorem f174_130 : zi_fe 174 130 = some (.ireturn, 1, 0, 0, 0, 0, 0) := (zl174_6 (Nat.le_of_ble_eq_true rfl)).trans rfl
theorem b174_0 {h : zi_Hp} {a0 : Nat} {x1 : Int32} {u2 : Value} {u3 : Value}  : zv 6 174 0 [.ref a0, .int x1, u2, u3] [] h = zv 6 174 2 [.ref a0, .int x1, .int 0, u3] [] h := by
  refine Eq.trans (zs_ic f174_0 ic_0) ?_
  refine Eq.trans (zv_next f174_1 rfl) ?_
  rfl
theorem b174_2 {h : zi_Hp} {a0 : Nat} {x1 : Int32} {x2 : Int32} {u3 : Value}  : zv 6 174 2 [.ref a0, .int x1, .int x2, u3] [] h = if x2 < 3 then zv 6 174 7 [.ref a0, .int x1, .int x2, u3] [] h else zv 6 174 28 [.ref a0, .int x1, .int x2, u3] [] h := by
  refine Eq.trans (zv_next f174_2 rfl) ?_
  refine Eq.trans (zs_ic f174_3 ic_3) ?_
  exact zs_icmp f174_4 rfl
theorem b174_7 {h : zi_Hp} {a0 : Nat} {x1 : Int32} {x2 : Int32} {u3 : Value} (g0 : a0 < zh_n h) (g1 : (zh_k h a0).1 = 8) (g2 : zh_r h a0 6 = .ref (zq (zh_r h a0 6))) : zv 6 174 7 [.ref a0, .int x1, .int x2, u3] [] h = (zv 1 146 0 [.ref a0, .int x2, .int 0] [] h).bind fun r => zv 6 174 18 [.ref a0, .int x1, .int x2, u3] (r.1.toList ++ [.int x2, .ref (zq (zh_r h a0 6))]) r.2 := by
  refine Eq.trans (zv_next f174_7 rfl) ?_
  refine Eq.trans (zs_getr f174_8 g0 g1 g2) ?_
  refine Eq.trans (zv_next f174_11 rfl) ?_
  refine Eq.trans (zv_next f174_12 rfl) ?_
  refine Eq.trans (zv_next f174_13 rfl) ?_
  refine Eq.trans (zs_ic f174_14 ic_0) ?_
  exact zs_callV f174_15 (Nat.le_of_ble_eq_true rfl) (Nat.le_of_ble_eq_true rfl) rfl g0 g1 me_146 (by decide) rfl
theorem b174_18 {h : zi_Hp} {a0 : Nat} {x1 : Int32} {x2 : Int32} {u3 : Value} {t0 : Nat} {s1 : Int32} {s2 : Int32}  : zv 6 174 18 [.ref a0, .int x1, .int x2, u3] [.int s2, .int s1, .ref t0] h = (zv 1 173 0 [.int s2] [] h).bind fun r => zv 6 174 21 [.ref a0, .int x1, .int x2, u3] (r.1.toList ++ [.int s1, .ref t0]) r.2 := by
  exact zs_callS f174_18 (by decide) (Nat.le_of_ble_eq_true rfl) (Nat.le_of_ble_eq_true rfl) rfl me_173 (by decide) rfl
theorem b174_21 {h : zi_Hp} {a0 : Nat} {x1 : Int32} {x2 : Int32} {u3 : Value} {t0 : Nat} {s1 : Int32} {s2 : Int32} (g0 : t0 < zh_n h) (g1 : ¬ (s1 < 0 ∨ (zh_k h t0).2 ≤ s1.toNatClampNeg)) (g2 : s2 = 0 ∨ s2 = 1) (g3 : (zh_k h t0).1 = 101) : zv 6 174 21 [.ref a0, .int x1, .int x2, u3] [.int s2, .int s1, .ref t0] h = zv 6 174 2 [.ref a0, .int x1, .int (x2 + 1), u3] [] (zh_wb h t0 s1.toNatClampNeg (decide (s2 = 1))) := by
  refine Eq.trans (zs_bast f174_21 g0 g3 g1 (zw_d _ _ g2)) ?_
  refine Eq.trans (zs_inc f174_22 rfl ic_1 rfl) ?_
  refine Eq.trans (zs_goto (tgt := 2) f174_25 rfl) ?_
  rfl
theorem b174_28 {h : zi_Hp} {a0 : Nat} {x1 : Int32} {x2 : Int32} {u3 : Value} (g0 : a0 < zh_n h) (g1 : (zh_k h a0).1 = 8) : zv 6 174 28 [.ref a0, .int x1, .int x2, u3] [] h = (zv 5 172 0 [.ref a0, .int x1] [] h).bind fun r => zv 6 174 33 [.ref a0, .int x1, .int x2, u3] (r.1.toList ++ []) r.2 := by
  refine Eq.trans (zv_next f174_28 rfl) ?_
  refine Eq.trans (zv_next f174_29 rfl) ?_
  exact zs_callV f174_30 (Nat.le_of_ble_eq_true rfl) (Nat.le_of_ble_eq_true rfl) rfl g0 g1 me_172 (by decide) rfl
theorem b174_33 {h : zi_Hp} {a0 : Nat} {x1 : Int32} {x2 : Int32} {u3 : Value} {s0 : Int32}  : zv 6 174 33 [.ref a0, .int x1, .int x2, u3] [.int s0] h = if 0 < s0 then zv 6 174 38 [.ref a0, .int x1, .int s0, u3] [] h else zv 6 174 129 [.ref a0, .int x1, .int s0, u3] [] h := by
  refine Eq.trans (zv_next f174_33 rfl) ?_
  refine Eq.trans (zv_next f174_34 rfl) ?_
  exact zs_if f174_35 rfl
theorem b174_38 {h : zi_Hp} {a0 : Nat} {x1 : Int32} {x2 : Int32} {u3 : Value} (g0 : a0 < zh_n h) (g1 : (zh_k h a0).1 = 8) : zv 6 174 38 [.ref a0, .int x1, .int x2, u3] [] h = (zv 1 146 0 [.ref a0, .int x1, .int 6] [] h).bind fun r => zv 6 174 49 [.ref a0, .int x1, .int x2, u3] (r.1.toList ++ [.int 6, .int x1, .ref a0]) r.2 := by
  refine Eq.trans (zv_next f174_38 rfl) ?_
  refine Eq.trans (zv_next f174_39 rfl) ?_
  refine Eq.trans (zs_bp f174_40 bp_6) ?_
  refine Eq.trans (zv_next f174_42 rfl) ?_
  refine Eq.trans (zv_next f174_43 rfl) ?_
  refine Eq.trans (zs_bp f174_44 bp_6) ?_
  exact zs_callV f174_46 (Nat.le_of_ble_eq_true rfl) (Nat.le_of_ble_eq_true rfl) rfl g0 g1 me_146 (by decide) rfl
theorem b174_49 {h : zi_Hp} {a0 : Nat} {x1 : Int32} {x2 : Int32} {u3 : Value} {t0 : Nat} {s1 : Int32} {s2 : Int32} {s3 : Int32} (g0 : t0 < zh_n h) (g1 : (zh_k h t0).1 = 8) : zv 6 174 49 [.ref a0, .int x1, .int x2, u3] [.int s3, .int s2, .int s1, .ref t0] h = (zv 1 147 0 [.ref t0, .int s1, .int s2, .int (s3 + 1)] [] h).bind fun r => zv 6 174 54 [.ref a0, .int x1, .int x2, u3] (r.1.toList ++ []) r.2 := by
  refine Eq.trans (zs_ic f174_49 ic_1) ?_
  refine Eq.trans (zv_next f174_50 rfl) ?_
  exact zs_callV f174_51 (Nat.le_of_ble_eq_true rfl) (Nat.le_of_ble_eq_true rfl) rfl g0 g1 me_147 (by decide) rfl
theorem b174_54 {h : zi_Hp} {a0 : Nat} {x1 : Int32} {x2 : Int32} {u3 : Value} (g0 : a0 < zh_n h) (g1 : (zh_k h a0).1 = 8) : zv 6 174 54 [.ref a0, .int x1, .int x2, u3] [] h = (zv 1 146 0 [.ref a0, .int x1, .int 7] [] h).bind fun r => zv 6 174 65 [.ref a0, .int x1, .int x2, u3] (r.1.toList ++ [.int 7, .int x1, .ref a0]) r.2 := by
  refine Eq.trans (zv_next f174_54 rfl) ?_
  refine Eq.trans (zv_next f174_55 rfl) ?_
  refine Eq.trans (zs_bp f174_56 bp_7) ?_
  refine Eq.trans (zv_next f174_58 rfl) ?_
  refine Eq.trans (zv_next f174_59 rfl) ?_
  refine Eq.trans (zs_bp f174_60 bp_7) ?_
  exact zs_callV f174_62 (Nat.le_of_ble_eq_true rfl) (Nat.le_of_ble_eq_true rfl) rfl g0 g1 me_146 (by decide) rfl
theorem b174_65 {h : zi_Hp} {a0 : Nat} {x1 : Int32} {x2 : Int32} {u3 : Value} {t0 : Nat} {s1 : Int32} {s2 : Int32} {s3 : Int32}  : zv 6 174 65 [.ref a0, .int x1, .int x2, u3] [.int s3, .int s2, .int s1, .ref t0] h = if x2 = 1 then zv 6 174 70 [.ref a0, .int x1, .int x2, u3] [.int s3, .int s2, .int s1, .ref t0] h else zv 6 174 74 [.ref a0, .int x1, .int x2, u3] [.int s3, .int s2, .int s1, .ref t0] h := by
  refine Eq.trans (zv_next f174_65 rfl) ?_
  refine Eq.trans (zs_ic f174_66 ic_1) ?_
  exact zs_icmp f174_67 rfl
theorem b174_70 {h : zi_Hp} {a0 : Nat} {x1 : Int32} {x2 : Int32} {u3 : Value} {t0 : Nat} {s1 : Int32} {s2 : Int32} {s3 : Int32}  : zv 6 174 70 [.ref a0, .int x1, .int x2, u3] [.int s3, .int s2, .int s1, .ref t0] h = zv 6 174 75 [.ref a0, .int x1, .int x2, u3] [.int 1, .int s3, .int s2, .int s1, .ref t0] h := by
  refine Eq.trans (zs_ic f174_70 ic_1) ?_
  refine Eq.trans (zs_goto (tgt := 75) f174_71 rfl) ?_
  rfl
theorem b174_74 {h : zi_Hp} {a0 : Nat} {x1 : Int32} {x2 : Int32} {u3 : Value} {t0 : Nat} {s1 : Int32} {s2 : Int32} {s3 : Int32}  : zv 6 174 74 [.ref a0, .int x1, .int x2, u3] [.int s3, .int s2, .int s1, .ref t0] h = zv 6 174 75 [.ref a0, .int x1, .int x2, u3] [.int 0, .int s3, .int s2, .int s1, .ref t0] h := by
  refine Eq.trans (zs_ic f174_74 ic_0) ?_
  rfl
theorem b174_75 {h : zi_Hp} {a0 : Nat} {x1 : Int32} {x2 : Int32} {u3 : Value} {t0 : Nat} {s1 : Int32} {s2 : Int32} {s3 : Int32} {s4 : Int32}  : zv 6 174 75 [.ref a0, .int x1, .int x2, u3] [.int s4, .int s3, .int s2, .int s1, .ref t0] h = (zv 1 143 0 [.int s4] [] h).bind fun r => zv 6 174 78 [.ref a0, .int x1, .int x2, u3] (r.1.toList ++ [.int s3, .int s2, .int s1, .ref t0]) r.2 := by
  exact zs_callS f174_75 (by decide) (Nat.le_of_ble_eq_true rfl) (Nat.le_of_ble_eq_true rfl) rfl me_143 (by decide) rfl
theorem b174_78 {h : zi_Hp} {a0 : Nat} {x1 : Int32} {x2 : Int32} {u3 : Value} {t0 : Nat} {s1 : Int32} {s2 : Int32} {s3 : Int32} {s4 : Int32} (g0 : t0 < zh_n h) (g1 : (zh_k h t0).1 = 8) : zv 6 174 78 [.ref a0, .int x1, .int x2, u3] [.int s4, .int s3, .int s2, .int s1, .ref t0] h = (zv 1 147 0 [.ref t0, .int s1, .int s2, .int (s3 + s4)] [] h).bind fun r => zv 6 174 82 [.ref a0, .int x1, .int x2, u3] (r.1.toList ++ []) r.2 := by
  refine Eq.trans (zv_next f174_78 rfl) ?_
  exact zs_callV f174_79 (Nat.le_of_ble_eq_true rfl) (Nat.le_of_ble_eq_true rfl) rfl g0 g1 me_147 (by decide) rfl
theorem b174_82 {h : zi_Hp} {a0 : Nat} {x1 : Int32} {x2 : Int32} {u3 : Value}  : zv 6 174 82 [.ref a0, .int x1, .int x2, u3] [] h = zv 6 174 84 [.ref a0, .int x1, .int x2, .int 0] [] h := by
  refine Eq.trans (zs_ic f174_82 ic_0) ?_
  refine Eq.trans (zv_next f174_83 rfl) ?_
  rfl
theorem b174_84 {h : zi_Hp} {a0 : Nat} {x1 : Int32} {x2 : Int32} {x3 : Int32}  : zv 6 174 84 [.ref a0, .int x1, .int x2, .int x3] [] h = if x3 < 3 then zv 6 174 89 [.ref a0, .int x1, .int x2, .int x3] [] h else zv 6 174 129 [.ref a0, .int x1, .int x2, .int x3] [] h := by
  refine Eq.trans (zv_next f174_84 rfl) ?_
  refine Eq.trans (zs_ic f174_85 ic_3) ?_
  exact zs_icmp f174_86 rfl
theorem b174_89 {h : zi_Hp} {a0 : Nat} {x1 : Int32} {x2 : Int32} {x3 : Int32} (g0 : a0 < zh_n h) (g1 : (zh_k h a0).1 = 8) (g2 : zh_r h a0 6 = .ref (zq (zh_r h a0 6))) (g3 : (zq (zh_r h a0 6)) < zh_n h) (g4 : ¬ (x3 < 0 ∨ (zh_k h (zq (zh_r h a0 6))).2 ≤ x3.toNatClampNeg)) (g5 : (zh_k h (zq (zh_r h a0 6))).1 = 101) : zv 6 174 89 [.ref a0, .int x1, .int x2, .int x3] [] h = if (zi_bI (zh_b h (zq (zh_r h a0 6)) x3.toNatClampNeg)) = 0 then zv 6 174 123 [.ref a0, .int x1, .int x2, .int x3] [] h else zv 6 174 98 [.ref a0, .int x1, .int x2, .int x3] [] h := by
  refine Eq.trans (zv_next f174_89 rfl) ?_
  refine Eq.trans (zs_getr f174_90 g0 g1 g2) ?_
  refine Eq.trans (zv_next f174_93 rfl) ?_
  refine Eq.trans (zs_bald f174_94 g3 g5 g4) ?_
  exact zs_if f174_95 rfl
theorem b174_98 {h : zi_Hp} {a0 : Nat} {x1 : Int32} {x2 : Int32} {x3 : Int32} (g0 : a0 < zh_n h) (g1 : (zh_k h a0).1 = 8) : zv 6 174 98 [.ref a0, .int x1, .int x2, .int x3] [] h = (zv 1 146 0 [.ref a0, .int x3, .int 5] [] h).bind fun r => zv 6 174 107 [.ref a0, .int x1, .int x2, .int x3] (r.1.toList ++ [.int 5, .int x3, .ref a0]) r.2 := by
  refine Eq.trans (zv_next f174_98 rfl) ?_
  refine Eq.trans (zv_next f174_99 rfl) ?_
  refine Eq.trans (zs_ic f174_100 ic_5) ?_
  refine Eq.trans (zv_next f174_101 rfl) ?_
  refine Eq.trans (zv_next f174_102 rfl) ?_
  refine Eq.trans (zs_ic f174_103 ic_5) ?_
  exact zs_callV f174_104 (Nat.le_of_ble_eq_true rfl) (Nat.le_of_ble_eq_true rfl) rfl g0 g1 me_146 (by decide) rfl
theorem b174_107 {h : zi_Hp} {a0 : Nat} {x1 : Int32} {x2 : Int32} {x3 : Int32} {t0 : Nat} {s1 : Int32} {s2 : Int32} {s3 : Int32} (g0 : a0 < zh_n h) (g1 : (zh_k h a0).1 = 8) : zv 6 174 107 [.ref a0, .int x1, .int x2, .int x3] [.int s3, .int s2, .int s1, .ref t0] h = (zv 1 146 0 [.ref a0, .int x3, .int 2] [] h).bind fun r => zv 6 174 115 [.ref a0, .int x1, .int x2, .int x3] (r.1.toList ++ [.ref a0, .int 1, .int s3, .int s2, .int s1, .ref t0]) r.2 := by
  refine Eq.trans (zs_ic f174_107 ic_1) ?_
  refine Eq.trans (zv_next f174_108 rfl) ?_
  refine Eq.trans (zv_next f174_109 rfl) ?_
  refine Eq.trans (zv_next f174_110 rfl) ?_
  refine Eq.trans (zs_ic f174_111 ic_2) ?_
  exact zs_callV f174_112 (Nat.le_of_ble_eq_true rfl) (Nat.le_of_ble_eq_true rfl) rfl g0 g1 me_146 (by decide) rfl
theorem b174_115 {h : zi_Hp} {a0 : Nat} {x1 : Int32} {x2 : Int32} {x3 : Int32} {t0 : Nat} {s1 : Int32} {s2 : Int32} {s3 : Int32} {s4 : Int32} {t5 : Nat} {s6 : Int32} (g0 : t5 < zh_n h) (g1 : (zh_k h t5).1 = 8) : zv 6 174 115 [.ref a0, .int x1, .int x2, .int x3] [.int s6, .ref t5, .int s4, .int s3, .int s2, .int s1, .ref t0] h = (zv 3 151 0 [.ref t5, .int s6, .double 0, .double 0] [] h).bind fun r => zv 6 174 118 [.ref a0, .int x1, .int x2, .int x3] (r.1.toList ++ [.int s4, .int s3, .int s2, .int s1, .ref t0]) r.2 := by
  exact zs_callV f174_115 (Nat.le_of_ble_eq_true rfl) (Nat.le_of_ble_eq_true rfl) rfl g0 g1 me_151 (by decide) rfl
theorem b174_118 {h : zi_Hp} {a0 : Nat} {x1 : Int32} {x2 : Int32} {x3 : Int32} {t0 : Nat} {s1 : Int32} {s2 : Int32} {s3 : Int32} {s4 : Int32} {s5 : Int32} (g0 : t0 < zh_n h) (g1 : (zh_k h t0).1 = 8) : zv 6 174 118 [.ref a0, .int x1, .int x2, .int x3] [.int s5, .int s4, .int s3, .int s2, .int s1, .ref t0] h = (zv 1 147 0 [.ref t0, .int s1, .int s2, .int (s3 ||| (s4 <<< (s5 &&& 31)))] [] h).bind fun r => zv 6 174 123 [.ref a0, .int x1, .int x2, .int x3] (r.1.toList ++ []) r.2 := by
  refine Eq.trans (zv_next f174_118 rfl) ?_
  refine Eq.trans (zv_next f174_119 rfl) ?_
  exact zs_callV f174_120 (Nat.le_of_ble_eq_true rfl) (Nat.le_of_ble_eq_true rfl) rfl g0 g1 me_147 (by decide) rfl
theorem b174_123 {h : zi_Hp} {a0 : Nat} {x1 : Int32} {x2 : Int32} {x3 : Int32}  : zv 6 174 123 [.ref a0, .int x1, .int x2, .int x3] [] h = zv 6 174 84 [.ref a0, .int x1, .int x2, .int (x3 + 1)] [] h := by
  refine Eq.trans (zs_inc f174_123 rfl ic_1 rfl) ?_
  refine Eq.trans (zs_goto (tgt := 84) f174_126 rfl) ?_
  rfl
theorem b174_129 {h : zi_Hp} {a0 : Nat} {x1 : Int32} {x2 : Int32} {u3 : Value}  : zv 6 174 129 [.ref a0, .int x1, .int x2, u3] [] h = some (some (.int x2), h) := by
  refine Eq.trans (zv_next f174_129 rfl) ?_
  exact zs_ret0 f174_130
set_option maxRecDepth 20000 in
theorem zq175 : zi_M[175]? = some zi_m175 := rfl
theorem zl175_0 {pc : Nat} (_ : 0 ≤ pc) : zi_fe 175 pc = zu175_0.lookup pc := zi_feA zq175 pc
theorem f175_0 : zi_fe 175 0 = some ((.aload_n 0), 1, 0, 0, 0, 0, 0) := (zl175_0 (Nat.le_of_ble_eq_true rfl)).trans rfl
theorem f175_1 : zi_fe 175 1 = some ((.iload_n 1), 1, 0, 0, 0, 0, 0) := (zl175_0 (Nat.le_of_ble_eq_true rfl)).trans rfl
theorem f175_2 : zi_fe 175 2 = some ((.iconst 3), 1, 0, 0, 0, 0, 0) := (zl175_0 (Nat.le_of_ble_eq_true rfl)).trans rfl
theorem f175_3 : zi_fe 175 3 = some ((.invokevirtual 83), 3, 146, 0, 8, 1276, 3) := (zl175_0 (Nat.le_of_ble_eq_true rfl)).trans rfl
theorem f175_6 : zi_fe 175 6 = some ((.istore_n 2), 1, 0, 0, 0, 0, 0) := (zl175_0 (Nat.le_of_ble_eq_true rfl)).trans rfl
theorem f175_7 : zi_fe 175 7 = some ((.aload_n 0), 1, 0, 0, 0, 0, 0) := (zl175_0 (Nat.le_of_ble_eq_true rfl)).trans rfl
theorem f175_8 : zi_fe 175 8 = some ((.iload_n 1), 1, 0, 0, 0, 0, 0) := (zl175_0 (Nat.le_of_ble_eq_true rfl)).trans rfl
theorem f175_9 : zi_fe 175 9 = some ((.iconst 0), 1, 0, 0, 0, 0, 0) := (zl175_0 (Nat.le_of_ble_eq_true rfl)).trans rfl
theorem f175_10 : zi_fe 175 10 = some ((.invokevirtual 83), 3, 146, 0, 8, 1276, 3) := (zl175_0 (Nat.le_of_ble_eq_true rfl)).trans rfl
theorem f175_13 : zi_fe 175 13 = some ((.iconst 1), 1, 0, 0, 0, 0, 0) := (zl175_0 (Nat.le_of_ble_eq_true rfl)).trans rfl
theorem f175_14 : zi_fe 175 14 = some ((.if_icmp .ne 71), 3, 0, 0, 0, 0, 0) := (zl175_0 (Nat.le_of_ble_eq_true rfl)).trans rfl
theorem f175_17 : zi_fe 175 17 = some ((.aload_n 0), 1, 0, 0, 0, 0, 0) := (zl175_0 (Nat.le_of_ble_eq_true rfl)).trans rfl
theorem zl175_1 {pc : Nat} (h : 18 ≤ pc) : zi_fe 175 pc = zu175_1.lookup pc := (zl175_0 (Nat.le_trans (Nat.le_of_ble_eq_true rfl) h)).trans (zi_lkA (a := zi_i175_0) (c := 18) rfl h)
theorem f175_18 : zi_fe 175 18 = some ((.iload_n 2), 1, 0, 0, 0, 0, 0) := (zl175_1 (Nat.le_of_ble_eq_true rfl)).trans rfl
theorem f175_19 : zi_fe 175 19 = some ((.iconst 4), 1, 0, 0, 0, 0, 0) := (zl175_1 (Nat.le_of_ble_eq_true rfl)).trans rfl
theorem f175_20 : zi_fe 175 20 = some ((.invokevirtual 87), 3, 144, 0, 8, 1261, 3) := (zl175_1 (Nat.le_of_ble_eq_true rfl)).trans rfl
theorem f175_23 : zi_fe 175 23 = some ((.ifCond .ne 31), 3, 0, 0, 0, 0, 0) := (zl175_1 (Nat.le_of_ble_eq_true rfl)).trans rfl
theorem f175_26 : zi_fe 175 26 = some ((.aload_n 0), 1, 0, 0, 0, 0, 0) := (zl175_1 (Nat.le_of_ble_eq_true rfl)).trans rfl
theorem f175_27 : zi_fe 175 27 = some ((.iload_n 1), 1, 0, 0, 0, 0, 0) := (zl175_1 (Nat.le_of_ble_eq_true rfl)).trans rfl
theorem f175_28 : zi_fe 175 28 = some ((.iconst 2), 1, 0, 0, 0, 0, 0) := (zl175_1 (Nat.le_of_ble_eq_true rfl)).trans rfl
theorem f175_29 : zi_fe 175 29 = some ((.invokevirtual 83), 3, 146, 0, 8, 1276, 3) := (zl175_1 (Nat.le_of_ble_eq_true rfl)).trans rfl
theorem f175_32 : zi_fe 175 32 = some ((.aload_n 0), 1, 0, 0, 0, 0, 0) := (zl175_1 (Nat.le_of_ble_eq_true rfl)).trans rfl
theorem f175_33 : zi_fe 175 33 = some ((.iload_n 2), 1, 0, 0, 0, 0, 0) := (zl175_1 (Nat.le_of_ble_eq_true rfl)).trans rfl
theorem f175_34 : zi_fe 175 34 = some ((.iconst 2), 1, 0, 0, 0, 0, 0) := (zl175_1 (Nat.le_of_ble_eq_true rfl)).trans rfl
theorem f175_35 : zi_fe 175 35 = some ((.invokevirtual 87), 3, 144, 0, 8, 1261, 3) := (zl175_1 (Nat.le_of_ble_eq_true rfl)).trans rfl
theorem zl175_2 {pc : Nat} (h : 38 ≤ pc) : zi_fe 175 pc = zu175_2.lookup pc := (zl175_1 (Nat.le_trans (Nat.le_of_ble_eq_true rfl) h)).trans (zi_lkA (a := zi_i175_1) (c := 38) rfl h)
theorem f175_38 : zi_fe 175 38 = some ((.if_icmp .gt 16), 3, 0, 0, 0, 0, 0) := (zl175_2 (Nat.le_of_ble_eq_true rfl)).trans rfl
theorem f175_41 : zi_fe 175 41 = some ((.aload_n 0), 1, 0, 0, 0, 0, 0) := (zl175_2 (Nat.le_of_ble_eq_true rfl)).trans rfl
theorem f175_42 : zi_fe 175 42 = some ((.iload_n 2), 1, 0, 0, 0, 0, 0) := (zl175_2 (Nat.le_of_ble_eq_true rfl)).trans rfl
theorem f175_43 : zi_fe 175 43 = some ((.iconst 0), 1, 0, 0, 0, 0, 0) := (zl175_2 (Nat.le_of_ble_eq_true rfl)).trans rfl
theorem f175_44 : zi_fe 175 44 = some ((.invokevirtual 87), 3, 144, 0, 8, 1261, 3) := (zl175_2 (Nat.le_of_ble_eq_true rfl)).trans rfl
theorem f175_47 : zi_fe 175 47 = some ((.ifCond .ne 7), 3, 0, 0, 0, 0, 0) := (zl175_2 (Nat.le_of_ble_eq_true rfl)).trans rfl
theorem f175_50 : zi_fe 175 50 = some ((.iconst 1), 1, 0, 0, 0, 0, 0) := (zl175_2 (Nat.le_of_ble_eq_true rfl)).trans rfl
theorem f175_51 : zi_fe 175 51 = some ((.goto 4), 3, 0, 0, 0, 0, 0) := (zl175_2 (Nat.le_of_ble_eq_true rfl)).trans rfl
theorem f175_54 : zi_fe 175 54 = some ((.iconst 0), 1, 0, 0, 0, 0, 0) := (zl175_2 (Nat.le_of_ble_eq_true rfl)).trans rfl
theorem f175_55 : zi_fe 175 55 = some ((.istore_n 3), 1, 0, 0, 0, 0, 0) := (zl175_2 (Nat.le_of_ble_eq_true rfl)).trans rfl
theorem f175_56 : zi_fe 175 56 = some ((.iload_n 3), 1, 0, 0, 0, 0, 0) := (zl175_2 (Nat.le_of_ble_eq_true rfl)).trans rfl
theorem f175_57 : zi_fe 175 57 = some ((.ifCond .eq 26), 3, 0, 0, 0, 0, 0) := (zl175_2 (Nat.le_of_ble_eq_true rfl)).trans rfl
theorem zl175_3 {pc : Nat} (h : 60 ≤ pc) : zi_fe 175 pc = zu175_3.lookup pc := (zl175_2 (Nat.le_trans (Nat.le_of_ble_eq_true rfl) h)).trans (zi_lkA (a := zi_i175_2) (c := 60) rfl h)
theorem f175_60 : zi_fe 175 60 = some ((.aload_n 0), 1, 0, 0, 0, 0, 0) := (zl175_3 (Nat.le_of_ble_eq_true rfl)).trans rfl
theorem f175_61 : zi_fe 175 61 = some ((.iload_n 1), 1, 0, 0, 0, 0, 0) := (zl175_3 (Nat.le_of_ble_eq_true rfl)).trans rfl
theorem f175_62 : zi_fe 175 62 = some ((.iconst 1), 1, 0, 0, 0, 0, 0) := (zl175_3 (Nat.le_of_ble_eq_true rfl)).trans rfl
theorem f175_63 : zi_fe 175 63 = some ((.invokevirtual 83), 3, 146, 0, 8, 1276, 3) := (zl175_3 (Nat.le_of_ble_eq_true rfl)).trans rfl
theorem f175_66 : zi_fe 175 66 = some ((.ifCond .eq 17), 3, 0, 0, 0, 0, 0) := (zl175_3 (Nat.le_of_ble_eq_true rfl)).trans rfl
theorem f175_69 : zi_fe 175 69 = some ((.aload_n 0), 1, 0, 0, 0, 0, 0) := (zl175_3 (Nat.le_of_ble_eq_true rfl)).trans rfl
theorem f175_70 : zi_fe 175 70 = some ((.iload_n 2), 1, 0, 0, 0, 0, 0) := (zl175_3 (Nat.le_of_ble_eq_true rfl)).trans rfl
theorem f175_71 : zi_fe 175 71 = some ((.invokevirtual 122), 3, 149, 0, 8, 1287, 2) := (zl175_3 (Nat.le_of_ble_eq_true rfl)).trans rfl
theorem f175_74 : zi_fe 175 74 = some ((.bipush (-4)), 2, 0, 0, 0, 0, 0) := (zl175_3 (Nat.le_of_ble_eq_true rfl)).trans rfl
theorem f175_76 : zi_fe 175 76 = some ((.if_icmp .eq 7), 3, 0, 0, 0, 0, 0) := (zl175_3 (Nat.le_of_ble_eq_true rfl)).trans rfl
theorem f175_79 : zi_fe 175 79 = some ((.iconst 1), 1, 0, 0, 0, 0, 0) := (zl175_3 (Nat.le_of_ble_eq_true rfl)).trans rfl
theorem f175_80 : zi_fe 175 80 = some ((.goto 4), 3, 0, 0, 0, 0, 0) := (zl175_3 (Nat.le_of_ble_eq_true rfl)).trans rfl
theorem zl175_4 {pc : Nat} (h : 83 ≤ pc) : zi_fe 175 pc = zu175_4.lookup pc := (zl175_3 (Nat.le_trans (Nat.le_of_ble_eq_true rfl) h)).trans (zi_lkA (a := zi_i175_3) (c := 83) rfl h)
theorem f175_83 : zi_fe 175 83 = some ((.iconst 0), 1, 0, 0, 0, 0, 0) := (zl175_4 (Nat.le_of_ble_eq_true rfl)).trans rfl
theorem f175_84 : zi_fe 175 84 = some (.ireturn, 1, 1, 0, 0, 0, 0) := (zl175_4 (Nat.le_of_ble_eq_true rfl)).trans rfl
theorem f175_85 : zi_fe 175 85 = some ((.aload_n 0), 1, 0, 0, 0, 0, 0) := (zl175_4 (Nat.le_of_ble_eq_true rfl)).trans rfl
theorem f175_86 : zi_fe 175 86 = some ((.iload_n 1), 1, 0, 0, 0, 0, 0) := (zl175_4 (Nat.le_of_ble_eq_true rfl)).trans rfl
theorem f175_87 : zi_fe 175 87 = some ((.bipush 10), 2, 0, 0, 0, 0, 0) := (zl175_4 (Nat.le_of_ble_eq_true rfl)).trans rfl
theorem f175_89 : zi_fe 175 89 = some ((.invokevirtual 83), 3, 146, 0, 8, 1276, 3) := (zl175_4 (Nat.le_of_ble_eq_true rfl)).trans rfl
theorem f175_92 : zi_fe 175 92 = some ((.istore_n 3), 1, 0, 0, 0, 0, 0) := (zl175_4 (Nat.le_of_ble_eq_true rfl)).trans rfl
theorem f175_93 : zi_fe 175 93 = some ((.aload_n 0), 1, 0, 0, 0, 0, 0) := (zl175_4 (Nat.le_of_ble_eq_true rfl)).trans rfl
theorem f175_94 : zi_fe 175 94 = some ((.iload_n 1), 1, 0, 0, 0, 0, 0) := (zl175_4 (Nat.le_of_ble_eq_true rfl)).trans rfl
theorem f175_95 : zi_fe 175 95 = some ((.iconst 0), 1, 0, 0, 0, 0, 0) := (zl175_4 (Nat.le_of_ble_eq_true rfl)).trans rfl
theorem f175_96 : zi_fe 175 96 = some ((.invokevirtual 83), 3, 146, 0, 8, 1276, 3) := (zl175_4 (Nat.le_of_ble_eq_true rfl)).trans rfl
theorem f175_99 : zi_fe 175 99 = some ((.iconst 3), 1, 0, 0, 0, 0, 0) := (zl175_4 (Nat.le_of_ble_eq_true rfl)).trans rfl
theorem zl175_5 {pc : Nat} (h : 100 ≤ pc) : zi_fe 175 pc = zu175_5.lookup pc := (zl175_4 (Nat.le_trans (Nat.le_of_ble_eq_true rfl) h)).trans (zi_lkA (a := zi_i175_4) (c := 100) rfl h)
theorem f175_100 : zi_fe 175 100 = some ((.if_icmp .ne 60), 3, 0, 0, 0, 0, 0) := (zl175_5 (Nat.le_of_ble_eq_true rfl)).trans rfl
theorem f175_103 : zi_fe 175 103 = some ((.aload_n 0), 1, 0, 0, 0, 0, 0) := (zl175_5 (Nat.le_of_ble_eq_true rfl)).trans rfl
theorem f175_104 : zi_fe 175 104 = some ((.aload_n 0), 1, 0, 0, 0, 0, 0) := (zl175_5 (Nat.le_of_ble_eq_true rfl)).trans rfl
theorem f175_105 : zi_fe 175 105 = some ((.getfield 7), 3, 8, 0, 3, 1065, 0) := (zl175_5 (Nat.le_of_ble_eq_true rfl)).trans rfl
theorem f175_108 : zi_fe 175 108 = some ((.sipush 313), 3, 0, 0, 0, 0, 0) := (zl175_5 (Nat.le_of_ble_eq_true rfl)).trans rfl
theorem f175_111 : zi_fe 175 111 = some (.iaload, 1, 0, 0, 0, 0, 0) := (zl175_5 (Nat.le_of_ble_eq_true rfl)).trans rfl
theorem f175_112 : zi_fe 175 112 = some ((.iconst 0), 1, 0, 0, 0, 0, 0) := (zl175_5 (Nat.le_of_ble_eq_true rfl)).trans rfl
theorem f175_113 : zi_fe 175 113 = some ((.invokevirtual 87), 3, 144, 0, 8, 1261, 3) := (zl175_5 (Nat.le_of_ble_eq_true rfl)).trans rfl
theorem f175_116 : zi_fe 175 116 = some ((.iload_n 3), 1, 0, 0, 0, 0, 0) := (zl175_5 (Nat.le_of_ble_eq_true rfl)).trans rfl
theorem f175_117 : zi_fe 175 117 = some ((.if_icmp .lt 43), 3, 0, 0, 0, 0, 0) := (zl175_5 (Nat.le_of_ble_eq_true rfl)).trans rfl
theorem f175_120 : zi_fe 175 120 = some ((.aload_n 0), 1, 0, 0, 0, 0, 0) := (zl175_5 (Nat.le_of_ble_eq_true rfl)).trans rfl
theorem f175_121 : zi_fe 175 121 = some ((.iload_n 2), 1, 0, 0, 0, 0, 0) := (zl175_5 (Nat.le_of_ble_eq_true rfl)).trans rfl
theorem zl175_6 {pc : Nat} (h : 122 ≤ pc) : zi_fe 175 pc = zu175_6.lookup pc := (zl175_5 (Nat.le_trans (Nat.le_of_ble_eq_true rfl) h)).trans (zi_lkA (a := zi_i175_5) (c := 122) rfl h)
theorem f175_122 : zi_fe 175 122 = some ((.iconst 0), 1, 0, 0, 0, 0, 0) := (zl175_6 (Nat.le_of_ble_eq_true rfl)).trans rfl
theorem f175_123 : zi_fe 175 123 = some ((.invokevirtual 87), 3, 144, 0, 8, 1261, 3) := (zl175_6 (Nat.le_of_ble_eq_true rfl)).trans rfl
theorem f175_126 : zi_fe 175 126 = some ((.iload_n 3), 1, 0, 0, 0, 0, 0) := (zl175_6 (Nat.le_of_ble_eq_true rfl)).trans rfl
theorem f175_127 : zi_fe 175 127 = some ((.if_icmp .ne 33), 3, 0, 0, 0, 0, 0) := (zl175_6 (Nat.le_of_ble_eq_true rfl)).trans rfl
theorem f175_130 : zi_fe 175 130 = some ((.aload_n 0), 1, 0, 0, 0, 0, 0) := (zl175_6 (Nat.le_of_ble_eq_true rfl)).trans rfl
theorem f175_131 : zi_fe 175 131 = some ((.iload_n 1), 1, 0, 0, 0, 0, 0) := (zl175_6 (Nat.le_of_ble_eq_true rfl)).trans rfl
theorem f175_132 : zi_fe 175 132 = some ((.bipush 8), 2, 0, 0, 0, 0, 0) := (zl175_6 (Nat.le_of_ble_eq_true rfl)).trans rfl
theorem f175_134 : zi_fe 175 134 = some ((.invokevirtual 83), 3, 146, 0, 8, 1276, 3) := (zl175_6 (Nat.le_of_ble_eq_true rfl)).trans rfl
theorem f175_137 : zi_fe 175 137 = some ((.aload_n 0), 1, 0, 0, 0, 0, 0) := (zl175_6 (Nat.le_of_ble_eq_true rfl)).trans rfl
theorem f175_138 : zi_fe 175 138 = some ((.iload_n 2), 1, 0, 0, 0, 0, 0) := (zl175_6 (Nat.le_of_ble_eq_true rfl)).trans rfl
theorem f175_139 : zi_fe 175 139 = some ((.iconst 2), 1, 0, 0, 0, 0, 0) := (zl175_6 (Nat.le_of_ble_eq_true rfl)).trans rfl
theorem f175_140 : zi_fe 175 140 = some ((.invokevirtual 87), 3, 144, 0, 8, 1261, 3) := (zl175_6 (Nat.le_of_ble_eq_true rfl)).trans rfl
theorem zl175_7 {pc : Nat} (h : 143 ≤ pc) : zi_fe 175 pc = zu175_7.lookup pc := (zl175_6 (Nat.le_trans (Nat.le_of_ble_eq_true rfl) h)).trans (zi_lkA (a := zi_i175_6) (c := 143) rfl h)
theorem f175_143 : zi_fe 175 143 = some ((.if_icmp .gt 17), 3, 0, 0, 0, 0, 0) := (zl175_7 (Nat.le_of_ble_eq_true rfl)).trans rfl
theorem f175_146 : zi_fe 175 146 = some ((.aload_n 0), 1, 0, 0, 0, 0, 0) := (zl175_7 (Nat.le_of_ble_eq_true rfl)).trans rfl
theorem f175_147 : zi_fe 175 147 = some ((.iload_n 2), 1, 0, 0, 0, 0, 0) := (zl175_7 (Nat.le_of_ble_eq_true rfl)).trans rfl
theorem f175_148 : zi_fe 175 148 = some ((.invokevirtual 122), 3, 149, 0, 8, 1287, 2) := (zl175_7 (Nat.le_of_ble_eq_true rfl)).trans rfl
theorem f175_151 : zi_fe 175 151 = some ((.bipush (-4)), 2, 0, 0, 0, 0, 0) := (zl175_7 (Nat.le_of_ble_eq_true rfl)).trans rfl
theorem f175_153 : zi_fe 175 153 = some ((.if_icmp .eq 7), 3, 0, 0, 0, 0, 0) := (zl175_7 (Nat.le_of_ble_eq_true rfl)).trans rfl
theorem f175_156 : zi_fe 175 156 = some ((.iconst 1), 1, 0, 0, 0, 0, 0) := (zl175_7 (Nat.le_of_ble_eq_true rfl)).trans rfl
theorem f175_157 : zi_fe 175 157 = some ((.goto 4), 3, 0, 0, 0, 0, 0) := (zl175_7 (Nat.le_of_ble_eq_true rfl)).trans rfl
theorem f175_160 : zi_fe 175 160 = some ((.iconst 0), 1, 0, 0, 0, 0, 0) := (zl175_7 (Nat.le_of_ble_eq_true rfl)).trans rfl
theorem f175_161 : zi_fe 175 161 = some (.ireturn, 1, 1, 0, 0, 0, 0) := (zl175_7 (Nat.le_of_ble_eq_true rfl)).trans rfl
theorem b175_0 {h : zi_Hp} {a0 : Nat} {x1 : Int32} {u2 : Value} {u3 : Value} (g0 : a0 < zh_n h) (g1 : (zh_k h a0).1 = 8) : zv 3 175 0 [.ref a0, .int x1, u2, u3] [] h = (zv 1 146 0 [.ref a0, .int x1, .int 3] [] h).bind fun r => zv 3 175 6 [.ref a0, .int x1, u2, u3] (r.1.toList ++ []) r.2 := by
  refine Eq.trans (zv_next f175_0 rfl) ?_
  refine Eq.trans (zv_next f175_1 rfl) ?_
  refine Eq.trans (zs_ic f175_2 ic_3) ?_
  exact zs_callV f175_3 (Nat.le_of_ble_eq_true rfl) (Nat.le_of_ble_eq_true rfl) rfl g0 g1 me_146 (by decide) rfl
theorem b175_6 {h : zi_Hp} {a0 : Nat} {x1 : Int32} {u2 : Value} {u3 : Value} {s0 : Int32} (g0 : a0 < zh_n h) (g1 : (zh_k h a0).1 = 8) : zv 3 175 6 [.ref a0, .int x1, u2, u3] [.int s0] h = (zv 1 146 0 [.ref a0, .int x1, .int 0] [] h).bind fun r => zv 3 175 13 [.ref a0, .int x1, .int s0, u3] (r.1.toList ++ []) r.2 := by
  refine Eq.trans (zv_next f175_6 rfl) ?_
  refine Eq.trans (zv_next f175_7 rfl) ?_
  refine Eq.trans (zv_next f175_8 rfl) ?_
  refine Eq.trans (zs_ic f175_9 ic_0) ?_
  exact zs_callV f175_10 (Nat.le_of_ble_eq_true rfl) (Nat.le_of_ble_eq_true rfl) rfl g0 g1 me_146 (by decide) rfl
theorem b175_13 {h : zi_Hp} {a0 : Nat} {x1 : Int32} {x2 : Int32} {u3 : Value} {s0 : Int32}  : zv 3 175 13 [.ref a0, .int x1, .int x2, u3] [.int s0] h = if s0 = 1 then zv 3 175 17 [.ref a0, .int x1, .int x2, u3] [] h else zv 3 175 85 [.ref a0, .int x1, .int x2, u3] [] h := by
  refine Eq.trans (zs_ic f175_13 ic_1) ?_
  exact zs_icmp f175_14 rfl
theorem b175_17 {h : zi_Hp} {a0 : Nat} {x1 : Int32} {x2 : Int32} {u3 : Value} (g0 : a0 < zh_n h) (g1 : (zh_k h a0).1 = 8) : zv 3 175 17 [.ref a0, .int x1, .int x2, u3] [] h = (zv 1 144 0 [.ref a0, .int x2, .int 4] [] h).bind fun r => zv 3 175 23 [.ref a0, .int x1, .int x2, u3] (r.1.toList ++ []) r.2 := by
  refine Eq.trans (zv_next f175_17 rfl) ?_
  refine Eq.trans (zv_next f175_18 rfl) ?_
  refine Eq.trans (zs_ic f175_19 ic_4) ?_
  exact zs_callV f175_20 (Nat.le_of_ble_eq_true rfl) (Nat.le_of_ble_eq_true rfl) rfl g0 g1 me_144 (by decide) rfl
theorem b175_23 {h : zi_Hp} {a0 : Nat} {x1 : Int32} {x2 : Int32} {u3 : Value} {s0 : Int32}  : zv 3 175 23 [.ref a0, .int x1, .int x2, u3] [.int s0] h = if s0 = 0 then zv 3 175 26 [.ref a0, .int x1, .int x2, u3] [] h else zv 3 175 54 [.ref a0, .int x1, .int x2, u3] [] h := by
  exact zs_if f175_23 rfl
theorem b175_26 {h : zi_Hp} {a0 : Nat} {x1 : Int32} {x2 : Int32} {u3 : Value} (g0 : a0 < zh_n h) (g1 : (zh_k h a0).1 = 8) : zv 3 175 26 [.ref a0, .int x1, .int x2, u3] [] h = (zv 1 146 0 [.ref a0, .int x1, .int 2] [] h).bind fun r => zv 3 175 32 [.ref a0, .int x1, .int x2, u3] (r.1.toList ++ []) r.2 := by
  refine Eq.trans (zv_next f175_26 rfl) ?_
  refine Eq.trans (zv_next f175_27 rfl) ?_
  refine Eq.trans (zs_ic f175_28 ic_2) ?_
  exact zs_callV f175_29 (Nat.le_of_ble_eq_true rfl) (Nat.le_of_ble_eq_true rfl) rfl g0 g1 me_146 (by decide) rfl
theorem b175_32 {h : zi_Hp} {a0 : Nat} {x1 : Int32} {x2 : Int32} {u3 : Value} {s0 : Int32} (g0 : a0 < zh_n h) (g1 : (zh_k h a0).1 = 8) : zv 3 175 32 [.ref a0, .int x1, .int x2, u3] [.int s0] h = (zv 1 144 0 [.ref a0, .int x2, .int 2] [] h).bind fun r => zv 3 175 38 [.ref a0, .int x1, .int x2, u3] (r.1.toList ++ [.int s0]) r.2 := by
  refine Eq.trans (zv_next f175_32 rfl) ?_
  refine Eq.trans (zv_next f175_33 rfl) ?_
  refine Eq.trans (zs_ic f175_34 ic_2) ?_
  exact zs_callV f175_35 (Nat.le_of_ble_eq_true rfl) (Nat.le_of_ble_eq_true rfl) rfl g0 g1 me_144 (by decide) rfl
theorem b175_38 {h : zi_Hp} {a0 : Nat} {x1 : Int32} {x2 : Int32} {u3 : Value} {s0 : Int32} {s1 : Int32}  : zv 3 175 38 [.ref a0, .int x1, .int x2, u3] [.int s1, .int s0] h = if s1 < s0 then zv 3 175 54 [.ref a0, .int x1, .int x2, u3] [] h else zv 3 175 41 [.ref a0, .int x1, .int x2, u3] [] h := by
  exact zs_icmp f175_38 rfl
theorem b175_41 {h : zi_Hp} {a0 : Nat} {x1 : Int32} {x2 : Int32} {u3 : Value} (g0 : a0 < zh_n h) (g1 : (zh_k h a0).1 = 8) : zv 3 175 41 [.ref a0, .int x1, .int x2, u3] [] h = (zv 1 144 0 [.ref a0, .int x2, .int 0] [] h).bind fun r => zv 3 175 47 [.ref a0, .int x1, .int x2, u3] (r.1.toList ++ []) r.2 := by
  refine Eq.trans (zv_next f175_41 rfl) ?_
  refine Eq.trans (zv_next f175_42 rfl) ?_
  refine Eq.trans (zs_ic f175_43 ic_0) ?_
  exact zs_callV f175_44 (Nat.le_of_ble_eq_true rfl) (Nat.le_of_ble_eq_true rfl) rfl g0 g1 me_144 (by decide) rfl
theorem b175_47 {h : zi_Hp} {a0 : Nat} {x1 : Int32} {x2 : Int32} {u3 : Value} {s0 : Int32}  : zv 3 175 47 [.ref a0, .int x1, .int x2, u3] [.int s0] h = if s0 = 0 then zv 3 175 50 [.ref a0, .int x1, .int x2, u3] [] h else zv 3 175 54 [.ref a0, .int x1, .int x2, u3] [] h := by
  exact zs_if f175_47 rfl
theorem b175_50 {h : zi_Hp} {a0 : Nat} {x1 : Int32} {x2 : Int32} {u3 : Value}  : zv 3 175 50 [.ref a0, .int x1, .int x2, u3] [] h = zv 3 175 55 [.ref a0, .int x1, .int x2, u3] [.int 1] h := by
  refine Eq.trans (zs_ic f175_50 ic_1) ?_
  refine Eq.trans (zs_goto (tgt := 55) f175_51 rfl) ?_
  rfl
theorem b175_54 {h : zi_Hp} {a0 : Nat} {x1 : Int32} {x2 : Int32} {u3 : Value}  : zv 3 175 54 [.ref a0, .int x1, .int x2, u3] [] h = zv 3 175 55 [.ref a0, .int x1, .int x2, u3] [.int 0] h := by
  refine Eq.trans (zs_ic f175_54 ic_0) ?_
  rfl
theorem b175_55 {h : zi_Hp} {a0 : Nat} {x1 : Int32} {x2 : Int32} {u3 : Value} {s0 : Int32}  : zv 3 175 55 [.ref a0, .int x1, .int x2, u3] [.int s0] h = if s0 = 0 then zv 3 175 83 [.ref a0, .int x1, .int x2, .int s0] [] h else zv 3 175 60 [.ref a0, .int x1, .int x2, .int s0] [] h := by
  refine Eq.trans (zv_next f175_55 rfl) ?_
  refine Eq.trans (zv_next f175_56 rfl) ?_
  exact zs_if f175_57 rfl
theorem b175_60 {h : zi_Hp} {a0 : Nat} {x1 : Int32} {x2 : Int32} {x3 : Int32} (g0 : a0 < zh_n h) (g1 : (zh_k h a0).1 = 8) : zv 3 175 60 [.ref a0, .int x1, .int x2, .int x3] [] h = (zv 1 146 0 [.ref a0, .int x1, .int 1] [] h).bind fun r => zv 3 175 66 [.ref a0, .int x1, .int x2, .int x3] (r.1.toList ++ []) r.2 := by
  refine Eq.trans (zv_next f175_60 rfl) ?_
  refine Eq.trans (zv_next f175_61 rfl) ?_
  refine Eq.trans (zs_ic f175_62 ic_1) ?_
  exact zs_callV f175_63 (Nat.le_of_ble_eq_true rfl) (Nat.le_of_ble_eq_true rfl) rfl g0 g1 me_146 (by decide) rfl
theorem b175_66 {h : zi_Hp} {a0 : Nat} {x1 : Int32} {x2 : Int32} {x3 : Int32} {s0 : Int32}  : zv 3 175 66 [.ref a0, .int x1, .int x2, .int x3] [.int s0] h = if s0 = 0 then zv 3 175 83 [.ref a0, .int x1, .int x2, .int x3] [] h else zv 3 175 69 [.ref a0, .int x1, .int x2, .int x3] [] h := by
  exact zs_if f175_66 rfl
theorem b175_69 {h : zi_Hp} {a0 : Nat} {x1 : Int32} {x2 : Int32} {x3 : Int32} (g0 : a0 < zh_n h) (g1 : (zh_k h a0).1 = 8) : zv 3 175 69 [.ref a0, .int x1, .int x2, .int x3] [] h = (zv 2 149 0 [.ref a0, .int x2, .double 0, .double 0, .double 0] [] h).bind fun r => zv 3 175 74 [.ref a0, .int x1, .int x2, .int x3] (r.1.toList ++ []) r.2 := by
  refine Eq.trans (zv_next f175_69 rfl) ?_
  refine Eq.trans (zv_next f175_70 rfl) ?_
  exact zs_callV f175_71 (Nat.le_of_ble_eq_true rfl) (Nat.le_of_ble_eq_true rfl) rfl g0 g1 me_149 (by decide) rfl
theorem b175_74 {h : zi_Hp} {a0 : Nat} {x1 : Int32} {x2 : Int32} {x3 : Int32} {s0 : Int32}  : zv 3 175 74 [.ref a0, .int x1, .int x2, .int x3] [.int s0] h = if s0 = (-4) then zv 3 175 83 [.ref a0, .int x1, .int x2, .int x3] [] h else zv 3 175 79 [.ref a0, .int x1, .int x2, .int x3] [] h := by
  refine Eq.trans (zs_bp f175_74 bp_m4) ?_
  exact zs_icmp f175_76 rfl
theorem b175_79 {h : zi_Hp} {a0 : Nat} {x1 : Int32} {x2 : Int32} {x3 : Int32}  : zv 3 175 79 [.ref a0, .int x1, .int x2, .int x3] [] h = zv 3 175 84 [.ref a0, .int x1, .int x2, .int x3] [.int 1] h := by
  refine Eq.trans (zs_ic f175_79 ic_1) ?_
  refine Eq.trans (zs_goto (tgt := 84) f175_80 rfl) ?_
  rfl
theorem b175_83 {h : zi_Hp} {a0 : Nat} {x1 : Int32} {x2 : Int32} {x3 : Int32}  : zv 3 175 83 [.ref a0, .int x1, .int x2, .int x3] [] h = zv 3 175 84 [.ref a0, .int x1, .int x2, .int x3] [.int 0] h := by
  refine Eq.trans (zs_ic f175_83 ic_0) ?_
  rfl
theorem b175_84 {h : zi_Hp} {a0 : Nat} {x1 : Int32} {x2 : Int32} {x3 : Int32} {s0 : Int32} (g0 : s0 = 0 ∨ s0 = 1) : zv 3 175 84 [.ref a0, .int x1, .int x2, .int x3] [.int s0] h = some (some (.int s0), h) := by
  exact zs_ret1 f175_84 g0
theorem b175_85 {h : zi_Hp} {a0 : Nat} {x1 : Int32} {x2 : Int32} {u3 : Value} (g0 : a0 < zh_n h) (g1 : (zh_k h a0).1 = 8) : zv 3 175 85 [.ref a0, .int x1, .int x2, u3] [] h = (zv 1 146 0 [.ref a0, .int x1, .int 10] [] h).bind fun r => zv 3 175 92 [.ref a0, .int x1, .int x2, u3] (r.1.toList ++ []) r.2 := by
  refine Eq.trans (zv_next f175_85 rfl) ?_
  refine Eq.trans (zv_next f175_86 rfl) ?_
  refine Eq.trans (zs_bp f175_87 bp_10) ?_
  exact zs_callV f175_89 (Nat.le_of_ble_eq_true rfl) (Nat.le_of_ble_eq_true rfl) rfl g0 g1 me_146 (by decide) rfl
theorem b175_92 {h : zi_Hp} {a0 : Nat} {x1 : Int32} {x2 : Int32} {u3 : Value} {s0 : Int32} (g0 : a0 < zh_n h) (g1 : (zh_k h a0).1 = 8) : zv 3 175 92 [.ref a0, .int x1, .int x2, u3] [.int s0] h = (zv 1 146 0 [.ref a0, .int x1, .int 0] [] h).bind fun r => zv 3 175 99 [.ref a0, .int x1, .int x2, .int s0] (r.1.toList ++ []) r.2 := by
  refine Eq.trans (zv_next f175_92 rfl) ?_
  refine Eq.trans (zv_next f175_93 rfl) ?_
  refine Eq.trans (zv_next f175_94 rfl) ?_
  refine Eq.trans (zs_ic f175_95 ic_0) ?_
  exact zs_callV f175_96 (Nat.le_of_ble_eq_true rfl) (Nat.le_of_ble_eq_true rfl) rfl g0 g1 me_146 (by decide) rfl
theorem b175_99 {h : zi_Hp} {a0 : Nat} {x1 : Int32} {x2 : Int32} {x3 : Int32} {s0 : Int32}  : zv 3 175 99 [.ref a0, .int x1, .int x2, .int x3] [.int s0] h = if s0 = 3 then zv 3 175 103 [.ref a0, .int x1, .int x2, .int x3] [] h else zv 3 175 160 [.ref a0, .int x1, .int x2, .int x3] [] h := by
  refine Eq.trans (zs_ic f175_99 ic_3) ?_
  exact zs_icmp f175_100 rfl
theorem b175_103 {h : zi_Hp} {a0 : Nat} {x1 : Int32} {x2 : Int32} {x3 : Int32} (g0 : a0 < zh_n h) (g1 : (zh_k h a0).1 = 8) (g2 : zh_r h a0 0 = .ref (zq (zh_r h a0 0))) (g3 : (zq (zh_r h a0 0)) < zh_n h) (g4 : 313 < (zh_k h (zq (zh_r h a0 0))).2) (g5 : (zh_k h (zq (zh_r h a0 0))).1 = 100) : zv 3 175 103 [.ref a0, .int x1, .int x2, .int x3] [] h = (zv 1 144 0 [.ref a0, .int (zh_i h (zq (zh_r h a0 0)) 313), .int 0] [] h).bind fun r => zv 3 175 116 [.ref a0, .int x1, .int x2, .int x3] (r.1.toList ++ []) r.2 := by
  refine Eq.trans (zv_next f175_103 rfl) ?_
  refine Eq.trans (zv_next f175_104 rfl) ?_
  refine Eq.trans (zs_getr f175_105 g0 g1 g2) ?_
  refine Eq.trans (zs_sp f175_108 sp_313) ?_
  refine Eq.trans (zs_iald f175_111 g3 g5 (zj_lit (by decide) g4)) ?_
  refine Eq.trans (zs_ic f175_112 ic_0) ?_
  exact zs_callV f175_113 (Nat.le_of_ble_eq_true rfl) (Nat.le_of_ble_eq_true rfl) rfl g0 g1 me_144 (by decide) rfl
theorem b175_116 {h : zi_Hp} {a0 : Nat} {x1 : Int32} {x2 : Int32} {x3 : Int32} {s0 : Int32}  : zv 3 175 116 [.ref a0, .int x1, .int x2, .int x3] [.int s0] h = if s0 < x3 then zv 3 175 160 [.ref a0, .int x1, .int x2, .int x3] [] h else zv 3 175 120 [.ref a0, .int x1, .int x2, .int x3] [] h := by
  refine Eq.trans (zv_next f175_116 rfl) ?_
  exact zs_icmp f175_117 rfl
theorem b175_120 {h : zi_Hp} {a0 : Nat} {x1 : Int32} {x2 : Int32} {x3 : Int32} (g0 : a0 < zh_n h) (g1 : (zh_k h a0).1 = 8) : zv 3 175 120 [.ref a0, .int x1, .int x2, .int x3] [] h = (zv 1 144 0 [.ref a0, .int x2, .int 0] [] h).bind fun r => zv 3 175 126 [.ref a0, .int x1, .int x2, .int x3] (r.1.toList ++ []) r.2 := by
  refine Eq.trans (zv_next f175_120 rfl) ?_
  refine Eq.trans (zv_next f175_121 rfl) ?_
  refine Eq.trans (zs_ic f175_122 ic_0) ?_
  exact zs_callV f175_123 (Nat.le_of_ble_eq_true rfl) (Nat.le_of_ble_eq_true rfl) rfl g0 g1 me_144 (by decide) rfl
theorem b175_126 {h : zi_Hp} {a0 : Nat} {x1 : Int32} {x2 : Int32} {x3 : Int32} {s0 : Int32}  : zv 3 175 126 [.ref a0, .int x1, .int x2, .int x3] [.int s0] h = if s0 = x3 then zv 3 175 130 [.ref a0, .int x1, .int x2, .int x3] [] h else zv 3 175 160 [.ref a0, .int x1, .int x2, .int x3] [] h := by
  refine Eq.trans (zv_next f175_126 rfl) ?_
  exact zs_icmp f175_127 rfl
theorem b175_130 {h : zi_Hp} {a0 : Nat} {x1 : Int32} {x2 : Int32} {x3 : Int32} (g0 : a0 < zh_n h) (g1 : (zh_k h a0).1 = 8) : zv 3 175 130 [.ref a0, .int x1, .int x2, .int x3] [] h = (zv 1 146 0 [.ref a0, .int x1, .int 8] [] h).bind fun r => zv 3 175 137 [.ref a0, .int x1, .int x2, .int x3] (r.1.toList ++ []) r.2 := by
  refine Eq.trans (zv_next f175_130 rfl) ?_
  refine Eq.trans (zv_next f175_131 rfl) ?_
  refine Eq.trans (zs_bp f175_132 bp_8) ?_
  exact zs_callV f175_134 (Nat.le_of_ble_eq_true rfl) (Nat.le_of_ble_eq_true rfl) rfl g0 g1 me_146 (by decide) rfl
theorem b175_137 {h : zi_Hp} {a0 : Nat} {x1 : Int32} {x2 : Int32} {x3 : Int32} {s0 : Int32} (g0 : a0 < zh_n h) (g1 : (zh_k h a0).1 = 8) : zv 3 175 137 [.ref a0, .int x1, .int x2, .int x3] [.int s0] h = (zv 1 144 0 [.ref a0, .int x2, .int 2] [] h).bind fun r => zv 3 175 143 [.ref a0, .int x1, .int x2, .int x3] (r.1.toList ++ [.int s0]) r.2 := by
  refine Eq.trans (zv_next f175_137 rfl) ?_
  refine Eq.trans (zv_next f175_138 rfl) ?_
  refine Eq.trans (zs_ic f175_139 ic_2) ?_
  exact zs_callV f175_140 (Nat.le_of_ble_eq_true rfl) (Nat.le_of_ble_eq_true rfl) rfl g0 g1 me_144 (by decide) rfl
theorem b175_143 {h : zi_Hp} {a0 : Nat} {x1 : Int32} {x2 : Int32} {x3 : Int32} {s0 : Int32} {s1 : Int32}  : zv 3 175 143 [.ref a0, .int x1, .int x2, .int x3] [.int s1, .int s0] h = if s1 < s0 then zv 3 175 160 [.ref a0, .int x1, .int x2, .int x3] [] h else zv 3 175 146 [.ref a0, .int x1, .int x2, .int x3] [] h := by
  exact zs_icmp f175_143 rfl
theorem b175_146 {h : zi_Hp} {a0 : Nat} {x1 : Int32} {x2 : Int32} {x3 : Int32} (g0 : a0 < zh_n h) (g1 : (zh_k h a0).1 = 8) : zv 3 175 146 [.ref a0, .int x1, .int x2, .int x3] [] h = (zv 2 149 0 [.ref a0, .int x2, .double 0, .double 0, .double 0] [] h).bind fun r => zv 3 175 151 [.ref a0, .int x1, .int x2, .int x3] (r.1.toList ++ []) r.2 := by
  refine Eq.trans (zv_next f175_146 rfl) ?_
  refine Eq.trans (zv_next f175_147 rfl) ?_
  exact zs_callV f175_148 (Nat.le_of_ble_eq_true rfl) (Nat.le_of_ble_eq_true rfl) rfl g0 g1 me_149 (by decide) rfl
theorem b175_151 {h : zi_Hp} {a0 : Nat} {x1 : Int32} {x2 : Int32} {x3 : Int32} {s0 : Int32}  : zv 3 175 151 [.ref a0, .int x1, .int x2, .int x3] [.int s0] h = if s0 = (-4) then zv 3 175 160 [.ref a0, .int x1, .int x2, .int x3] [] h else zv 3 175 156 [.ref a0, .int x1, .int x2, .int x3] [] h := by
  refine Eq.trans (zs_bp f175_151 bp_m4) ?_
  exact zs_icmp f175_153 rfl
theorem b175_156 {h : zi_Hp} {a0 : Nat} {x1 : Int32} {x2 : Int32} {x3 : Int32}  : zv 3 175 156 [.ref a0, .int x1, .int x2, .int x3] [] h = zv 3 175 161 [.ref a0, .int x1, .int x2, .int x3] [.int 1] h := by
  refine Eq.trans (zs_ic f175_156 ic_1) ?_
  refine Eq.trans (zs_goto (tgt := 161) f175_157 rfl) ?_
  rfl
theorem b175_160 {h : zi_Hp} {a0 : Nat} {x1 : Int32} {x2 : Int32} {x3 : Int32}  : zv 3 175 160 [.ref a0, .int x1, .int x2, .int x3] [] h = zv 3 175 161 [.ref a0, .int x1, .int x2, .int x3] [.int 0] h := by
  refine Eq.trans (zs_ic f175_160 ic_0) ?_
  rfl
theorem b175_161 {h : zi_Hp} {a0 : Nat} {x1 : Int32} {x2 : Int32} {x3 : Int32} {s0 : Int32} (g0 : s0 = 0 ∨ s0 = 1) : zv 3 175 161 [.ref a0, .int x1, .int x2, .int x3] [.int s0] h = some (some (.int s0), h) := by
  exact zs_ret1 f175_161 g0
set_option maxRecDepth 20000 in
theorem zq176 : zi_M[176]? = some zi_m176 := rfl
theorem zl176_0 {pc : Nat} (_ : 0 ≤ pc) : zi_fe 176 pc = zu176_0.lookup pc := zi_feA zq176 pc
theorem f176_0 : zi_fe 176 0 = some ((.aload_n 0), 1, 0, 0, 0, 0, 0) := (zl176_0 (Nat.le_of_ble_eq_true rfl)).trans rfl
theorem f176_1 : zi_fe 176 1 = some ((.iload_n 1), 1, 0, 0, 0, 0, 0) := (zl176_0 (Nat.le_of_ble_eq_true rfl)).trans rfl
theorem f176_2 : zi_fe 176 2 = some ((.iconst 0), 1, 0, 0, 0, 0, 0) := (zl176_0 (Nat.le_of_ble_eq_true rfl)).trans rfl
theorem f176_3 : zi_fe 176 3 = some ((.invokevirtual 83), 3, 146, 0, 8, 1276, 3) := (zl176_0 (Nat.le_of_ble_eq_true rfl)).trans rfl
theorem f176_6 : zi_fe 176 6 = some ((.invokestatic 172), 3, 173, 1, 8, 1280, 1) := (zl176_0 (Nat.le_of_ble_eq_true rfl)).trans rfl
theorem f176_9 : zi_fe 176 9 = some ((.ifCond .eq 15), 3, 0, 0, 0, 0, 0) := (zl176_0 (Nat.le_of_ble_eq_true rfl)).trans rfl
theorem f176_12 : zi_fe 176 12 = some ((.aload_n 0), 1, 0, 0, 0, 0, 0) := (zl176_0 (Nat.le_of_ble_eq_true rfl)).trans rfl
theorem f176_13 : zi_fe 176 13 = some ((.iload_n 1), 1, 0, 0, 0, 0, 0) := (zl176_0 (Nat.le_of_ble_eq_true rfl)).trans rfl
theorem f176_14 : zi_fe 176 14 = some ((.invokevirtual 182), 3, 175, 0, 8, 1283, 2) := (zl176_0 (Nat.le_of_ble_eq_true rfl)).trans rfl
theorem f176_17 : zi_fe 176 17 = some ((.ifCond .ne 7), 3, 0, 0, 0, 0, 0) := (zl176_0 (Nat.le_of_ble_eq_true rfl)).trans rfl
theorem f176_20 : zi_fe 176 20 = some ((.iconst 1), 1, 0, 0, 0, 0, 0) := (zl176_0 (Nat.le_of_ble_eq_true rfl)).trans rfl
theorem f176_21 : zi_fe 176 21 = some ((.goto 4), 3, 0, 0, 0, 0, 0) := (zl176_0 (Nat.le_of_ble_eq_true rfl)).trans rfl
theorem zl176_1 {pc : Nat} (h : 24 ≤ pc) : zi_fe 176 pc = zu176_1.lookup pc := (zl176_0 (Nat.le_trans (Nat.le_of_ble_eq_true rfl) h)).trans (zi_lkA (a := zi_i176_0) (c := 24) rfl h)
theorem f176_24 : zi_fe 176 24 = some ((.iconst 0), 1, 0, 0, 0, 0, 0) := (zl176_1 (Nat.le_of_ble_eq_true rfl)).trans rfl
theorem f176_25 : zi_fe 176 25 = some (.ireturn, 1, 1, 0, 0, 0, 0) := (zl176_1 (Nat.le_of_ble_eq_true rfl)).trans rfl
theorem b176_0 {h : zi_Hp} {a0 : Nat} {x1 : Int32} (g0 : a0 < zh_n h) (g1 : (zh_k h a0).1 = 8) : zv 4 176 0 [.ref a0, .int x1] [] h = (zv 1 146 0 [.ref a0, .int x1, .int 0] [] h).bind fun r => zv 4 176 6 [.ref a0, .int x1] (r.1.toList ++ []) r.2 := by
  refine Eq.trans (zv_next f176_0 rfl) ?_
  refine Eq.trans (zv_next f176_1 rfl) ?_
  refine Eq.trans (zs_ic f176_2 ic_0) ?_
  exact zs_callV f176_3 (Nat.le_of_ble_eq_true rfl) (Nat.le_of_ble_eq_true rfl) rfl g0 g1 me_146 (by decide) rfl
theorem b176_6 {h : zi_Hp} {a0 : Nat} {x1 : Int32} {s0 : Int32}  : zv 4 176 6 [.ref a0, .int x1] [.int s0] h = (zv 1 173 0 [.int s0] [] h).bind fun r => zv 4 176 9 [.ref a0, .int x1] (r.1.toList ++ []) r.2 := by
  exact zs_callS f176_6 (by decide) (Nat.le_of_ble_eq_true rfl) (Nat.le_of_ble_eq_true rfl) rfl me_173 (by decide) rfl
theorem b176_9 {h : zi_Hp} {a0 : Nat} {x1 : Int32} {s0 : Int32}  : zv 4 176 9 [.ref a0, .int x1] [.int s0] h = if s0 = 0 then zv 4 176 24 [.ref a0, .int x1] [] h else zv 4 176 12 [.ref a0, .int x1] [] h := by
  exact zs_if f176_9 rfl
theorem b176_12 {h : zi_Hp} {a0 : Nat} {x1 : Int32} (g0 : a0 < zh_n h) (g1 : (zh_k h a0).1 = 8) : zv 4 176 12 [.ref a0, .int x1] [] h = (zv 3 175 0 [.ref a0, .int x1, .double 0, .double 0] [] h).bind fun r => zv 4 176 17 [.ref a0, .int x1] (r.1.toList ++ []) r.2 := by
  refine Eq.trans (zv_next f176_12 rfl) ?_
  refine Eq.trans (zv_next f176_13 rfl) ?_
  exact zs_callV f176_14 (Nat.le_of_ble_eq_true rfl) (Nat.le_of_ble_eq_true rfl) rfl g0 g1 me_175 (by decide) rfl
theorem b176_17 {h : zi_Hp} {a0 : Nat} {x1 : Int32} {s0 : Int32}  : zv 4 176 17 [.ref a0, .int x1] [.int s0] h = if s0 = 0 then zv 4 176 20 [.ref a0, .int x1] [] h else zv 4 176 24 [.ref a0, .int x1] [] h := by
  exact zs_if f176_17 rfl
theorem b176_20 {h : zi_Hp} {a0 : Nat} {x1 : Int32}  : zv 4 176 20 [.ref a0, .int x1] [] h = zv 4 176 25 [.ref a0, .int x1] [.int 1] h := by
  refine Eq.trans (zs_ic f176_20 ic_1) ?_
  refine Eq.trans (zs_goto (tgt := 25) f176_21 rfl) ?_
  rfl
theorem b176_24 {h : zi_Hp} {a0 : Nat} {x1 : Int32}  : zv 4 176 24 [.ref a0, .int x1] [] h = zv 4 176 25 [.ref a0, .int x1] [.int 0] h := by
  refine Eq.trans (zs_ic f176_24 ic_0) ?_
  rfl
theorem b176_25 {h : zi_Hp} {a0 : Nat} {x1 : Int32} {s0 : Int32} (g0 : s0 = 0 ∨ s0 = 1) : zv 4 176 25 [.ref a0, .int x1] [.int s0] h = some (some (.int s0), h) := by
  exact zs_ret1 f176_25 g0
set_option maxRecDepth 20000 in
theorem zq177 : zi_M[177]? = some zi_m177 := rfl
theorem zl177_0 {pc : Nat} (_ : 0 ≤ pc) : zi_fe 177 pc = zu177_0.lookup pc := zi_feA zq177 pc
theorem f177_0 : zi_fe 177 0 = some ((.iconst 0), 1, 0, 0, 0, 0, 0) := (zl177_0 (Nat.le_of_ble_eq_true rfl)).trans rfl
theorem f177_1 : zi_fe 177 1 = some ((.istore 4), 2, 0, 0, 0, 0, 0) := (zl177_0 (Nat.le_of_ble_eq_true rfl)).trans rfl
theorem f177_3 : zi_fe 177 3 = some ((.iload 4), 2, 0, 0, 0, 0, 0) := (zl177_0 (Nat.le_of_ble_eq_true rfl)).trans rfl
theorem f177_5 : zi_fe 177 5 = some ((.bipush 24), 2, 0, 0, 0, 0, 0) := (zl177_0 (Nat.le_of_ble_eq_true rfl)).trans rfl
theorem f177_7 : zi_fe 177 7 = some ((.if_icmp .ge 17), 3, 0, 0, 0, 0, 0) := (zl177_0 (Nat.le_of_ble_eq_true rfl)).trans rfl
theorem f177_10 : zi_fe 177 10 = some ((.aload_n 0), 1, 0, 0, 0, 0, 0) := (zl177_0 (Nat.le_of_ble_eq_true rfl)).trans rfl
theorem f177_11 : zi_fe 177 11 = some ((.iload_n 1), 1, 0, 0, 0, 0, 0) := (zl177_0 (Nat.le_of_ble_eq_true rfl)).trans rfl
theorem f177_12 : zi_fe 177 12 = some ((.iload 4), 2, 0, 0, 0, 0, 0) := (zl177_0 (Nat.le_of_ble_eq_true rfl)).trans rfl
theorem f177_14 : zi_fe 177 14 = some ((.iconst 0), 1, 0, 0, 0, 0, 0) := (zl177_0 (Nat.le_of_ble_eq_true rfl)).trans rfl
theorem f177_15 : zi_fe 177 15 = some ((.invokevirtual 102), 3, 147, 0, 8, 1253, 4) := (zl177_0 (Nat.le_of_ble_eq_true rfl)).trans rfl
theorem f177_18 : zi_fe 177 18 = some ((.iinc 4 1), 3, 0, 0, 0, 0, 0) := (zl177_0 (Nat.le_of_ble_eq_true rfl)).trans rfl
theorem f177_21 : zi_fe 177 21 = some ((.goto (-18)), 3, 0, 0, 0, 0, 0) := (zl177_0 (Nat.le_of_ble_eq_true rfl)).trans rfl
theorem zl177_1 {pc : Nat} (h : 24 ≤ pc) : zi_fe 177 pc = zu177_1.lookup pc := (zl177_0 (Nat.le_trans (Nat.le_of_ble_eq_true rfl) h)).trans (zi_lkA (a := zi_i177_0) (c := 24) rfl h)
theorem f177_24 : zi_fe 177 24 = some ((.iconst 0), 1, 0, 0, 0, 0, 0) := (zl177_1 (Nat.le_of_ble_eq_true rfl)).trans rfl
theorem f177_25 : zi_fe 177 25 = some ((.istore 4), 2, 0, 0, 0, 0, 0) := (zl177_1 (Nat.le_of_ble_eq_true rfl)).trans rfl
theorem f177_27 : zi_fe 177 27 = some ((.iload 4), 2, 0, 0, 0, 0, 0) := (zl177_1 (Nat.le_of_ble_eq_true rfl)).trans rfl
theorem f177_29 : zi_fe 177 29 = some ((.bipush 12), 2, 0, 0, 0, 0, 0) := (zl177_1 (Nat.le_of_ble_eq_true rfl)).trans rfl
theorem f177_31 : zi_fe 177 31 = some ((.if_icmp .ge 21), 3, 0, 0, 0, 0, 0) := (zl177_1 (Nat.le_of_ble_eq_true rfl)).trans rfl
theorem f177_34 : zi_fe 177 34 = some ((.aload_n 0), 1, 0, 0, 0, 0, 0) := (zl177_1 (Nat.le_of_ble_eq_true rfl)).trans rfl
theorem f177_35 : zi_fe 177 35 = some ((.iload_n 1), 1, 0, 0, 0, 0, 0) := (zl177_1 (Nat.le_of_ble_eq_true rfl)).trans rfl
theorem f177_36 : zi_fe 177 36 = some ((.bipush 12), 2, 0, 0, 0, 0, 0) := (zl177_1 (Nat.le_of_ble_eq_true rfl)).trans rfl
theorem f177_38 : zi_fe 177 38 = some ((.iload 4), 2, 0, 0, 0, 0, 0) := (zl177_1 (Nat.le_of_ble_eq_true rfl)).trans rfl
theorem f177_40 : zi_fe 177 40 = some (.iadd, 1, 0, 0, 0, 0, 0) := (zl177_1 (Nat.le_of_ble_eq_true rfl)).trans rfl
theorem f177_41 : zi_fe 177 41 = some ((.bipush (-4)), 2, 0, 0, 0, 0, 0) := (zl177_1 (Nat.le_of_ble_eq_true rfl)).trans rfl
theorem f177_43 : zi_fe 177 43 = some ((.invokevirtual 102), 3, 147, 0, 8, 1253, 4) := (zl177_1 (Nat.le_of_ble_eq_true rfl)).trans rfl
theorem zl177_2 {pc : Nat} (h : 46 ≤ pc) : zi_fe 177 pc = zu177_2.lookup pc := (zl177_1 (Nat.le_trans (Nat.le_of_ble_eq_true rfl) h)).trans (zi_lkA (a := zi_i177_1) (c := 46) rfl h)
theorem f177_46 : zi_fe 177 46 = some ((.iinc 4 1), 3, 0, 0, 0, 0, 0) := (zl177_2 (Nat.le_of_ble_eq_true rfl)).trans rfl
theorem f177_49 : zi_fe 177 49 = some ((.goto (-22)), 3, 0, 0, 0, 0, 0) := (zl177_2 (Nat.le_of_ble_eq_true rfl)).trans rfl
theorem f177_52 : zi_fe 177 52 = some ((.aload_n 0), 1, 0, 0, 0, 0, 0) := (zl177_2 (Nat.le_of_ble_eq_true rfl)).trans rfl
theorem f177_53 : zi_fe 177 53 = some ((.iload_n 1), 1, 0, 0, 0, 0, 0) := (zl177_2 (Nat.le_of_ble_eq_true rfl)).trans rfl
theorem f177_54 : zi_fe 177 54 = some ((.iconst 0), 1, 0, 0, 0, 0, 0) := (zl177_2 (Nat.le_of_ble_eq_true rfl)).trans rfl
theorem f177_55 : zi_fe 177 55 = some ((.iconst 1), 1, 0, 0, 0, 0, 0) := (zl177_2 (Nat.le_of_ble_eq_true rfl)).trans rfl
theorem f177_56 : zi_fe 177 56 = some ((.invokevirtual 102), 3, 147, 0, 8, 1253, 4) := (zl177_2 (Nat.le_of_ble_eq_true rfl)).trans rfl
theorem f177_59 : zi_fe 177 59 = some ((.aload_n 0), 1, 0, 0, 0, 0, 0) := (zl177_2 (Nat.le_of_ble_eq_true rfl)).trans rfl
theorem f177_60 : zi_fe 177 60 = some ((.iload_n 1), 1, 0, 0, 0, 0, 0) := (zl177_2 (Nat.le_of_ble_eq_true rfl)).trans rfl
theorem f177_61 : zi_fe 177 61 = some ((.iconst 1), 1, 0, 0, 0, 0, 0) := (zl177_2 (Nat.le_of_ble_eq_true rfl)).trans rfl
theorem f177_62 : zi_fe 177 62 = some ((.iload_n 2), 1, 0, 0, 0, 0, 0) := (zl177_2 (Nat.le_of_ble_eq_true rfl)).trans rfl
theorem f177_63 : zi_fe 177 63 = some ((.invokevirtual 102), 3, 147, 0, 8, 1253, 4) := (zl177_2 (Nat.le_of_ble_eq_true rfl)).trans rfl
theorem zl177_3 {pc : Nat} (h : 66 ≤ pc) : zi_fe 177 pc = zu177_3.lookup pc := (zl177_2 (Nat.le_trans (Nat.le_of_ble_eq_true rfl) h)).trans (zi_lkA (a := zi_i177_2) (c := 66) rfl h)
theorem f177_66 : zi_fe 177 66 = some ((.aload_n 0), 1, 0, 0, 0, 0, 0) := (zl177_3 (Nat.le_of_ble_eq_true rfl)).trans rfl
theorem f177_67 : zi_fe 177 67 = some ((.iload_n 1), 1, 0, 0, 0, 0, 0) := (zl177_3 (Nat.le_of_ble_eq_true rfl)).trans rfl
theorem f177_68 : zi_fe 177 68 = some ((.iconst 2), 1, 0, 0, 0, 0, 0) := (zl177_3 (Nat.le_of_ble_eq_true rfl)).trans rfl
theorem f177_69 : zi_fe 177 69 = some ((.iload_n 3), 1, 0, 0, 0, 0, 0) := (zl177_3 (Nat.le_of_ble_eq_true rfl)).trans rfl
theorem f177_70 : zi_fe 177 70 = some ((.invokevirtual 102), 3, 147, 0, 8, 1253, 4) := (zl177_3 (Nat.le_of_ble_eq_true rfl)).trans rfl
theorem f177_73 : zi_fe 177 73 = some ((.aload_n 0), 1, 0, 0, 0, 0, 0) := (zl177_3 (Nat.le_of_ble_eq_true rfl)).trans rfl
theorem f177_74 : zi_fe 177 74 = some ((.iload_n 1), 1, 0, 0, 0, 0, 0) := (zl177_3 (Nat.le_of_ble_eq_true rfl)).trans rfl
theorem f177_75 : zi_fe 177 75 = some ((.iconst 3), 1, 0, 0, 0, 0, 0) := (zl177_3 (Nat.le_of_ble_eq_true rfl)).trans rfl
theorem f177_76 : zi_fe 177 76 = some ((.aload_n 0), 1, 0, 0, 0, 0, 0) := (zl177_3 (Nat.le_of_ble_eq_true rfl)).trans rfl
theorem f177_77 : zi_fe 177 77 = some ((.getfield 7), 3, 8, 0, 3, 1065, 0) := (zl177_3 (Nat.le_of_ble_eq_true rfl)).trans rfl
theorem f177_80 : zi_fe 177 80 = some ((.sipush 313), 3, 0, 0, 0, 0, 0) := (zl177_3 (Nat.le_of_ble_eq_true rfl)).trans rfl
theorem f177_83 : zi_fe 177 83 = some (.iaload, 1, 0, 0, 0, 0, 0) := (zl177_3 (Nat.le_of_ble_eq_true rfl)).trans rfl
theorem zl177_4 {pc : Nat} (h : 84 ≤ pc) : zi_fe 177 pc = zu177_4.lookup pc := (zl177_3 (Nat.le_trans (Nat.le_of_ble_eq_true rfl) h)).trans (zi_lkA (a := zi_i177_3) (c := 84) rfl h)
theorem f177_84 : zi_fe 177 84 = some ((.invokevirtual 102), 3, 147, 0, 8, 1253, 4) := (zl177_4 (Nat.le_of_ble_eq_true rfl)).trans rfl
theorem f177_87 : zi_fe 177 87 = some ((.aload_n 0), 1, 0, 0, 0, 0, 0) := (zl177_4 (Nat.le_of_ble_eq_true rfl)).trans rfl
theorem f177_88 : zi_fe 177 88 = some ((.iload_n 1), 1, 0, 0, 0, 0, 0) := (zl177_4 (Nat.le_of_ble_eq_true rfl)).trans rfl
theorem f177_89 : zi_fe 177 89 = some ((.iconst 4), 1, 0, 0, 0, 0, 0) := (zl177_4 (Nat.le_of_ble_eq_true rfl)).trans rfl
theorem f177_90 : zi_fe 177 90 = some ((.bipush (-4)), 2, 0, 0, 0, 0, 0) := (zl177_4 (Nat.le_of_ble_eq_true rfl)).trans rfl
theorem f177_92 : zi_fe 177 92 = some ((.invokevirtual 102), 3, 147, 0, 8, 1253, 4) := (zl177_4 (Nat.le_of_ble_eq_true rfl)).trans rfl
theorem f177_95 : zi_fe 177 95 = some ((.aload_n 0), 1, 0, 0, 0, 0, 0) := (zl177_4 (Nat.le_of_ble_eq_true rfl)).trans rfl
theorem f177_96 : zi_fe 177 96 = some ((.iload_n 1), 1, 0, 0, 0, 0, 0) := (zl177_4 (Nat.le_of_ble_eq_true rfl)).trans rfl
theorem f177_97 : zi_fe 177 97 = some ((.iconst 5), 1, 0, 0, 0, 0, 0) := (zl177_4 (Nat.le_of_ble_eq_true rfl)).trans rfl
theorem f177_98 : zi_fe 177 98 = some ((.iconst 1), 1, 0, 0, 0, 0, 0) := (zl177_4 (Nat.le_of_ble_eq_true rfl)).trans rfl
theorem f177_99 : zi_fe 177 99 = some ((.aload_n 0), 1, 0, 0, 0, 0, 0) := (zl177_4 (Nat.le_of_ble_eq_true rfl)).trans rfl
theorem f177_100 : zi_fe 177 100 = some ((.iload_n 3), 1, 0, 0, 0, 0, 0) := (zl177_4 (Nat.le_of_ble_eq_true rfl)).trans rfl
theorem zl177_5 {pc : Nat} (h : 101 ≤ pc) : zi_fe 177 pc = zu177_5.lookup pc := (zl177_4 (Nat.le_trans (Nat.le_of_ble_eq_true rfl) h)).trans (zi_lkA (a := zi_i177_4) (c := 101) rfl h)
theorem f177_101 : zi_fe 177 101 = some ((.invokevirtual 179), 3, 151, 0, 8, 1257, 2) := (zl177_5 (Nat.le_of_ble_eq_true rfl)).trans rfl
theorem f177_104 : zi_fe 177 104 = some (.ishl, 1, 0, 0, 0, 0, 0) := (zl177_5 (Nat.le_of_ble_eq_true rfl)).trans rfl
theorem f177_105 : zi_fe 177 105 = some ((.invokevirtual 102), 3, 147, 0, 8, 1253, 4) := (zl177_5 (Nat.le_of_ble_eq_true rfl)).trans rfl
theorem f177_108 : zi_fe 177 108 = some (.return_, 1, 0, 0, 0, 0, 0) := (zl177_5 (Nat.le_of_ble_eq_true rfl)).trans rfl
theorem b177_0 {h : zi_Hp} {a0 : Nat} {x1 : Int32} {x2 : Int32} {x3 : Int32} {u4 : Value}  : zv 4 177 0 [.ref a0, .int x1, .int x2, .int x3, u4] [] h = zv 4 177 3 [.ref a0, .int x1, .int x2, .int x3, .int 0] [] h := by
  refine Eq.trans (zs_ic f177_0 ic_0) ?_
  refine Eq.trans (zv_next f177_1 rfl) ?_
  rfl
theorem b177_3 {h : zi_Hp} {a0 : Nat} {x1 : Int32} {x2 : Int32} {x3 : Int32} {x4 : Int32}  : zv 4 177 3 [.ref a0, .int x1, .int x2, .int x3, .int x4] [] h = if x4 < 24 then zv 4 177 10 [.ref a0, .int x1, .int x2, .int x3, .int x4] [] h else zv 4 177 24 [.ref a0, .int x1, .int x2, .int x3, .int x4] [] h := by
  refine Eq.trans (zv_next f177_3 rfl) ?_
  refine Eq.trans (zs_bp f177_5 bp_24) ?_
  exact zs_icmp f177_7 rfl
theorem b177_10 {h : zi_Hp} {a0 : Nat} {x1 : Int32} {x2 : Int32} {x3 : Int32} {x4 : Int32} (g0 : a0 < zh_n h) (g1 : (zh_k h a0).1 = 8) : zv 4 177 10 [.ref a0, .int x1, .int x2, .int x3, .int x4] [] h = (zv 1 147 0 [.ref a0, .int x1, .int x4, .int 0] [] h).bind fun r => zv 4 177 18 [.ref a0, .int x1, .int x2, .int x3, .int x4] (r.1.toList ++ []) r.2 := by
  refine Eq.trans (zv_next f177_10 rfl) ?_
  refine Eq.trans (zv_next f177_11 rfl) ?_
  refine Eq.trans (zv_next f177_12 rfl) ?_
  refine Eq.trans (zs_ic f177_14 ic_0) ?_
  exact zs_callV f177_15 (Nat.le_of_ble_eq_true rfl) (Nat.le_of_ble_eq_true rfl) rfl g0 g1 me_147 (by decide) rfl
theorem b177_18 {h : zi_Hp} {a0 : Nat} {x1 : Int32} {x2 : Int32} {x3 : Int32} {x4 : Int32}  : zv 4 177 18 [.ref a0, .int x1, .int x2, .int x3, .int x4] [] h = zv 4 177 3 [.ref a0, .int x1, .int x2, .int x3, .int (x4 + 1)] [] h := by
  refine Eq.trans (zs_inc f177_18 rfl ic_1 rfl) ?_
  refine Eq.trans (zs_goto (tgt := 3) f177_21 rfl) ?_
  rfl
theorem b177_24 {h : zi_Hp} {a0 : Nat} {x1 : Int32} {x2 : Int32} {x3 : Int32} {x4 : Int32}  : zv 4 177 24 [.ref a0, .int x1, .int x2, .int x3, .int x4] [] h = zv 4 177 27 [.ref a0, .int x1, .int x2, .int x3, .int 0] [] h := by
  refine Eq.trans (zs_ic f177_24 ic_0) ?_
  refine Eq.trans (zv_next f177_25 rfl) ?_
  rfl
theorem b177_27 {h : zi_Hp} {a0 : Nat} {x1 : Int32} {x2 : Int32} {x3 : Int32} {x4 : Int32}  : zv 4 177 27 [.ref a0, .int x1, .int x2, .int x3, .int x4] [] h = if x4 < 12 then zv 4 177 34 [.ref a0, .int x1, .int x2, .int x3, .int x4] [] h else zv 4 177 52 [.ref a0, .int x1, .int x2, .int x3, .int x4] [] h := by
  refine Eq.trans (zv_next f177_27 rfl) ?_
  refine Eq.trans (zs_bp f177_29 bp_12) ?_
  exact zs_icmp f177_31 rfl
theorem b177_34 {h : zi_Hp} {a0 : Nat} {x1 : Int32} {x2 : Int32} {x3 : Int32} {x4 : Int32} (g0 : a0 < zh_n h) (g1 : (zh_k h a0).1 = 8) : zv 4 177 34 [.ref a0, .int x1, .int x2, .int x3, .int x4] [] h = (zv 1 147 0 [.ref a0, .int x1, .int (12 + x4), .int (-4)] [] h).bind fun r => zv 4 177 46 [.ref a0, .int x1, .int x2, .int x3, .int x4] (r.1.toList ++ []) r.2 := by
  refine Eq.trans (zv_next f177_34 rfl) ?_
  refine Eq.trans (zv_next f177_35 rfl) ?_
  refine Eq.trans (zs_bp f177_36 bp_12) ?_
  refine Eq.trans (zv_next f177_38 rfl) ?_
  refine Eq.trans (zv_next f177_40 rfl) ?_
  refine Eq.trans (zs_bp f177_41 bp_m4) ?_
  exact zs_callV f177_43 (Nat.le_of_ble_eq_true rfl) (Nat.le_of_ble_eq_true rfl) rfl g0 g1 me_147 (by decide) rfl
theorem b177_46 {h : zi_Hp} {a0 : Nat} {x1 : Int32} {x2 : Int32} {x3 : Int32} {x4 : Int32}  : zv 4 177 46 [.ref a0, .int x1, .int x2, .int x3, .int x4] [] h = zv 4 177 27 [.ref a0, .int x1, .int x2, .int x3, .int (x4 + 1)] [] h := by
  refine Eq.trans (zs_inc f177_46 rfl ic_1 rfl) ?_
  refine Eq.trans (zs_goto (tgt := 27) f177_49 rfl) ?_
  rfl
theorem b177_52 {h : zi_Hp} {a0 : Nat} {x1 : Int32} {x2 : Int32} {x3 : Int32} {x4 : Int32} (g0 : a0 < zh_n h) (g1 : (zh_k h a0).1 = 8) : zv 4 177 52 [.ref a0, .int x1, .int x2, .int x3, .int x4] [] h = (zv 1 147 0 [.ref a0, .int x1, .int 0, .int 1] [] h).bind fun r => zv 4 177 59 [.ref a0, .int x1, .int x2, .int x3, .int x4] (r.1.toList ++ []) r.2 := by
  refine Eq.trans (zv_next f177_52 rfl) ?_
  refine Eq.trans (zv_next f177_53 rfl) ?_
  refine Eq.trans (zs_ic f177_54 ic_0) ?_
  refine Eq.trans (zs_ic f177_55 ic_1) ?_
  exact zs_callV f177_56 (Nat.le_of_ble_eq_true rfl) (Nat.le_of_ble_eq_true rfl) rfl g0 g1 me_147 (by decide) rfl
theorem b177_59 {h : zi_Hp} {a0 : Nat} {x1 : Int32} {x2 : Int32} {x3 : Int32} {x4 : Int32} (g0 : a0 < zh_n h) (g1 : (zh_k h a0).1 = 8) : zv 4 177 59 [.ref a0, .int x1, .int x2, .int x3, .int x4] [] h = (zv 1 147 0 [.ref a0, .int x1, .int 1, .int x2] [] h).bind fun r => zv 4 177 66 [.ref a0, .int x1, .int x2, .int x3, .int x4] (r.1.toList ++ []) r.2 := by
  refine Eq.trans (zv_next f177_59 rfl) ?_
  refine Eq.trans (zv_next f177_60 rfl) ?_
  refine Eq.trans (zs_ic f177_61 ic_1) ?_
  refine Eq.trans (zv_next f177_62 rfl) ?_
  exact zs_callV f177_63 (Nat.le_of_ble_eq_true rfl) (Nat.le_of_ble_eq_true rfl) rfl g0 g1 me_147 (by decide) rfl
theorem b177_66 {h : zi_Hp} {a0 : Nat} {x1 : Int32} {x2 : Int32} {x3 : Int32} {x4 : Int32} (g0 : a0 < zh_n h) (g1 : (zh_k h a0).1 = 8) : zv 4 177 66 [.ref a0, .int x1, .int x2, .int x3, .int x4] [] h = (zv 1 147 0 [.ref a0, .int x1, .int 2, .int x3] [] h).bind fun r => zv 4 177 73 [.ref a0, .int x1, .int x2, .int x3, .int x4] (r.1.toList ++ []) r.2 := by
  refine Eq.trans (zv_next f177_66 rfl) ?_
  refine Eq.trans (zv_next f177_67 rfl) ?_
  refine Eq.trans (zs_ic f177_68 ic_2) ?_
  refine Eq.trans (zv_next f177_69 rfl) ?_
  exact zs_callV f177_70 (Nat.le_of_ble_eq_true rfl) (Nat.le_of_ble_eq_true rfl) rfl g0 g1 me_147 (by decide) rfl
theorem b177_73 {h : zi_Hp} {a0 : Nat} {x1 : Int32} {x2 : Int32} {x3 : Int32} {x4 : Int32} (g0 : a0 < zh_n h) (g1 : (zh_k h a0).1 = 8) (g2 : zh_r h a0 0 = .ref (zq (zh_r h a0 0))) (g3 : (zq (zh_r h a0 0)) < zh_n h) (g4 : 313 < (zh_k h (zq (zh_r h a0 0))).2) (g5 : (zh_k h (zq (zh_r h a0 0))).1 = 100) : zv 4 177 73 [.ref a0, .int x1, .int x2, .int x3, .int x4] [] h = (zv 1 147 0 [.ref a0, .int x1, .int 3, .int (zh_i h (zq (zh_r h a0 0)) 313)] [] h).bind fun r => zv 4 177 87 [.ref a0, .int x1, .int x2, .int x3, .int x4] (r.1.toList ++ []) r.2 := by
  refine Eq.trans (zv_next f177_73 rfl) ?_
  refine Eq.trans (zv_next f177_74 rfl) ?_
  refine Eq.trans (zs_ic f177_75 ic_3) ?_
  refine Eq.trans (zv_next f177_76 rfl) ?_
  refine Eq.trans (zs_getr f177_77 g0 g1 g2) ?_
  refine Eq.trans (zs_sp f177_80 sp_313) ?_
  refine Eq.trans (zs_iald f177_83 g3 g5 (zj_lit (by decide) g4)) ?_
  exact zs_callV f177_84 (Nat.le_of_ble_eq_true rfl) (Nat.le_of_ble_eq_true rfl) rfl g0 g1 me_147 (by decide) rfl
theorem b177_87 {h : zi_Hp} {a0 : Nat} {x1 : Int32} {x2 : Int32} {x3 : Int32} {x4 : Int32} (g0 : a0 < zh_n h) (g1 : (zh_k h a0).1 = 8) : zv 4 177 87 [.ref a0, .int x1, .int x2, .int x3, .int x4] [] h = (zv 1 147 0 [.ref a0, .int x1, .int 4, .int (-4)] [] h).bind fun r => zv 4 177 95 [.ref a0, .int x1, .int x2, .int x3, .int x4] (r.1.toList ++ []) r.2 := by
  refine Eq.trans (zv_next f177_87 rfl) ?_
  refine Eq.trans (zv_next f177_88 rfl) ?_
  refine Eq.trans (zs_ic f177_89 ic_4) ?_
  refine Eq.trans (zs_bp f177_90 bp_m4) ?_
  exact zs_callV f177_92 (Nat.le_of_ble_eq_true rfl) (Nat.le_of_ble_eq_true rfl) rfl g0 g1 me_147 (by decide) rfl
theorem b177_95 {h : zi_Hp} {a0 : Nat} {x1 : Int32} {x2 : Int32} {x3 : Int32} {x4 : Int32} (g0 : a0 < zh_n h) (g1 : (zh_k h a0).1 = 8) : zv 4 177 95 [.ref a0, .int x1, .int x2, .int x3, .int x4] [] h = (zv 3 151 0 [.ref a0, .int x3, .double 0, .double 0] [] h).bind fun r => zv 4 177 104 [.ref a0, .int x1, .int x2, .int x3, .int x4] (r.1.toList ++ [.int 1, .int 5, .int x1, .ref a0]) r.2 := by
  refine Eq.trans (zv_next f177_95 rfl) ?_
  refine Eq.trans (zv_next f177_96 rfl) ?_
  refine Eq.trans (zs_ic f177_97 ic_5) ?_
  refine Eq.trans (zs_ic f177_98 ic_1) ?_
  refine Eq.trans (zv_next f177_99 rfl) ?_
  refine Eq.trans (zv_next f177_100 rfl) ?_
  exact zs_callV f177_101 (Nat.le_of_ble_eq_true rfl) (Nat.le_of_ble_eq_true rfl) rfl g0 g1 me_151 (by decide) rfl
theorem b177_104 {h : zi_Hp} {a0 : Nat} {x1 : Int32} {x2 : Int32} {x3 : Int32} {x4 : Int32} {t0 : Nat} {s1 : Int32} {s2 : Int32} {s3 : Int32} {s4 : Int32} (g0 : t0 < zh_n h) (g1 : (zh_k h t0).1 = 8) : zv 4 177 104 [.ref a0, .int x1, .int x2, .int x3, .int x4] [.int s4, .int s3, .int s2, .int s1, .ref t0] h = (zv 1 147 0 [.ref t0, .int s1, .int s2, .int (s3 <<< (s4 &&& 31))] [] h).bind fun r => zv 4 177 108 [.ref a0, .int x1, .int x2, .int x3, .int x4] (r.1.toList ++ []) r.2 := by
  refine Eq.trans (zv_next f177_104 rfl) ?_
  exact zs_callV f177_105 (Nat.le_of_ble_eq_true rfl) (Nat.le_of_ble_eq_true rfl) rfl g0 g1 me_147 (by decide) rfl
theorem b177_108 {h : zi_Hp} {a0 : Nat} {x1 : Int32} {x2 : Int32} {x3 : Int32} {x4 : Int32}  : zv 4 177 108 [.ref a0, .int x1, .int x2, .int x3, .int x4] [] h = some (none, h) := by
  exact zv_ret f177_108 rfl
