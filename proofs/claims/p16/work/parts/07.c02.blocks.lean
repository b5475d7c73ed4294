set_option maxRecDepth 20000 in
theorem zq77 : zi_M[77]? = some zi_m77 := rfl
theorem zl77_0 {pc : Nat} (_ : 0 ≤ pc) : zi_fe 77 pc = zu77_0.lookup pc := zi_feA zq77 pc
theorem f77_0 : zi_fe 77 0 = some ((.aload_n 0), 1, 0, 0, 0, 0, 0) := (zl77_0 (Nat.le_of_ble_eq_true rfl)).trans rfl
theorem f77_1 : zi_fe 77 1 = some ((.getfield 21), 3, 6, 1, 3, 256, 0) := (zl77_0 (Nat.le_of_ble_eq_true rfl)).trans rfl
theorem f77_4 : zi_fe 77 4 = some ((.iload_n 1), 1, 0, 0, 0, 0, 0) := (zl77_0 (Nat.le_of_ble_eq_true rfl)).trans rfl
theorem f77_5 : zi_fe 77 5 = some (.aaload, 1, 0, 0, 0, 0, 0) := (zl77_0 (Nat.le_of_ble_eq_true rfl)).trans rfl
theorem f77_6 : zi_fe 77 6 = some ((.astore 4), 2, 0, 0, 0, 0, 0) := (zl77_0 (Nat.le_of_ble_eq_true rfl)).trans rfl
theorem f77_8 : zi_fe 77 8 = some ((.aload 4), 2, 0, 0, 0, 0, 0) := (zl77_0 (Nat.le_of_ble_eq_true rfl)).trans rfl
theorem f77_10 : zi_fe 77 10 = some ((.iload_n 2), 1, 0, 0, 0, 0, 0) := (zl77_0 (Nat.le_of_ble_eq_true rfl)).trans rfl
theorem f77_11 : zi_fe 77 11 = some ((.iload_n 3), 1, 0, 0, 0, 0, 0) := (zl77_0 (Nat.le_of_ble_eq_true rfl)).trans rfl
theorem f77_12 : zi_fe 77 12 = some ((.aload_n 0), 1, 0, 0, 0, 0, 0) := (zl77_0 (Nat.le_of_ble_eq_true rfl)).trans rfl
theorem f77_13 : zi_fe 77 13 = some ((.getfield 12), 3, 6, 0, 3, 253, 0) := (zl77_0 (Nat.le_of_ble_eq_true rfl)).trans rfl
theorem f77_16 : zi_fe 77 16 = some ((.getfield 66), 3, 4, 1, 0, 142, 0) := (zl77_0 (Nat.le_of_ble_eq_true rfl)).trans rfl
theorem f77_19 : zi_fe 77 19 = some ((.invokevirtual 69), 3, 2, 0, 0, 586, 4) := (zl77_0 (Nat.le_of_ble_eq_true rfl)).trans rfl
theorem zl77_1 {pc : Nat} (h : 22 ≤ pc) : zi_fe 77 pc = zu77_1.lookup pc := (zl77_0 (Nat.le_trans (Nat.le_of_ble_eq_true rfl) h)).trans (zi_lkA (a := zi_i77_0) (c := 22) rfl h)
theorem f77_22 : zi_fe 77 22 = some ((.aload_n 0), 1, 0, 0, 0, 0, 0) := (zl77_1 (Nat.le_of_ble_eq_true rfl)).trans rfl
theorem f77_23 : zi_fe 77 23 = some ((.aload 4), 2, 0, 0, 0, 0, 0) := (zl77_1 (Nat.le_of_ble_eq_true rfl)).trans rfl
theorem f77_25 : zi_fe 77 25 = some ((.invokevirtual 72), 3, 82, 0, 6, 590, 2) := (zl77_1 (Nat.le_of_ble_eq_true rfl)).trans rfl
theorem f77_28 : zi_fe 77 28 = some (.return_, 1, 0, 0, 0, 0, 0) := (zl77_1 (Nat.le_of_ble_eq_true rfl)).trans rfl
theorem b77_0 {h : zi_Hp} {a0 : Nat} {x1 : Int32} {x2 : Int32} {x3 : Int32} {u4 : Value} (g0 : a0 < zh_n h) (g1 : (zh_k h a0).1 = 6) (g2 : zh_r h a0 1 = .ref (zq (zh_r h a0 1))) (g3 : (zq (zh_r h a0 1)) < zh_n h) (g4 : ¬ (x1 < 0 ∨ (zh_k h (zq (zh_r h a0 1))).2 ≤ x1.toNatClampNeg)) (g5 : (zh_k h (zq (zh_r h a0 1))).1 = 103 ∨ (zh_k h (zq (zh_r h a0 1))).1 = 104 ∨ (zh_k h (zq (zh_r h a0 1))).1 = 105) (g6 : zh_r h (zq (zh_r h a0 1)) x1.toNatClampNeg = .ref (zq (zh_r h (zq (zh_r h a0 1)) x1.toNatClampNeg))) (g7 : zh_r h a0 0 = .ref (zq (zh_r h a0 0))) (g8 : (zq (zh_r h a0 0)) < zh_n h) (g9 : (zh_k h (zq (zh_r h a0 0))).1 = 4) (g10 : (zq (zh_r h (zq (zh_r h a0 1)) x1.toNatClampNeg)) < zh_n h) (g11 : (zh_k h (zq (zh_r h (zq (zh_r h a0 1)) x1.toNatClampNeg))).1 = 0) : zv 4 77 0 [.ref a0, .int x1, .int x2, .int x3, u4] [] h = (zv 3 2 0 [.ref (zq (zh_r h (zq (zh_r h a0 1)) x1.toNatClampNeg)), .int x2, .int x3, .int (zh_i h (zq (zh_r h a0 0)) 1)] [] h).bind fun r => zv 4 77 22 [.ref a0, .int x1, .int x2, .int x3, .ref (zq (zh_r h (zq (zh_r h a0 1)) x1.toNatClampNeg))] (r.1.toList ++ []) r.2 := by
  refine Eq.trans (zv_next f77_0 rfl) ?_
  refine Eq.trans (zs_getr f77_1 g0 g1 g2) ?_
  refine Eq.trans (zv_next f77_4 rfl) ?_
  refine Eq.trans (zs_aald f77_5 g3 g5 g4 g6) ?_
  refine Eq.trans (zv_next f77_6 rfl) ?_
  refine Eq.trans (zv_next f77_8 rfl) ?_
  refine Eq.trans (zv_next f77_10 rfl) ?_
  refine Eq.trans (zv_next f77_11 rfl) ?_
  refine Eq.trans (zv_next f77_12 rfl) ?_
  refine Eq.trans (zs_getr f77_13 g0 g1 g7) ?_
  refine Eq.trans (zs_geti f77_16 g8 g9) ?_
  exact zs_callV f77_19 (Nat.le_of_ble_eq_true rfl) (Nat.le_of_ble_eq_true rfl) rfl g10 g11 me_2 (by decide) rfl
theorem b77_22 {h : zi_Hp} {a0 : Nat} {x1 : Int32} {x2 : Int32} {x3 : Int32} {a4 : Nat} (g0 : a0 < zh_n h) (g1 : (zh_k h a0).1 = 6) : zv 4 77 22 [.ref a0, .int x1, .int x2, .int x3, .ref a4] [] h = (zv 2 82 0 [.ref a0, .ref a4] [] h).bind fun r => zv 4 77 28 [.ref a0, .int x1, .int x2, .int x3, .ref a4] (r.1.toList ++ []) r.2 := by
  refine Eq.trans (zv_next f77_22 rfl) ?_
  refine Eq.trans (zv_next f77_23 rfl) ?_
  exact zs_callV f77_25 (Nat.le_of_ble_eq_true rfl) (Nat.le_of_ble_eq_true rfl) rfl g0 g1 me_82 (by decide) rfl
theorem b77_28 {h : zi_Hp} {a0 : Nat} {x1 : Int32} {x2 : Int32} {x3 : Int32} {a4 : Nat}  : zv 4 77 28 [.ref a0, .int x1, .int x2, .int x3, .ref a4] [] h = some (none, h) := by
  exact zv_ret f77_28 rfl
set_option maxRecDepth 20000 in
theorem zq78 : zi_M[78]? = some zi_m78 := rfl
theorem zl78_0 {pc : Nat} (_ : 0 ≤ pc) : zi_fe 78 pc = zu78_0.lookup pc := zi_feA zq78 pc
theorem f78_0 : zi_fe 78 0 = some ((.aload_n 0), 1, 0, 0, 0, 0, 0) := (zl78_0 (Nat.le_of_ble_eq_true rfl)).trans rfl
theorem f78_1 : zi_fe 78 1 = some ((.iconst 0), 1, 0, 0, 0, 0, 0) := (zl78_0 (Nat.le_of_ble_eq_true rfl)).trans rfl
theorem f78_2 : zi_fe 78 2 = some ((.iload_n 1), 1, 0, 0, 0, 0, 0) := (zl78_0 (Nat.le_of_ble_eq_true rfl)).trans rfl
theorem f78_3 : zi_fe 78 3 = some ((.iload_n 2), 1, 0, 0, 0, 0, 0) := (zl78_0 (Nat.le_of_ble_eq_true rfl)).trans rfl
theorem f78_4 : zi_fe 78 4 = some ((.invokevirtual 62), 3, 77, 0, 6, 582, 4) := (zl78_0 (Nat.le_of_ble_eq_true rfl)).trans rfl
theorem f78_7 : zi_fe 78 7 = some ((.iconst 4), 1, 0, 0, 0, 0, 0) := (zl78_0 (Nat.le_of_ble_eq_true rfl)).trans rfl
theorem f78_8 : zi_fe 78 8 = some ((.istore_n 3), 1, 0, 0, 0, 0, 0) := (zl78_0 (Nat.le_of_ble_eq_true rfl)).trans rfl
theorem f78_9 : zi_fe 78 9 = some ((.iconst 0), 1, 0, 0, 0, 0, 0) := (zl78_0 (Nat.le_of_ble_eq_true rfl)).trans rfl
theorem f78_10 : zi_fe 78 10 = some ((.istore 4), 2, 0, 0, 0, 0, 0) := (zl78_0 (Nat.le_of_ble_eq_true rfl)).trans rfl
theorem f78_12 : zi_fe 78 12 = some ((.iload 4), 2, 0, 0, 0, 0, 0) := (zl78_0 (Nat.le_of_ble_eq_true rfl)).trans rfl
theorem f78_14 : zi_fe 78 14 = some ((.sipush 1000), 3, 0, 0, 0, 0, 0) := (zl78_0 (Nat.le_of_ble_eq_true rfl)).trans rfl
theorem f78_17 : zi_fe 78 17 = some ((.if_icmp .ge 19), 3, 0, 0, 0, 0, 0) := (zl78_0 (Nat.le_of_ble_eq_true rfl)).trans rfl
theorem zl78_1 {pc : Nat} (h : 20 ≤ pc) : zi_fe 78 pc = zu78_1.lookup pc := (zl78_0 (Nat.le_trans (Nat.le_of_ble_eq_true rfl) h)).trans (zi_lkA (a := zi_i78_0) (c := 20) rfl h)
theorem f78_20 : zi_fe 78 20 = some ((.iload_n 3), 1, 0, 0, 0, 0, 0) := (zl78_1 (Nat.le_of_ble_eq_true rfl)).trans rfl
theorem f78_21 : zi_fe 78 21 = some ((.ifCond .eq 15), 3, 0, 0, 0, 0, 0) := (zl78_1 (Nat.le_of_ble_eq_true rfl)).trans rfl
theorem f78_24 : zi_fe 78 24 = some ((.aload_n 0), 1, 0, 0, 0, 0, 0) := (zl78_1 (Nat.le_of_ble_eq_true rfl)).trans rfl
theorem f78_25 : zi_fe 78 25 = some ((.iconst 0), 1, 0, 0, 0, 0, 0) := (zl78_1 (Nat.le_of_ble_eq_true rfl)).trans rfl
theorem f78_26 : zi_fe 78 26 = some ((.invokevirtual 75), 3, 80, 0, 6, 598, 2) := (zl78_1 (Nat.le_of_ble_eq_true rfl)).trans rfl
theorem f78_29 : zi_fe 78 29 = some ((.istore_n 3), 1, 0, 0, 0, 0, 0) := (zl78_1 (Nat.le_of_ble_eq_true rfl)).trans rfl
theorem f78_30 : zi_fe 78 30 = some ((.iinc 4 1), 3, 0, 0, 0, 0, 0) := (zl78_1 (Nat.le_of_ble_eq_true rfl)).trans rfl
theorem f78_33 : zi_fe 78 33 = some ((.goto (-21)), 3, 0, 0, 0, 0, 0) := (zl78_1 (Nat.le_of_ble_eq_true rfl)).trans rfl
theorem f78_36 : zi_fe 78 36 = some ((.aload_n 0), 1, 0, 0, 0, 0, 0) := (zl78_1 (Nat.le_of_ble_eq_true rfl)).trans rfl
theorem f78_37 : zi_fe 78 37 = some ((.getfield 21), 3, 6, 1, 3, 256, 0) := (zl78_1 (Nat.le_of_ble_eq_true rfl)).trans rfl
theorem f78_40 : zi_fe 78 40 = some ((.iconst 0), 1, 0, 0, 0, 0, 0) := (zl78_1 (Nat.le_of_ble_eq_true rfl)).trans rfl
theorem f78_41 : zi_fe 78 41 = some (.aaload, 1, 0, 0, 0, 0, 0) := (zl78_1 (Nat.le_of_ble_eq_true rfl)).trans rfl
theorem zl78_2 {pc : Nat} (h : 42 ≤ pc) : zi_fe 78 pc = zu78_2.lookup pc := (zl78_1 (Nat.le_trans (Nat.le_of_ble_eq_true rfl) h)).trans (zi_lkA (a := zi_i78_1) (c := 42) rfl h)
theorem f78_42 : zi_fe 78 42 = some ((.iconst 0), 1, 0, 0, 0, 0, 0) := (zl78_2 (Nat.le_of_ble_eq_true rfl)).trans rfl
theorem f78_43 : zi_fe 78 43 = some ((.putfield 35), 3, 0, 0, 0, 200, 0) := (zl78_2 (Nat.le_of_ble_eq_true rfl)).trans rfl
theorem f78_46 : zi_fe 78 46 = some ((.aload_n 0), 1, 0, 0, 0, 0, 0) := (zl78_2 (Nat.le_of_ble_eq_true rfl)).trans rfl
theorem f78_47 : zi_fe 78 47 = some ((.getfield 21), 3, 6, 1, 3, 256, 0) := (zl78_2 (Nat.le_of_ble_eq_true rfl)).trans rfl
theorem f78_50 : zi_fe 78 50 = some ((.iconst 0), 1, 0, 0, 0, 0, 0) := (zl78_2 (Nat.le_of_ble_eq_true rfl)).trans rfl
theorem f78_51 : zi_fe 78 51 = some (.aaload, 1, 0, 0, 0, 0, 0) := (zl78_2 (Nat.le_of_ble_eq_true rfl)).trans rfl
theorem f78_52 : zi_fe 78 52 = some ((.getfield 79), 3, 0, 4, 0, 209, 0) := (zl78_2 (Nat.le_of_ble_eq_true rfl)).trans rfl
theorem f78_55 : zi_fe 78 55 = some (.ireturn, 1, 0, 0, 0, 0, 0) := (zl78_2 (Nat.le_of_ble_eq_true rfl)).trans rfl
theorem b78_0 {h : zi_Hp} {a0 : Nat} {x1 : Int32} {x2 : Int32} {u3 : Value} {u4 : Value} (g0 : a0 < zh_n h) (g1 : (zh_k h a0).1 = 6) : zv 6 78 0 [.ref a0, .int x1, .int x2, u3, u4] [] h = (zv 4 77 0 [.ref a0, .int 0, .int x1, .int x2, .double 0] [] h).bind fun r => zv 6 78 7 [.ref a0, .int x1, .int x2, u3, u4] (r.1.toList ++ []) r.2 := by
  refine Eq.trans (zv_next f78_0 rfl) ?_
  refine Eq.trans (zs_ic f78_1 ic_0) ?_
  refine Eq.trans (zv_next f78_2 rfl) ?_
  refine Eq.trans (zv_next f78_3 rfl) ?_
  exact zs_callV f78_4 (Nat.le_of_ble_eq_true rfl) (Nat.le_of_ble_eq_true rfl) rfl g0 g1 me_77 (by decide) rfl
theorem b78_7 {h : zi_Hp} {a0 : Nat} {x1 : Int32} {x2 : Int32} {u3 : Value} {u4 : Value}  : zv 6 78 7 [.ref a0, .int x1, .int x2, u3, u4] [] h = zv 6 78 12 [.ref a0, .int x1, .int x2, .int 4, .int 0] [] h := by
  refine Eq.trans (zs_ic f78_7 ic_4) ?_
  refine Eq.trans (zv_next f78_8 rfl) ?_
  refine Eq.trans (zs_ic f78_9 ic_0) ?_
  refine Eq.trans (zv_next f78_10 rfl) ?_
  rfl
theorem b78_12 {h : zi_Hp} {a0 : Nat} {x1 : Int32} {x2 : Int32} {x3 : Int32} {x4 : Int32}  : zv 6 78 12 [.ref a0, .int x1, .int x2, .int x3, .int x4] [] h = if x4 < 1000 then zv 6 78 20 [.ref a0, .int x1, .int x2, .int x3, .int x4] [] h else zv 6 78 36 [.ref a0, .int x1, .int x2, .int x3, .int x4] [] h := by
  refine Eq.trans (zv_next f78_12 rfl) ?_
  refine Eq.trans (zs_sp f78_14 sp_1000) ?_
  exact zs_icmp f78_17 rfl
theorem b78_20 {h : zi_Hp} {a0 : Nat} {x1 : Int32} {x2 : Int32} {x3 : Int32} {x4 : Int32}  : zv 6 78 20 [.ref a0, .int x1, .int x2, .int x3, .int x4] [] h = if x3 = 0 then zv 6 78 36 [.ref a0, .int x1, .int x2, .int x3, .int x4] [] h else zv 6 78 24 [.ref a0, .int x1, .int x2, .int x3, .int x4] [] h := by
  refine Eq.trans (zv_next f78_20 rfl) ?_
  exact zs_if f78_21 rfl
theorem b78_24 {h : zi_Hp} {a0 : Nat} {x1 : Int32} {x2 : Int32} {x3 : Int32} {x4 : Int32} (g0 : a0 < zh_n h) (g1 : (zh_k h a0).1 = 6) : zv 6 78 24 [.ref a0, .int x1, .int x2, .int x3, .int x4] [] h = (zv 5 80 0 [.ref a0, .int 0, .double 0, .double 0, .double 0] [] h).bind fun r => zv 6 78 29 [.ref a0, .int x1, .int x2, .int x3, .int x4] (r.1.toList ++ []) r.2 := by
  refine Eq.trans (zv_next f78_24 rfl) ?_
  refine Eq.trans (zs_ic f78_25 ic_0) ?_
  exact zs_callV f78_26 (Nat.le_of_ble_eq_true rfl) (Nat.le_of_ble_eq_true rfl) rfl g0 g1 me_80 (by decide) rfl
theorem b78_29 {h : zi_Hp} {a0 : Nat} {x1 : Int32} {x2 : Int32} {x3 : Int32} {x4 : Int32} {s0 : Int32}  : zv 6 78 29 [.ref a0, .int x1, .int x2, .int x3, .int x4] [.int s0] h = zv 6 78 12 [.ref a0, .int x1, .int x2, .int s0, .int (x4 + 1)] [] h := by
  refine Eq.trans (zv_next f78_29 rfl) ?_
  refine Eq.trans (zs_inc f78_30 rfl ic_1 rfl) ?_
  refine Eq.trans (zs_goto (tgt := 12) f78_33 rfl) ?_
  rfl
theorem b78_36 {h : zi_Hp} {a0 : Nat} {x1 : Int32} {x2 : Int32} {x3 : Int32} {x4 : Int32} (g0 : a0 < zh_n h) (g1 : (zh_k h a0).1 = 6) (g2 : zh_r h a0 1 = .ref (zq (zh_r h a0 1))) (g3 : (zq (zh_r h a0 1)) < zh_n h) (g4 : 0 < (zh_k h (zq (zh_r h a0 1))).2) (g5 : (zh_k h (zq (zh_r h a0 1))).1 = 103 ∨ (zh_k h (zq (zh_r h a0 1))).1 = 104 ∨ (zh_k h (zq (zh_r h a0 1))).1 = 105) (g6 : zh_r h (zq (zh_r h a0 1)) 0 = .ref (zq (zh_r h (zq (zh_r h a0 1)) 0))) (g7 : (zq (zh_r h (zq (zh_r h a0 1)) 0)) < zh_n h) (g8 : (zh_k h (zq (zh_r h (zq (zh_r h a0 1)) 0))).1 = 0) : zv 6 78 36 [.ref a0, .int x1, .int x2, .int x3, .int x4] [] h = zv 6 78 52 [.ref a0, .int x1, .int x2, .int x3, .int x4] [.ref (zq (zh_r h (zq (zh_r h a0 1)) 0))] (zh_wi h (zq (zh_r h (zq (zh_r h a0 1)) 0)) 0 0) := by
  refine Eq.trans (zv_next f78_36 rfl) ?_
  refine Eq.trans (zs_getr f78_37 g0 g1 g2) ?_
  refine Eq.trans (zs_ic f78_40 ic_0) ?_
  refine Eq.trans (zs_aald f78_41 g3 g5 (zj_lit (by decide) g4) g6) ?_
  refine Eq.trans (zs_ic f78_42 ic_0) ?_
  refine Eq.trans (zs_put f78_43 g7 g8 rfl) ?_
  refine Eq.trans (zv_next f78_46 rfl) ?_
  refine Eq.trans (zs_getr f78_47 g0 g1 g2) ?_
  refine Eq.trans (zs_ic f78_50 ic_0) ?_
  refine Eq.trans (zs_aald f78_51 g3 g5 (zj_lit (by decide) g4) g6) ?_
  rfl
theorem b78_52 {h : zi_Hp} {a0 : Nat} {x1 : Int32} {x2 : Int32} {x3 : Int32} {x4 : Int32} {t0 : Nat} (g0 : t0 < zh_n h) (g1 : (zh_k h t0).1 = 0) : zv 6 78 52 [.ref a0, .int x1, .int x2, .int x3, .int x4] [.ref t0] h = some (some (.int (zh_i h t0 4)), h) := by
  refine Eq.trans (zs_geti f78_52 g0 g1) ?_
  exact zs_ret0 f78_55
set_option maxRecDepth 20000 in
theorem zq79 : zi_M[79]? = some zi_m79 := rfl
theorem zl79_0 {pc : Nat} (_ : 0 ≤ pc) : zi_fe 79 pc = zu79_0.lookup pc := zi_feA zq79 pc
theorem f79_0 : zi_fe 79 0 = some ((.iconst 0), 1, 0, 0, 0, 0, 0) := (zl79_0 (Nat.le_of_ble_eq_true rfl)).trans rfl
theorem f79_1 : zi_fe 79 1 = some ((.istore_n 3), 1, 0, 0, 0, 0, 0) := (zl79_0 (Nat.le_of_ble_eq_true rfl)).trans rfl
theorem f79_2 : zi_fe 79 2 = some ((.iload_n 3), 1, 0, 0, 0, 0, 0) := (zl79_0 (Nat.le_of_ble_eq_true rfl)).trans rfl
theorem f79_3 : zi_fe 79 3 = some ((.iload_n 2), 1, 0, 0, 0, 0, 0) := (zl79_0 (Nat.le_of_ble_eq_true rfl)).trans rfl
theorem f79_4 : zi_fe 79 4 = some ((.if_icmp .ge 17), 3, 0, 0, 0, 0, 0) := (zl79_0 (Nat.le_of_ble_eq_true rfl)).trans rfl
theorem f79_7 : zi_fe 79 7 = some ((.aload_n 0), 1, 0, 0, 0, 0, 0) := (zl79_0 (Nat.le_of_ble_eq_true rfl)).trans rfl
theorem f79_8 : zi_fe 79 8 = some ((.iload_n 1), 1, 0, 0, 0, 0, 0) := (zl79_0 (Nat.le_of_ble_eq_true rfl)).trans rfl
theorem f79_9 : zi_fe 79 9 = some ((.invokevirtual 75), 3, 80, 0, 6, 598, 2) := (zl79_0 (Nat.le_of_ble_eq_true rfl)).trans rfl
theorem f79_12 : zi_fe 79 12 = some ((.ifCond .eq 9), 3, 0, 0, 0, 0, 0) := (zl79_0 (Nat.le_of_ble_eq_true rfl)).trans rfl
theorem f79_15 : zi_fe 79 15 = some ((.iinc 3 1), 3, 0, 0, 0, 0, 0) := (zl79_0 (Nat.le_of_ble_eq_true rfl)).trans rfl
theorem f79_18 : zi_fe 79 18 = some ((.goto (-16)), 3, 0, 0, 0, 0, 0) := (zl79_0 (Nat.le_of_ble_eq_true rfl)).trans rfl
theorem f79_21 : zi_fe 79 21 = some ((.iload_n 3), 1, 0, 0, 0, 0, 0) := (zl79_0 (Nat.le_of_ble_eq_true rfl)).trans rfl
theorem zl79_1 {pc : Nat} (h : 22 ≤ pc) : zi_fe 79 pc = zu79_1.lookup pc := (zl79_0 (Nat.le_trans (Nat.le_of_ble_eq_true rfl) h)).trans (zi_lkA (a := zi_i79_0) (c := 22) rfl h)
theorem f79_22 : zi_fe 79 22 = some (.ireturn, 1, 0, 0, 0, 0, 0) := (zl79_1 (Nat.le_of_ble_eq_true rfl)).trans rfl
theorem b79_0 {h : zi_Hp} {a0 : Nat} {x1 : Int32} {x2 : Int32} {u3 : Value}  : zv 6 79 0 [.ref a0, .int x1, .int x2, u3] [] h = zv 6 79 2 [.ref a0, .int x1, .int x2, .int 0] [] h := by
  refine Eq.trans (zs_ic f79_0 ic_0) ?_
  refine Eq.trans (zv_next f79_1 rfl) ?_
  rfl
theorem b79_2 {h : zi_Hp} {a0 : Nat} {x1 : Int32} {x2 : Int32} {x3 : Int32}  : zv 6 79 2 [.ref a0, .int x1, .int x2, .int x3] [] h = if x3 < x2 then zv 6 79 7 [.ref a0, .int x1, .int x2, .int x3] [] h else zv 6 79 21 [.ref a0, .int x1, .int x2, .int x3] [] h := by
  refine Eq.trans (zv_next f79_2 rfl) ?_
  refine Eq.trans (zv_next f79_3 rfl) ?_
  exact zs_icmp f79_4 rfl
theorem b79_7 {h : zi_Hp} {a0 : Nat} {x1 : Int32} {x2 : Int32} {x3 : Int32} (g0 : a0 < zh_n h) (g1 : (zh_k h a0).1 = 6) : zv 6 79 7 [.ref a0, .int x1, .int x2, .int x3] [] h = (zv 5 80 0 [.ref a0, .int x1, .double 0, .double 0, .double 0] [] h).bind fun r => zv 6 79 12 [.ref a0, .int x1, .int x2, .int x3] (r.1.toList ++ []) r.2 := by
  refine Eq.trans (zv_next f79_7 rfl) ?_
  refine Eq.trans (zv_next f79_8 rfl) ?_
  exact zs_callV f79_9 (Nat.le_of_ble_eq_true rfl) (Nat.le_of_ble_eq_true rfl) rfl g0 g1 me_80 (by decide) rfl
theorem b79_12 {h : zi_Hp} {a0 : Nat} {x1 : Int32} {x2 : Int32} {x3 : Int32} {s0 : Int32}  : zv 6 79 12 [.ref a0, .int x1, .int x2, .int x3] [.int s0] h = if s0 = 0 then zv 6 79 21 [.ref a0, .int x1, .int x2, .int x3] [] h else zv 6 79 15 [.ref a0, .int x1, .int x2, .int x3] [] h := by
  exact zs_if f79_12 rfl
theorem b79_15 {h : zi_Hp} {a0 : Nat} {x1 : Int32} {x2 : Int32} {x3 : Int32}  : zv 6 79 15 [.ref a0, .int x1, .int x2, .int x3] [] h = zv 6 79 2 [.ref a0, .int x1, .int x2, .int (x3 + 1)] [] h := by
  refine Eq.trans (zs_inc f79_15 rfl ic_1 rfl) ?_
  refine Eq.trans (zs_goto (tgt := 2) f79_18 rfl) ?_
  rfl
theorem b79_21 {h : zi_Hp} {a0 : Nat} {x1 : Int32} {x2 : Int32} {x3 : Int32}  : zv 6 79 21 [.ref a0, .int x1, .int x2, .int x3] [] h = some (some (.int x3), h) := by
  refine Eq.trans (zv_next f79_21 rfl) ?_
  exact zs_ret0 f79_22
set_option maxRecDepth 20000 in
theorem zq80 : zi_M[80]? = some zi_m80 := rfl
theorem zl80_0 {pc : Nat} (_ : 0 ≤ pc) : zi_fe 80 pc = zu80_0.lookup pc := zi_feA zq80 pc
theorem f80_0 : zi_fe 80 0 = some ((.aload_n 0), 1, 0, 0, 0, 0, 0) := (zl80_0 (Nat.le_of_ble_eq_true rfl)).trans rfl
theorem f80_1 : zi_fe 80 1 = some ((.iload_n 1), 1, 0, 0, 0, 0, 0) := (zl80_0 (Nat.le_of_ble_eq_true rfl)).trans rfl
theorem f80_2 : zi_fe 80 2 = some ((.invokevirtual 82), 3, 94, 0, 6, 602, 2) := (zl80_0 (Nat.le_of_ble_eq_true rfl)).trans rfl
theorem f80_5 : zi_fe 80 5 = some ((.ifCond .ne 5), 3, 0, 0, 0, 0, 0) := (zl80_0 (Nat.le_of_ble_eq_true rfl)).trans rfl
theorem f80_8 : zi_fe 80 8 = some ((.iconst 0), 1, 0, 0, 0, 0, 0) := (zl80_0 (Nat.le_of_ble_eq_true rfl)).trans rfl
theorem f80_9 : zi_fe 80 9 = some (.ireturn, 1, 0, 0, 0, 0, 0) := (zl80_0 (Nat.le_of_ble_eq_true rfl)).trans rfl
theorem f80_10 : zi_fe 80 10 = some ((.aload_n 0), 1, 0, 0, 0, 0, 0) := (zl80_0 (Nat.le_of_ble_eq_true rfl)).trans rfl
theorem f80_11 : zi_fe 80 11 = some ((.getfield 21), 3, 6, 1, 3, 256, 0) := (zl80_0 (Nat.le_of_ble_eq_true rfl)).trans rfl
theorem f80_14 : zi_fe 80 14 = some ((.iload_n 1), 1, 0, 0, 0, 0, 0) := (zl80_0 (Nat.le_of_ble_eq_true rfl)).trans rfl
theorem f80_15 : zi_fe 80 15 = some (.aaload, 1, 0, 0, 0, 0, 0) := (zl80_0 (Nat.le_of_ble_eq_true rfl)).trans rfl
theorem f80_16 : zi_fe 80 16 = some ((.astore_n 2), 1, 0, 0, 0, 0, 0) := (zl80_0 (Nat.le_of_ble_eq_true rfl)).trans rfl
theorem f80_17 : zi_fe 80 17 = some ((.aload_n 2), 1, 0, 0, 0, 0, 0) := (zl80_0 (Nat.le_of_ble_eq_true rfl)).trans rfl
theorem zl80_1 {pc : Nat} (h : 18 ≤ pc) : zi_fe 80 pc = zu80_1.lookup pc := (zl80_0 (Nat.le_trans (Nat.le_of_ble_eq_true rfl) h)).trans (zi_lkA (a := zi_i80_0) (c := 18) rfl h)
theorem f80_18 : zi_fe 80 18 = some ((.getfield 35), 3, 0, 0, 0, 200, 0) := (zl80_1 (Nat.le_of_ble_eq_true rfl)).trans rfl
theorem f80_21 : zi_fe 80 21 = some ((.iconst 2), 1, 0, 0, 0, 0, 0) := (zl80_1 (Nat.le_of_ble_eq_true rfl)).trans rfl
theorem f80_22 : zi_fe 80 22 = some ((.if_icmp .ne 7), 3, 0, 0, 0, 0, 0) := (zl80_1 (Nat.le_of_ble_eq_true rfl)).trans rfl
theorem f80_25 : zi_fe 80 25 = some ((.iconst 1), 1, 0, 0, 0, 0, 0) := (zl80_1 (Nat.le_of_ble_eq_true rfl)).trans rfl
theorem f80_26 : zi_fe 80 26 = some ((.goto 4), 3, 0, 0, 0, 0, 0) := (zl80_1 (Nat.le_of_ble_eq_true rfl)).trans rfl
theorem f80_29 : zi_fe 80 29 = some ((.iconst 0), 1, 0, 0, 0, 0, 0) := (zl80_1 (Nat.le_of_ble_eq_true rfl)).trans rfl
theorem f80_30 : zi_fe 80 30 = some ((.istore_n 3), 1, 0, 0, 0, 0, 0) := (zl80_1 (Nat.le_of_ble_eq_true rfl)).trans rfl
theorem f80_31 : zi_fe 80 31 = some ((.aload_n 2), 1, 0, 0, 0, 0, 0) := (zl80_1 (Nat.le_of_ble_eq_true rfl)).trans rfl
theorem f80_32 : zi_fe 80 32 = some ((.getfield 35), 3, 0, 0, 0, 200, 0) := (zl80_1 (Nat.le_of_ble_eq_true rfl)).trans rfl
theorem f80_35 : zi_fe 80 35 = some ((.tableswitch 71 1 3 #[25, 35, 61]), 25, 0, 0, 0, 0, 0) := (zl80_1 (Nat.le_of_ble_eq_true rfl)).trans rfl
theorem f80_60 : zi_fe 80 60 = some ((.aload_n 0), 1, 0, 0, 0, 0, 0) := (zl80_1 (Nat.le_of_ble_eq_true rfl)).trans rfl
theorem f80_61 : zi_fe 80 61 = some ((.aload_n 2), 1, 0, 0, 0, 0, 0) := (zl80_1 (Nat.le_of_ble_eq_true rfl)).trans rfl
theorem zl80_2 {pc : Nat} (h : 62 ≤ pc) : zi_fe 80 pc = zu80_2.lookup pc := (zl80_1 (Nat.le_trans (Nat.le_of_ble_eq_true rfl) h)).trans (zi_lkA (a := zi_i80_1) (c := 62) rfl h)
theorem f80_62 : zi_fe 80 62 = some ((.invokevirtual 86), 3, 85, 0, 6, 638, 2) := (zl80_2 (Nat.le_of_ble_eq_true rfl)).trans rfl
theorem f80_65 : zi_fe 80 65 = some ((.istore 4), 2, 0, 0, 0, 0, 0) := (zl80_2 (Nat.le_of_ble_eq_true rfl)).trans rfl
theorem f80_67 : zi_fe 80 67 = some ((.goto 61), 3, 0, 0, 0, 0, 0) := (zl80_2 (Nat.le_of_ble_eq_true rfl)).trans rfl
theorem f80_70 : zi_fe 80 70 = some ((.aload_n 2), 1, 0, 0, 0, 0, 0) := (zl80_2 (Nat.le_of_ble_eq_true rfl)).trans rfl
theorem f80_71 : zi_fe 80 71 = some ((.getfield 90), 3, 0, 1, 0, 203, 0) := (zl80_2 (Nat.le_of_ble_eq_true rfl)).trans rfl
theorem f80_74 : zi_fe 80 74 = some ((.iconst 1), 1, 0, 0, 0, 0, 0) := (zl80_2 (Nat.le_of_ble_eq_true rfl)).trans rfl
theorem f80_75 : zi_fe 80 75 = some ((.if_icmp .ne 11), 3, 0, 0, 0, 0, 0) := (zl80_2 (Nat.le_of_ble_eq_true rfl)).trans rfl
theorem f80_78 : zi_fe 80 78 = some ((.aload_n 0), 1, 0, 0, 0, 0, 0) := (zl80_2 (Nat.le_of_ble_eq_true rfl)).trans rfl
theorem f80_79 : zi_fe 80 79 = some ((.aload_n 2), 1, 0, 0, 0, 0, 0) := (zl80_2 (Nat.le_of_ble_eq_true rfl)).trans rfl
theorem f80_80 : zi_fe 80 80 = some ((.invokevirtual 93), 3, 86, 0, 6, 683, 2) := (zl80_2 (Nat.le_of_ble_eq_true rfl)).trans rfl
theorem f80_83 : zi_fe 80 83 = some ((.goto 8), 3, 0, 0, 0, 0, 0) := (zl80_2 (Nat.le_of_ble_eq_true rfl)).trans rfl
theorem f80_86 : zi_fe 80 86 = some ((.aload_n 0), 1, 0, 0, 0, 0, 0) := (zl80_2 (Nat.le_of_ble_eq_true rfl)).trans rfl
theorem zl80_3 {pc : Nat} (h : 87 ≤ pc) : zi_fe 80 pc = zu80_3.lookup pc := (zl80_2 (Nat.le_trans (Nat.le_of_ble_eq_true rfl) h)).trans (zi_lkA (a := zi_i80_2) (c := 87) rfl h)
theorem f80_87 : zi_fe 80 87 = some ((.aload_n 2), 1, 0, 0, 0, 0, 0) := (zl80_3 (Nat.le_of_ble_eq_true rfl)).trans rfl
theorem f80_88 : zi_fe 80 88 = some ((.invokevirtual 96), 3, 89, 0, 6, 718, 2) := (zl80_3 (Nat.le_of_ble_eq_true rfl)).trans rfl
theorem f80_91 : zi_fe 80 91 = some ((.istore 4), 2, 0, 0, 0, 0, 0) := (zl80_3 (Nat.le_of_ble_eq_true rfl)).trans rfl
theorem f80_93 : zi_fe 80 93 = some ((.goto 35), 3, 0, 0, 0, 0, 0) := (zl80_3 (Nat.le_of_ble_eq_true rfl)).trans rfl
theorem f80_96 : zi_fe 80 96 = some ((.aload_n 0), 1, 0, 0, 0, 0, 0) := (zl80_3 (Nat.le_of_ble_eq_true rfl)).trans rfl
theorem f80_97 : zi_fe 80 97 = some ((.aload_n 2), 1, 0, 0, 0, 0, 0) := (zl80_3 (Nat.le_of_ble_eq_true rfl)).trans rfl
theorem f80_98 : zi_fe 80 98 = some ((.invokevirtual 99), 3, 90, 0, 6, 727, 2) := (zl80_3 (Nat.le_of_ble_eq_true rfl)).trans rfl
theorem f80_101 : zi_fe 80 101 = some ((.istore 4), 2, 0, 0, 0, 0, 0) := (zl80_3 (Nat.le_of_ble_eq_true rfl)).trans rfl
theorem f80_103 : zi_fe 80 103 = some ((.goto 25), 3, 0, 0, 0, 0, 0) := (zl80_3 (Nat.le_of_ble_eq_true rfl)).trans rfl
theorem f80_106 : zi_fe 80 106 = some ((.aload_n 2), 1, 0, 0, 0, 0, 0) := (zl80_3 (Nat.le_of_ble_eq_true rfl)).trans rfl
theorem f80_107 : zi_fe 80 107 = some ((.getfield 102), 3, 0, 11, 1, 224, 0) := (zl80_3 (Nat.le_of_ble_eq_true rfl)).trans rfl
theorem f80_110 : zi_fe 80 110 = some ((.ifCond .eq 11), 3, 0, 0, 0, 0, 0) := (zl80_3 (Nat.le_of_ble_eq_true rfl)).trans rfl
theorem zl80_4 {pc : Nat} (h : 113 ≤ pc) : zi_fe 80 pc = zu80_4.lookup pc := (zl80_3 (Nat.le_trans (Nat.le_of_ble_eq_true rfl) h)).trans (zi_lkA (a := zi_i80_3) (c := 113) rfl h)
theorem f80_113 : zi_fe 80 113 = some ((.aload_n 0), 1, 0, 0, 0, 0, 0) := (zl80_4 (Nat.le_of_ble_eq_true rfl)).trans rfl
theorem f80_114 : zi_fe 80 114 = some ((.aload_n 2), 1, 0, 0, 0, 0, 0) := (zl80_4 (Nat.le_of_ble_eq_true rfl)).trans rfl
theorem f80_115 : zi_fe 80 115 = some ((.invokevirtual 106), 3, 93, 0, 6, 740, 2) := (zl80_4 (Nat.le_of_ble_eq_true rfl)).trans rfl
theorem f80_118 : zi_fe 80 118 = some ((.goto 8), 3, 0, 0, 0, 0, 0) := (zl80_4 (Nat.le_of_ble_eq_true rfl)).trans rfl
theorem f80_121 : zi_fe 80 121 = some ((.aload_n 0), 1, 0, 0, 0, 0, 0) := (zl80_4 (Nat.le_of_ble_eq_true rfl)).trans rfl
theorem f80_122 : zi_fe 80 122 = some ((.aload_n 2), 1, 0, 0, 0, 0, 0) := (zl80_4 (Nat.le_of_ble_eq_true rfl)).trans rfl
theorem f80_123 : zi_fe 80 123 = some ((.invokevirtual 109), 3, 92, 0, 6, 745, 2) := (zl80_4 (Nat.le_of_ble_eq_true rfl)).trans rfl
theorem f80_126 : zi_fe 80 126 = some ((.istore 4), 2, 0, 0, 0, 0, 0) := (zl80_4 (Nat.le_of_ble_eq_true rfl)).trans rfl
theorem f80_128 : zi_fe 80 128 = some ((.iload 4), 2, 0, 0, 0, 0, 0) := (zl80_4 (Nat.le_of_ble_eq_true rfl)).trans rfl
theorem f80_130 : zi_fe 80 130 = some ((.ifCond .eq 13), 3, 0, 0, 0, 0, 0) := (zl80_4 (Nat.le_of_ble_eq_true rfl)).trans rfl
theorem f80_133 : zi_fe 80 133 = some ((.aload_n 2), 1, 0, 0, 0, 0, 0) := (zl80_4 (Nat.le_of_ble_eq_true rfl)).trans rfl
theorem f80_134 : zi_fe 80 134 = some (.dup, 1, 0, 0, 0, 0, 0) := (zl80_4 (Nat.le_of_ble_eq_true rfl)).trans rfl
theorem zl80_5 {pc : Nat} (h : 135 ≤ pc) : zi_fe 80 pc = zu80_5.lookup pc := (zl80_4 (Nat.le_trans (Nat.le_of_ble_eq_true rfl) h)).trans (zi_lkA (a := zi_i80_4) (c := 135) rfl h)
theorem f80_135 : zi_fe 80 135 = some ((.getfield 112), 3, 0, 6, 0, 214, 0) := (zl80_5 (Nat.le_of_ble_eq_true rfl)).trans rfl
theorem f80_138 : zi_fe 80 138 = some ((.iconst 1), 1, 0, 0, 0, 0, 0) := (zl80_5 (Nat.le_of_ble_eq_true rfl)).trans rfl
theorem f80_139 : zi_fe 80 139 = some (.iadd, 1, 0, 0, 0, 0, 0) := (zl80_5 (Nat.le_of_ble_eq_true rfl)).trans rfl
theorem f80_140 : zi_fe 80 140 = some ((.putfield 112), 3, 0, 6, 0, 214, 0) := (zl80_5 (Nat.le_of_ble_eq_true rfl)).trans rfl
theorem f80_143 : zi_fe 80 143 = some ((.iload 4), 2, 0, 0, 0, 0, 0) := (zl80_5 (Nat.le_of_ble_eq_true rfl)).trans rfl
theorem f80_145 : zi_fe 80 145 = some ((.iconst 1), 1, 0, 0, 0, 0, 0) := (zl80_5 (Nat.le_of_ble_eq_true rfl)).trans rfl
theorem f80_146 : zi_fe 80 146 = some ((.if_icmp .ne 13), 3, 0, 0, 0, 0, 0) := (zl80_5 (Nat.le_of_ble_eq_true rfl)).trans rfl
theorem f80_149 : zi_fe 80 149 = some ((.aload_n 2), 1, 0, 0, 0, 0, 0) := (zl80_5 (Nat.le_of_ble_eq_true rfl)).trans rfl
theorem f80_150 : zi_fe 80 150 = some (.dup, 1, 0, 0, 0, 0, 0) := (zl80_5 (Nat.le_of_ble_eq_true rfl)).trans rfl
theorem f80_151 : zi_fe 80 151 = some ((.getfield 115), 3, 0, 7, 0, 216, 0) := (zl80_5 (Nat.le_of_ble_eq_true rfl)).trans rfl
theorem f80_154 : zi_fe 80 154 = some ((.iconst 1), 1, 0, 0, 0, 0, 0) := (zl80_5 (Nat.le_of_ble_eq_true rfl)).trans rfl
theorem f80_155 : zi_fe 80 155 = some (.iadd, 1, 0, 0, 0, 0, 0) := (zl80_5 (Nat.le_of_ble_eq_true rfl)).trans rfl
theorem zl80_6 {pc : Nat} (h : 156 ≤ pc) : zi_fe 80 pc = zu80_6.lookup pc := (zl80_5 (Nat.le_trans (Nat.le_of_ble_eq_true rfl) h)).trans (zi_lkA (a := zi_i80_5) (c := 156) rfl h)
theorem f80_156 : zi_fe 80 156 = some ((.putfield 115), 3, 0, 7, 0, 216, 0) := (zl80_6 (Nat.le_of_ble_eq_true rfl)).trans rfl
theorem f80_159 : zi_fe 80 159 = some ((.iload_n 3), 1, 0, 0, 0, 0, 0) := (zl80_6 (Nat.le_of_ble_eq_true rfl)).trans rfl
theorem f80_160 : zi_fe 80 160 = some ((.ifCond .eq 8), 3, 0, 0, 0, 0, 0) := (zl80_6 (Nat.le_of_ble_eq_true rfl)).trans rfl
theorem f80_163 : zi_fe 80 163 = some ((.aload_n 0), 1, 0, 0, 0, 0, 0) := (zl80_6 (Nat.le_of_ble_eq_true rfl)).trans rfl
theorem f80_164 : zi_fe 80 164 = some ((.iload_n 1), 1, 0, 0, 0, 0, 0) := (zl80_6 (Nat.le_of_ble_eq_true rfl)).trans rfl
theorem f80_165 : zi_fe 80 165 = some ((.invokevirtual 118), 3, 81, 0, 6, 753, 2) := (zl80_6 (Nat.le_of_ble_eq_true rfl)).trans rfl
theorem f80_168 : zi_fe 80 168 = some ((.iload 4), 2, 0, 0, 0, 0, 0) := (zl80_6 (Nat.le_of_ble_eq_true rfl)).trans rfl
theorem f80_170 : zi_fe 80 170 = some (.ireturn, 1, 0, 0, 0, 0, 0) := (zl80_6 (Nat.le_of_ble_eq_true rfl)).trans rfl
theorem b80_0 {h : zi_Hp} {a0 : Nat} {x1 : Int32} {u2 : Value} {u3 : Value} {u4 : Value} (g0 : a0 < zh_n h) (g1 : (zh_k h a0).1 = 6) : zv 5 80 0 [.ref a0, .int x1, u2, u3, u4] [] h = (zv 4 94 0 [.ref a0, .int x1, .double 0] [] h).bind fun r => zv 5 80 5 [.ref a0, .int x1, u2, u3, u4] (r.1.toList ++ []) r.2 := by
  refine Eq.trans (zv_next f80_0 rfl) ?_
  refine Eq.trans (zv_next f80_1 rfl) ?_
  exact zs_callV f80_2 (Nat.le_of_ble_eq_true rfl) (Nat.le_of_ble_eq_true rfl) rfl g0 g1 me_94 (by decide) rfl
theorem b80_5 {h : zi_Hp} {a0 : Nat} {x1 : Int32} {u2 : Value} {u3 : Value} {u4 : Value} {s0 : Int32}  : zv 5 80 5 [.ref a0, .int x1, u2, u3, u4] [.int s0] h = if s0 = 0 then zv 5 80 8 [.ref a0, .int x1, u2, u3, u4] [] h else zv 5 80 10 [.ref a0, .int x1, u2, u3, u4] [] h := by
  exact zs_if f80_5 rfl
theorem b80_8 {h : zi_Hp} {a0 : Nat} {x1 : Int32} {u2 : Value} {u3 : Value} {u4 : Value}  : zv 5 80 8 [.ref a0, .int x1, u2, u3, u4] [] h = some (some (.int 0), h) := by
  refine Eq.trans (zs_ic f80_8 ic_0) ?_
  exact zs_ret0 f80_9
theorem b80_10 {h : zi_Hp} {a0 : Nat} {x1 : Int32} {u2 : Value} {u3 : Value} {u4 : Value} (g0 : a0 < zh_n h) (g1 : (zh_k h a0).1 = 6) (g2 : zh_r h a0 1 = .ref (zq (zh_r h a0 1))) (g3 : (zq (zh_r h a0 1)) < zh_n h) (g4 : ¬ (x1 < 0 ∨ (zh_k h (zq (zh_r h a0 1))).2 ≤ x1.toNatClampNeg)) (g5 : (zh_k h (zq (zh_r h a0 1))).1 = 103 ∨ (zh_k h (zq (zh_r h a0 1))).1 = 104 ∨ (zh_k h (zq (zh_r h a0 1))).1 = 105) (g6 : zh_r h (zq (zh_r h a0 1)) x1.toNatClampNeg = .ref (zq (zh_r h (zq (zh_r h a0 1)) x1.toNatClampNeg))) (g7 : (zq (zh_r h (zq (zh_r h a0 1)) x1.toNatClampNeg)) < zh_n h) (g8 : (zh_k h (zq (zh_r h (zq (zh_r h a0 1)) x1.toNatClampNeg))).1 = 0) : zv 5 80 10 [.ref a0, .int x1, u2, u3, u4] [] h = if (zh_i h (zq (zh_r h (zq (zh_r h a0 1)) x1.toNatClampNeg)) 0) = 2 then zv 5 80 25 [.ref a0, .int x1, .ref (zq (zh_r h (zq (zh_r h a0 1)) x1.toNatClampNeg)), u3, u4] [] h else zv 5 80 29 [.ref a0, .int x1, .ref (zq (zh_r h (zq (zh_r h a0 1)) x1.toNatClampNeg)), u3, u4] [] h := by
  refine Eq.trans (zv_next f80_10 rfl) ?_
  refine Eq.trans (zs_getr f80_11 g0 g1 g2) ?_
  refine Eq.trans (zv_next f80_14 rfl) ?_
  refine Eq.trans (zs_aald f80_15 g3 g5 g4 g6) ?_
  refine Eq.trans (zv_next f80_16 rfl) ?_
  refine Eq.trans (zv_next f80_17 rfl) ?_
  refine Eq.trans (zs_geti f80_18 g7 g8) ?_
  refine Eq.trans (zs_ic f80_21 ic_2) ?_
  exact zs_icmp f80_22 rfl
theorem b80_25 {h : zi_Hp} {a0 : Nat} {x1 : Int32} {a2 : Nat} {u3 : Value} {u4 : Value}  : zv 5 80 25 [.ref a0, .int x1, .ref a2, u3, u4] [] h = zv 5 80 30 [.ref a0, .int x1, .ref a2, u3, u4] [.int 1] h := by
  refine Eq.trans (zs_ic f80_25 ic_1) ?_
  refine Eq.trans (zs_goto (tgt := 30) f80_26 rfl) ?_
  rfl
theorem b80_29 {h : zi_Hp} {a0 : Nat} {x1 : Int32} {a2 : Nat} {u3 : Value} {u4 : Value}  : zv 5 80 29 [.ref a0, .int x1, .ref a2, u3, u4] [] h = zv 5 80 30 [.ref a0, .int x1, .ref a2, u3, u4] [.int 0] h := by
  refine Eq.trans (zs_ic f80_29 ic_0) ?_
  rfl
theorem b80_30_c1 {h : zi_Hp} {a0 : Nat} {x1 : Int32} {a2 : Nat} {u3 : Value} {u4 : Value} {s0 : Int32} (g0 : a2 < zh_n h) (g1 : (zh_k h a2).1 = 0) (hx : (zh_i h a2 0) = 1) : zv 5 80 30 [.ref a0, .int x1, .ref a2, u3, u4] [.int s0] h = zv 5 80 60 [.ref a0, .int x1, .ref a2, .int s0, u4] [] h := by
  refine Eq.trans (zv_next f80_30 rfl) ?_
  refine Eq.trans (zv_next f80_31 rfl) ?_
  refine Eq.trans (zs_geti f80_32 g0 g1) ?_
  exact zs_sw (off := 25) (v := 1) f80_35 (by decide) (by decide) rfl hx
theorem b80_30_c2 {h : zi_Hp} {a0 : Nat} {x1 : Int32} {a2 : Nat} {u3 : Value} {u4 : Value} {s0 : Int32} (g0 : a2 < zh_n h) (g1 : (zh_k h a2).1 = 0) (hx : (zh_i h a2 0) = 2) : zv 5 80 30 [.ref a0, .int x1, .ref a2, u3, u4] [.int s0] h = zv 5 80 70 [.ref a0, .int x1, .ref a2, .int s0, u4] [] h := by
  refine Eq.trans (zv_next f80_30 rfl) ?_
  refine Eq.trans (zv_next f80_31 rfl) ?_
  refine Eq.trans (zs_geti f80_32 g0 g1) ?_
  exact zs_sw (off := 35) (v := 2) f80_35 (by decide) (by decide) rfl hx
theorem b80_30_c3 {h : zi_Hp} {a0 : Nat} {x1 : Int32} {a2 : Nat} {u3 : Value} {u4 : Value} {s0 : Int32} (g0 : a2 < zh_n h) (g1 : (zh_k h a2).1 = 0) (hx : (zh_i h a2 0) = 3) : zv 5 80 30 [.ref a0, .int x1, .ref a2, u3, u4] [.int s0] h = zv 5 80 96 [.ref a0, .int x1, .ref a2, .int s0, u4] [] h := by
  refine Eq.trans (zv_next f80_30 rfl) ?_
  refine Eq.trans (zv_next f80_31 rfl) ?_
  refine Eq.trans (zs_geti f80_32 g0 g1) ?_
  exact zs_sw (off := 61) (v := 3) f80_35 (by decide) (by decide) rfl hx
theorem b80_30_d {h : zi_Hp} {a0 : Nat} {x1 : Int32} {a2 : Nat} {u3 : Value} {u4 : Value} {s0 : Int32} (g0 : a2 < zh_n h) (g1 : (zh_k h a2).1 = 0) (hx : ((zh_i h a2 0)).toInt < 1 ∨ 3 < ((zh_i h a2 0)).toInt) : zv 5 80 30 [.ref a0, .int x1, .ref a2, u3, u4] [.int s0] h = zv 5 80 106 [.ref a0, .int x1, .ref a2, .int s0, u4] [] h := by
  refine Eq.trans (zv_next f80_30 rfl) ?_
  refine Eq.trans (zv_next f80_31 rfl) ?_
  refine Eq.trans (zs_geti f80_32 g0 g1) ?_
  exact zs_swO f80_35 rfl hx
theorem b80_60 {h : zi_Hp} {a0 : Nat} {x1 : Int32} {a2 : Nat} {x3 : Int32} {u4 : Value} (g0 : a0 < zh_n h) (g1 : (zh_k h a0).1 = 6) : zv 5 80 60 [.ref a0, .int x1, .ref a2, .int x3, u4] [] h = (zv 4 85 0 [.ref a0, .ref a2, .double 0] [] h).bind fun r => zv 5 80 65 [.ref a0, .int x1, .ref a2, .int x3, u4] (r.1.toList ++ []) r.2 := by
  refine Eq.trans (zv_next f80_60 rfl) ?_
  refine Eq.trans (zv_next f80_61 rfl) ?_
  exact zs_callV f80_62 (Nat.le_of_ble_eq_true rfl) (Nat.le_of_ble_eq_true rfl) rfl g0 g1 me_85 (by decide) rfl
theorem b80_65 {h : zi_Hp} {a0 : Nat} {x1 : Int32} {a2 : Nat} {x3 : Int32} {u4 : Value} {s0 : Int32}  : zv 5 80 65 [.ref a0, .int x1, .ref a2, .int x3, u4] [.int s0] h = zv 5 80 128 [.ref a0, .int x1, .ref a2, .int x3, .int s0] [] h := by
  refine Eq.trans (zv_next f80_65 rfl) ?_
  refine Eq.trans (zs_goto (tgt := 128) f80_67 rfl) ?_
  rfl
theorem b80_70 {h : zi_Hp} {a0 : Nat} {x1 : Int32} {a2 : Nat} {x3 : Int32} {u4 : Value} (g0 : a2 < zh_n h) (g1 : (zh_k h a2).1 = 0) : zv 5 80 70 [.ref a0, .int x1, .ref a2, .int x3, u4] [] h = if (zh_i h a2 1) = 1 then zv 5 80 78 [.ref a0, .int x1, .ref a2, .int x3, u4] [] h else zv 5 80 86 [.ref a0, .int x1, .ref a2, .int x3, u4] [] h := by
  refine Eq.trans (zv_next f80_70 rfl) ?_
  refine Eq.trans (zs_geti f80_71 g0 g1) ?_
  refine Eq.trans (zs_ic f80_74 ic_1) ?_
  exact zs_icmp f80_75 rfl
theorem b80_78 {h : zi_Hp} {a0 : Nat} {x1 : Int32} {a2 : Nat} {x3 : Int32} {u4 : Value} (g0 : a0 < zh_n h) (g1 : (zh_k h a0).1 = 6) : zv 5 80 78 [.ref a0, .int x1, .ref a2, .int x3, u4] [] h = (zv 4 86 0 [.ref a0, .ref a2, .double 0] [] h).bind fun r => zv 5 80 83 [.ref a0, .int x1, .ref a2, .int x3, u4] (r.1.toList ++ []) r.2 := by
  refine Eq.trans (zv_next f80_78 rfl) ?_
  refine Eq.trans (zv_next f80_79 rfl) ?_
  exact zs_callV f80_80 (Nat.le_of_ble_eq_true rfl) (Nat.le_of_ble_eq_true rfl) rfl g0 g1 me_86 (by decide) rfl
theorem b80_83 {h : zi_Hp} {a0 : Nat} {x1 : Int32} {a2 : Nat} {x3 : Int32} {u4 : Value} {s0 : Int32}  : zv 5 80 83 [.ref a0, .int x1, .ref a2, .int x3, u4] [.int s0] h = zv 5 80 91 [.ref a0, .int x1, .ref a2, .int x3, u4] [.int s0] h := by
  refine Eq.trans (zs_goto (tgt := 91) f80_83 rfl) ?_
  rfl
theorem b80_86 {h : zi_Hp} {a0 : Nat} {x1 : Int32} {a2 : Nat} {x3 : Int32} {u4 : Value} (g0 : a0 < zh_n h) (g1 : (zh_k h a0).1 = 6) : zv 5 80 86 [.ref a0, .int x1, .ref a2, .int x3, u4] [] h = (zv 4 89 0 [.ref a0, .ref a2] [] h).bind fun r => zv 5 80 91 [.ref a0, .int x1, .ref a2, .int x3, u4] (r.1.toList ++ []) r.2 := by
  refine Eq.trans (zv_next f80_86 rfl) ?_
  refine Eq.trans (zv_next f80_87 rfl) ?_
  exact zs_callV f80_88 (Nat.le_of_ble_eq_true rfl) (Nat.le_of_ble_eq_true rfl) rfl g0 g1 me_89 (by decide) rfl
theorem b80_91 {h : zi_Hp} {a0 : Nat} {x1 : Int32} {a2 : Nat} {x3 : Int32} {u4 : Value} {s0 : Int32}  : zv 5 80 91 [.ref a0, .int x1, .ref a2, .int x3, u4] [.int s0] h = zv 5 80 128 [.ref a0, .int x1, .ref a2, .int x3, .int s0] [] h := by
  refine Eq.trans (zv_next f80_91 rfl) ?_
  refine Eq.trans (zs_goto (tgt := 128) f80_93 rfl) ?_
  rfl
theorem b80_96 {h : zi_Hp} {a0 : Nat} {x1 : Int32} {a2 : Nat} {x3 : Int32} {u4 : Value} (g0 : a0 < zh_n h) (g1 : (zh_k h a0).1 = 6) : zv 5 80 96 [.ref a0, .int x1, .ref a2, .int x3, u4] [] h = (zv 4 90 0 [.ref a0, .ref a2, .double 0] [] h).bind fun r => zv 5 80 101 [.ref a0, .int x1, .ref a2, .int x3, u4] (r.1.toList ++ []) r.2 := by
  refine Eq.trans (zv_next f80_96 rfl) ?_
  refine Eq.trans (zv_next f80_97 rfl) ?_
  exact zs_callV f80_98 (Nat.le_of_ble_eq_true rfl) (Nat.le_of_ble_eq_true rfl) rfl g0 g1 me_90 (by decide) rfl
theorem b80_101 {h : zi_Hp} {a0 : Nat} {x1 : Int32} {a2 : Nat} {x3 : Int32} {u4 : Value} {s0 : Int32}  : zv 5 80 101 [.ref a0, .int x1, .ref a2, .int x3, u4] [.int s0] h = zv 5 80 128 [.ref a0, .int x1, .ref a2, .int x3, .int s0] [] h := by
  refine Eq.trans (zv_next f80_101 rfl) ?_
  refine Eq.trans (zs_goto (tgt := 128) f80_103 rfl) ?_
  rfl
theorem b80_106 {h : zi_Hp} {a0 : Nat} {x1 : Int32} {a2 : Nat} {x3 : Int32} {u4 : Value} (g0 : a2 < zh_n h) (g1 : (zh_k h a2).1 = 0) : zv 5 80 106 [.ref a0, .int x1, .ref a2, .int x3, u4] [] h = if (zi_bI (zh_b h a2 11)) = 0 then zv 5 80 121 [.ref a0, .int x1, .ref a2, .int x3, u4] [] h else zv 5 80 113 [.ref a0, .int x1, .ref a2, .int x3, u4] [] h := by
  refine Eq.trans (zv_next f80_106 rfl) ?_
  refine Eq.trans (zs_getb f80_107 g0 g1) ?_
  exact zs_if f80_110 rfl
theorem b80_113 {h : zi_Hp} {a0 : Nat} {x1 : Int32} {a2 : Nat} {x3 : Int32} {u4 : Value} (g0 : a0 < zh_n h) (g1 : (zh_k h a0).1 = 6) : zv 5 80 113 [.ref a0, .int x1, .ref a2, .int x3, u4] [] h = (zv 3 93 0 [.ref a0, .ref a2, .double 0, .double 0] [] h).bind fun r => zv 5 80 118 [.ref a0, .int x1, .ref a2, .int x3, u4] (r.1.toList ++ []) r.2 := by
  refine Eq.trans (zv_next f80_113 rfl) ?_
  refine Eq.trans (zv_next f80_114 rfl) ?_
  exact zs_callV f80_115 (Nat.le_of_ble_eq_true rfl) (Nat.le_of_ble_eq_true rfl) rfl g0 g1 me_93 (by decide) rfl
theorem b80_118 {h : zi_Hp} {a0 : Nat} {x1 : Int32} {a2 : Nat} {x3 : Int32} {u4 : Value} {s0 : Int32}  : zv 5 80 118 [.ref a0, .int x1, .ref a2, .int x3, u4] [.int s0] h = zv 5 80 126 [.ref a0, .int x1, .ref a2, .int x3, u4] [.int s0] h := by
  refine Eq.trans (zs_goto (tgt := 126) f80_118 rfl) ?_
  rfl
theorem b80_121 {h : zi_Hp} {a0 : Nat} {x1 : Int32} {a2 : Nat} {x3 : Int32} {u4 : Value} (g0 : a0 < zh_n h) (g1 : (zh_k h a0).1 = 6) : zv 5 80 121 [.ref a0, .int x1, .ref a2, .int x3, u4] [] h = (zv 4 92 0 [.ref a0, .ref a2, .double 0, .double 0] [] h).bind fun r => zv 5 80 126 [.ref a0, .int x1, .ref a2, .int x3, u4] (r.1.toList ++ []) r.2 := by
  refine Eq.trans (zv_next f80_121 rfl) ?_
  refine Eq.trans (zv_next f80_122 rfl) ?_
  exact zs_callV f80_123 (Nat.le_of_ble_eq_true rfl) (Nat.le_of_ble_eq_true rfl) rfl g0 g1 me_92 (by decide) rfl
theorem b80_126 {h : zi_Hp} {a0 : Nat} {x1 : Int32} {a2 : Nat} {x3 : Int32} {u4 : Value} {s0 : Int32}  : zv 5 80 126 [.ref a0, .int x1, .ref a2, .int x3, u4] [.int s0] h = zv 5 80 128 [.ref a0, .int x1, .ref a2, .int x3, .int s0] [] h := by
  refine Eq.trans (zv_next f80_126 rfl) ?_
  rfl
theorem b80_128 {h : zi_Hp} {a0 : Nat} {x1 : Int32} {a2 : Nat} {x3 : Int32} {x4 : Int32}  : zv 5 80 128 [.ref a0, .int x1, .ref a2, .int x3, .int x4] [] h = if x4 = 0 then zv 5 80 143 [.ref a0, .int x1, .ref a2, .int x3, .int x4] [] h else zv 5 80 133 [.ref a0, .int x1, .ref a2, .int x3, .int x4] [] h := by
  refine Eq.trans (zv_next f80_128 rfl) ?_
  exact zs_if f80_130 rfl
theorem b80_133 {h : zi_Hp} {a0 : Nat} {x1 : Int32} {a2 : Nat} {x3 : Int32} {x4 : Int32} (g0 : a2 < zh_n h) (g1 : (zh_k h a2).1 = 0) : zv 5 80 133 [.ref a0, .int x1, .ref a2, .int x3, .int x4] [] h = zv 5 80 143 [.ref a0, .int x1, .ref a2, .int x3, .int x4] [] (zh_wi h a2 6 ((zh_i h a2 6) + 1)) := by
  refine Eq.trans (zv_next f80_133 rfl) ?_
  refine Eq.trans (zv_next f80_134 rfl) ?_
  refine Eq.trans (zs_geti f80_135 g0 g1) ?_
  refine Eq.trans (zs_ic f80_138 ic_1) ?_
  refine Eq.trans (zv_next f80_139 rfl) ?_
  refine Eq.trans (zs_put f80_140 g0 g1 rfl) ?_
  rfl
theorem b80_143 {h : zi_Hp} {a0 : Nat} {x1 : Int32} {a2 : Nat} {x3 : Int32} {x4 : Int32}  : zv 5 80 143 [.ref a0, .int x1, .ref a2, .int x3, .int x4] [] h = if x4 = 1 then zv 5 80 149 [.ref a0, .int x1, .ref a2, .int x3, .int x4] [] h else zv 5 80 159 [.ref a0, .int x1, .ref a2, .int x3, .int x4] [] h := by
  refine Eq.trans (zv_next f80_143 rfl) ?_
  refine Eq.trans (zs_ic f80_145 ic_1) ?_
  exact zs_icmp f80_146 rfl
theorem b80_149 {h : zi_Hp} {a0 : Nat} {x1 : Int32} {a2 : Nat} {x3 : Int32} {x4 : Int32} (g0 : a2 < zh_n h) (g1 : (zh_k h a2).1 = 0) : zv 5 80 149 [.ref a0, .int x1, .ref a2, .int x3, .int x4] [] h = zv 5 80 159 [.ref a0, .int x1, .ref a2, .int x3, .int x4] [] (zh_wi h a2 7 ((zh_i h a2 7) + 1)) := by
  refine Eq.trans (zv_next f80_149 rfl) ?_
  refine Eq.trans (zv_next f80_150 rfl) ?_
  refine Eq.trans (zs_geti f80_151 g0 g1) ?_
  refine Eq.trans (zs_ic f80_154 ic_1) ?_
  refine Eq.trans (zv_next f80_155 rfl) ?_
  refine Eq.trans (zs_put f80_156 g0 g1 rfl) ?_
  rfl
theorem b80_159 {h : zi_Hp} {a0 : Nat} {x1 : Int32} {a2 : Nat} {x3 : Int32} {x4 : Int32}  : zv 5 80 159 [.ref a0, .int x1, .ref a2, .int x3, .int x4] [] h = if x3 = 0 then zv 5 80 168 [.ref a0, .int x1, .ref a2, .int x3, .int x4] [] h else zv 5 80 163 [.ref a0, .int x1, .ref a2, .int x3, .int x4] [] h := by
  refine Eq.trans (zv_next f80_159 rfl) ?_
  exact zs_if f80_160 rfl
theorem b80_163 {h : zi_Hp} {a0 : Nat} {x1 : Int32} {a2 : Nat} {x3 : Int32} {x4 : Int32} (g0 : a0 < zh_n h) (g1 : (zh_k h a0).1 = 6) : zv 5 80 163 [.ref a0, .int x1, .ref a2, .int x3, .int x4] [] h = (zv 3 81 0 [.ref a0, .int x1, .double 0] [] h).bind fun r => zv 5 80 168 [.ref a0, .int x1, .ref a2, .int x3, .int x4] (r.1.toList ++ []) r.2 := by
  refine Eq.trans (zv_next f80_163 rfl) ?_
  refine Eq.trans (zv_next f80_164 rfl) ?_
  exact zs_callV f80_165 (Nat.le_of_ble_eq_true rfl) (Nat.le_of_ble_eq_true rfl) rfl g0 g1 me_81 (by decide) rfl
theorem b80_168 {h : zi_Hp} {a0 : Nat} {x1 : Int32} {a2 : Nat} {x3 : Int32} {x4 : Int32}  : zv 5 80 168 [.ref a0, .int x1, .ref a2, .int x3, .int x4] [] h = some (some (.int x4), h) := by
  refine Eq.trans (zv_next f80_168 rfl) ?_
  exact zs_ret0 f80_170
set_option maxRecDepth 20000 in
theorem zq81 : zi_M[81]? = some zi_m81 := rfl
theorem zl81_0 {pc : Nat} (_ : 0 ≤ pc) : zi_fe 81 pc = zu81_0.lookup pc := zi_feA zq81 pc
theorem f81_0 : zi_fe 81 0 = some ((.iconst 0), 1, 0, 0, 0, 0, 0) := (zl81_0 (Nat.le_of_ble_eq_true rfl)).trans rfl
theorem f81_1 : zi_fe 81 1 = some ((.istore_n 2), 1, 0, 0, 0, 0, 0) := (zl81_0 (Nat.le_of_ble_eq_true rfl)).trans rfl
theorem f81_2 : zi_fe 81 2 = some ((.iload_n 2), 1, 0, 0, 0, 0, 0) := (zl81_0 (Nat.le_of_ble_eq_true rfl)).trans rfl
theorem f81_3 : zi_fe 81 3 = some ((.iconst 3), 1, 0, 0, 0, 0, 0) := (zl81_0 (Nat.le_of_ble_eq_true rfl)).trans rfl
theorem f81_4 : zi_fe 81 4 = some ((.if_icmp .ge 36), 3, 0, 0, 0, 0, 0) := (zl81_0 (Nat.le_of_ble_eq_true rfl)).trans rfl
theorem f81_7 : zi_fe 81 7 = some ((.aload_n 0), 1, 0, 0, 0, 0, 0) := (zl81_0 (Nat.le_of_ble_eq_true rfl)).trans rfl
theorem f81_8 : zi_fe 81 8 = some ((.getfield 21), 3, 6, 1, 3, 256, 0) := (zl81_0 (Nat.le_of_ble_eq_true rfl)).trans rfl
theorem f81_11 : zi_fe 81 11 = some ((.iload_n 2), 1, 0, 0, 0, 0, 0) := (zl81_0 (Nat.le_of_ble_eq_true rfl)).trans rfl
theorem f81_12 : zi_fe 81 12 = some (.aaload, 1, 0, 0, 0, 0, 0) := (zl81_0 (Nat.le_of_ble_eq_true rfl)).trans rfl
theorem f81_13 : zi_fe 81 13 = some ((.invokevirtual 122), 3, 4, 0, 0, 606, 1) := (zl81_0 (Nat.le_of_ble_eq_true rfl)).trans rfl
theorem f81_16 : zi_fe 81 16 = some ((.ifCond .ne 8), 3, 0, 0, 0, 0, 0) := (zl81_0 (Nat.le_of_ble_eq_true rfl)).trans rfl
theorem f81_19 : zi_fe 81 19 = some ((.iload_n 2), 1, 0, 0, 0, 0, 0) := (zl81_0 (Nat.le_of_ble_eq_true rfl)).trans rfl
theorem zl81_1 {pc : Nat} (h : 20 ≤ pc) : zi_fe 81 pc = zu81_1.lookup pc := (zl81_0 (Nat.le_trans (Nat.le_of_ble_eq_true rfl) h)).trans (zi_lkA (a := zi_i81_0) (c := 20) rfl h)
theorem f81_20 : zi_fe 81 20 = some ((.iload_n 1), 1, 0, 0, 0, 0, 0) := (zl81_1 (Nat.le_of_ble_eq_true rfl)).trans rfl
theorem f81_21 : zi_fe 81 21 = some ((.if_icmp .ne 13), 3, 0, 0, 0, 0, 0) := (zl81_1 (Nat.le_of_ble_eq_true rfl)).trans rfl
theorem f81_24 : zi_fe 81 24 = some ((.aload_n 0), 1, 0, 0, 0, 0, 0) := (zl81_1 (Nat.le_of_ble_eq_true rfl)).trans rfl
theorem f81_25 : zi_fe 81 25 = some ((.aload_n 0), 1, 0, 0, 0, 0, 0) := (zl81_1 (Nat.le_of_ble_eq_true rfl)).trans rfl
theorem f81_26 : zi_fe 81 26 = some ((.getfield 21), 3, 6, 1, 3, 256, 0) := (zl81_1 (Nat.le_of_ble_eq_true rfl)).trans rfl
theorem f81_29 : zi_fe 81 29 = some ((.iload_n 2), 1, 0, 0, 0, 0, 0) := (zl81_1 (Nat.le_of_ble_eq_true rfl)).trans rfl
theorem f81_30 : zi_fe 81 30 = some (.aaload, 1, 0, 0, 0, 0, 0) := (zl81_1 (Nat.le_of_ble_eq_true rfl)).trans rfl
theorem f81_31 : zi_fe 81 31 = some ((.invokevirtual 72), 3, 82, 0, 6, 590, 2) := (zl81_1 (Nat.le_of_ble_eq_true rfl)).trans rfl
theorem f81_34 : zi_fe 81 34 = some ((.iinc 2 1), 3, 0, 0, 0, 0, 0) := (zl81_1 (Nat.le_of_ble_eq_true rfl)).trans rfl
theorem f81_37 : zi_fe 81 37 = some ((.goto (-35)), 3, 0, 0, 0, 0, 0) := (zl81_1 (Nat.le_of_ble_eq_true rfl)).trans rfl
theorem f81_40 : zi_fe 81 40 = some (.return_, 1, 0, 0, 0, 0, 0) := (zl81_1 (Nat.le_of_ble_eq_true rfl)).trans rfl
theorem b81_0 {h : zi_Hp} {a0 : Nat} {x1 : Int32} {u2 : Value}  : zv 3 81 0 [.ref a0, .int x1, u2] [] h = zv 3 81 2 [.ref a0, .int x1, .int 0] [] h := by
  refine Eq.trans (zs_ic f81_0 ic_0) ?_
  refine Eq.trans (zv_next f81_1 rfl) ?_
  rfl
theorem b81_2 {h : zi_Hp} {a0 : Nat} {x1 : Int32} {x2 : Int32}  : zv 3 81 2 [.ref a0, .int x1, .int x2] [] h = if x2 < 3 then zv 3 81 7 [.ref a0, .int x1, .int x2] [] h else zv 3 81 40 [.ref a0, .int x1, .int x2] [] h := by
  refine Eq.trans (zv_next f81_2 rfl) ?_
  refine Eq.trans (zs_ic f81_3 ic_3) ?_
  exact zs_icmp f81_4 rfl
theorem b81_7 {h : zi_Hp} {a0 : Nat} {x1 : Int32} {x2 : Int32} (g0 : a0 < zh_n h) (g1 : (zh_k h a0).1 = 6) (g2 : zh_r h a0 1 = .ref (zq (zh_r h a0 1))) (g3 : (zq (zh_r h a0 1)) < zh_n h) (g4 : ¬ (x2 < 0 ∨ (zh_k h (zq (zh_r h a0 1))).2 ≤ x2.toNatClampNeg)) (g5 : (zh_k h (zq (zh_r h a0 1))).1 = 103 ∨ (zh_k h (zq (zh_r h a0 1))).1 = 104 ∨ (zh_k h (zq (zh_r h a0 1))).1 = 105) (g6 : zh_r h (zq (zh_r h a0 1)) x2.toNatClampNeg = .ref (zq (zh_r h (zq (zh_r h a0 1)) x2.toNatClampNeg))) (g7 : (zq (zh_r h (zq (zh_r h a0 1)) x2.toNatClampNeg)) < zh_n h) (g8 : (zh_k h (zq (zh_r h (zq (zh_r h a0 1)) x2.toNatClampNeg))).1 = 0) : zv 3 81 7 [.ref a0, .int x1, .int x2] [] h = (zv 1 4 0 [.ref (zq (zh_r h (zq (zh_r h a0 1)) x2.toNatClampNeg))] [] h).bind fun r => zv 3 81 16 [.ref a0, .int x1, .int x2] (r.1.toList ++ []) r.2 := by
  refine Eq.trans (zv_next f81_7 rfl) ?_
  refine Eq.trans (zs_getr f81_8 g0 g1 g2) ?_
  refine Eq.trans (zv_next f81_11 rfl) ?_
  refine Eq.trans (zs_aald f81_12 g3 g5 g4 g6) ?_
  exact zs_callV f81_13 (Nat.le_of_ble_eq_true rfl) (Nat.le_of_ble_eq_true rfl) rfl g7 g8 me_4 (by decide) rfl
theorem b81_16 {h : zi_Hp} {a0 : Nat} {x1 : Int32} {x2 : Int32} {s0 : Int32}  : zv 3 81 16 [.ref a0, .int x1, .int x2] [.int s0] h = if s0 = 0 then zv 3 81 19 [.ref a0, .int x1, .int x2] [] h else zv 3 81 24 [.ref a0, .int x1, .int x2] [] h := by
  exact zs_if f81_16 rfl
theorem b81_19 {h : zi_Hp} {a0 : Nat} {x1 : Int32} {x2 : Int32}  : zv 3 81 19 [.ref a0, .int x1, .int x2] [] h = if x2 = x1 then zv 3 81 24 [.ref a0, .int x1, .int x2] [] h else zv 3 81 34 [.ref a0, .int x1, .int x2] [] h := by
  refine Eq.trans (zv_next f81_19 rfl) ?_
  refine Eq.trans (zv_next f81_20 rfl) ?_
  exact zs_icmp f81_21 rfl
theorem b81_24 {h : zi_Hp} {a0 : Nat} {x1 : Int32} {x2 : Int32} (g0 : a0 < zh_n h) (g1 : (zh_k h a0).1 = 6) (g2 : zh_r h a0 1 = .ref (zq (zh_r h a0 1))) (g3 : (zq (zh_r h a0 1)) < zh_n h) (g4 : ¬ (x2 < 0 ∨ (zh_k h (zq (zh_r h a0 1))).2 ≤ x2.toNatClampNeg)) (g5 : (zh_k h (zq (zh_r h a0 1))).1 = 103 ∨ (zh_k h (zq (zh_r h a0 1))).1 = 104 ∨ (zh_k h (zq (zh_r h a0 1))).1 = 105) (g6 : zh_r h (zq (zh_r h a0 1)) x2.toNatClampNeg = .ref (zq (zh_r h (zq (zh_r h a0 1)) x2.toNatClampNeg))) : zv 3 81 24 [.ref a0, .int x1, .int x2] [] h = (zv 2 82 0 [.ref a0, .ref (zq (zh_r h (zq (zh_r h a0 1)) x2.toNatClampNeg))] [] h).bind fun r => zv 3 81 34 [.ref a0, .int x1, .int x2] (r.1.toList ++ []) r.2 := by
  refine Eq.trans (zv_next f81_24 rfl) ?_
  refine Eq.trans (zv_next f81_25 rfl) ?_
  refine Eq.trans (zs_getr f81_26 g0 g1 g2) ?_
  refine Eq.trans (zv_next f81_29 rfl) ?_
  refine Eq.trans (zs_aald f81_30 g3 g5 g4 g6) ?_
  exact zs_callV f81_31 (Nat.le_of_ble_eq_true rfl) (Nat.le_of_ble_eq_true rfl) rfl g0 g1 me_82 (by decide) rfl
theorem b81_34 {h : zi_Hp} {a0 : Nat} {x1 : Int32} {x2 : Int32}  : zv 3 81 34 [.ref a0, .int x1, .int x2] [] h = zv 3 81 2 [.ref a0, .int x1, .int (x2 + 1)] [] h := by
  refine Eq.trans (zs_inc f81_34 rfl ic_1 rfl) ?_
  refine Eq.trans (zs_goto (tgt := 2) f81_37 rfl) ?_
  rfl
theorem b81_40 {h : zi_Hp} {a0 : Nat} {x1 : Int32} {x2 : Int32}  : zv 3 81 40 [.ref a0, .int x1, .int x2] [] h = some (none, h) := by
  exact zv_ret f81_40 rfl
set_option maxRecDepth 20000 in
theorem zq82 : zi_M[82]? = some zi_m82 := rfl
theorem zl82_0 {pc : Nat} (_ : 0 ≤ pc) : zi_fe 82 pc = zu82_0.lookup pc := zi_feA zq82 pc
theorem f82_0 : zi_fe 82 0 = some ((.aload_n 1), 1, 0, 0, 0, 0, 0) := (zl82_0 (Nat.le_of_ble_eq_true rfl)).trans rfl
theorem f82_1 : zi_fe 82 1 = some (.dup, 1, 0, 0, 0, 0, 0) := (zl82_0 (Nat.le_of_ble_eq_true rfl)).trans rfl
theorem f82_2 : zi_fe 82 2 = some ((.getfield 126), 3, 0, 5, 0, 212, 0) := (zl82_0 (Nat.le_of_ble_eq_true rfl)).trans rfl
theorem f82_5 : zi_fe 82 5 = some ((.aload_n 0), 1, 0, 0, 0, 0, 0) := (zl82_0 (Nat.le_of_ble_eq_true rfl)).trans rfl
theorem f82_6 : zi_fe 82 6 = some ((.getfield 12), 3, 6, 0, 3, 253, 0) := (zl82_0 (Nat.le_of_ble_eq_true rfl)).trans rfl
theorem f82_9 : zi_fe 82 9 = some ((.aload_n 1), 1, 0, 0, 0, 0, 0) := (zl82_0 (Nat.le_of_ble_eq_true rfl)).trans rfl
theorem f82_10 : zi_fe 82 10 = some ((.getfield 129), 3, 0, 2, 0, 205, 0) := (zl82_0 (Nat.le_of_ble_eq_true rfl)).trans rfl
theorem f82_13 : zi_fe 82 13 = some ((.invokevirtual 132), 3, 56, 0, 4, 594, 2) := (zl82_0 (Nat.le_of_ble_eq_true rfl)).trans rfl
theorem f82_16 : zi_fe 82 16 = some ((.ifCond .eq 7), 3, 0, 0, 0, 0, 0) := (zl82_0 (Nat.le_of_ble_eq_true rfl)).trans rfl
theorem f82_19 : zi_fe 82 19 = some ((.iconst 2), 1, 0, 0, 0, 0, 0) := (zl82_0 (Nat.le_of_ble_eq_true rfl)).trans rfl
theorem f82_20 : zi_fe 82 20 = some ((.goto 4), 3, 0, 0, 0, 0, 0) := (zl82_0 (Nat.le_of_ble_eq_true rfl)).trans rfl
theorem f82_23 : zi_fe 82 23 = some ((.iconst 1), 1, 0, 0, 0, 0, 0) := (zl82_0 (Nat.le_of_ble_eq_true rfl)).trans rfl
theorem zl82_1 {pc : Nat} (h : 24 ≤ pc) : zi_fe 82 pc = zu82_1.lookup pc := (zl82_0 (Nat.le_trans (Nat.le_of_ble_eq_true rfl) h)).trans (zi_lkA (a := zi_i82_0) (c := 24) rfl h)
theorem f82_24 : zi_fe 82 24 = some (.ior, 1, 0, 0, 0, 0, 0) := (zl82_1 (Nat.le_of_ble_eq_true rfl)).trans rfl
theorem f82_25 : zi_fe 82 25 = some ((.putfield 126), 3, 0, 5, 0, 212, 0) := (zl82_1 (Nat.le_of_ble_eq_true rfl)).trans rfl
theorem f82_28 : zi_fe 82 28 = some (.return_, 1, 0, 0, 0, 0, 0) := (zl82_1 (Nat.le_of_ble_eq_true rfl)).trans rfl
theorem b82_0 {h : zi_Hp} {a0 : Nat} {a1 : Nat} (g0 : a1 < zh_n h) (g1 : (zh_k h a1).1 = 0) (g2 : a0 < zh_n h) (g3 : (zh_k h a0).1 = 6) (g4 : zh_r h a0 0 = .ref (zq (zh_r h a0 0))) (g5 : (zq (zh_r h a0 0)) < zh_n h) (g6 : (zh_k h (zq (zh_r h a0 0))).1 = 4) : zv 2 82 0 [.ref a0, .ref a1] [] h = (zv 1 56 0 [.ref (zq (zh_r h a0 0)), .int (zh_i h a1 2), .double 0, .double 0] [] h).bind fun r => zv 2 82 16 [.ref a0, .ref a1] (r.1.toList ++ [.int (zh_i h a1 5), .ref a1]) r.2 := by
  refine Eq.trans (zv_next f82_0 rfl) ?_
  refine Eq.trans (zv_next f82_1 rfl) ?_
  refine Eq.trans (zs_geti f82_2 g0 g1) ?_
  refine Eq.trans (zv_next f82_5 rfl) ?_
  refine Eq.trans (zs_getr f82_6 g2 g3 g4) ?_
  refine Eq.trans (zv_next f82_9 rfl) ?_
  refine Eq.trans (zs_geti f82_10 g0 g1) ?_
  exact zs_callV f82_13 (Nat.le_of_ble_eq_true rfl) (Nat.le_of_ble_eq_true rfl) rfl g5 g6 me_56 (by decide) rfl
theorem b82_16 {h : zi_Hp} {a0 : Nat} {a1 : Nat} {t0 : Nat} {s1 : Int32} {s2 : Int32}  : zv 2 82 16 [.ref a0, .ref a1] [.int s2, .int s1, .ref t0] h = if s2 = 0 then zv 2 82 23 [.ref a0, .ref a1] [.int s1, .ref t0] h else zv 2 82 19 [.ref a0, .ref a1] [.int s1, .ref t0] h := by
  exact zs_if f82_16 rfl
theorem b82_19 {h : zi_Hp} {a0 : Nat} {a1 : Nat} {t0 : Nat} {s1 : Int32}  : zv 2 82 19 [.ref a0, .ref a1] [.int s1, .ref t0] h = zv 2 82 24 [.ref a0, .ref a1] [.int 2, .int s1, .ref t0] h := by
  refine Eq.trans (zs_ic f82_19 ic_2) ?_
  refine Eq.trans (zs_goto (tgt := 24) f82_20 rfl) ?_
  rfl
theorem b82_23 {h : zi_Hp} {a0 : Nat} {a1 : Nat} {t0 : Nat} {s1 : Int32}  : zv 2 82 23 [.ref a0, .ref a1] [.int s1, .ref t0] h = zv 2 82 24 [.ref a0, .ref a1] [.int 1, .int s1, .ref t0] h := by
  refine Eq.trans (zs_ic f82_23 ic_1) ?_
  rfl
theorem b82_24 {h : zi_Hp} {a0 : Nat} {a1 : Nat} {t0 : Nat} {s1 : Int32} {s2 : Int32} (g0 : t0 < zh_n h) (g1 : (zh_k h t0).1 = 0) : zv 2 82 24 [.ref a0, .ref a1] [.int s2, .int s1, .ref t0] h = some (none, zh_wi h t0 5 (s1 ||| s2)) := by
  refine Eq.trans (zv_next f82_24 rfl) ?_
  refine Eq.trans (zs_put f82_25 g0 g1 rfl) ?_
  exact zv_ret f82_28 rfl
set_option maxRecDepth 20000 in
theorem zq83 : zi_M[83]? = some zi_m83 := rfl
theorem zl83_0 {pc : Nat} (_ : 0 ≤ pc) : zi_fe 83 pc = zu83_0.lookup pc := zi_feA zq83 pc
theorem f83_0 : zi_fe 83 0 = some ((.aload_n 0), 1, 0, 0, 0, 0, 0) := (zl83_0 (Nat.le_of_ble_eq_true rfl)).trans rfl
theorem f83_1 : zi_fe 83 1 = some ((.getfield 12), 3, 6, 0, 3, 253, 0) := (zl83_0 (Nat.le_of_ble_eq_true rfl)).trans rfl
theorem f83_4 : zi_fe 83 4 = some ((.aload_n 1), 1, 0, 0, 0, 0, 0) := (zl83_0 (Nat.le_of_ble_eq_true rfl)).trans rfl
theorem f83_5 : zi_fe 83 5 = some ((.getfield 135), 3, 0, 3, 0, 207, 0) := (zl83_0 (Nat.le_of_ble_eq_true rfl)).trans rfl
theorem f83_8 : zi_fe 83 8 = some ((.invokevirtual 138), 3, 44, 0, 4, 650, 2) := (zl83_0 (Nat.le_of_ble_eq_true rfl)).trans rfl
theorem f83_11 : zi_fe 83 11 = some ((.istore_n 2), 1, 0, 0, 0, 0, 0) := (zl83_0 (Nat.le_of_ble_eq_true rfl)).trans rfl
theorem f83_12 : zi_fe 83 12 = some ((.iload_n 2), 1, 0, 0, 0, 0, 0) := (zl83_0 (Nat.le_of_ble_eq_true rfl)).trans rfl
theorem f83_13 : zi_fe 83 13 = some ((.ifCond .ge 5), 3, 0, 0, 0, 0, 0) := (zl83_0 (Nat.le_of_ble_eq_true rfl)).trans rfl
theorem f83_16 : zi_fe 83 16 = some ((.iconst 0), 1, 0, 0, 0, 0, 0) := (zl83_0 (Nat.le_of_ble_eq_true rfl)).trans rfl
theorem f83_17 : zi_fe 83 17 = some (.ireturn, 1, 0, 0, 0, 0, 0) := (zl83_0 (Nat.le_of_ble_eq_true rfl)).trans rfl
theorem f83_18 : zi_fe 83 18 = some ((.aload_n 1), 1, 0, 0, 0, 0, 0) := (zl83_0 (Nat.le_of_ble_eq_true rfl)).trans rfl
theorem f83_19 : zi_fe 83 19 = some ((.iload_n 2), 1, 0, 0, 0, 0, 0) := (zl83_0 (Nat.le_of_ble_eq_true rfl)).trans rfl
theorem zl83_1 {pc : Nat} (h : 20 ≤ pc) : zi_fe 83 pc = zu83_1.lookup pc := (zl83_0 (Nat.le_trans (Nat.le_of_ble_eq_true rfl) h)).trans (zi_lkA (a := zi_i83_0) (c := 20) rfl h)
theorem f83_20 : zi_fe 83 20 = some ((.putfield 135), 3, 0, 3, 0, 207, 0) := (zl83_1 (Nat.le_of_ble_eq_true rfl)).trans rfl
theorem f83_23 : zi_fe 83 23 = some ((.iconst 1), 1, 0, 0, 0, 0, 0) := (zl83_1 (Nat.le_of_ble_eq_true rfl)).trans rfl
theorem f83_24 : zi_fe 83 24 = some (.ireturn, 1, 0, 0, 0, 0, 0) := (zl83_1 (Nat.le_of_ble_eq_true rfl)).trans rfl
theorem b83_0 {h : zi_Hp} {a0 : Nat} {a1 : Nat} {u2 : Value} (g0 : a0 < zh_n h) (g1 : (zh_k h a0).1 = 6) (g2 : zh_r h a0 0 = .ref (zq (zh_r h a0 0))) (g3 : a1 < zh_n h) (g4 : (zh_k h a1).1 = 0) (g5 : (zq (zh_r h a0 0)) < zh_n h) (g6 : (zh_k h (zq (zh_r h a0 0))).1 = 4) : zv 3 83 0 [.ref a0, .ref a1, u2] [] h = (zv 2 44 0 [.ref (zq (zh_r h a0 0)), .int (zh_i h a1 3)] [] h).bind fun r => zv 3 83 11 [.ref a0, .ref a1, u2] (r.1.toList ++ []) r.2 := by
  refine Eq.trans (zv_next f83_0 rfl) ?_
  refine Eq.trans (zs_getr f83_1 g0 g1 g2) ?_
  refine Eq.trans (zv_next f83_4 rfl) ?_
  refine Eq.trans (zs_geti f83_5 g3 g4) ?_
  exact zs_callV f83_8 (Nat.le_of_ble_eq_true rfl) (Nat.le_of_ble_eq_true rfl) rfl g5 g6 me_44 (by decide) rfl
theorem b83_11 {h : zi_Hp} {a0 : Nat} {a1 : Nat} {u2 : Value} {s0 : Int32}  : zv 3 83 11 [.ref a0, .ref a1, u2] [.int s0] h = if s0 < 0 then zv 3 83 16 [.ref a0, .ref a1, .int s0] [] h else zv 3 83 18 [.ref a0, .ref a1, .int s0] [] h := by
  refine Eq.trans (zv_next f83_11 rfl) ?_
  refine Eq.trans (zv_next f83_12 rfl) ?_
  exact zs_if f83_13 rfl
theorem b83_16 {h : zi_Hp} {a0 : Nat} {a1 : Nat} {x2 : Int32}  : zv 3 83 16 [.ref a0, .ref a1, .int x2] [] h = some (some (.int 0), h) := by
  refine Eq.trans (zs_ic f83_16 ic_0) ?_
  exact zs_ret0 f83_17
theorem b83_18 {h : zi_Hp} {a0 : Nat} {a1 : Nat} {x2 : Int32} (g0 : a1 < zh_n h) (g1 : (zh_k h a1).1 = 0) : zv 3 83 18 [.ref a0, .ref a1, .int x2] [] h = some (some (.int 1), zh_wi h a1 3 x2) := by
  refine Eq.trans (zv_next f83_18 rfl) ?_
  refine Eq.trans (zv_next f83_19 rfl) ?_
  refine Eq.trans (zs_put f83_20 g0 g1 rfl) ?_
  refine Eq.trans (zs_ic f83_23 ic_1) ?_
  exact zs_ret0 f83_24
set_option maxRecDepth 20000 in
theorem zq84 : zi_M[84]? = some zi_m84 := rfl
theorem zl84_0 {pc : Nat} (_ : 0 ≤ pc) : zi_fe 84 pc = zu84_0.lookup pc := zi_feA zq84 pc
theorem f84_0 : zi_fe 84 0 = some ((.aload_n 0), 1, 0, 0, 0, 0, 0) := (zl84_0 (Nat.le_of_ble_eq_true rfl)).trans rfl
theorem f84_1 : zi_fe 84 1 = some ((.getfield 12), 3, 6, 0, 3, 253, 0) := (zl84_0 (Nat.le_of_ble_eq_true rfl)).trans rfl
theorem f84_4 : zi_fe 84 4 = some ((.aload_n 1), 1, 0, 0, 0, 0, 0) := (zl84_0 (Nat.le_of_ble_eq_true rfl)).trans rfl
theorem f84_5 : zi_fe 84 5 = some ((.getfield 135), 3, 0, 3, 0, 207, 0) := (zl84_0 (Nat.le_of_ble_eq_true rfl)).trans rfl
theorem f84_8 : zi_fe 84 8 = some ((.aload_n 0), 1, 0, 0, 0, 0, 0) := (zl84_0 (Nat.le_of_ble_eq_true rfl)).trans rfl
theorem f84_9 : zi_fe 84 9 = some ((.getfield 12), 3, 6, 0, 3, 253, 0) := (zl84_0 (Nat.le_of_ble_eq_true rfl)).trans rfl
theorem f84_12 : zi_fe 84 12 = some ((.aload_n 1), 1, 0, 0, 0, 0, 0) := (zl84_0 (Nat.le_of_ble_eq_true rfl)).trans rfl
theorem f84_13 : zi_fe 84 13 = some ((.getfield 135), 3, 0, 3, 0, 207, 0) := (zl84_0 (Nat.le_of_ble_eq_true rfl)).trans rfl
theorem f84_16 : zi_fe 84 16 = some ((.iload_n 2), 1, 0, 0, 0, 0, 0) := (zl84_0 (Nat.le_of_ble_eq_true rfl)).trans rfl
theorem f84_17 : zi_fe 84 17 = some ((.invokevirtual 141), 3, 49, 0, 4, 662, 3) := (zl84_0 (Nat.le_of_ble_eq_true rfl)).trans rfl
theorem f84_20 : zi_fe 84 20 = some ((.invokevirtual 144), 3, 48, 0, 4, 666, 3) := (zl84_0 (Nat.le_of_ble_eq_true rfl)).trans rfl
theorem f84_23 : zi_fe 84 23 = some ((.istore_n 3), 1, 0, 0, 0, 0, 0) := (zl84_0 (Nat.le_of_ble_eq_true rfl)).trans rfl
theorem zl84_1 {pc : Nat} (h : 24 ≤ pc) : zi_fe 84 pc = zu84_1.lookup pc := (zl84_0 (Nat.le_trans (Nat.le_of_ble_eq_true rfl) h)).trans (zi_lkA (a := zi_i84_0) (c := 24) rfl h)
theorem f84_24 : zi_fe 84 24 = some ((.iload_n 3), 1, 0, 0, 0, 0, 0) := (zl84_1 (Nat.le_of_ble_eq_true rfl)).trans rfl
theorem f84_25 : zi_fe 84 25 = some ((.ifCond .ge 5), 3, 0, 0, 0, 0, 0) := (zl84_1 (Nat.le_of_ble_eq_true rfl)).trans rfl
theorem f84_28 : zi_fe 84 28 = some ((.iconst 0), 1, 0, 0, 0, 0, 0) := (zl84_1 (Nat.le_of_ble_eq_true rfl)).trans rfl
theorem f84_29 : zi_fe 84 29 = some (.ireturn, 1, 0, 0, 0, 0, 0) := (zl84_1 (Nat.le_of_ble_eq_true rfl)).trans rfl
theorem f84_30 : zi_fe 84 30 = some ((.aload_n 1), 1, 0, 0, 0, 0, 0) := (zl84_1 (Nat.le_of_ble_eq_true rfl)).trans rfl
theorem f84_31 : zi_fe 84 31 = some ((.iload_n 3), 1, 0, 0, 0, 0, 0) := (zl84_1 (Nat.le_of_ble_eq_true rfl)).trans rfl
theorem f84_32 : zi_fe 84 32 = some ((.putfield 135), 3, 0, 3, 0, 207, 0) := (zl84_1 (Nat.le_of_ble_eq_true rfl)).trans rfl
theorem f84_35 : zi_fe 84 35 = some ((.iconst 2), 1, 0, 0, 0, 0, 0) := (zl84_1 (Nat.le_of_ble_eq_true rfl)).trans rfl
theorem f84_36 : zi_fe 84 36 = some (.ireturn, 1, 0, 0, 0, 0, 0) := (zl84_1 (Nat.le_of_ble_eq_true rfl)).trans rfl
theorem b84_0 {h : zi_Hp} {a0 : Nat} {a1 : Nat} {x2 : Int32} {u3 : Value} (g0 : a0 < zh_n h) (g1 : (zh_k h a0).1 = 6) (g2 : zh_r h a0 0 = .ref (zq (zh_r h a0 0))) (g3 : a1 < zh_n h) (g4 : (zh_k h a1).1 = 0) (g5 : (zq (zh_r h a0 0)) < zh_n h) (g6 : (zh_k h (zq (zh_r h a0 0))).1 = 4) : zv 3 84 0 [.ref a0, .ref a1, .int x2, u3] [] h = (zv 2 49 0 [.ref (zq (zh_r h a0 0)), .int (zh_i h a1 3), .int x2, .double 0] [] h).bind fun r => zv 3 84 20 [.ref a0, .ref a1, .int x2, u3] (r.1.toList ++ [.int (zh_i h a1 3), .ref (zq (zh_r h a0 0))]) r.2 := by
  refine Eq.trans (zv_next f84_0 rfl) ?_
  refine Eq.trans (zs_getr f84_1 g0 g1 g2) ?_
  refine Eq.trans (zv_next f84_4 rfl) ?_
  refine Eq.trans (zs_geti f84_5 g3 g4) ?_
  refine Eq.trans (zv_next f84_8 rfl) ?_
  refine Eq.trans (zs_getr f84_9 g0 g1 g2) ?_
  refine Eq.trans (zv_next f84_12 rfl) ?_
  refine Eq.trans (zs_geti f84_13 g3 g4) ?_
  refine Eq.trans (zv_next f84_16 rfl) ?_
  exact zs_callV f84_17 (Nat.le_of_ble_eq_true rfl) (Nat.le_of_ble_eq_true rfl) rfl g5 g6 me_49 (by decide) rfl
theorem b84_20 {h : zi_Hp} {a0 : Nat} {a1 : Nat} {x2 : Int32} {u3 : Value} {t0 : Nat} {s1 : Int32} {s2 : Int32} (g0 : t0 < zh_n h) (g1 : (zh_k h t0).1 = 4) : zv 3 84 20 [.ref a0, .ref a1, .int x2, u3] [.int s2, .int s1, .ref t0] h = (zv 2 48 0 [.ref t0, .int s1, .int s2] [] h).bind fun r => zv 3 84 23 [.ref a0, .ref a1, .int x2, u3] (r.1.toList ++ []) r.2 := by
  exact zs_callV f84_20 (Nat.le_of_ble_eq_true rfl) (Nat.le_of_ble_eq_true rfl) rfl g0 g1 me_48 (by decide) rfl
theorem b84_23 {h : zi_Hp} {a0 : Nat} {a1 : Nat} {x2 : Int32} {u3 : Value} {s0 : Int32}  : zv 3 84 23 [.ref a0, .ref a1, .int x2, u3] [.int s0] h = if s0 < 0 then zv 3 84 28 [.ref a0, .ref a1, .int x2, .int s0] [] h else zv 3 84 30 [.ref a0, .ref a1, .int x2, .int s0] [] h := by
  refine Eq.trans (zv_next f84_23 rfl) ?_
  refine Eq.trans (zv_next f84_24 rfl) ?_
  exact zs_if f84_25 rfl
theorem b84_28 {h : zi_Hp} {a0 : Nat} {a1 : Nat} {x2 : Int32} {x3 : Int32}  : zv 3 84 28 [.ref a0, .ref a1, .int x2, .int x3] [] h = some (some (.int 0), h) := by
  refine Eq.trans (zs_ic f84_28 ic_0) ?_
  exact zs_ret0 f84_29
theorem b84_30 {h : zi_Hp} {a0 : Nat} {a1 : Nat} {x2 : Int32} {x3 : Int32} (g0 : a1 < zh_n h) (g1 : (zh_k h a1).1 = 0) : zv 3 84 30 [.ref a0, .ref a1, .int x2, .int x3] [] h = some (some (.int 2), zh_wi h a1 3 x3) := by
  refine Eq.trans (zv_next f84_30 rfl) ?_
  refine Eq.trans (zv_next f84_31 rfl) ?_
  refine Eq.trans (zs_put f84_32 g0 g1 rfl) ?_
  refine Eq.trans (zs_ic f84_35 ic_2) ?_
  exact zs_ret0 f84_36
set_option maxRecDepth 20000 in
theorem zq85 : zi_M[85]? = some zi_m85 := rfl
theorem zl85_0 {pc : Nat} (_ : 0 ≤ pc) : zi_fe 85 pc = zu85_0.lookup pc := zi_feA zq85 pc
theorem f85_0 : zi_fe 85 0 = some ((.aload_n 0), 1, 0, 0, 0, 0, 0) := (zl85_0 (Nat.le_of_ble_eq_true rfl)).trans rfl
theorem f85_1 : zi_fe 85 1 = some ((.getfield 12), 3, 6, 0, 3, 253, 0) := (zl85_0 (Nat.le_of_ble_eq_true rfl)).trans rfl
theorem f85_4 : zi_fe 85 4 = some ((.aload_n 1), 1, 0, 0, 0, 0, 0) := (zl85_0 (Nat.le_of_ble_eq_true rfl)).trans rfl
theorem f85_5 : zi_fe 85 5 = some ((.getfield 135), 3, 0, 3, 0, 207, 0) := (zl85_0 (Nat.le_of_ble_eq_true rfl)).trans rfl
theorem f85_8 : zi_fe 85 8 = some ((.invokevirtual 147), 3, 45, 0, 4, 642, 2) := (zl85_0 (Nat.le_of_ble_eq_true rfl)).trans rfl
theorem f85_11 : zi_fe 85 11 = some ((.ifCond .ne 21), 3, 0, 0, 0, 0, 0) := (zl85_0 (Nat.le_of_ble_eq_true rfl)).trans rfl
theorem f85_14 : zi_fe 85 14 = some ((.aload_n 1), 1, 0, 0, 0, 0, 0) := (zl85_0 (Nat.le_of_ble_eq_true rfl)).trans rfl
theorem f85_15 : zi_fe 85 15 = some ((.getfield 129), 3, 0, 2, 0, 205, 0) := (zl85_0 (Nat.le_of_ble_eq_true rfl)).trans rfl
theorem f85_18 : zi_fe 85 18 = some ((.aload_n 0), 1, 0, 0, 0, 0, 0) := (zl85_0 (Nat.le_of_ble_eq_true rfl)).trans rfl
theorem f85_19 : zi_fe 85 19 = some ((.getfield 12), 3, 6, 0, 3, 253, 0) := (zl85_0 (Nat.le_of_ble_eq_true rfl)).trans rfl
theorem f85_22 : zi_fe 85 22 = some ((.aload_n 1), 1, 0, 0, 0, 0, 0) := (zl85_0 (Nat.le_of_ble_eq_true rfl)).trans rfl
theorem f85_23 : zi_fe 85 23 = some ((.getfield 135), 3, 0, 3, 0, 207, 0) := (zl85_0 (Nat.le_of_ble_eq_true rfl)).trans rfl
theorem zl85_1 {pc : Nat} (h : 26 ≤ pc) : zi_fe 85 pc = zu85_1.lookup pc := (zl85_0 (Nat.le_trans (Nat.le_of_ble_eq_true rfl) h)).trans (zi_lkA (a := zi_i85_0) (c := 26) rfl h)
theorem f85_26 : zi_fe 85 26 = some ((.invokevirtual 150), 3, 43, 0, 4, 622, 2) := (zl85_1 (Nat.le_of_ble_eq_true rfl)).trans rfl
theorem f85_29 : zi_fe 85 29 = some ((.if_icmp .le 9), 3, 0, 0, 0, 0, 0) := (zl85_1 (Nat.le_of_ble_eq_true rfl)).trans rfl
theorem f85_32 : zi_fe 85 32 = some ((.aload_n 0), 1, 0, 0, 0, 0, 0) := (zl85_1 (Nat.le_of_ble_eq_true rfl)).trans rfl
theorem f85_33 : zi_fe 85 33 = some ((.aload_n 1), 1, 0, 0, 0, 0, 0) := (zl85_1 (Nat.le_of_ble_eq_true rfl)).trans rfl
theorem f85_34 : zi_fe 85 34 = some ((.invokevirtual 153), 3, 83, 0, 6, 646, 2) := (zl85_1 (Nat.le_of_ble_eq_true rfl)).trans rfl
theorem f85_37 : zi_fe 85 37 = some (.ireturn, 1, 0, 0, 0, 0, 0) := (zl85_1 (Nat.le_of_ble_eq_true rfl)).trans rfl
theorem f85_38 : zi_fe 85 38 = some ((.aload_n 0), 1, 0, 0, 0, 0, 0) := (zl85_1 (Nat.le_of_ble_eq_true rfl)).trans rfl
theorem f85_39 : zi_fe 85 39 = some ((.getfield 12), 3, 6, 0, 3, 253, 0) := (zl85_1 (Nat.le_of_ble_eq_true rfl)).trans rfl
theorem f85_42 : zi_fe 85 42 = some ((.aload_n 1), 1, 0, 0, 0, 0, 0) := (zl85_1 (Nat.le_of_ble_eq_true rfl)).trans rfl
theorem f85_43 : zi_fe 85 43 = some ((.getfield 135), 3, 0, 3, 0, 207, 0) := (zl85_1 (Nat.le_of_ble_eq_true rfl)).trans rfl
theorem f85_46 : zi_fe 85 46 = some ((.invokevirtual 156), 3, 42, 0, 4, 626, 2) := (zl85_1 (Nat.le_of_ble_eq_true rfl)).trans rfl
theorem f85_49 : zi_fe 85 49 = some ((.istore_n 2), 1, 0, 0, 0, 0, 0) := (zl85_1 (Nat.le_of_ble_eq_true rfl)).trans rfl
theorem zl85_2 {pc : Nat} (h : 50 ≤ pc) : zi_fe 85 pc = zu85_2.lookup pc := (zl85_1 (Nat.le_trans (Nat.le_of_ble_eq_true rfl) h)).trans (zi_lkA (a := zi_i85_1) (c := 50) rfl h)
theorem f85_50 : zi_fe 85 50 = some ((.iload_n 2), 1, 0, 0, 0, 0, 0) := (zl85_2 (Nat.le_of_ble_eq_true rfl)).trans rfl
theorem f85_51 : zi_fe 85 51 = some ((.ifCond .le 22), 3, 0, 0, 0, 0, 0) := (zl85_2 (Nat.le_of_ble_eq_true rfl)).trans rfl
theorem f85_54 : zi_fe 85 54 = some ((.aload_n 1), 1, 0, 0, 0, 0, 0) := (zl85_2 (Nat.le_of_ble_eq_true rfl)).trans rfl
theorem f85_55 : zi_fe 85 55 = some ((.iload_n 2), 1, 0, 0, 0, 0, 0) := (zl85_2 (Nat.le_of_ble_eq_true rfl)).trans rfl
theorem f85_56 : zi_fe 85 56 = some ((.aload_n 1), 1, 0, 0, 0, 0, 0) := (zl85_2 (Nat.le_of_ble_eq_true rfl)).trans rfl
theorem f85_57 : zi_fe 85 57 = some ((.getfield 135), 3, 0, 3, 0, 207, 0) := (zl85_2 (Nat.le_of_ble_eq_true rfl)).trans rfl
theorem f85_60 : zi_fe 85 60 = some ((.invokevirtual 159), 3, 9, 0, 0, 654, 3) := (zl85_2 (Nat.le_of_ble_eq_true rfl)).trans rfl
theorem f85_63 : zi_fe 85 63 = some ((.aload_n 0), 1, 0, 0, 0, 0, 0) := (zl85_2 (Nat.le_of_ble_eq_true rfl)).trans rfl
theorem f85_64 : zi_fe 85 64 = some ((.aload_n 1), 1, 0, 0, 0, 0, 0) := (zl85_2 (Nat.le_of_ble_eq_true rfl)).trans rfl
theorem f85_65 : zi_fe 85 65 = some ((.aload_n 1), 1, 0, 0, 0, 0, 0) := (zl85_2 (Nat.le_of_ble_eq_true rfl)).trans rfl
theorem f85_66 : zi_fe 85 66 = some ((.getfield 129), 3, 0, 2, 0, 205, 0) := (zl85_2 (Nat.le_of_ble_eq_true rfl)).trans rfl
theorem f85_69 : zi_fe 85 69 = some ((.invokevirtual 163), 3, 84, 0, 6, 658, 3) := (zl85_2 (Nat.le_of_ble_eq_true rfl)).trans rfl
theorem zl85_3 {pc : Nat} (h : 72 ≤ pc) : zi_fe 85 pc = zu85_3.lookup pc := (zl85_2 (Nat.le_trans (Nat.le_of_ble_eq_true rfl) h)).trans (zi_lkA (a := zi_i85_2) (c := 72) rfl h)
theorem f85_72 : zi_fe 85 72 = some (.ireturn, 1, 0, 0, 0, 0, 0) := (zl85_3 (Nat.le_of_ble_eq_true rfl)).trans rfl
theorem f85_73 : zi_fe 85 73 = some ((.aload_n 1), 1, 0, 0, 0, 0, 0) := (zl85_3 (Nat.le_of_ble_eq_true rfl)).trans rfl
theorem f85_74 : zi_fe 85 74 = some ((.getfield 90), 3, 0, 1, 0, 203, 0) := (zl85_3 (Nat.le_of_ble_eq_true rfl)).trans rfl
theorem f85_77 : zi_fe 85 77 = some ((.ifCond .ne 31), 3, 0, 0, 0, 0, 0) := (zl85_3 (Nat.le_of_ble_eq_true rfl)).trans rfl
theorem f85_80 : zi_fe 85 80 = some ((.aload_n 1), 1, 0, 0, 0, 0, 0) := (zl85_3 (Nat.le_of_ble_eq_true rfl)).trans rfl
theorem f85_81 : zi_fe 85 81 = some ((.aload_n 0), 1, 0, 0, 0, 0, 0) := (zl85_3 (Nat.le_of_ble_eq_true rfl)).trans rfl
theorem f85_82 : zi_fe 85 82 = some ((.getfield 12), 3, 6, 0, 3, 253, 0) := (zl85_3 (Nat.le_of_ble_eq_true rfl)).trans rfl
theorem f85_85 : zi_fe 85 85 = some ((.aload_n 1), 1, 0, 0, 0, 0, 0) := (zl85_3 (Nat.le_of_ble_eq_true rfl)).trans rfl
theorem f85_86 : zi_fe 85 86 = some ((.getfield 135), 3, 0, 3, 0, 207, 0) := (zl85_3 (Nat.le_of_ble_eq_true rfl)).trans rfl
theorem f85_89 : zi_fe 85 89 = some ((.aload_n 1), 1, 0, 0, 0, 0, 0) := (zl85_3 (Nat.le_of_ble_eq_true rfl)).trans rfl
theorem f85_90 : zi_fe 85 90 = some ((.getfield 129), 3, 0, 2, 0, 205, 0) := (zl85_3 (Nat.le_of_ble_eq_true rfl)).trans rfl
theorem f85_93 : zi_fe 85 93 = some ((.invokevirtual 167), 3, 50, 0, 4, 670, 3) := (zl85_3 (Nat.le_of_ble_eq_true rfl)).trans rfl
theorem zl85_4 {pc : Nat} (h : 96 ≤ pc) : zi_fe 85 pc = zu85_4.lookup pc := (zl85_3 (Nat.le_trans (Nat.le_of_ble_eq_true rfl) h)).trans (zi_lkA (a := zi_i85_3) (c := 96) rfl h)
theorem f85_96 : zi_fe 85 96 = some ((.ifCond .eq 7), 3, 0, 0, 0, 0, 0) := (zl85_4 (Nat.le_of_ble_eq_true rfl)).trans rfl
theorem f85_99 : zi_fe 85 99 = some ((.iconst 1), 1, 0, 0, 0, 0, 0) := (zl85_4 (Nat.le_of_ble_eq_true rfl)).trans rfl
theorem f85_100 : zi_fe 85 100 = some ((.goto 4), 3, 0, 0, 0, 0, 0) := (zl85_4 (Nat.le_of_ble_eq_true rfl)).trans rfl
theorem f85_103 : zi_fe 85 103 = some ((.iconst 0), 1, 0, 0, 0, 0, 0) := (zl85_4 (Nat.le_of_ble_eq_true rfl)).trans rfl
theorem f85_104 : zi_fe 85 104 = some ((.invokevirtual 171), 3, 6, 0, 0, 679, 2) := (zl85_4 (Nat.le_of_ble_eq_true rfl)).trans rfl
theorem f85_107 : zi_fe 85 107 = some (.ireturn, 1, 0, 0, 0, 0, 0) := (zl85_4 (Nat.le_of_ble_eq_true rfl)).trans rfl
theorem f85_108 : zi_fe 85 108 = some ((.aload_n 1), 1, 0, 0, 0, 0, 0) := (zl85_4 (Nat.le_of_ble_eq_true rfl)).trans rfl
theorem f85_109 : zi_fe 85 109 = some ((.iconst 2), 1, 0, 0, 0, 0, 0) := (zl85_4 (Nat.le_of_ble_eq_true rfl)).trans rfl
theorem f85_110 : zi_fe 85 110 = some ((.putfield 35), 3, 0, 0, 0, 200, 0) := (zl85_4 (Nat.le_of_ble_eq_true rfl)).trans rfl
theorem f85_113 : zi_fe 85 113 = some ((.iconst 4), 1, 0, 0, 0, 0, 0) := (zl85_4 (Nat.le_of_ble_eq_true rfl)).trans rfl
theorem f85_114 : zi_fe 85 114 = some (.ireturn, 1, 0, 0, 0, 0, 0) := (zl85_4 (Nat.le_of_ble_eq_true rfl)).trans rfl
theorem b85_0 {h : zi_Hp} {a0 : Nat} {a1 : Nat} {u2 : Value} (g0 : a0 < zh_n h) (g1 : (zh_k h a0).1 = 6) (g2 : zh_r h a0 0 = .ref (zq (zh_r h a0 0))) (g3 : a1 < zh_n h) (g4 : (zh_k h a1).1 = 0) (g5 : (zq (zh_r h a0 0)) < zh_n h) (g6 : (zh_k h (zq (zh_r h a0 0))).1 = 4) : zv 4 85 0 [.ref a0, .ref a1, u2] [] h = (zv 2 45 0 [.ref (zq (zh_r h a0 0)), .int (zh_i h a1 3)] [] h).bind fun r => zv 4 85 11 [.ref a0, .ref a1, u2] (r.1.toList ++ []) r.2 := by
  refine Eq.trans (zv_next f85_0 rfl) ?_
  refine Eq.trans (zs_getr f85_1 g0 g1 g2) ?_
  refine Eq.trans (zv_next f85_4 rfl) ?_
  refine Eq.trans (zs_geti f85_5 g3 g4) ?_
  exact zs_callV f85_8 (Nat.le_of_ble_eq_true rfl) (Nat.le_of_ble_eq_true rfl) rfl g5 g6 me_45 (by decide) rfl
theorem b85_11 {h : zi_Hp} {a0 : Nat} {a1 : Nat} {u2 : Value} {s0 : Int32}  : zv 4 85 11 [.ref a0, .ref a1, u2] [.int s0] h = if s0 = 0 then zv 4 85 14 [.ref a0, .ref a1, u2] [] h else zv 4 85 32 [.ref a0, .ref a1, u2] [] h := by
  exact zs_if f85_11 rfl
theorem b85_14 {h : zi_Hp} {a0 : Nat} {a1 : Nat} {u2 : Value} (g0 : a1 < zh_n h) (g1 : (zh_k h a1).1 = 0) (g2 : a0 < zh_n h) (g3 : (zh_k h a0).1 = 6) (g4 : zh_r h a0 0 = .ref (zq (zh_r h a0 0))) (g5 : (zq (zh_r h a0 0)) < zh_n h) (g6 : (zh_k h (zq (zh_r h a0 0))).1 = 4) : zv 4 85 14 [.ref a0, .ref a1, u2] [] h = (zv 2 43 0 [.ref (zq (zh_r h a0 0)), .int (zh_i h a1 3)] [] h).bind fun r => zv 4 85 29 [.ref a0, .ref a1, u2] (r.1.toList ++ [.int (zh_i h a1 2)]) r.2 := by
  refine Eq.trans (zv_next f85_14 rfl) ?_
  refine Eq.trans (zs_geti f85_15 g0 g1) ?_
  refine Eq.trans (zv_next f85_18 rfl) ?_
  refine Eq.trans (zs_getr f85_19 g2 g3 g4) ?_
  refine Eq.trans (zv_next f85_22 rfl) ?_
  refine Eq.trans (zs_geti f85_23 g0 g1) ?_
  exact zs_callV f85_26 (Nat.le_of_ble_eq_true rfl) (Nat.le_of_ble_eq_true rfl) rfl g5 g6 me_43 (by decide) rfl
theorem b85_29 {h : zi_Hp} {a0 : Nat} {a1 : Nat} {u2 : Value} {s0 : Int32} {s1 : Int32}  : zv 4 85 29 [.ref a0, .ref a1, u2] [.int s1, .int s0] h = if s1 < s0 then zv 4 85 32 [.ref a0, .ref a1, u2] [] h else zv 4 85 38 [.ref a0, .ref a1, u2] [] h := by
  exact zs_icmp f85_29 rfl
theorem b85_32 {h : zi_Hp} {a0 : Nat} {a1 : Nat} {u2 : Value} (g0 : a0 < zh_n h) (g1 : (zh_k h a0).1 = 6) : zv 4 85 32 [.ref a0, .ref a1, u2] [] h = (zv 3 83 0 [.ref a0, .ref a1, .double 0] [] h).bind fun r => zv 4 85 37 [.ref a0, .ref a1, u2] (r.1.toList ++ []) r.2 := by
  refine Eq.trans (zv_next f85_32 rfl) ?_
  refine Eq.trans (zv_next f85_33 rfl) ?_
  exact zs_callV f85_34 (Nat.le_of_ble_eq_true rfl) (Nat.le_of_ble_eq_true rfl) rfl g0 g1 me_83 (by decide) rfl
theorem b85_37 {h : zi_Hp} {a0 : Nat} {a1 : Nat} {u2 : Value} {s0 : Int32}  : zv 4 85 37 [.ref a0, .ref a1, u2] [.int s0] h = some (some (.int s0), h) := by
  exact zs_ret0 f85_37
theorem b85_38 {h : zi_Hp} {a0 : Nat} {a1 : Nat} {u2 : Value} (g0 : a0 < zh_n h) (g1 : (zh_k h a0).1 = 6) (g2 : zh_r h a0 0 = .ref (zq (zh_r h a0 0))) (g3 : a1 < zh_n h) (g4 : (zh_k h a1).1 = 0) (g5 : (zq (zh_r h a0 0)) < zh_n h) (g6 : (zh_k h (zq (zh_r h a0 0))).1 = 4) : zv 4 85 38 [.ref a0, .ref a1, u2] [] h = (zv 2 42 0 [.ref (zq (zh_r h a0 0)), .int (zh_i h a1 3)] [] h).bind fun r => zv 4 85 49 [.ref a0, .ref a1, u2] (r.1.toList ++ []) r.2 := by
  refine Eq.trans (zv_next f85_38 rfl) ?_
  refine Eq.trans (zs_getr f85_39 g0 g1 g2) ?_
  refine Eq.trans (zv_next f85_42 rfl) ?_
  refine Eq.trans (zs_geti f85_43 g3 g4) ?_
  exact zs_callV f85_46 (Nat.le_of_ble_eq_true rfl) (Nat.le_of_ble_eq_true rfl) rfl g5 g6 me_42 (by decide) rfl
theorem b85_49 {h : zi_Hp} {a0 : Nat} {a1 : Nat} {u2 : Value} {s0 : Int32}  : zv 4 85 49 [.ref a0, .ref a1, u2] [.int s0] h = if 0 < s0 then zv 4 85 54 [.ref a0, .ref a1, .int s0] [] h else zv 4 85 73 [.ref a0, .ref a1, .int s0] [] h := by
  refine Eq.trans (zv_next f85_49 rfl) ?_
  refine Eq.trans (zv_next f85_50 rfl) ?_
  exact zs_if f85_51 rfl
theorem b85_54 {h : zi_Hp} {a0 : Nat} {a1 : Nat} {x2 : Int32} (g0 : a1 < zh_n h) (g1 : (zh_k h a1).1 = 0) : zv 4 85 54 [.ref a0, .ref a1, .int x2] [] h = (zv 1 9 0 [.ref a1, .int x2, .int (zh_i h a1 3)] [] h).bind fun r => zv 4 85 63 [.ref a0, .ref a1, .int x2] (r.1.toList ++ []) r.2 := by
  refine Eq.trans (zv_next f85_54 rfl) ?_
  refine Eq.trans (zv_next f85_55 rfl) ?_
  refine Eq.trans (zv_next f85_56 rfl) ?_
  refine Eq.trans (zs_geti f85_57 g0 g1) ?_
  exact zs_callV f85_60 (Nat.le_of_ble_eq_true rfl) (Nat.le_of_ble_eq_true rfl) rfl g0 g1 me_9 (by decide) rfl
theorem b85_63 {h : zi_Hp} {a0 : Nat} {a1 : Nat} {x2 : Int32} (g0 : a1 < zh_n h) (g1 : (zh_k h a1).1 = 0) (g2 : a0 < zh_n h) (g3 : (zh_k h a0).1 = 6) : zv 4 85 63 [.ref a0, .ref a1, .int x2] [] h = (zv 3 84 0 [.ref a0, .ref a1, .int (zh_i h a1 2), .double 0] [] h).bind fun r => zv 4 85 72 [.ref a0, .ref a1, .int x2] (r.1.toList ++ []) r.2 := by
  refine Eq.trans (zv_next f85_63 rfl) ?_
  refine Eq.trans (zv_next f85_64 rfl) ?_
  refine Eq.trans (zv_next f85_65 rfl) ?_
  refine Eq.trans (zs_geti f85_66 g0 g1) ?_
  exact zs_callV f85_69 (Nat.le_of_ble_eq_true rfl) (Nat.le_of_ble_eq_true rfl) rfl g2 g3 me_84 (by decide) rfl
theorem b85_72 {h : zi_Hp} {a0 : Nat} {a1 : Nat} {x2 : Int32} {s0 : Int32}  : zv 4 85 72 [.ref a0, .ref a1, .int x2] [.int s0] h = some (some (.int s0), h) := by
  exact zs_ret0 f85_72
theorem b85_73 {h : zi_Hp} {a0 : Nat} {a1 : Nat} {x2 : Int32} (g0 : a1 < zh_n h) (g1 : (zh_k h a1).1 = 0) : zv 4 85 73 [.ref a0, .ref a1, .int x2] [] h = if (zh_i h a1 1) = 0 then zv 4 85 80 [.ref a0, .ref a1, .int x2] [] h else zv 4 85 108 [.ref a0, .ref a1, .int x2] [] h := by
  refine Eq.trans (zv_next f85_73 rfl) ?_
  refine Eq.trans (zs_geti f85_74 g0 g1) ?_
  exact zs_if f85_77 rfl
theorem b85_80 {h : zi_Hp} {a0 : Nat} {a1 : Nat} {x2 : Int32} (g0 : a0 < zh_n h) (g1 : (zh_k h a0).1 = 6) (g2 : zh_r h a0 0 = .ref (zq (zh_r h a0 0))) (g3 : a1 < zh_n h) (g4 : (zh_k h a1).1 = 0) (g5 : (zq (zh_r h a0 0)) < zh_n h) (g6 : (zh_k h (zq (zh_r h a0 0))).1 = 4) : zv 4 85 80 [.ref a0, .ref a1, .int x2] [] h = (zv 3 50 0 [.ref (zq (zh_r h a0 0)), .int (zh_i h a1 3), .int (zh_i h a1 2)] [] h).bind fun r => zv 4 85 96 [.ref a0, .ref a1, .int x2] (r.1.toList ++ [.ref a1]) r.2 := by
  refine Eq.trans (zv_next f85_80 rfl) ?_
  refine Eq.trans (zv_next f85_81 rfl) ?_
  refine Eq.trans (zs_getr f85_82 g0 g1 g2) ?_
  refine Eq.trans (zv_next f85_85 rfl) ?_
  refine Eq.trans (zs_geti f85_86 g3 g4) ?_
  refine Eq.trans (zv_next f85_89 rfl) ?_
  refine Eq.trans (zs_geti f85_90 g3 g4) ?_
  exact zs_callV f85_93 (Nat.le_of_ble_eq_true rfl) (Nat.le_of_ble_eq_true rfl) rfl g5 g6 me_50 (by decide) rfl
theorem b85_96 {h : zi_Hp} {a0 : Nat} {a1 : Nat} {x2 : Int32} {t0 : Nat} {s1 : Int32}  : zv 4 85 96 [.ref a0, .ref a1, .int x2] [.int s1, .ref t0] h = if s1 = 0 then zv 4 85 103 [.ref a0, .ref a1, .int x2] [.ref t0] h else zv 4 85 99 [.ref a0, .ref a1, .int x2] [.ref t0] h := by
  exact zs_if f85_96 rfl
theorem b85_99 {h : zi_Hp} {a0 : Nat} {a1 : Nat} {x2 : Int32} {t0 : Nat}  : zv 4 85 99 [.ref a0, .ref a1, .int x2] [.ref t0] h = zv 4 85 104 [.ref a0, .ref a1, .int x2] [.int 1, .ref t0] h := by
  refine Eq.trans (zs_ic f85_99 ic_1) ?_
  refine Eq.trans (zs_goto (tgt := 104) f85_100 rfl) ?_
  rfl
theorem b85_103 {h : zi_Hp} {a0 : Nat} {a1 : Nat} {x2 : Int32} {t0 : Nat}  : zv 4 85 103 [.ref a0, .ref a1, .int x2] [.ref t0] h = zv 4 85 104 [.ref a0, .ref a1, .int x2] [.int 0, .ref t0] h := by
  refine Eq.trans (zs_ic f85_103 ic_0) ?_
  rfl
theorem b85_104 {h : zi_Hp} {a0 : Nat} {a1 : Nat} {x2 : Int32} {t0 : Nat} {s1 : Int32} (g0 : t0 < zh_n h) (g1 : (zh_k h t0).1 = 0) : zv 4 85 104 [.ref a0, .ref a1, .int x2] [.int s1, .ref t0] h = (zv 1 6 0 [.ref t0, .int s1] [] h).bind fun r => zv 4 85 107 [.ref a0, .ref a1, .int x2] (r.1.toList ++ []) r.2 := by
  exact zs_callV f85_104 (Nat.le_of_ble_eq_true rfl) (Nat.le_of_ble_eq_true rfl) rfl g0 g1 me_6 (by decide) rfl
theorem b85_107 {h : zi_Hp} {a0 : Nat} {a1 : Nat} {x2 : Int32} {s0 : Int32}  : zv 4 85 107 [.ref a0, .ref a1, .int x2] [.int s0] h = some (some (.int s0), h) := by
  exact zs_ret0 f85_107
theorem b85_108 {h : zi_Hp} {a0 : Nat} {a1 : Nat} {x2 : Int32} (g0 : a1 < zh_n h) (g1 : (zh_k h a1).1 = 0) : zv 4 85 108 [.ref a0, .ref a1, .int x2] [] h = some (some (.int 4), zh_wi h a1 0 2) := by
  refine Eq.trans (zv_next f85_108 rfl) ?_
  refine Eq.trans (zs_ic f85_109 ic_2) ?_
  refine Eq.trans (zs_put f85_110 g0 g1 rfl) ?_
  refine Eq.trans (zs_ic f85_113 ic_4) ?_
  exact zs_ret0 f85_114
set_option maxRecDepth 20000 in
theorem zq86 : zi_M[86]? = some zi_m86 := rfl
theorem zl86_0 {pc : Nat} (_ : 0 ≤ pc) : zi_fe 86 pc = zu86_0.lookup pc := zi_feA zq86 pc
theorem f86_0 : zi_fe 86 0 = some ((.aload_n 0), 1, 0, 0, 0, 0, 0) := (zl86_0 (Nat.le_of_ble_eq_true rfl)).trans rfl
theorem f86_1 : zi_fe 86 1 = some ((.getfield 12), 3, 6, 0, 3, 253, 0) := (zl86_0 (Nat.le_of_ble_eq_true rfl)).trans rfl
theorem f86_4 : zi_fe 86 4 = some ((.aload_n 1), 1, 0, 0, 0, 0, 0) := (zl86_0 (Nat.le_of_ble_eq_true rfl)).trans rfl
theorem f86_5 : zi_fe 86 5 = some ((.getfield 135), 3, 0, 3, 0, 207, 0) := (zl86_0 (Nat.le_of_ble_eq_true rfl)).trans rfl
theorem f86_8 : zi_fe 86 8 = some ((.aload_n 1), 1, 0, 0, 0, 0, 0) := (zl86_0 (Nat.le_of_ble_eq_true rfl)).trans rfl
theorem f86_9 : zi_fe 86 9 = some ((.getfield 129), 3, 0, 2, 0, 205, 0) := (zl86_0 (Nat.le_of_ble_eq_true rfl)).trans rfl
theorem f86_12 : zi_fe 86 12 = some ((.invokevirtual 167), 3, 50, 0, 4, 670, 3) := (zl86_0 (Nat.le_of_ble_eq_true rfl)).trans rfl
theorem f86_15 : zi_fe 86 15 = some ((.ifCond .eq 9), 3, 0, 0, 0, 0, 0) := (zl86_0 (Nat.le_of_ble_eq_true rfl)).trans rfl
theorem f86_18 : zi_fe 86 18 = some ((.aload_n 1), 1, 0, 0, 0, 0, 0) := (zl86_0 (Nat.le_of_ble_eq_true rfl)).trans rfl
theorem f86_19 : zi_fe 86 19 = some ((.iconst 0), 1, 0, 0, 0, 0, 0) := (zl86_0 (Nat.le_of_ble_eq_true rfl)).trans rfl
theorem f86_20 : zi_fe 86 20 = some ((.invokevirtual 171), 3, 6, 0, 0, 679, 2) := (zl86_0 (Nat.le_of_ble_eq_true rfl)).trans rfl
theorem f86_23 : zi_fe 86 23 = some (.ireturn, 1, 0, 0, 0, 0, 0) := (zl86_0 (Nat.le_of_ble_eq_true rfl)).trans rfl
theorem zl86_1 {pc : Nat} (h : 24 ≤ pc) : zi_fe 86 pc = zu86_1.lookup pc := (zl86_0 (Nat.le_trans (Nat.le_of_ble_eq_true rfl) h)).trans (zi_lkA (a := zi_i86_0) (c := 24) rfl h)
theorem f86_24 : zi_fe 86 24 = some ((.aload_n 0), 1, 0, 0, 0, 0, 0) := (zl86_1 (Nat.le_of_ble_eq_true rfl)).trans rfl
theorem f86_25 : zi_fe 86 25 = some ((.getfield 12), 3, 6, 0, 3, 253, 0) := (zl86_1 (Nat.le_of_ble_eq_true rfl)).trans rfl
theorem f86_28 : zi_fe 86 28 = some ((.aload_n 1), 1, 0, 0, 0, 0, 0) := (zl86_1 (Nat.le_of_ble_eq_true rfl)).trans rfl
theorem f86_29 : zi_fe 86 29 = some ((.getfield 135), 3, 0, 3, 0, 207, 0) := (zl86_1 (Nat.le_of_ble_eq_true rfl)).trans rfl
theorem f86_32 : zi_fe 86 32 = some ((.invokevirtual 174), 3, 46, 0, 4, 687, 2) := (zl86_1 (Nat.le_of_ble_eq_true rfl)).trans rfl
theorem f86_35 : zi_fe 86 35 = some ((.istore_n 2), 1, 0, 0, 0, 0, 0) := (zl86_1 (Nat.le_of_ble_eq_true rfl)).trans rfl
theorem f86_36 : zi_fe 86 36 = some ((.iload_n 2), 1, 0, 0, 0, 0, 0) := (zl86_1 (Nat.le_of_ble_eq_true rfl)).trans rfl
theorem f86_37 : zi_fe 86 37 = some ((.ifCond .ne 20), 3, 0, 0, 0, 0, 0) := (zl86_1 (Nat.le_of_ble_eq_true rfl)).trans rfl
theorem f86_40 : zi_fe 86 40 = some ((.aload_n 0), 1, 0, 0, 0, 0, 0) := (zl86_1 (Nat.le_of_ble_eq_true rfl)).trans rfl
theorem f86_41 : zi_fe 86 41 = some ((.getfield 12), 3, 6, 0, 3, 253, 0) := (zl86_1 (Nat.le_of_ble_eq_true rfl)).trans rfl
theorem f86_44 : zi_fe 86 44 = some ((.invokevirtual 177), 3, 39, 0, 4, 691, 1) := (zl86_1 (Nat.le_of_ble_eq_true rfl)).trans rfl
theorem f86_47 : zi_fe 86 47 = some ((.ifCond .eq 10), 3, 0, 0, 0, 0, 0) := (zl86_1 (Nat.le_of_ble_eq_true rfl)).trans rfl
theorem zl86_2 {pc : Nat} (h : 50 ≤ pc) : zi_fe 86 pc = zu86_2.lookup pc := (zl86_1 (Nat.le_trans (Nat.le_of_ble_eq_true rfl) h)).trans (zi_lkA (a := zi_i86_1) (c := 50) rfl h)
theorem f86_50 : zi_fe 86 50 = some ((.aload_n 1), 1, 0, 0, 0, 0, 0) := (zl86_2 (Nat.le_of_ble_eq_true rfl)).trans rfl
theorem f86_51 : zi_fe 86 51 = some ((.bipush (-3)), 2, 0, 0, 0, 0, 0) := (zl86_2 (Nat.le_of_ble_eq_true rfl)).trans rfl
theorem f86_53 : zi_fe 86 53 = some ((.invokevirtual 171), 3, 6, 0, 0, 679, 2) := (zl86_2 (Nat.le_of_ble_eq_true rfl)).trans rfl
theorem f86_56 : zi_fe 86 56 = some (.ireturn, 1, 0, 0, 0, 0, 0) := (zl86_2 (Nat.le_of_ble_eq_true rfl)).trans rfl
theorem f86_57 : zi_fe 86 57 = some ((.aload_n 0), 1, 0, 0, 0, 0, 0) := (zl86_2 (Nat.le_of_ble_eq_true rfl)).trans rfl
theorem f86_58 : zi_fe 86 58 = some ((.getfield 12), 3, 6, 0, 3, 253, 0) := (zl86_2 (Nat.le_of_ble_eq_true rfl)).trans rfl
theorem f86_61 : zi_fe 86 61 = some ((.aload_n 1), 1, 0, 0, 0, 0, 0) := (zl86_2 (Nat.le_of_ble_eq_true rfl)).trans rfl
theorem f86_62 : zi_fe 86 62 = some ((.getfield 135), 3, 0, 3, 0, 207, 0) := (zl86_2 (Nat.le_of_ble_eq_true rfl)).trans rfl
theorem f86_65 : zi_fe 86 65 = some ((.aload_n 0), 1, 0, 0, 0, 0, 0) := (zl86_2 (Nat.le_of_ble_eq_true rfl)).trans rfl
theorem f86_66 : zi_fe 86 66 = some ((.getfield 12), 3, 6, 0, 3, 253, 0) := (zl86_2 (Nat.le_of_ble_eq_true rfl)).trans rfl
theorem f86_69 : zi_fe 86 69 = some ((.aload_n 1), 1, 0, 0, 0, 0, 0) := (zl86_2 (Nat.le_of_ble_eq_true rfl)).trans rfl
theorem f86_70 : zi_fe 86 70 = some ((.getfield 135), 3, 0, 3, 0, 207, 0) := (zl86_2 (Nat.le_of_ble_eq_true rfl)).trans rfl
theorem zl86_3 {pc : Nat} (h : 73 ≤ pc) : zi_fe 86 pc = zu86_3.lookup pc := (zl86_2 (Nat.le_trans (Nat.le_of_ble_eq_true rfl) h)).trans (zi_lkA (a := zi_i86_2) (c := 73) rfl h)
theorem f86_73 : zi_fe 86 73 = some ((.aload_n 1), 1, 0, 0, 0, 0, 0) := (zl86_3 (Nat.le_of_ble_eq_true rfl)).trans rfl
theorem f86_74 : zi_fe 86 74 = some ((.getfield 129), 3, 0, 2, 0, 205, 0) := (zl86_3 (Nat.le_of_ble_eq_true rfl)).trans rfl
theorem f86_77 : zi_fe 86 77 = some ((.invokevirtual 141), 3, 49, 0, 4, 662, 3) := (zl86_3 (Nat.le_of_ble_eq_true rfl)).trans rfl
theorem f86_80 : zi_fe 86 80 = some ((.aload_n 1), 1, 0, 0, 0, 0, 0) := (zl86_3 (Nat.le_of_ble_eq_true rfl)).trans rfl
theorem f86_81 : zi_fe 86 81 = some ((.getfield 129), 3, 0, 2, 0, 205, 0) := (zl86_3 (Nat.le_of_ble_eq_true rfl)).trans rfl
theorem f86_84 : zi_fe 86 84 = some ((.bipush (-4)), 2, 0, 0, 0, 0, 0) := (zl86_3 (Nat.le_of_ble_eq_true rfl)).trans rfl
theorem f86_86 : zi_fe 86 86 = some ((.invokevirtual 180), 3, 51, 0, 4, 695, 5) := (zl86_3 (Nat.le_of_ble_eq_true rfl)).trans rfl
theorem f86_89 : zi_fe 86 89 = some ((.iload_n 2), 1, 0, 0, 0, 0, 0) := (zl86_3 (Nat.le_of_ble_eq_true rfl)).trans rfl
theorem f86_90 : zi_fe 86 90 = some ((.ifCond .eq 11), 3, 0, 0, 0, 0, 0) := (zl86_3 (Nat.le_of_ble_eq_true rfl)).trans rfl
theorem f86_93 : zi_fe 86 93 = some ((.aload_n 1), 1, 0, 0, 0, 0, 0) := (zl86_3 (Nat.le_of_ble_eq_true rfl)).trans rfl
theorem f86_94 : zi_fe 86 94 = some ((.iconst 1), 1, 0, 0, 0, 0, 0) := (zl86_3 (Nat.le_of_ble_eq_true rfl)).trans rfl
theorem f86_95 : zi_fe 86 95 = some ((.invokevirtual 171), 3, 6, 0, 0, 679, 2) := (zl86_3 (Nat.le_of_ble_eq_true rfl)).trans rfl
theorem zl86_4 {pc : Nat} (h : 98 ≤ pc) : zi_fe 86 pc = zu86_4.lookup pc := (zl86_3 (Nat.le_trans (Nat.le_of_ble_eq_true rfl) h)).trans (zi_lkA (a := zi_i86_3) (c := 98) rfl h)
theorem f86_98 : zi_fe 86 98 = some ((.goto 9), 3, 0, 0, 0, 0, 0) := (zl86_4 (Nat.le_of_ble_eq_true rfl)).trans rfl
theorem f86_101 : zi_fe 86 101 = some ((.aload_n 0), 1, 0, 0, 0, 0, 0) := (zl86_4 (Nat.le_of_ble_eq_true rfl)).trans rfl
theorem f86_102 : zi_fe 86 102 = some ((.aload_n 1), 1, 0, 0, 0, 0, 0) := (zl86_4 (Nat.le_of_ble_eq_true rfl)).trans rfl
theorem f86_103 : zi_fe 86 103 = some ((.iconst 1), 1, 0, 0, 0, 0, 0) := (zl86_4 (Nat.le_of_ble_eq_true rfl)).trans rfl
theorem f86_104 : zi_fe 86 104 = some ((.invokevirtual 184), 3, 87, 0, 6, 699, 3) := (zl86_4 (Nat.le_of_ble_eq_true rfl)).trans rfl
theorem f86_107 : zi_fe 86 107 = some (.ireturn, 1, 0, 0, 0, 0, 0) := (zl86_4 (Nat.le_of_ble_eq_true rfl)).trans rfl
theorem b86_0 {h : zi_Hp} {a0 : Nat} {a1 : Nat} {u2 : Value} (g0 : a0 < zh_n h) (g1 : (zh_k h a0).1 = 6) (g2 : zh_r h a0 0 = .ref (zq (zh_r h a0 0))) (g3 : a1 < zh_n h) (g4 : (zh_k h a1).1 = 0) (g5 : (zq (zh_r h a0 0)) < zh_n h) (g6 : (zh_k h (zq (zh_r h a0 0))).1 = 4) : zv 4 86 0 [.ref a0, .ref a1, u2] [] h = (zv 3 50 0 [.ref (zq (zh_r h a0 0)), .int (zh_i h a1 3), .int (zh_i h a1 2)] [] h).bind fun r => zv 4 86 15 [.ref a0, .ref a1, u2] (r.1.toList ++ []) r.2 := by
  refine Eq.trans (zv_next f86_0 rfl) ?_
  refine Eq.trans (zs_getr f86_1 g0 g1 g2) ?_
  refine Eq.trans (zv_next f86_4 rfl) ?_
  refine Eq.trans (zs_geti f86_5 g3 g4) ?_
  refine Eq.trans (zv_next f86_8 rfl) ?_
  refine Eq.trans (zs_geti f86_9 g3 g4) ?_
  exact zs_callV f86_12 (Nat.le_of_ble_eq_true rfl) (Nat.le_of_ble_eq_true rfl) rfl g5 g6 me_50 (by decide) rfl
theorem b86_15 {h : zi_Hp} {a0 : Nat} {a1 : Nat} {u2 : Value} {s0 : Int32}  : zv 4 86 15 [.ref a0, .ref a1, u2] [.int s0] h = if s0 = 0 then zv 4 86 24 [.ref a0, .ref a1, u2] [] h else zv 4 86 18 [.ref a0, .ref a1, u2] [] h := by
  exact zs_if f86_15 rfl
theorem b86_18 {h : zi_Hp} {a0 : Nat} {a1 : Nat} {u2 : Value} (g0 : a1 < zh_n h) (g1 : (zh_k h a1).1 = 0) : zv 4 86 18 [.ref a0, .ref a1, u2] [] h = (zv 1 6 0 [.ref a1, .int 0] [] h).bind fun r => zv 4 86 23 [.ref a0, .ref a1, u2] (r.1.toList ++ []) r.2 := by
  refine Eq.trans (zv_next f86_18 rfl) ?_
  refine Eq.trans (zs_ic f86_19 ic_0) ?_
  exact zs_callV f86_20 (Nat.le_of_ble_eq_true rfl) (Nat.le_of_ble_eq_true rfl) rfl g0 g1 me_6 (by decide) rfl
theorem b86_23 {h : zi_Hp} {a0 : Nat} {a1 : Nat} {u2 : Value} {s0 : Int32}  : zv 4 86 23 [.ref a0, .ref a1, u2] [.int s0] h = some (some (.int s0), h) := by
  exact zs_ret0 f86_23
theorem b86_24 {h : zi_Hp} {a0 : Nat} {a1 : Nat} {u2 : Value} (g0 : a0 < zh_n h) (g1 : (zh_k h a0).1 = 6) (g2 : zh_r h a0 0 = .ref (zq (zh_r h a0 0))) (g3 : a1 < zh_n h) (g4 : (zh_k h a1).1 = 0) (g5 : (zq (zh_r h a0 0)) < zh_n h) (g6 : (zh_k h (zq (zh_r h a0 0))).1 = 4) : zv 4 86 24 [.ref a0, .ref a1, u2] [] h = (zv 2 46 0 [.ref (zq (zh_r h a0 0)), .int (zh_i h a1 3)] [] h).bind fun r => zv 4 86 35 [.ref a0, .ref a1, u2] (r.1.toList ++ []) r.2 := by
  refine Eq.trans (zv_next f86_24 rfl) ?_
  refine Eq.trans (zs_getr f86_25 g0 g1 g2) ?_
  refine Eq.trans (zv_next f86_28 rfl) ?_
  refine Eq.trans (zs_geti f86_29 g3 g4) ?_
  exact zs_callV f86_32 (Nat.le_of_ble_eq_true rfl) (Nat.le_of_ble_eq_true rfl) rfl g5 g6 me_46 (by decide) rfl
theorem b86_35 {h : zi_Hp} {a0 : Nat} {a1 : Nat} {u2 : Value} {s0 : Int32}  : zv 4 86 35 [.ref a0, .ref a1, u2] [.int s0] h = if s0 = 0 then zv 4 86 40 [.ref a0, .ref a1, .int s0] [] h else zv 4 86 57 [.ref a0, .ref a1, .int s0] [] h := by
  refine Eq.trans (zv_next f86_35 rfl) ?_
  refine Eq.trans (zv_next f86_36 rfl) ?_
  exact zs_if f86_37 rfl
theorem b86_40 {h : zi_Hp} {a0 : Nat} {a1 : Nat} {x2 : Int32} (g0 : a0 < zh_n h) (g1 : (zh_k h a0).1 = 6) (g2 : zh_r h a0 0 = .ref (zq (zh_r h a0 0))) (g3 : (zq (zh_r h a0 0)) < zh_n h) (g4 : (zh_k h (zq (zh_r h a0 0))).1 = 4) : zv 4 86 40 [.ref a0, .ref a1, .int x2] [] h = (zv 1 39 0 [.ref (zq (zh_r h a0 0))] [] h).bind fun r => zv 4 86 47 [.ref a0, .ref a1, .int x2] (r.1.toList ++ []) r.2 := by
  refine Eq.trans (zv_next f86_40 rfl) ?_
  refine Eq.trans (zs_getr f86_41 g0 g1 g2) ?_
  exact zs_callV f86_44 (Nat.le_of_ble_eq_true rfl) (Nat.le_of_ble_eq_true rfl) rfl g3 g4 me_39 (by decide) rfl
theorem b86_47 {h : zi_Hp} {a0 : Nat} {a1 : Nat} {x2 : Int32} {s0 : Int32}  : zv 4 86 47 [.ref a0, .ref a1, .int x2] [.int s0] h = if s0 = 0 then zv 4 86 57 [.ref a0, .ref a1, .int x2] [] h else zv 4 86 50 [.ref a0, .ref a1, .int x2] [] h := by
  exact zs_if f86_47 rfl
theorem b86_50 {h : zi_Hp} {a0 : Nat} {a1 : Nat} {x2 : Int32} (g0 : a1 < zh_n h) (g1 : (zh_k h a1).1 = 0) : zv 4 86 50 [.ref a0, .ref a1, .int x2] [] h = (zv 1 6 0 [.ref a1, .int (-3)] [] h).bind fun r => zv 4 86 56 [.ref a0, .ref a1, .int x2] (r.1.toList ++ []) r.2 := by
  refine Eq.trans (zv_next f86_50 rfl) ?_
  refine Eq.trans (zs_bp f86_51 bp_m3) ?_
  exact zs_callV f86_53 (Nat.le_of_ble_eq_true rfl) (Nat.le_of_ble_eq_true rfl) rfl g0 g1 me_6 (by decide) rfl
theorem b86_56 {h : zi_Hp} {a0 : Nat} {a1 : Nat} {x2 : Int32} {s0 : Int32}  : zv 4 86 56 [.ref a0, .ref a1, .int x2] [.int s0] h = some (some (.int s0), h) := by
  exact zs_ret0 f86_56
theorem b86_57 {h : zi_Hp} {a0 : Nat} {a1 : Nat} {x2 : Int32} (g0 : a0 < zh_n h) (g1 : (zh_k h a0).1 = 6) (g2 : zh_r h a0 0 = .ref (zq (zh_r h a0 0))) (g3 : a1 < zh_n h) (g4 : (zh_k h a1).1 = 0) (g5 : (zq (zh_r h a0 0)) < zh_n h) (g6 : (zh_k h (zq (zh_r h a0 0))).1 = 4) : zv 4 86 57 [.ref a0, .ref a1, .int x2] [] h = (zv 2 49 0 [.ref (zq (zh_r h a0 0)), .int (zh_i h a1 3), .int (zh_i h a1 2), .double 0] [] h).bind fun r => zv 4 86 80 [.ref a0, .ref a1, .int x2] (r.1.toList ++ [.int (zh_i h a1 3), .ref (zq (zh_r h a0 0))]) r.2 := by
  refine Eq.trans (zv_next f86_57 rfl) ?_
  refine Eq.trans (zs_getr f86_58 g0 g1 g2) ?_
  refine Eq.trans (zv_next f86_61 rfl) ?_
  refine Eq.trans (zs_geti f86_62 g3 g4) ?_
  refine Eq.trans (zv_next f86_65 rfl) ?_
  refine Eq.trans (zs_getr f86_66 g0 g1 g2) ?_
  refine Eq.trans (zv_next f86_69 rfl) ?_
  refine Eq.trans (zs_geti f86_70 g3 g4) ?_
  refine Eq.trans (zv_next f86_73 rfl) ?_
  refine Eq.trans (zs_geti f86_74 g3 g4) ?_
  exact zs_callV f86_77 (Nat.le_of_ble_eq_true rfl) (Nat.le_of_ble_eq_true rfl) rfl g5 g6 me_49 (by decide) rfl
theorem b86_80 {h : zi_Hp} {a0 : Nat} {a1 : Nat} {x2 : Int32} {t0 : Nat} {s1 : Int32} {s2 : Int32} (g0 : a1 < zh_n h) (g1 : (zh_k h a1).1 = 0) (g2 : t0 < zh_n h) (g3 : (zh_k h t0).1 = 4) : zv 4 86 80 [.ref a0, .ref a1, .int x2] [.int s2, .int s1, .ref t0] h = (zv 2 51 0 [.ref t0, .int s1, .int s2, .int (zh_i h a1 2), .int (-4), .double 0, .double 0] [] h).bind fun r => zv 4 86 89 [.ref a0, .ref a1, .int x2] (r.1.toList ++ []) r.2 := by
  refine Eq.trans (zv_next f86_80 rfl) ?_
  refine Eq.trans (zs_geti f86_81 g0 g1) ?_
  refine Eq.trans (zs_bp f86_84 bp_m4) ?_
  exact zs_callV f86_86 (Nat.le_of_ble_eq_true rfl) (Nat.le_of_ble_eq_true rfl) rfl g2 g3 me_51 (by decide) rfl
theorem b86_89 {h : zi_Hp} {a0 : Nat} {a1 : Nat} {x2 : Int32}  : zv 4 86 89 [.ref a0, .ref a1, .int x2] [] h = if x2 = 0 then zv 4 86 101 [.ref a0, .ref a1, .int x2] [] h else zv 4 86 93 [.ref a0, .ref a1, .int x2] [] h := by
  refine Eq.trans (zv_next f86_89 rfl) ?_
  exact zs_if f86_90 rfl
theorem b86_93 {h : zi_Hp} {a0 : Nat} {a1 : Nat} {x2 : Int32} (g0 : a1 < zh_n h) (g1 : (zh_k h a1).1 = 0) : zv 4 86 93 [.ref a0, .ref a1, .int x2] [] h = (zv 1 6 0 [.ref a1, .int 1] [] h).bind fun r => zv 4 86 98 [.ref a0, .ref a1, .int x2] (r.1.toList ++ []) r.2 := by
  refine Eq.trans (zv_next f86_93 rfl) ?_
  refine Eq.trans (zs_ic f86_94 ic_1) ?_
  exact zs_callV f86_95 (Nat.le_of_ble_eq_true rfl) (Nat.le_of_ble_eq_true rfl) rfl g0 g1 me_6 (by decide) rfl
theorem b86_98 {h : zi_Hp} {a0 : Nat} {a1 : Nat} {x2 : Int32} {s0 : Int32}  : zv 4 86 98 [.ref a0, .ref a1, .int x2] [.int s0] h = zv 4 86 107 [.ref a0, .ref a1, .int x2] [.int s0] h := by
  refine Eq.trans (zs_goto (tgt := 107) f86_98 rfl) ?_
  rfl
theorem b86_101 {h : zi_Hp} {a0 : Nat} {a1 : Nat} {x2 : Int32} (g0 : a0 < zh_n h) (g1 : (zh_k h a0).1 = 6) : zv 4 86 101 [.ref a0, .ref a1, .int x2] [] h = (zv 3 87 0 [.ref a0, .ref a1, .int 1] [] h).bind fun r => zv 4 86 107 [.ref a0, .ref a1, .int x2] (r.1.toList ++ []) r.2 := by
  refine Eq.trans (zv_next f86_101 rfl) ?_
  refine Eq.trans (zv_next f86_102 rfl) ?_
  refine Eq.trans (zs_ic f86_103 ic_1) ?_
  exact zs_callV f86_104 (Nat.le_of_ble_eq_true rfl) (Nat.le_of_ble_eq_true rfl) rfl g0 g1 me_87 (by decide) rfl
theorem b86_107 {h : zi_Hp} {a0 : Nat} {a1 : Nat} {x2 : Int32} {s0 : Int32}  : zv 4 86 107 [.ref a0, .ref a1, .int x2] [.int s0] h = some (some (.int s0), h) := by
  exact zs_ret0 f86_107
set_option maxRecDepth 20000 in
theorem zq87 : zi_M[87]? = some zi_m87 := rfl
theorem zl87_0 {pc : Nat} (_ : 0 ≤ pc) : zi_fe 87 pc = zu87_0.lookup pc := zi_feA zq87 pc
theorem f87_0 : zi_fe 87 0 = some ((.aload_n 1), 1, 0, 0, 0, 0, 0) := (zl87_0 (Nat.le_of_ble_eq_true rfl)).trans rfl
theorem f87_1 : zi_fe 87 1 = some ((.aload_n 0), 1, 0, 0, 0, 0, 0) := (zl87_0 (Nat.le_of_ble_eq_true rfl)).trans rfl
theorem f87_2 : zi_fe 87 2 = some ((.getfield 12), 3, 6, 0, 3, 253, 0) := (zl87_0 (Nat.le_of_ble_eq_true rfl)).trans rfl
theorem f87_5 : zi_fe 87 5 = some ((.aload_n 1), 1, 0, 0, 0, 0, 0) := (zl87_0 (Nat.le_of_ble_eq_true rfl)).trans rfl
theorem f87_6 : zi_fe 87 6 = some ((.getfield 135), 3, 0, 3, 0, 207, 0) := (zl87_0 (Nat.le_of_ble_eq_true rfl)).trans rfl
theorem f87_9 : zi_fe 87 9 = some ((.invokevirtual 187), 3, 54, 0, 4, 703, 2) := (zl87_0 (Nat.le_of_ble_eq_true rfl)).trans rfl
theorem f87_12 : zi_fe 87 12 = some ((.putfield 190), 3, 0, 10, 0, 222, 0) := (zl87_0 (Nat.le_of_ble_eq_true rfl)).trans rfl
theorem f87_15 : zi_fe 87 15 = some ((.aload_n 1), 1, 0, 0, 0, 0, 0) := (zl87_0 (Nat.le_of_ble_eq_true rfl)).trans rfl
theorem f87_16 : zi_fe 87 16 = some ((.iconst 0), 1, 0, 0, 0, 0, 0) := (zl87_0 (Nat.le_of_ble_eq_true rfl)).trans rfl
theorem f87_17 : zi_fe 87 17 = some ((.putfield 102), 3, 0, 11, 1, 224, 0) := (zl87_0 (Nat.le_of_ble_eq_true rfl)).trans rfl
theorem f87_20 : zi_fe 87 20 = some ((.aload_n 1), 1, 0, 0, 0, 0, 0) := (zl87_0 (Nat.le_of_ble_eq_true rfl)).trans rfl
theorem f87_21 : zi_fe 87 21 = some ((.aload_n 0), 1, 0, 0, 0, 0, 0) := (zl87_0 (Nat.le_of_ble_eq_true rfl)).trans rfl
theorem zl87_1 {pc : Nat} (h : 22 ≤ pc) : zi_fe 87 pc = zu87_1.lookup pc := (zl87_0 (Nat.le_trans (Nat.le_of_ble_eq_true rfl) h)).trans (zi_lkA (a := zi_i87_0) (c := 22) rfl h)
theorem f87_22 : zi_fe 87 22 = some ((.getfield 12), 3, 6, 0, 3, 253, 0) := (zl87_1 (Nat.le_of_ble_eq_true rfl)).trans rfl
theorem f87_25 : zi_fe 87 25 = some ((.aload_n 1), 1, 0, 0, 0, 0, 0) := (zl87_1 (Nat.le_of_ble_eq_true rfl)).trans rfl
theorem f87_26 : zi_fe 87 26 = some ((.getfield 135), 3, 0, 3, 0, 207, 0) := (zl87_1 (Nat.le_of_ble_eq_true rfl)).trans rfl
theorem f87_29 : zi_fe 87 29 = some ((.invokevirtual 150), 3, 43, 0, 4, 622, 2) := (zl87_1 (Nat.le_of_ble_eq_true rfl)).trans rfl
theorem f87_32 : zi_fe 87 32 = some ((.putfield 193), 3, 0, 8, 0, 218, 0) := (zl87_1 (Nat.le_of_ble_eq_true rfl)).trans rfl
theorem f87_35 : zi_fe 87 35 = some ((.aload_n 0), 1, 0, 0, 0, 0, 0) := (zl87_1 (Nat.le_of_ble_eq_true rfl)).trans rfl
theorem f87_36 : zi_fe 87 36 = some ((.aload_n 1), 1, 0, 0, 0, 0, 0) := (zl87_1 (Nat.le_of_ble_eq_true rfl)).trans rfl
theorem f87_37 : zi_fe 87 37 = some ((.aload_n 0), 1, 0, 0, 0, 0, 0) := (zl87_1 (Nat.le_of_ble_eq_true rfl)).trans rfl
theorem f87_38 : zi_fe 87 38 = some ((.getfield 12), 3, 6, 0, 3, 253, 0) := (zl87_1 (Nat.le_of_ble_eq_true rfl)).trans rfl
theorem f87_41 : zi_fe 87 41 = some ((.aload_n 1), 1, 0, 0, 0, 0, 0) := (zl87_1 (Nat.le_of_ble_eq_true rfl)).trans rfl
theorem f87_42 : zi_fe 87 42 = some ((.getfield 135), 3, 0, 3, 0, 207, 0) := (zl87_1 (Nat.le_of_ble_eq_true rfl)).trans rfl
theorem f87_45 : zi_fe 87 45 = some ((.invokevirtual 156), 3, 42, 0, 4, 626, 2) := (zl87_1 (Nat.le_of_ble_eq_true rfl)).trans rfl
theorem zl87_2 {pc : Nat} (h : 48 ≤ pc) : zi_fe 87 pc = zu87_2.lookup pc := (zl87_1 (Nat.le_trans (Nat.le_of_ble_eq_true rfl) h)).trans (zi_lkA (a := zi_i87_1) (c := 48) rfl h)
theorem f87_48 : zi_fe 87 48 = some ((.iconst 1), 1, 0, 0, 0, 0, 0) := (zl87_2 (Nat.le_of_ble_eq_true rfl)).trans rfl
theorem f87_49 : zi_fe 87 49 = some (.iadd, 1, 0, 0, 0, 0, 0) := (zl87_2 (Nat.le_of_ble_eq_true rfl)).trans rfl
theorem f87_50 : zi_fe 87 50 = some ((.iload_n 2), 1, 0, 0, 0, 0, 0) := (zl87_2 (Nat.le_of_ble_eq_true rfl)).trans rfl
theorem f87_51 : zi_fe 87 51 = some ((.invokevirtual 196), 3, 88, 0, 6, 710, 4) := (zl87_2 (Nat.le_of_ble_eq_true rfl)).trans rfl
theorem f87_54 : zi_fe 87 54 = some ((.iconst 5), 1, 0, 0, 0, 0, 0) := (zl87_2 (Nat.le_of_ble_eq_true rfl)).trans rfl
theorem f87_55 : zi_fe 87 55 = some (.ireturn, 1, 0, 0, 0, 0, 0) := (zl87_2 (Nat.le_of_ble_eq_true rfl)).trans rfl
theorem b87_0 {h : zi_Hp} {a0 : Nat} {a1 : Nat} {x2 : Int32} (g0 : a0 < zh_n h) (g1 : (zh_k h a0).1 = 6) (g2 : zh_r h a0 0 = .ref (zq (zh_r h a0 0))) (g3 : a1 < zh_n h) (g4 : (zh_k h a1).1 = 0) (g5 : (zq (zh_r h a0 0)) < zh_n h) (g6 : (zh_k h (zq (zh_r h a0 0))).1 = 4) : zv 3 87 0 [.ref a0, .ref a1, .int x2] [] h = (zv 2 54 0 [.ref (zq (zh_r h a0 0)), .int (zh_i h a1 3), .double 0, .double 0, .double 0] [] h).bind fun r => zv 3 87 12 [.ref a0, .ref a1, .int x2] (r.1.toList ++ [.ref a1]) r.2 := by
  refine Eq.trans (zv_next f87_0 rfl) ?_
  refine Eq.trans (zv_next f87_1 rfl) ?_
  refine Eq.trans (zs_getr f87_2 g0 g1 g2) ?_
  refine Eq.trans (zv_next f87_5 rfl) ?_
  refine Eq.trans (zs_geti f87_6 g3 g4) ?_
  exact zs_callV f87_9 (Nat.le_of_ble_eq_true rfl) (Nat.le_of_ble_eq_true rfl) rfl g5 g6 me_54 (by decide) rfl
theorem b87_12 {h : zi_Hp} {a0 : Nat} {a1 : Nat} {x2 : Int32} {t0 : Nat} {s1 : Int32} (g0 : t0 < zh_n h) (g1 : (zh_k h t0).1 = 0) (g2 : a1 < zh_n h) (g3 : (zh_k h a1).1 = 0) (g4 : a0 < zh_n h) (g5 : (zh_k h a0).1 = 6) (g6 : zh_r h a0 0 = .ref (zq (zh_r h a0 0))) : zv 3 87 12 [.ref a0, .ref a1, .int x2] [.int s1, .ref t0] h = zv 3 87 26 [.ref a0, .ref a1, .int x2] [.ref a1, .ref (zq (zh_r h a0 0)), .ref a1] (zh_wb (zh_wi h t0 10 s1) a1 11 false) := by
  refine Eq.trans (zs_put f87_12 g0 g1 rfl) ?_
  refine Eq.trans (zv_next f87_15 rfl) ?_
  refine Eq.trans (zs_ic f87_16 ic_0) ?_
  refine Eq.trans (zs_put f87_17 g2 g3 rfl) ?_
  refine Eq.trans (zv_next f87_20 rfl) ?_
  refine Eq.trans (zv_next f87_21 rfl) ?_
  refine Eq.trans (zs_getr f87_22 g4 g5 g6) ?_
  refine Eq.trans (zv_next f87_25 rfl) ?_
  rfl
theorem b87_26 {h : zi_Hp} {a0 : Nat} {a1 : Nat} {x2 : Int32} {t0 : Nat} {t1 : Nat} {t2 : Nat} (g0 : t2 < zh_n h) (g1 : (zh_k h t2).1 = 0) (g2 : t1 < zh_n h) (g3 : (zh_k h t1).1 = 4) : zv 3 87 26 [.ref a0, .ref a1, .int x2] [.ref t2, .ref t1, .ref t0] h = (zv 2 43 0 [.ref t1, .int (zh_i h t2 3)] [] h).bind fun r => zv 3 87 32 [.ref a0, .ref a1, .int x2] (r.1.toList ++ [.ref t0]) r.2 := by
  refine Eq.trans (zs_geti f87_26 g0 g1) ?_
  exact zs_callV f87_29 (Nat.le_of_ble_eq_true rfl) (Nat.le_of_ble_eq_true rfl) rfl g2 g3 me_43 (by decide) rfl
theorem b87_32 {h : zi_Hp} {a0 : Nat} {a1 : Nat} {x2 : Int32} {t0 : Nat} {s1 : Int32} (g0 : t0 < zh_n h) (g1 : (zh_k h t0).1 = 0) (g2 : a0 < zh_n h) (g3 : (zh_k h a0).1 = 6) (g4 : zh_r h a0 0 = .ref (zq (zh_r h a0 0))) : zv 3 87 32 [.ref a0, .ref a1, .int x2] [.int s1, .ref t0] h = zv 3 87 42 [.ref a0, .ref a1, .int x2] [.ref a1, .ref (zq (zh_r h a0 0)), .ref a1, .ref a0] (zh_wi h t0 8 s1) := by
  refine Eq.trans (zs_put f87_32 g0 g1 rfl) ?_
  refine Eq.trans (zv_next f87_35 rfl) ?_
  refine Eq.trans (zv_next f87_36 rfl) ?_
  refine Eq.trans (zv_next f87_37 rfl) ?_
  refine Eq.trans (zs_getr f87_38 g2 g3 g4) ?_
  refine Eq.trans (zv_next f87_41 rfl) ?_
  rfl
theorem b87_42 {h : zi_Hp} {a0 : Nat} {a1 : Nat} {x2 : Int32} {t0 : Nat} {t1 : Nat} {t2 : Nat} {t3 : Nat} (g0 : t3 < zh_n h) (g1 : (zh_k h t3).1 = 0) (g2 : t2 < zh_n h) (g3 : (zh_k h t2).1 = 4) : zv 3 87 42 [.ref a0, .ref a1, .int x2] [.ref t3, .ref t2, .ref t1, .ref t0] h = (zv 2 42 0 [.ref t2, .int (zh_i h t3 3)] [] h).bind fun r => zv 3 87 48 [.ref a0, .ref a1, .int x2] (r.1.toList ++ [.ref t1, .ref t0]) r.2 := by
  refine Eq.trans (zs_geti f87_42 g0 g1) ?_
  exact zs_callV f87_45 (Nat.le_of_ble_eq_true rfl) (Nat.le_of_ble_eq_true rfl) rfl g2 g3 me_42 (by decide) rfl
theorem b87_48 {h : zi_Hp} {a0 : Nat} {a1 : Nat} {x2 : Int32} {t0 : Nat} {t1 : Nat} {s2 : Int32} (g0 : t0 < zh_n h) (g1 : (zh_k h t0).1 = 6) : zv 3 87 48 [.ref a0, .ref a1, .int x2] [.int s2, .ref t1, .ref t0] h = (zv 2 88 0 [.ref t0, .ref t1, .int (s2 + 1), .int x2, .double 0] [] h).bind fun r => zv 3 87 54 [.ref a0, .ref a1, .int x2] (r.1.toList ++ []) r.2 := by
  refine Eq.trans (zs_ic f87_48 ic_1) ?_
  refine Eq.trans (zv_next f87_49 rfl) ?_
  refine Eq.trans (zv_next f87_50 rfl) ?_
  exact zs_callV f87_51 (Nat.le_of_ble_eq_true rfl) (Nat.le_of_ble_eq_true rfl) rfl g0 g1 me_88 (by decide) rfl
theorem b87_54 {h : zi_Hp} {a0 : Nat} {a1 : Nat} {x2 : Int32}  : zv 3 87 54 [.ref a0, .ref a1, .int x2] [] h = some (some (.int 5), h) := by
  refine Eq.trans (zs_ic f87_54 ic_5) ?_
  exact zs_ret0 f87_55
set_option maxRecDepth 20000 in
theorem zq88 : zi_M[88]? = some zi_m88 := rfl
theorem zl88_0 {pc : Nat} (_ : 0 ≤ pc) : zi_fe 88 pc = zu88_0.lookup pc := zi_feA zq88 pc
theorem f88_0 : zi_fe 88 0 = some ((.aload_n 1), 1, 0, 0, 0, 0, 0) := (zl88_0 (Nat.le_of_ble_eq_true rfl)).trans rfl
theorem f88_1 : zi_fe 88 1 = some ((.iload_n 3), 1, 0, 0, 0, 0, 0) := (zl88_0 (Nat.le_of_ble_eq_true rfl)).trans rfl
theorem f88_2 : zi_fe 88 2 = some ((.putfield 79), 3, 0, 4, 0, 209, 0) := (zl88_0 (Nat.le_of_ble_eq_true rfl)).trans rfl
theorem f88_5 : zi_fe 88 5 = some ((.aload_n 1), 1, 0, 0, 0, 0, 0) := (zl88_0 (Nat.le_of_ble_eq_true rfl)).trans rfl
theorem f88_6 : zi_fe 88 6 = some ((.iload_n 2), 1, 0, 0, 0, 0, 0) := (zl88_0 (Nat.le_of_ble_eq_true rfl)).trans rfl
theorem f88_7 : zi_fe 88 7 = some ((.putfield 200), 3, 0, 9, 0, 220, 0) := (zl88_0 (Nat.le_of_ble_eq_true rfl)).trans rfl
theorem f88_10 : zi_fe 88 10 = some ((.aload_n 1), 1, 0, 0, 0, 0, 0) := (zl88_0 (Nat.le_of_ble_eq_true rfl)).trans rfl
theorem f88_11 : zi_fe 88 11 = some ((.iload_n 2), 1, 0, 0, 0, 0, 0) := (zl88_0 (Nat.le_of_ble_eq_true rfl)).trans rfl
theorem f88_12 : zi_fe 88 12 = some ((.invokevirtual 203), 3, 8, 0, 0, 714, 2) := (zl88_0 (Nat.le_of_ble_eq_true rfl)).trans rfl
theorem f88_15 : zi_fe 88 15 = some ((.istore 4), 2, 0, 0, 0, 0, 0) := (zl88_0 (Nat.le_of_ble_eq_true rfl)).trans rfl
theorem f88_17 : zi_fe 88 17 = some ((.aload_n 1), 1, 0, 0, 0, 0, 0) := (zl88_0 (Nat.le_of_ble_eq_true rfl)).trans rfl
theorem f88_18 : zi_fe 88 18 = some ((.iload 4), 2, 0, 0, 0, 0, 0) := (zl88_0 (Nat.le_of_ble_eq_true rfl)).trans rfl
theorem zl88_1 {pc : Nat} (h : 20 ≤ pc) : zi_fe 88 pc = zu88_1.lookup pc := (zl88_0 (Nat.le_trans (Nat.le_of_ble_eq_true rfl) h)).trans (zi_lkA (a := zi_i88_0) (c := 20) rfl h)
theorem f88_20 : zi_fe 88 20 = some ((.ifCond .lt 8), 3, 0, 0, 0, 0, 0) := (zl88_1 (Nat.le_of_ble_eq_true rfl)).trans rfl
theorem f88_23 : zi_fe 88 23 = some ((.iload 4), 2, 0, 0, 0, 0, 0) := (zl88_1 (Nat.le_of_ble_eq_true rfl)).trans rfl
theorem f88_25 : zi_fe 88 25 = some ((.goto 10), 3, 0, 0, 0, 0, 0) := (zl88_1 (Nat.le_of_ble_eq_true rfl)).trans rfl
theorem f88_28 : zi_fe 88 28 = some ((.aload_n 0), 1, 0, 0, 0, 0, 0) := (zl88_1 (Nat.le_of_ble_eq_true rfl)).trans rfl
theorem f88_29 : zi_fe 88 29 = some ((.getfield 12), 3, 6, 0, 3, 253, 0) := (zl88_1 (Nat.le_of_ble_eq_true rfl)).trans rfl
theorem f88_32 : zi_fe 88 32 = some ((.getfield 66), 3, 4, 1, 0, 142, 0) := (zl88_1 (Nat.le_of_ble_eq_true rfl)).trans rfl
theorem f88_35 : zi_fe 88 35 = some ((.putfield 135), 3, 0, 3, 0, 207, 0) := (zl88_1 (Nat.le_of_ble_eq_true rfl)).trans rfl
theorem f88_38 : zi_fe 88 38 = some ((.aload_n 1), 1, 0, 0, 0, 0, 0) := (zl88_1 (Nat.le_of_ble_eq_true rfl)).trans rfl
theorem f88_39 : zi_fe 88 39 = some ((.iconst 3), 1, 0, 0, 0, 0, 0) := (zl88_1 (Nat.le_of_ble_eq_true rfl)).trans rfl
theorem f88_40 : zi_fe 88 40 = some ((.putfield 35), 3, 0, 0, 0, 200, 0) := (zl88_1 (Nat.le_of_ble_eq_true rfl)).trans rfl
theorem f88_43 : zi_fe 88 43 = some (.return_, 1, 0, 0, 0, 0, 0) := (zl88_1 (Nat.le_of_ble_eq_true rfl)).trans rfl
theorem b88_0 {h : zi_Hp} {a0 : Nat} {a1 : Nat} {x2 : Int32} {x3 : Int32} {u4 : Value} (g0 : a1 < zh_n h) (g1 : (zh_k h a1).1 = 0) : zv 2 88 0 [.ref a0, .ref a1, .int x2, .int x3, u4] [] h = (zv 1 8 0 [.ref a1, .int x2] [] (zh_wi (zh_wi h a1 4 x3) a1 9 x2)).bind fun r => zv 2 88 15 [.ref a0, .ref a1, .int x2, .int x3, u4] (r.1.toList ++ []) r.2 := by
  refine Eq.trans (zv_next f88_0 rfl) ?_
  refine Eq.trans (zv_next f88_1 rfl) ?_
  refine Eq.trans (zs_put f88_2 g0 g1 rfl) ?_
  refine Eq.trans (zv_next f88_5 rfl) ?_
  refine Eq.trans (zv_next f88_6 rfl) ?_
  refine Eq.trans (zs_put f88_7 g0 g1 rfl) ?_
  refine Eq.trans (zv_next f88_10 rfl) ?_
  refine Eq.trans (zv_next f88_11 rfl) ?_
  exact zs_callV f88_12 (Nat.le_of_ble_eq_true rfl) (Nat.le_of_ble_eq_true rfl) rfl g0 g1 me_8 (by decide) rfl
theorem b88_15 {h : zi_Hp} {a0 : Nat} {a1 : Nat} {x2 : Int32} {x3 : Int32} {u4 : Value} {s0 : Int32}  : zv 2 88 15 [.ref a0, .ref a1, .int x2, .int x3, u4] [.int s0] h = if s0 < 0 then zv 2 88 28 [.ref a0, .ref a1, .int x2, .int x3, .int s0] [.ref a1] h else zv 2 88 23 [.ref a0, .ref a1, .int x2, .int x3, .int s0] [.ref a1] h := by
  refine Eq.trans (zv_next f88_15 rfl) ?_
  refine Eq.trans (zv_next f88_17 rfl) ?_
  refine Eq.trans (zv_next f88_18 rfl) ?_
  exact zs_if f88_20 rfl
theorem b88_23 {h : zi_Hp} {a0 : Nat} {a1 : Nat} {x2 : Int32} {x3 : Int32} {x4 : Int32} {t0 : Nat}  : zv 2 88 23 [.ref a0, .ref a1, .int x2, .int x3, .int x4] [.ref t0] h = zv 2 88 35 [.ref a0, .ref a1, .int x2, .int x3, .int x4] [.int x4, .ref t0] h := by
  refine Eq.trans (zv_next f88_23 rfl) ?_
  refine Eq.trans (zs_goto (tgt := 35) f88_25 rfl) ?_
  rfl
theorem b88_28 {h : zi_Hp} {a0 : Nat} {a1 : Nat} {x2 : Int32} {x3 : Int32} {x4 : Int32} {t0 : Nat} (g0 : a0 < zh_n h) (g1 : (zh_k h a0).1 = 6) (g2 : zh_r h a0 0 = .ref (zq (zh_r h a0 0))) (g3 : (zq (zh_r h a0 0)) < zh_n h) (g4 : (zh_k h (zq (zh_r h a0 0))).1 = 4) : zv 2 88 28 [.ref a0, .ref a1, .int x2, .int x3, .int x4] [.ref t0] h = zv 2 88 35 [.ref a0, .ref a1, .int x2, .int x3, .int x4] [.int (zh_i h (zq (zh_r h a0 0)) 1), .ref t0] h := by
  refine Eq.trans (zv_next f88_28 rfl) ?_
  refine Eq.trans (zs_getr f88_29 g0 g1 g2) ?_
  refine Eq.trans (zs_geti f88_32 g3 g4) ?_
  rfl
theorem b88_35 {h : zi_Hp} {a0 : Nat} {a1 : Nat} {x2 : Int32} {x3 : Int32} {x4 : Int32} {t0 : Nat} {s1 : Int32} (g0 : t0 < zh_n h) (g1 : (zh_k h t0).1 = 0) (g2 : a1 < zh_n h) (g3 : (zh_k h a1).1 = 0) : zv 2 88 35 [.ref a0, .ref a1, .int x2, .int x3, .int x4] [.int s1, .ref t0] h = some (none, zh_wi (zh_wi h t0 3 s1) a1 0 3) := by
  refine Eq.trans (zs_put f88_35 g0 g1 rfl) ?_
  refine Eq.trans (zv_next f88_38 rfl) ?_
  refine Eq.trans (zs_ic f88_39 ic_3) ?_
  refine Eq.trans (zs_put f88_40 g2 g3 rfl) ?_
  exact zv_ret f88_43 rfl
set_option maxRecDepth 20000 in
theorem zq89 : zi_M[89]? = some zi_m89 := rfl
theorem zl89_0 {pc : Nat} (_ : 0 ≤ pc) : zi_fe 89 pc = zu89_0.lookup pc := zi_feA zq89 pc
theorem f89_0 : zi_fe 89 0 = some ((.aload_n 0), 1, 0, 0, 0, 0, 0) := (zl89_0 (Nat.le_of_ble_eq_true rfl)).trans rfl
theorem f89_1 : zi_fe 89 1 = some ((.getfield 12), 3, 6, 0, 3, 253, 0) := (zl89_0 (Nat.le_of_ble_eq_true rfl)).trans rfl
theorem f89_4 : zi_fe 89 4 = some ((.aload_n 1), 1, 0, 0, 0, 0, 0) := (zl89_0 (Nat.le_of_ble_eq_true rfl)).trans rfl
theorem f89_5 : zi_fe 89 5 = some ((.getfield 135), 3, 0, 3, 0, 207, 0) := (zl89_0 (Nat.le_of_ble_eq_true rfl)).trans rfl
theorem f89_8 : zi_fe 89 8 = some ((.aload_n 1), 1, 0, 0, 0, 0, 0) := (zl89_0 (Nat.le_of_ble_eq_true rfl)).trans rfl
theorem f89_9 : zi_fe 89 9 = some ((.getfield 129), 3, 0, 2, 0, 205, 0) := (zl89_0 (Nat.le_of_ble_eq_true rfl)).trans rfl
theorem f89_12 : zi_fe 89 12 = some ((.invokevirtual 167), 3, 50, 0, 4, 670, 3) := (zl89_0 (Nat.le_of_ble_eq_true rfl)).trans rfl
theorem f89_15 : zi_fe 89 15 = some ((.ifCond .ne 9), 3, 0, 0, 0, 0, 0) := (zl89_0 (Nat.le_of_ble_eq_true rfl)).trans rfl
theorem f89_18 : zi_fe 89 18 = some ((.aload_n 1), 1, 0, 0, 0, 0, 0) := (zl89_0 (Nat.le_of_ble_eq_true rfl)).trans rfl
theorem f89_19 : zi_fe 89 19 = some ((.iconst 0), 1, 0, 0, 0, 0, 0) := (zl89_0 (Nat.le_of_ble_eq_true rfl)).trans rfl
theorem f89_20 : zi_fe 89 20 = some ((.invokevirtual 171), 3, 6, 0, 0, 679, 2) := (zl89_0 (Nat.le_of_ble_eq_true rfl)).trans rfl
theorem f89_23 : zi_fe 89 23 = some (.ireturn, 1, 0, 0, 0, 0, 0) := (zl89_0 (Nat.le_of_ble_eq_true rfl)).trans rfl
theorem zl89_1 {pc : Nat} (h : 24 ≤ pc) : zi_fe 89 pc = zu89_1.lookup pc := (zl89_0 (Nat.le_trans (Nat.le_of_ble_eq_true rfl) h)).trans (zi_lkA (a := zi_i89_0) (c := 24) rfl h)
theorem f89_24 : zi_fe 89 24 = some ((.aload_n 0), 1, 0, 0, 0, 0, 0) := (zl89_1 (Nat.le_of_ble_eq_true rfl)).trans rfl
theorem f89_25 : zi_fe 89 25 = some ((.getfield 12), 3, 6, 0, 3, 253, 0) := (zl89_1 (Nat.le_of_ble_eq_true rfl)).trans rfl
theorem f89_28 : zi_fe 89 28 = some ((.aload_n 1), 1, 0, 0, 0, 0, 0) := (zl89_1 (Nat.le_of_ble_eq_true rfl)).trans rfl
theorem f89_29 : zi_fe 89 29 = some ((.getfield 135), 3, 0, 3, 0, 207, 0) := (zl89_1 (Nat.le_of_ble_eq_true rfl)).trans rfl
theorem f89_32 : zi_fe 89 32 = some ((.aload_n 0), 1, 0, 0, 0, 0, 0) := (zl89_1 (Nat.le_of_ble_eq_true rfl)).trans rfl
theorem f89_33 : zi_fe 89 33 = some ((.getfield 12), 3, 6, 0, 3, 253, 0) := (zl89_1 (Nat.le_of_ble_eq_true rfl)).trans rfl
theorem f89_36 : zi_fe 89 36 = some ((.aload_n 1), 1, 0, 0, 0, 0, 0) := (zl89_1 (Nat.le_of_ble_eq_true rfl)).trans rfl
theorem f89_37 : zi_fe 89 37 = some ((.getfield 135), 3, 0, 3, 0, 207, 0) := (zl89_1 (Nat.le_of_ble_eq_true rfl)).trans rfl
theorem f89_40 : zi_fe 89 40 = some ((.aload_n 1), 1, 0, 0, 0, 0, 0) := (zl89_1 (Nat.le_of_ble_eq_true rfl)).trans rfl
theorem f89_41 : zi_fe 89 41 = some ((.getfield 129), 3, 0, 2, 0, 205, 0) := (zl89_1 (Nat.le_of_ble_eq_true rfl)).trans rfl
theorem f89_44 : zi_fe 89 44 = some ((.invokevirtual 141), 3, 49, 0, 4, 662, 3) := (zl89_1 (Nat.le_of_ble_eq_true rfl)).trans rfl
theorem f89_47 : zi_fe 89 47 = some ((.invokevirtual 206), 3, 52, 0, 4, 722, 3) := (zl89_1 (Nat.le_of_ble_eq_true rfl)).trans rfl
theorem zl89_2 {pc : Nat} (h : 50 ≤ pc) : zi_fe 89 pc = zu89_2.lookup pc := (zl89_1 (Nat.le_trans (Nat.le_of_ble_eq_true rfl) h)).trans (zi_lkA (a := zi_i89_1) (c := 50) rfl h)
theorem f89_50 : zi_fe 89 50 = some ((.aload_n 0), 1, 0, 0, 0, 0, 0) := (zl89_2 (Nat.le_of_ble_eq_true rfl)).trans rfl
theorem f89_51 : zi_fe 89 51 = some ((.getfield 12), 3, 6, 0, 3, 253, 0) := (zl89_2 (Nat.le_of_ble_eq_true rfl)).trans rfl
theorem f89_54 : zi_fe 89 54 = some ((.aload_n 1), 1, 0, 0, 0, 0, 0) := (zl89_2 (Nat.le_of_ble_eq_true rfl)).trans rfl
theorem f89_55 : zi_fe 89 55 = some ((.getfield 135), 3, 0, 3, 0, 207, 0) := (zl89_2 (Nat.le_of_ble_eq_true rfl)).trans rfl
theorem f89_58 : zi_fe 89 58 = some ((.invokevirtual 209), 3, 41, 0, 4, 726, 2) := (zl89_2 (Nat.le_of_ble_eq_true rfl)).trans rfl
theorem f89_61 : zi_fe 89 61 = some ((.ifCond .eq 33), 3, 0, 0, 0, 0, 0) := (zl89_2 (Nat.le_of_ble_eq_true rfl)).trans rfl
theorem f89_64 : zi_fe 89 64 = some ((.aload_n 0), 1, 0, 0, 0, 0, 0) := (zl89_2 (Nat.le_of_ble_eq_true rfl)).trans rfl
theorem f89_65 : zi_fe 89 65 = some ((.getfield 12), 3, 6, 0, 3, 253, 0) := (zl89_2 (Nat.le_of_ble_eq_true rfl)).trans rfl
theorem f89_68 : zi_fe 89 68 = some ((.getfield 212), 3, 4, 4, 3, 151, 0) := (zl89_2 (Nat.le_of_ble_eq_true rfl)).trans rfl
theorem f89_71 : zi_fe 89 71 = some ((.aload_n 1), 1, 0, 0, 0, 0, 0) := (zl89_2 (Nat.le_of_ble_eq_true rfl)).trans rfl
theorem f89_72 : zi_fe 89 72 = some ((.getfield 135), 3, 0, 3, 0, 207, 0) := (zl89_2 (Nat.le_of_ble_eq_true rfl)).trans rfl
theorem f89_75 : zi_fe 89 75 = some (.iaload, 1, 0, 0, 0, 0, 0) := (zl89_2 (Nat.le_of_ble_eq_true rfl)).trans rfl
theorem zl89_3 {pc : Nat} (h : 76 ≤ pc) : zi_fe 89 pc = zu89_3.lookup pc := (zl89_2 (Nat.le_trans (Nat.le_of_ble_eq_true rfl) h)).trans (zi_lkA (a := zi_i89_2) (c := 76) rfl h)
theorem f89_76 : zi_fe 89 76 = some ((.ifCond .gt 18), 3, 0, 0, 0, 0, 0) := (zl89_3 (Nat.le_of_ble_eq_true rfl)).trans rfl
theorem f89_79 : zi_fe 89 79 = some ((.aload_n 0), 1, 0, 0, 0, 0, 0) := (zl89_3 (Nat.le_of_ble_eq_true rfl)).trans rfl
theorem f89_80 : zi_fe 89 80 = some ((.getfield 12), 3, 6, 0, 3, 253, 0) := (zl89_3 (Nat.le_of_ble_eq_true rfl)).trans rfl
theorem f89_83 : zi_fe 89 83 = some ((.getfield 215), 3, 4, 6, 3, 156, 0) := (zl89_3 (Nat.le_of_ble_eq_true rfl)).trans rfl
theorem f89_86 : zi_fe 89 86 = some ((.aload_n 1), 1, 0, 0, 0, 0, 0) := (zl89_3 (Nat.le_of_ble_eq_true rfl)).trans rfl
theorem f89_87 : zi_fe 89 87 = some ((.getfield 135), 3, 0, 3, 0, 207, 0) := (zl89_3 (Nat.le_of_ble_eq_true rfl)).trans rfl
theorem f89_90 : zi_fe 89 90 = some (.iaload, 1, 0, 0, 0, 0, 0) := (zl89_3 (Nat.le_of_ble_eq_true rfl)).trans rfl
theorem f89_91 : zi_fe 89 91 = some ((.ifCond .ge 9), 3, 0, 0, 0, 0, 0) := (zl89_3 (Nat.le_of_ble_eq_true rfl)).trans rfl
theorem f89_94 : zi_fe 89 94 = some ((.aload_n 1), 1, 0, 0, 0, 0, 0) := (zl89_3 (Nat.le_of_ble_eq_true rfl)).trans rfl
theorem f89_95 : zi_fe 89 95 = some ((.iconst 1), 1, 0, 0, 0, 0, 0) := (zl89_3 (Nat.le_of_ble_eq_true rfl)).trans rfl
theorem f89_96 : zi_fe 89 96 = some ((.invokevirtual 171), 3, 6, 0, 0, 679, 2) := (zl89_3 (Nat.le_of_ble_eq_true rfl)).trans rfl
theorem f89_99 : zi_fe 89 99 = some (.ireturn, 1, 0, 0, 0, 0, 0) := (zl89_3 (Nat.le_of_ble_eq_true rfl)).trans rfl
theorem zl89_4 {pc : Nat} (h : 100 ≤ pc) : zi_fe 89 pc = zu89_4.lookup pc := (zl89_3 (Nat.le_trans (Nat.le_of_ble_eq_true rfl) h)).trans (zi_lkA (a := zi_i89_3) (c := 100) rfl h)
theorem f89_100 : zi_fe 89 100 = some ((.aload_n 0), 1, 0, 0, 0, 0, 0) := (zl89_4 (Nat.le_of_ble_eq_true rfl)).trans rfl
theorem f89_101 : zi_fe 89 101 = some ((.getfield 12), 3, 6, 0, 3, 253, 0) := (zl89_4 (Nat.le_of_ble_eq_true rfl)).trans rfl
theorem f89_104 : zi_fe 89 104 = some ((.getfield 218), 3, 4, 7, 3, 159, 0) := (zl89_4 (Nat.le_of_ble_eq_true rfl)).trans rfl
theorem f89_107 : zi_fe 89 107 = some ((.aload_n 1), 1, 0, 0, 0, 0, 0) := (zl89_4 (Nat.le_of_ble_eq_true rfl)).trans rfl
theorem f89_108 : zi_fe 89 108 = some ((.getfield 135), 3, 0, 3, 0, 207, 0) := (zl89_4 (Nat.le_of_ble_eq_true rfl)).trans rfl
theorem f89_111 : zi_fe 89 111 = some ((.iconst 1), 1, 0, 0, 0, 0, 0) := (zl89_4 (Nat.le_of_ble_eq_true rfl)).trans rfl
theorem f89_112 : zi_fe 89 112 = some (.bastore, 1, 0, 0, 0, 0, 0) := (zl89_4 (Nat.le_of_ble_eq_true rfl)).trans rfl
theorem f89_113 : zi_fe 89 113 = some ((.aload_n 1), 1, 0, 0, 0, 0, 0) := (zl89_4 (Nat.le_of_ble_eq_true rfl)).trans rfl
theorem f89_114 : zi_fe 89 114 = some ((.aload_n 1), 1, 0, 0, 0, 0, 0) := (zl89_4 (Nat.le_of_ble_eq_true rfl)).trans rfl
theorem f89_115 : zi_fe 89 115 = some ((.getfield 135), 3, 0, 3, 0, 207, 0) := (zl89_4 (Nat.le_of_ble_eq_true rfl)).trans rfl
theorem f89_118 : zi_fe 89 118 = some ((.putfield 190), 3, 0, 10, 0, 222, 0) := (zl89_4 (Nat.le_of_ble_eq_true rfl)).trans rfl
theorem f89_121 : zi_fe 89 121 = some ((.aload_n 1), 1, 0, 0, 0, 0, 0) := (zl89_4 (Nat.le_of_ble_eq_true rfl)).trans rfl
theorem zl89_5 {pc : Nat} (h : 122 ≤ pc) : zi_fe 89 pc = zu89_5.lookup pc := (zl89_4 (Nat.le_trans (Nat.le_of_ble_eq_true rfl) h)).trans (zi_lkA (a := zi_i89_4) (c := 122) rfl h)
theorem f89_122 : zi_fe 89 122 = some ((.iconst 1), 1, 0, 0, 0, 0, 0) := (zl89_5 (Nat.le_of_ble_eq_true rfl)).trans rfl
theorem f89_123 : zi_fe 89 123 = some ((.putfield 102), 3, 0, 11, 1, 224, 0) := (zl89_5 (Nat.le_of_ble_eq_true rfl)).trans rfl
theorem f89_126 : zi_fe 89 126 = some ((.aload_n 1), 1, 0, 0, 0, 0, 0) := (zl89_5 (Nat.le_of_ble_eq_true rfl)).trans rfl
theorem f89_127 : zi_fe 89 127 = some ((.aload_n 0), 1, 0, 0, 0, 0, 0) := (zl89_5 (Nat.le_of_ble_eq_true rfl)).trans rfl
theorem f89_128 : zi_fe 89 128 = some ((.getfield 12), 3, 6, 0, 3, 253, 0) := (zl89_5 (Nat.le_of_ble_eq_true rfl)).trans rfl
theorem f89_131 : zi_fe 89 131 = some ((.aload_n 1), 1, 0, 0, 0, 0, 0) := (zl89_5 (Nat.le_of_ble_eq_true rfl)).trans rfl
theorem f89_132 : zi_fe 89 132 = some ((.getfield 135), 3, 0, 3, 0, 207, 0) := (zl89_5 (Nat.le_of_ble_eq_true rfl)).trans rfl
theorem f89_135 : zi_fe 89 135 = some ((.invokevirtual 150), 3, 43, 0, 4, 622, 2) := (zl89_5 (Nat.le_of_ble_eq_true rfl)).trans rfl
theorem f89_138 : zi_fe 89 138 = some ((.putfield 193), 3, 0, 8, 0, 218, 0) := (zl89_5 (Nat.le_of_ble_eq_true rfl)).trans rfl
theorem f89_141 : zi_fe 89 141 = some ((.aload_n 0), 1, 0, 0, 0, 0, 0) := (zl89_5 (Nat.le_of_ble_eq_true rfl)).trans rfl
theorem f89_142 : zi_fe 89 142 = some ((.aload_n 1), 1, 0, 0, 0, 0, 0) := (zl89_5 (Nat.le_of_ble_eq_true rfl)).trans rfl
theorem f89_143 : zi_fe 89 143 = some ((.iconst 1), 1, 0, 0, 0, 0, 0) := (zl89_5 (Nat.le_of_ble_eq_true rfl)).trans rfl
theorem zl89_6 {pc : Nat} (h : 144 ≤ pc) : zi_fe 89 pc = zu89_6.lookup pc := (zl89_5 (Nat.le_trans (Nat.le_of_ble_eq_true rfl) h)).trans (zi_lkA (a := zi_i89_5) (c := 144) rfl h)
theorem f89_144 : zi_fe 89 144 = some ((.iconst 1), 1, 0, 0, 0, 0, 0) := (zl89_6 (Nat.le_of_ble_eq_true rfl)).trans rfl
theorem f89_145 : zi_fe 89 145 = some ((.invokevirtual 196), 3, 88, 0, 6, 710, 4) := (zl89_6 (Nat.le_of_ble_eq_true rfl)).trans rfl
theorem f89_148 : zi_fe 89 148 = some ((.bipush 6), 2, 0, 0, 0, 0, 0) := (zl89_6 (Nat.le_of_ble_eq_true rfl)).trans rfl
theorem f89_150 : zi_fe 89 150 = some (.ireturn, 1, 0, 0, 0, 0, 0) := (zl89_6 (Nat.le_of_ble_eq_true rfl)).trans rfl
theorem b89_0 {h : zi_Hp} {a0 : Nat} {a1 : Nat} (g0 : a0 < zh_n h) (g1 : (zh_k h a0).1 = 6) (g2 : zh_r h a0 0 = .ref (zq (zh_r h a0 0))) (g3 : a1 < zh_n h) (g4 : (zh_k h a1).1 = 0) (g5 : (zq (zh_r h a0 0)) < zh_n h) (g6 : (zh_k h (zq (zh_r h a0 0))).1 = 4) : zv 4 89 0 [.ref a0, .ref a1] [] h = (zv 3 50 0 [.ref (zq (zh_r h a0 0)), .int (zh_i h a1 3), .int (zh_i h a1 2)] [] h).bind fun r => zv 4 89 15 [.ref a0, .ref a1] (r.1.toList ++ []) r.2 := by
  refine Eq.trans (zv_next f89_0 rfl) ?_
  refine Eq.trans (zs_getr f89_1 g0 g1 g2) ?_
  refine Eq.trans (zv_next f89_4 rfl) ?_
  refine Eq.trans (zs_geti f89_5 g3 g4) ?_
  refine Eq.trans (zv_next f89_8 rfl) ?_
  refine Eq.trans (zs_geti f89_9 g3 g4) ?_
  exact zs_callV f89_12 (Nat.le_of_ble_eq_true rfl) (Nat.le_of_ble_eq_true rfl) rfl g5 g6 me_50 (by decide) rfl
theorem b89_15 {h : zi_Hp} {a0 : Nat} {a1 : Nat} {s0 : Int32}  : zv 4 89 15 [.ref a0, .ref a1] [.int s0] h = if s0 = 0 then zv 4 89 18 [.ref a0, .ref a1] [] h else zv 4 89 24 [.ref a0, .ref a1] [] h := by
  exact zs_if f89_15 rfl
theorem b89_18 {h : zi_Hp} {a0 : Nat} {a1 : Nat} (g0 : a1 < zh_n h) (g1 : (zh_k h a1).1 = 0) : zv 4 89 18 [.ref a0, .ref a1] [] h = (zv 1 6 0 [.ref a1, .int 0] [] h).bind fun r => zv 4 89 23 [.ref a0, .ref a1] (r.1.toList ++ []) r.2 := by
  refine Eq.trans (zv_next f89_18 rfl) ?_
  refine Eq.trans (zs_ic f89_19 ic_0) ?_
  exact zs_callV f89_20 (Nat.le_of_ble_eq_true rfl) (Nat.le_of_ble_eq_true rfl) rfl g0 g1 me_6 (by decide) rfl
theorem b89_23 {h : zi_Hp} {a0 : Nat} {a1 : Nat} {s0 : Int32}  : zv 4 89 23 [.ref a0, .ref a1] [.int s0] h = some (some (.int s0), h) := by
  exact zs_ret0 f89_23
theorem b89_24 {h : zi_Hp} {a0 : Nat} {a1 : Nat} (g0 : a0 < zh_n h) (g1 : (zh_k h a0).1 = 6) (g2 : zh_r h a0 0 = .ref (zq (zh_r h a0 0))) (g3 : a1 < zh_n h) (g4 : (zh_k h a1).1 = 0) (g5 : (zq (zh_r h a0 0)) < zh_n h) (g6 : (zh_k h (zq (zh_r h a0 0))).1 = 4) : zv 4 89 24 [.ref a0, .ref a1] [] h = (zv 2 49 0 [.ref (zq (zh_r h a0 0)), .int (zh_i h a1 3), .int (zh_i h a1 2), .double 0] [] h).bind fun r => zv 4 89 47 [.ref a0, .ref a1] (r.1.toList ++ [.int (zh_i h a1 3), .ref (zq (zh_r h a0 0))]) r.2 := by
  refine Eq.trans (zv_next f89_24 rfl) ?_
  refine Eq.trans (zs_getr f89_25 g0 g1 g2) ?_
  refine Eq.trans (zv_next f89_28 rfl) ?_
  refine Eq.trans (zs_geti f89_29 g3 g4) ?_
  refine Eq.trans (zv_next f89_32 rfl) ?_
  refine Eq.trans (zs_getr f89_33 g0 g1 g2) ?_
  refine Eq.trans (zv_next f89_36 rfl) ?_
  refine Eq.trans (zs_geti f89_37 g3 g4) ?_
  refine Eq.trans (zv_next f89_40 rfl) ?_
  refine Eq.trans (zs_geti f89_41 g3 g4) ?_
  exact zs_callV f89_44 (Nat.le_of_ble_eq_true rfl) (Nat.le_of_ble_eq_true rfl) rfl g5 g6 me_49 (by decide) rfl
theorem b89_47 {h : zi_Hp} {a0 : Nat} {a1 : Nat} {t0 : Nat} {s1 : Int32} {s2 : Int32} (g0 : t0 < zh_n h) (g1 : (zh_k h t0).1 = 4) : zv 4 89 47 [.ref a0, .ref a1] [.int s2, .int s1, .ref t0] h = (zv 2 52 0 [.ref t0, .int s1, .int s2, .double 0] [] h).bind fun r => zv 4 89 50 [.ref a0, .ref a1] (r.1.toList ++ []) r.2 := by
  exact zs_callV f89_47 (Nat.le_of_ble_eq_true rfl) (Nat.le_of_ble_eq_true rfl) rfl g0 g1 me_52 (by decide) rfl
theorem b89_50 {h : zi_Hp} {a0 : Nat} {a1 : Nat} (g0 : a0 < zh_n h) (g1 : (zh_k h a0).1 = 6) (g2 : zh_r h a0 0 = .ref (zq (zh_r h a0 0))) (g3 : a1 < zh_n h) (g4 : (zh_k h a1).1 = 0) (g5 : (zq (zh_r h a0 0)) < zh_n h) (g6 : (zh_k h (zq (zh_r h a0 0))).1 = 4) : zv 4 89 50 [.ref a0, .ref a1] [] h = (zv 1 41 0 [.ref (zq (zh_r h a0 0)), .int (zh_i h a1 3)] [] h).bind fun r => zv 4 89 61 [.ref a0, .ref a1] (r.1.toList ++ []) r.2 := by
  refine Eq.trans (zv_next f89_50 rfl) ?_
  refine Eq.trans (zs_getr f89_51 g0 g1 g2) ?_
  refine Eq.trans (zv_next f89_54 rfl) ?_
  refine Eq.trans (zs_geti f89_55 g3 g4) ?_
  exact zs_callV f89_58 (Nat.le_of_ble_eq_true rfl) (Nat.le_of_ble_eq_true rfl) rfl g5 g6 me_41 (by decide) rfl
theorem b89_61 {h : zi_Hp} {a0 : Nat} {a1 : Nat} {s0 : Int32}  : zv 4 89 61 [.ref a0, .ref a1] [.int s0] h = if s0 = 0 then zv 4 89 94 [.ref a0, .ref a1] [] h else zv 4 89 64 [.ref a0, .ref a1] [] h := by
  exact zs_if f89_61 rfl
theorem b89_64 {h : zi_Hp} {a0 : Nat} {a1 : Nat} (g0 : a0 < zh_n h) (g1 : (zh_k h a0).1 = 6) (g2 : zh_r h a0 0 = .ref (zq (zh_r h a0 0))) (g3 : (zq (zh_r h a0 0)) < zh_n h) (g4 : (zh_k h (zq (zh_r h a0 0))).1 = 4) (g5 : zh_r h (zq (zh_r h a0 0)) 4 = .ref (zq (zh_r h (zq (zh_r h a0 0)) 4))) (g6 : a1 < zh_n h) (g7 : (zh_k h a1).1 = 0) (g8 : (zq (zh_r h (zq (zh_r h a0 0)) 4)) < zh_n h) (g9 : ¬ ((zh_i h a1 3) < 0 ∨ (zh_k h (zq (zh_r h (zq (zh_r h a0 0)) 4))).2 ≤ (zh_i h a1 3).toNatClampNeg)) (g10 : (zh_k h (zq (zh_r h (zq (zh_r h a0 0)) 4))).1 = 100) : zv 4 89 64 [.ref a0, .ref a1] [] h = if 0 < (zh_i h (zq (zh_r h (zq (zh_r h a0 0)) 4)) (zh_i h a1 3).toNatClampNeg) then zv 4 89 94 [.ref a0, .ref a1] [] h else zv 4 89 79 [.ref a0, .ref a1] [] h := by
  refine Eq.trans (zv_next f89_64 rfl) ?_
  refine Eq.trans (zs_getr f89_65 g0 g1 g2) ?_
  refine Eq.trans (zs_getr f89_68 g3 g4 g5) ?_
  refine Eq.trans (zv_next f89_71 rfl) ?_
  refine Eq.trans (zs_geti f89_72 g6 g7) ?_
  refine Eq.trans (zs_iald f89_75 g8 g10 g9) ?_
  exact zs_if f89_76 rfl
theorem b89_79 {h : zi_Hp} {a0 : Nat} {a1 : Nat} (g0 : a0 < zh_n h) (g1 : (zh_k h a0).1 = 6) (g2 : zh_r h a0 0 = .ref (zq (zh_r h a0 0))) (g3 : (zq (zh_r h a0 0)) < zh_n h) (g4 : (zh_k h (zq (zh_r h a0 0))).1 = 4) (g5 : zh_r h (zq (zh_r h a0 0)) 6 = .ref (zq (zh_r h (zq (zh_r h a0 0)) 6))) (g6 : a1 < zh_n h) (g7 : (zh_k h a1).1 = 0) (g8 : (zq (zh_r h (zq (zh_r h a0 0)) 6)) < zh_n h) (g9 : ¬ ((zh_i h a1 3) < 0 ∨ (zh_k h (zq (zh_r h (zq (zh_r h a0 0)) 6))).2 ≤ (zh_i h a1 3).toNatClampNeg)) (g10 : (zh_k h (zq (zh_r h (zq (zh_r h a0 0)) 6))).1 = 100) : zv 4 89 79 [.ref a0, .ref a1] [] h = if (zh_i h (zq (zh_r h (zq (zh_r h a0 0)) 6)) (zh_i h a1 3).toNatClampNeg) < 0 then zv 4 89 94 [.ref a0, .ref a1] [] h else zv 4 89 100 [.ref a0, .ref a1] [] h := by
  refine Eq.trans (zv_next f89_79 rfl) ?_
  refine Eq.trans (zs_getr f89_80 g0 g1 g2) ?_
  refine Eq.trans (zs_getr f89_83 g3 g4 g5) ?_
  refine Eq.trans (zv_next f89_86 rfl) ?_
  refine Eq.trans (zs_geti f89_87 g6 g7) ?_
  refine Eq.trans (zs_iald f89_90 g8 g10 g9) ?_
  exact zs_if f89_91 rfl
theorem b89_94 {h : zi_Hp} {a0 : Nat} {a1 : Nat} (g0 : a1 < zh_n h) (g1 : (zh_k h a1).1 = 0) : zv 4 89 94 [.ref a0, .ref a1] [] h = (zv 1 6 0 [.ref a1, .int 1] [] h).bind fun r => zv 4 89 99 [.ref a0, .ref a1] (r.1.toList ++ []) r.2 := by
  refine Eq.trans (zv_next f89_94 rfl) ?_
  refine Eq.trans (zs_ic f89_95 ic_1) ?_
  exact zs_callV f89_96 (Nat.le_of_ble_eq_true rfl) (Nat.le_of_ble_eq_true rfl) rfl g0 g1 me_6 (by decide) rfl
theorem b89_99 {h : zi_Hp} {a0 : Nat} {a1 : Nat} {s0 : Int32}  : zv 4 89 99 [.ref a0, .ref a1] [.int s0] h = some (some (.int s0), h) := by
  exact zs_ret0 f89_99
theorem b89_100 {h : zi_Hp} {a0 : Nat} {a1 : Nat} (g0 : a0 < zh_n h) (g1 : (zh_k h a0).1 = 6) (g2 : zh_r h a0 0 = .ref (zq (zh_r h a0 0))) (g3 : (zq (zh_r h a0 0)) < zh_n h) (g4 : (zh_k h (zq (zh_r h a0 0))).1 = 4) (g5 : zh_r h (zq (zh_r h a0 0)) 7 = .ref (zq (zh_r h (zq (zh_r h a0 0)) 7))) (g6 : a1 < zh_n h) (g7 : (zh_k h a1).1 = 0) (g8 : (zq (zh_r h (zq (zh_r h a0 0)) 7)) < zh_n h) (g9 : ¬ ((zh_i h a1 3) < 0 ∨ (zh_k h (zq (zh_r h (zq (zh_r h a0 0)) 7))).2 ≤ (zh_i h a1 3).toNatClampNeg)) (g10 : (zh_k h (zq (zh_r h (zq (zh_r h a0 0)) 7))).1 = 101) : zv 4 89 100 [.ref a0, .ref a1] [] h = zv 4 89 115 [.ref a0, .ref a1] [.ref a1, .ref a1] (zh_wb h (zq (zh_r h (zq (zh_r h a0 0)) 7)) (zh_i h a1 3).toNatClampNeg true) := by
  refine Eq.trans (zv_next f89_100 rfl) ?_
  refine Eq.trans (zs_getr f89_101 g0 g1 g2) ?_
  refine Eq.trans (zs_getr f89_104 g3 g4 g5) ?_
  refine Eq.trans (zv_next f89_107 rfl) ?_
  refine Eq.trans (zs_geti f89_108 g6 g7) ?_
  refine Eq.trans (zs_ic f89_111 ic_1) ?_
  refine Eq.trans (zs_bast f89_112 g8 g10 g9 rfl) ?_
  refine Eq.trans (zv_next f89_113 rfl) ?_
  refine Eq.trans (zv_next f89_114 rfl) ?_
  rfl
theorem b89_115 {h : zi_Hp} {a0 : Nat} {a1 : Nat} {t0 : Nat} {t1 : Nat} (g0 : t1 < zh_n h) (g1 : (zh_k h t1).1 = 0) (g2 : t0 < zh_n h) (g3 : (zh_k h t0).1 = 0) (g4 : a1 < zh_n h) (g5 : (zh_k h a1).1 = 0) (g6 : a0 < zh_n h) (g7 : (zh_k h a0).1 = 6) (g8 : zh_r h a0 0 = .ref (zq (zh_r h a0 0))) : zv 4 89 115 [.ref a0, .ref a1] [.ref t1, .ref t0] h = zv 4 89 132 [.ref a0, .ref a1] [.ref a1, .ref (zq (zh_r h a0 0)), .ref a1] (zh_wb (zh_wi h t0 10 (zh_i h t1 3)) a1 11 true) := by
  refine Eq.trans (zs_geti f89_115 g0 g1) ?_
  refine Eq.trans (zs_put f89_118 g2 g3 rfl) ?_
  refine Eq.trans (zv_next f89_121 rfl) ?_
  refine Eq.trans (zs_ic f89_122 ic_1) ?_
  refine Eq.trans (zs_put f89_123 g4 g5 rfl) ?_
  refine Eq.trans (zv_next f89_126 rfl) ?_
  refine Eq.trans (zv_next f89_127 rfl) ?_
  refine Eq.trans (zs_getr f89_128 g6 g7 g8) ?_
  refine Eq.trans (zv_next f89_131 rfl) ?_
  rfl
theorem b89_132 {h : zi_Hp} {a0 : Nat} {a1 : Nat} {t0 : Nat} {t1 : Nat} {t2 : Nat} (g0 : t2 < zh_n h) (g1 : (zh_k h t2).1 = 0) (g2 : t1 < zh_n h) (g3 : (zh_k h t1).1 = 4) : zv 4 89 132 [.ref a0, .ref a1] [.ref t2, .ref t1, .ref t0] h = (zv 2 43 0 [.ref t1, .int (zh_i h t2 3)] [] h).bind fun r => zv 4 89 138 [.ref a0, .ref a1] (r.1.toList ++ [.ref t0]) r.2 := by
  refine Eq.trans (zs_geti f89_132 g0 g1) ?_
  exact zs_callV f89_135 (Nat.le_of_ble_eq_true rfl) (Nat.le_of_ble_eq_true rfl) rfl g2 g3 me_43 (by decide) rfl
theorem b89_138 {h : zi_Hp} {a0 : Nat} {a1 : Nat} {t0 : Nat} {s1 : Int32} (g0 : t0 < zh_n h) (g1 : (zh_k h t0).1 = 0) (g2 : a0 < zh_n h) (g3 : (zh_k h a0).1 = 6) : zv 4 89 138 [.ref a0, .ref a1] [.int s1, .ref t0] h = (zv 2 88 0 [.ref a0, .ref a1, .int 1, .int 1, .double 0] [] (zh_wi h t0 8 s1)).bind fun r => zv 4 89 148 [.ref a0, .ref a1] (r.1.toList ++ []) r.2 := by
  refine Eq.trans (zs_put f89_138 g0 g1 rfl) ?_
  refine Eq.trans (zv_next f89_141 rfl) ?_
  refine Eq.trans (zv_next f89_142 rfl) ?_
  refine Eq.trans (zs_ic f89_143 ic_1) ?_
  refine Eq.trans (zs_ic f89_144 ic_1) ?_
  exact zs_callV f89_145 (Nat.le_of_ble_eq_true rfl) (Nat.le_of_ble_eq_true rfl) rfl g2 g3 me_88 (by decide) rfl
theorem b89_148 {h : zi_Hp} {a0 : Nat} {a1 : Nat}  : zv 4 89 148 [.ref a0, .ref a1] [] h = some (some (.int 6), h) := by
  refine Eq.trans (zs_bp f89_148 bp_6) ?_
  exact zs_ret0 f89_150
set_option maxRecDepth 20000 in
theorem zq90 : zi_M[90]? = some zi_m90 := rfl
theorem zl90_0 {pc : Nat} (_ : 0 ≤ pc) : zi_fe 90 pc = zu90_0.lookup pc := zi_feA zq90 pc
theorem f90_0 : zi_fe 90 0 = some ((.aload_n 0), 1, 0, 0, 0, 0, 0) := (zl90_0 (Nat.le_of_ble_eq_true rfl)).trans rfl
theorem f90_1 : zi_fe 90 1 = some ((.getfield 12), 3, 6, 0, 3, 253, 0) := (zl90_0 (Nat.le_of_ble_eq_true rfl)).trans rfl
theorem f90_4 : zi_fe 90 4 = some ((.aload_n 0), 1, 0, 0, 0, 0, 0) := (zl90_0 (Nat.le_of_ble_eq_true rfl)).trans rfl
theorem f90_5 : zi_fe 90 5 = some ((.getfield 12), 3, 6, 0, 3, 253, 0) := (zl90_0 (Nat.le_of_ble_eq_true rfl)).trans rfl
theorem f90_8 : zi_fe 90 8 = some ((.getfield 66), 3, 4, 1, 0, 142, 0) := (zl90_0 (Nat.le_of_ble_eq_true rfl)).trans rfl
theorem f90_11 : zi_fe 90 11 = some ((.invokevirtual 156), 3, 42, 0, 4, 626, 2) := (zl90_0 (Nat.le_of_ble_eq_true rfl)).trans rfl
theorem f90_14 : zi_fe 90 14 = some ((.aload_n 1), 1, 0, 0, 0, 0, 0) := (zl90_0 (Nat.le_of_ble_eq_true rfl)).trans rfl
theorem f90_15 : zi_fe 90 15 = some ((.getfield 200), 3, 0, 9, 0, 220, 0) := (zl90_0 (Nat.le_of_ble_eq_true rfl)).trans rfl
theorem f90_18 : zi_fe 90 18 = some ((.if_icmp .ge 34), 3, 0, 0, 0, 0, 0) := (zl90_0 (Nat.le_of_ble_eq_true rfl)).trans rfl
theorem f90_21 : zi_fe 90 21 = some ((.aload_n 1), 1, 0, 0, 0, 0, 0) := (zl90_0 (Nat.le_of_ble_eq_true rfl)).trans rfl
theorem f90_22 : zi_fe 90 22 = some ((.getfield 102), 3, 0, 11, 1, 224, 0) := (zl90_0 (Nat.le_of_ble_eq_true rfl)).trans rfl
theorem f90_25 : zi_fe 90 25 = some ((.ifCond .ne 13), 3, 0, 0, 0, 0, 0) := (zl90_0 (Nat.le_of_ble_eq_true rfl)).trans rfl
theorem zl90_1 {pc : Nat} (h : 28 ≤ pc) : zi_fe 90 pc = zu90_1.lookup pc := (zl90_0 (Nat.le_trans (Nat.le_of_ble_eq_true rfl) h)).trans (zi_lkA (a := zi_i90_0) (c := 28) rfl h)
theorem f90_28 : zi_fe 90 28 = some ((.aload_n 0), 1, 0, 0, 0, 0, 0) := (zl90_1 (Nat.le_of_ble_eq_true rfl)).trans rfl
theorem f90_29 : zi_fe 90 29 = some ((.getfield 12), 3, 6, 0, 3, 253, 0) := (zl90_1 (Nat.le_of_ble_eq_true rfl)).trans rfl
theorem f90_32 : zi_fe 90 32 = some ((.invokevirtual 177), 3, 39, 0, 4, 691, 1) := (zl90_1 (Nat.le_of_ble_eq_true rfl)).trans rfl
theorem f90_35 : zi_fe 90 35 = some ((.ifCond .eq 11), 3, 0, 0, 0, 0, 0) := (zl90_1 (Nat.le_of_ble_eq_true rfl)).trans rfl
theorem f90_38 : zi_fe 90 38 = some ((.aload_n 1), 1, 0, 0, 0, 0, 0) := (zl90_1 (Nat.le_of_ble_eq_true rfl)).trans rfl
theorem f90_39 : zi_fe 90 39 = some ((.iconst 3), 1, 0, 0, 0, 0, 0) := (zl90_1 (Nat.le_of_ble_eq_true rfl)).trans rfl
theorem f90_40 : zi_fe 90 40 = some ((.invokevirtual 222), 3, 7, 0, 0, 731, 2) := (zl90_1 (Nat.le_of_ble_eq_true rfl)).trans rfl
theorem f90_43 : zi_fe 90 43 = some ((.goto 8), 3, 0, 0, 0, 0, 0) := (zl90_1 (Nat.le_of_ble_eq_true rfl)).trans rfl
theorem f90_46 : zi_fe 90 46 = some ((.aload_n 0), 1, 0, 0, 0, 0, 0) := (zl90_1 (Nat.le_of_ble_eq_true rfl)).trans rfl
theorem f90_47 : zi_fe 90 47 = some ((.aload_n 1), 1, 0, 0, 0, 0, 0) := (zl90_1 (Nat.le_of_ble_eq_true rfl)).trans rfl
theorem f90_48 : zi_fe 90 48 = some ((.invokevirtual 225), 3, 91, 0, 6, 735, 2) := (zl90_1 (Nat.le_of_ble_eq_true rfl)).trans rfl
theorem f90_51 : zi_fe 90 51 = some (.ireturn, 1, 0, 0, 0, 0, 0) := (zl90_1 (Nat.le_of_ble_eq_true rfl)).trans rfl
theorem zl90_2 {pc : Nat} (h : 52 ≤ pc) : zi_fe 90 pc = zu90_2.lookup pc := (zl90_1 (Nat.le_trans (Nat.le_of_ble_eq_true rfl) h)).trans (zi_lkA (a := zi_i90_1) (c := 52) rfl h)
theorem f90_52 : zi_fe 90 52 = some ((.aload_n 0), 1, 0, 0, 0, 0, 0) := (zl90_2 (Nat.le_of_ble_eq_true rfl)).trans rfl
theorem f90_53 : zi_fe 90 53 = some ((.getfield 12), 3, 6, 0, 3, 253, 0) := (zl90_2 (Nat.le_of_ble_eq_true rfl)).trans rfl
theorem f90_56 : zi_fe 90 56 = some ((.aload_n 1), 1, 0, 0, 0, 0, 0) := (zl90_2 (Nat.le_of_ble_eq_true rfl)).trans rfl
theorem f90_57 : zi_fe 90 57 = some ((.getfield 135), 3, 0, 3, 0, 207, 0) := (zl90_2 (Nat.le_of_ble_eq_true rfl)).trans rfl
theorem f90_60 : zi_fe 90 60 = some ((.invokevirtual 156), 3, 42, 0, 4, 626, 2) := (zl90_2 (Nat.le_of_ble_eq_true rfl)).trans rfl
theorem f90_63 : zi_fe 90 63 = some ((.istore_n 2), 1, 0, 0, 0, 0, 0) := (zl90_2 (Nat.le_of_ble_eq_true rfl)).trans rfl
theorem f90_64 : zi_fe 90 64 = some ((.iload_n 2), 1, 0, 0, 0, 0, 0) := (zl90_2 (Nat.le_of_ble_eq_true rfl)).trans rfl
theorem f90_65 : zi_fe 90 65 = some ((.aload_n 1), 1, 0, 0, 0, 0, 0) := (zl90_2 (Nat.le_of_ble_eq_true rfl)).trans rfl
theorem f90_66 : zi_fe 90 66 = some ((.getfield 200), 3, 0, 9, 0, 220, 0) := (zl90_2 (Nat.le_of_ble_eq_true rfl)).trans rfl
theorem f90_69 : zi_fe 90 69 = some ((.if_icmp .ge 17), 3, 0, 0, 0, 0, 0) := (zl90_2 (Nat.le_of_ble_eq_true rfl)).trans rfl
theorem f90_72 : zi_fe 90 72 = some ((.aload_n 1), 1, 0, 0, 0, 0, 0) := (zl90_2 (Nat.le_of_ble_eq_true rfl)).trans rfl
theorem f90_73 : zi_fe 90 73 = some ((.aload_n 0), 1, 0, 0, 0, 0, 0) := (zl90_2 (Nat.le_of_ble_eq_true rfl)).trans rfl
theorem zl90_3 {pc : Nat} (h : 74 ≤ pc) : zi_fe 90 pc = zu90_3.lookup pc := (zl90_2 (Nat.le_trans (Nat.le_of_ble_eq_true rfl) h)).trans (zi_lkA (a := zi_i90_2) (c := 74) rfl h)
theorem f90_74 : zi_fe 90 74 = some ((.getfield 12), 3, 6, 0, 3, 253, 0) := (zl90_3 (Nat.le_of_ble_eq_true rfl)).trans rfl
theorem f90_77 : zi_fe 90 77 = some ((.getfield 66), 3, 4, 1, 0, 142, 0) := (zl90_3 (Nat.le_of_ble_eq_true rfl)).trans rfl
theorem f90_80 : zi_fe 90 80 = some ((.putfield 135), 3, 0, 3, 0, 207, 0) := (zl90_3 (Nat.le_of_ble_eq_true rfl)).trans rfl
theorem f90_83 : zi_fe 90 83 = some ((.bipush 9), 2, 0, 0, 0, 0, 0) := (zl90_3 (Nat.le_of_ble_eq_true rfl)).trans rfl
theorem f90_85 : zi_fe 90 85 = some (.ireturn, 1, 0, 0, 0, 0, 0) := (zl90_3 (Nat.le_of_ble_eq_true rfl)).trans rfl
theorem f90_86 : zi_fe 90 86 = some ((.aload_n 1), 1, 0, 0, 0, 0, 0) := (zl90_3 (Nat.le_of_ble_eq_true rfl)).trans rfl
theorem f90_87 : zi_fe 90 87 = some ((.getfield 193), 3, 0, 8, 0, 218, 0) := (zl90_3 (Nat.le_of_ble_eq_true rfl)).trans rfl
theorem f90_90 : zi_fe 90 90 = some ((.aload_n 0), 1, 0, 0, 0, 0, 0) := (zl90_3 (Nat.le_of_ble_eq_true rfl)).trans rfl
theorem f90_91 : zi_fe 90 91 = some ((.getfield 12), 3, 6, 0, 3, 253, 0) := (zl90_3 (Nat.le_of_ble_eq_true rfl)).trans rfl
theorem f90_94 : zi_fe 90 94 = some ((.aload_n 1), 1, 0, 0, 0, 0, 0) := (zl90_3 (Nat.le_of_ble_eq_true rfl)).trans rfl
theorem f90_95 : zi_fe 90 95 = some ((.getfield 135), 3, 0, 3, 0, 207, 0) := (zl90_3 (Nat.le_of_ble_eq_true rfl)).trans rfl
theorem f90_98 : zi_fe 90 98 = some ((.invokevirtual 150), 3, 43, 0, 4, 622, 2) := (zl90_3 (Nat.le_of_ble_eq_true rfl)).trans rfl
theorem zl90_4 {pc : Nat} (h : 101 ≤ pc) : zi_fe 90 pc = zu90_4.lookup pc := (zl90_3 (Nat.le_trans (Nat.le_of_ble_eq_true rfl) h)).trans (zi_lkA (a := zi_i90_3) (c := 101) rfl h)
theorem f90_101 : zi_fe 90 101 = some ((.if_icmp .le 9), 3, 0, 0, 0, 0, 0) := (zl90_4 (Nat.le_of_ble_eq_true rfl)).trans rfl
theorem f90_104 : zi_fe 90 104 = some ((.aload_n 0), 1, 0, 0, 0, 0, 0) := (zl90_4 (Nat.le_of_ble_eq_true rfl)).trans rfl
theorem f90_105 : zi_fe 90 105 = some ((.aload_n 1), 1, 0, 0, 0, 0, 0) := (zl90_4 (Nat.le_of_ble_eq_true rfl)).trans rfl
theorem f90_106 : zi_fe 90 106 = some ((.invokevirtual 153), 3, 83, 0, 6, 646, 2) := (zl90_4 (Nat.le_of_ble_eq_true rfl)).trans rfl
theorem f90_109 : zi_fe 90 109 = some (.ireturn, 1, 0, 0, 0, 0, 0) := (zl90_4 (Nat.le_of_ble_eq_true rfl)).trans rfl
theorem f90_110 : zi_fe 90 110 = some ((.iload_n 2), 1, 0, 0, 0, 0, 0) := (zl90_4 (Nat.le_of_ble_eq_true rfl)).trans rfl
theorem f90_111 : zi_fe 90 111 = some ((.aload_n 1), 1, 0, 0, 0, 0, 0) := (zl90_4 (Nat.le_of_ble_eq_true rfl)).trans rfl
theorem f90_112 : zi_fe 90 112 = some ((.getfield 200), 3, 0, 9, 0, 220, 0) := (zl90_4 (Nat.le_of_ble_eq_true rfl)).trans rfl
theorem f90_115 : zi_fe 90 115 = some ((.if_icmp .le 13), 3, 0, 0, 0, 0, 0) := (zl90_4 (Nat.le_of_ble_eq_true rfl)).trans rfl
theorem f90_118 : zi_fe 90 118 = some ((.aload_n 0), 1, 0, 0, 0, 0, 0) := (zl90_4 (Nat.le_of_ble_eq_true rfl)).trans rfl
theorem f90_119 : zi_fe 90 119 = some ((.aload_n 1), 1, 0, 0, 0, 0, 0) := (zl90_4 (Nat.le_of_ble_eq_true rfl)).trans rfl
theorem f90_120 : zi_fe 90 120 = some ((.aload_n 1), 1, 0, 0, 0, 0, 0) := (zl90_4 (Nat.le_of_ble_eq_true rfl)).trans rfl
theorem zl90_5 {pc : Nat} (h : 121 ≤ pc) : zi_fe 90 pc = zu90_5.lookup pc := (zl90_4 (Nat.le_trans (Nat.le_of_ble_eq_true rfl) h)).trans (zi_lkA (a := zi_i90_4) (c := 121) rfl h)
theorem f90_121 : zi_fe 90 121 = some ((.getfield 193), 3, 0, 8, 0, 218, 0) := (zl90_5 (Nat.le_of_ble_eq_true rfl)).trans rfl
theorem f90_124 : zi_fe 90 124 = some ((.invokevirtual 163), 3, 84, 0, 6, 658, 3) := (zl90_5 (Nat.le_of_ble_eq_true rfl)).trans rfl
theorem f90_127 : zi_fe 90 127 = some (.ireturn, 1, 0, 0, 0, 0, 0) := (zl90_5 (Nat.le_of_ble_eq_true rfl)).trans rfl
theorem f90_128 : zi_fe 90 128 = some ((.aload_n 1), 1, 0, 0, 0, 0, 0) := (zl90_5 (Nat.le_of_ble_eq_true rfl)).trans rfl
theorem f90_129 : zi_fe 90 129 = some ((.iconst 4), 1, 0, 0, 0, 0, 0) := (zl90_5 (Nat.le_of_ble_eq_true rfl)).trans rfl
theorem f90_130 : zi_fe 90 130 = some ((.putfield 35), 3, 0, 0, 0, 200, 0) := (zl90_5 (Nat.le_of_ble_eq_true rfl)).trans rfl
theorem f90_133 : zi_fe 90 133 = some ((.iconst 4), 1, 0, 0, 0, 0, 0) := (zl90_5 (Nat.le_of_ble_eq_true rfl)).trans rfl
theorem f90_134 : zi_fe 90 134 = some (.ireturn, 1, 0, 0, 0, 0, 0) := (zl90_5 (Nat.le_of_ble_eq_true rfl)).trans rfl
theorem b90_0 {h : zi_Hp} {a0 : Nat} {a1 : Nat} {u2 : Value} (g0 : a0 < zh_n h) (g1 : (zh_k h a0).1 = 6) (g2 : zh_r h a0 0 = .ref (zq (zh_r h a0 0))) (g3 : (zq (zh_r h a0 0)) < zh_n h) (g4 : (zh_k h (zq (zh_r h a0 0))).1 = 4) : zv 4 90 0 [.ref a0, .ref a1, u2] [] h = (zv 2 42 0 [.ref (zq (zh_r h a0 0)), .int (zh_i h (zq (zh_r h a0 0)) 1)] [] h).bind fun r => zv 4 90 14 [.ref a0, .ref a1, u2] (r.1.toList ++ []) r.2 := by
  refine Eq.trans (zv_next f90_0 rfl) ?_
  refine Eq.trans (zs_getr f90_1 g0 g1 g2) ?_
  refine Eq.trans (zv_next f90_4 rfl) ?_
  refine Eq.trans (zs_getr f90_5 g0 g1 g2) ?_
  refine Eq.trans (zs_geti f90_8 g3 g4) ?_
  exact zs_callV f90_11 (Nat.le_of_ble_eq_true rfl) (Nat.le_of_ble_eq_true rfl) rfl g3 g4 me_42 (by decide) rfl
theorem b90_14 {h : zi_Hp} {a0 : Nat} {a1 : Nat} {u2 : Value} {s0 : Int32} (g0 : a1 < zh_n h) (g1 : (zh_k h a1).1 = 0) : zv 4 90 14 [.ref a0, .ref a1, u2] [.int s0] h = if s0 < (zh_i h a1 9) then zv 4 90 21 [.ref a0, .ref a1, u2] [] h else zv 4 90 52 [.ref a0, .ref a1, u2] [] h := by
  refine Eq.trans (zv_next f90_14 rfl) ?_
  refine Eq.trans (zs_geti f90_15 g0 g1) ?_
  exact zs_icmp f90_18 rfl
theorem b90_21 {h : zi_Hp} {a0 : Nat} {a1 : Nat} {u2 : Value} (g0 : a1 < zh_n h) (g1 : (zh_k h a1).1 = 0) : zv 4 90 21 [.ref a0, .ref a1, u2] [] h = if (zi_bI (zh_b h a1 11)) = 0 then zv 4 90 28 [.ref a0, .ref a1, u2] [] h else zv 4 90 38 [.ref a0, .ref a1, u2] [] h := by
  refine Eq.trans (zv_next f90_21 rfl) ?_
  refine Eq.trans (zs_getb f90_22 g0 g1) ?_
  exact zs_if f90_25 rfl
theorem b90_28 {h : zi_Hp} {a0 : Nat} {a1 : Nat} {u2 : Value} (g0 : a0 < zh_n h) (g1 : (zh_k h a0).1 = 6) (g2 : zh_r h a0 0 = .ref (zq (zh_r h a0 0))) (g3 : (zq (zh_r h a0 0)) < zh_n h) (g4 : (zh_k h (zq (zh_r h a0 0))).1 = 4) : zv 4 90 28 [.ref a0, .ref a1, u2] [] h = (zv 1 39 0 [.ref (zq (zh_r h a0 0))] [] h).bind fun r => zv 4 90 35 [.ref a0, .ref a1, u2] (r.1.toList ++ []) r.2 := by
  refine Eq.trans (zv_next f90_28 rfl) ?_
  refine Eq.trans (zs_getr f90_29 g0 g1 g2) ?_
  exact zs_callV f90_32 (Nat.le_of_ble_eq_true rfl) (Nat.le_of_ble_eq_true rfl) rfl g3 g4 me_39 (by decide) rfl
theorem b90_35 {h : zi_Hp} {a0 : Nat} {a1 : Nat} {u2 : Value} {s0 : Int32}  : zv 4 90 35 [.ref a0, .ref a1, u2] [.int s0] h = if s0 = 0 then zv 4 90 46 [.ref a0, .ref a1, u2] [] h else zv 4 90 38 [.ref a0, .ref a1, u2] [] h := by
  exact zs_if f90_35 rfl
theorem b90_38 {h : zi_Hp} {a0 : Nat} {a1 : Nat} {u2 : Value} (g0 : a1 < zh_n h) (g1 : (zh_k h a1).1 = 0) : zv 4 90 38 [.ref a0, .ref a1, u2] [] h = (zv 1 7 0 [.ref a1, .int 3] [] h).bind fun r => zv 4 90 43 [.ref a0, .ref a1, u2] (r.1.toList ++ []) r.2 := by
  refine Eq.trans (zv_next f90_38 rfl) ?_
  refine Eq.trans (zs_ic f90_39 ic_3) ?_
  exact zs_callV f90_40 (Nat.le_of_ble_eq_true rfl) (Nat.le_of_ble_eq_true rfl) rfl g0 g1 me_7 (by decide) rfl
theorem b90_43 {h : zi_Hp} {a0 : Nat} {a1 : Nat} {u2 : Value} {s0 : Int32}  : zv 4 90 43 [.ref a0, .ref a1, u2] [.int s0] h = zv 4 90 51 [.ref a0, .ref a1, u2] [.int s0] h := by
  refine Eq.trans (zs_goto (tgt := 51) f90_43 rfl) ?_
  rfl
theorem b90_46 {h : zi_Hp} {a0 : Nat} {a1 : Nat} {u2 : Value} (g0 : a0 < zh_n h) (g1 : (zh_k h a0).1 = 6) : zv 4 90 46 [.ref a0, .ref a1, u2] [] h = (zv 3 91 0 [.ref a0, .ref a1, .double 0] [] h).bind fun r => zv 4 90 51 [.ref a0, .ref a1, u2] (r.1.toList ++ []) r.2 := by
  refine Eq.trans (zv_next f90_46 rfl) ?_
  refine Eq.trans (zv_next f90_47 rfl) ?_
  exact zs_callV f90_48 (Nat.le_of_ble_eq_true rfl) (Nat.le_of_ble_eq_true rfl) rfl g0 g1 me_91 (by decide) rfl
theorem b90_51 {h : zi_Hp} {a0 : Nat} {a1 : Nat} {u2 : Value} {s0 : Int32}  : zv 4 90 51 [.ref a0, .ref a1, u2] [.int s0] h = some (some (.int s0), h) := by
  exact zs_ret0 f90_51
theorem b90_52 {h : zi_Hp} {a0 : Nat} {a1 : Nat} {u2 : Value} (g0 : a0 < zh_n h) (g1 : (zh_k h a0).1 = 6) (g2 : zh_r h a0 0 = .ref (zq (zh_r h a0 0))) (g3 : a1 < zh_n h) (g4 : (zh_k h a1).1 = 0) (g5 : (zq (zh_r h a0 0)) < zh_n h) (g6 : (zh_k h (zq (zh_r h a0 0))).1 = 4) : zv 4 90 52 [.ref a0, .ref a1, u2] [] h = (zv 2 42 0 [.ref (zq (zh_r h a0 0)), .int (zh_i h a1 3)] [] h).bind fun r => zv 4 90 63 [.ref a0, .ref a1, u2] (r.1.toList ++ []) r.2 := by
  refine Eq.trans (zv_next f90_52 rfl) ?_
  refine Eq.trans (zs_getr f90_53 g0 g1 g2) ?_
  refine Eq.trans (zv_next f90_56 rfl) ?_
  refine Eq.trans (zs_geti f90_57 g3 g4) ?_
  exact zs_callV f90_60 (Nat.le_of_ble_eq_true rfl) (Nat.le_of_ble_eq_true rfl) rfl g5 g6 me_42 (by decide) rfl
theorem b90_63 {h : zi_Hp} {a0 : Nat} {a1 : Nat} {u2 : Value} {s0 : Int32} (g0 : a1 < zh_n h) (g1 : (zh_k h a1).1 = 0) : zv 4 90 63 [.ref a0, .ref a1, u2] [.int s0] h = if s0 < (zh_i h a1 9) then zv 4 90 72 [.ref a0, .ref a1, .int s0] [] h else zv 4 90 86 [.ref a0, .ref a1, .int s0] [] h := by
  refine Eq.trans (zv_next f90_63 rfl) ?_
  refine Eq.trans (zv_next f90_64 rfl) ?_
  refine Eq.trans (zv_next f90_65 rfl) ?_
  refine Eq.trans (zs_geti f90_66 g0 g1) ?_
  exact zs_icmp f90_69 rfl
theorem b90_72 {h : zi_Hp} {a0 : Nat} {a1 : Nat} {x2 : Int32} (g0 : a0 < zh_n h) (g1 : (zh_k h a0).1 = 6) (g2 : zh_r h a0 0 = .ref (zq (zh_r h a0 0))) (g3 : (zq (zh_r h a0 0)) < zh_n h) (g4 : (zh_k h (zq (zh_r h a0 0))).1 = 4) (g5 : a1 < zh_n h) (g6 : (zh_k h a1).1 = 0) : zv 4 90 72 [.ref a0, .ref a1, .int x2] [] h = some (some (.int 9), zh_wi h a1 3 (zh_i h (zq (zh_r h a0 0)) 1)) := by
  refine Eq.trans (zv_next f90_72 rfl) ?_
  refine Eq.trans (zv_next f90_73 rfl) ?_
  refine Eq.trans (zs_getr f90_74 g0 g1 g2) ?_
  refine Eq.trans (zs_geti f90_77 g3 g4) ?_
  refine Eq.trans (zs_put f90_80 g5 g6 rfl) ?_
  refine Eq.trans (zs_bp f90_83 bp_9) ?_
  exact zs_ret0 f90_85
theorem b90_86 {h : zi_Hp} {a0 : Nat} {a1 : Nat} {x2 : Int32} (g0 : a1 < zh_n h) (g1 : (zh_k h a1).1 = 0) (g2 : a0 < zh_n h) (g3 : (zh_k h a0).1 = 6) (g4 : zh_r h a0 0 = .ref (zq (zh_r h a0 0))) (g5 : (zq (zh_r h a0 0)) < zh_n h) (g6 : (zh_k h (zq (zh_r h a0 0))).1 = 4) : zv 4 90 86 [.ref a0, .ref a1, .int x2] [] h = (zv 2 43 0 [.ref (zq (zh_r h a0 0)), .int (zh_i h a1 3)] [] h).bind fun r => zv 4 90 101 [.ref a0, .ref a1, .int x2] (r.1.toList ++ [.int (zh_i h a1 8)]) r.2 := by
  refine Eq.trans (zv_next f90_86 rfl) ?_
  refine Eq.trans (zs_geti f90_87 g0 g1) ?_
  refine Eq.trans (zv_next f90_90 rfl) ?_
  refine Eq.trans (zs_getr f90_91 g2 g3 g4) ?_
  refine Eq.trans (zv_next f90_94 rfl) ?_
  refine Eq.trans (zs_geti f90_95 g0 g1) ?_
  exact zs_callV f90_98 (Nat.le_of_ble_eq_true rfl) (Nat.le_of_ble_eq_true rfl) rfl g5 g6 me_43 (by decide) rfl
theorem b90_101 {h : zi_Hp} {a0 : Nat} {a1 : Nat} {x2 : Int32} {s0 : Int32} {s1 : Int32}  : zv 4 90 101 [.ref a0, .ref a1, .int x2] [.int s1, .int s0] h = if s1 < s0 then zv 4 90 104 [.ref a0, .ref a1, .int x2] [] h else zv 4 90 110 [.ref a0, .ref a1, .int x2] [] h := by
  exact zs_icmp f90_101 rfl
theorem b90_104 {h : zi_Hp} {a0 : Nat} {a1 : Nat} {x2 : Int32} (g0 : a0 < zh_n h) (g1 : (zh_k h a0).1 = 6) : zv 4 90 104 [.ref a0, .ref a1, .int x2] [] h = (zv 3 83 0 [.ref a0, .ref a1, .double 0] [] h).bind fun r => zv 4 90 109 [.ref a0, .ref a1, .int x2] (r.1.toList ++ []) r.2 := by
  refine Eq.trans (zv_next f90_104 rfl) ?_
  refine Eq.trans (zv_next f90_105 rfl) ?_
  exact zs_callV f90_106 (Nat.le_of_ble_eq_true rfl) (Nat.le_of_ble_eq_true rfl) rfl g0 g1 me_83 (by decide) rfl
theorem b90_109 {h : zi_Hp} {a0 : Nat} {a1 : Nat} {x2 : Int32} {s0 : Int32}  : zv 4 90 109 [.ref a0, .ref a1, .int x2] [.int s0] h = some (some (.int s0), h) := by
  exact zs_ret0 f90_109
theorem b90_110 {h : zi_Hp} {a0 : Nat} {a1 : Nat} {x2 : Int32} (g0 : a1 < zh_n h) (g1 : (zh_k h a1).1 = 0) : zv 4 90 110 [.ref a0, .ref a1, .int x2] [] h = if (zh_i h a1 9) < x2 then zv 4 90 118 [.ref a0, .ref a1, .int x2] [] h else zv 4 90 128 [.ref a0, .ref a1, .int x2] [] h := by
  refine Eq.trans (zv_next f90_110 rfl) ?_
  refine Eq.trans (zv_next f90_111 rfl) ?_
  refine Eq.trans (zs_geti f90_112 g0 g1) ?_
  exact zs_icmp f90_115 rfl
theorem b90_118 {h : zi_Hp} {a0 : Nat} {a1 : Nat} {x2 : Int32} (g0 : a1 < zh_n h) (g1 : (zh_k h a1).1 = 0) (g2 : a0 < zh_n h) (g3 : (zh_k h a0).1 = 6) : zv 4 90 118 [.ref a0, .ref a1, .int x2] [] h = (zv 3 84 0 [.ref a0, .ref a1, .int (zh_i h a1 8), .double 0] [] h).bind fun r => zv 4 90 127 [.ref a0, .ref a1, .int x2] (r.1.toList ++ []) r.2 := by
  refine Eq.trans (zv_next f90_118 rfl) ?_
  refine Eq.trans (zv_next f90_119 rfl) ?_
  refine Eq.trans (zv_next f90_120 rfl) ?_
  refine Eq.trans (zs_geti f90_121 g0 g1) ?_
  exact zs_callV f90_124 (Nat.le_of_ble_eq_true rfl) (Nat.le_of_ble_eq_true rfl) rfl g2 g3 me_84 (by decide) rfl
theorem b90_127 {h : zi_Hp} {a0 : Nat} {a1 : Nat} {x2 : Int32} {s0 : Int32}  : zv 4 90 127 [.ref a0, .ref a1, .int x2] [.int s0] h = some (some (.int s0), h) := by
  exact zs_ret0 f90_127
theorem b90_128 {h : zi_Hp} {a0 : Nat} {a1 : Nat} {x2 : Int32} (g0 : a1 < zh_n h) (g1 : (zh_k h a1).1 = 0) : zv 4 90 128 [.ref a0, .ref a1, .int x2] [] h = some (some (.int 4), zh_wi h a1 0 4) := by
  refine Eq.trans (zv_next f90_128 rfl) ?_
  refine Eq.trans (zs_ic f90_129 ic_4) ?_
  refine Eq.trans (zs_put f90_130 g0 g1 rfl) ?_
  refine Eq.trans (zs_ic f90_133 ic_4) ?_
  exact zs_ret0 f90_134
set_option maxRecDepth 20000 in
theorem zq91 : zi_M[91]? = some zi_m91 := rfl
theorem zl91_0 {pc : Nat} (_ : 0 ≤ pc) : zi_fe 91 pc = zu91_0.lookup pc := zi_feA zq91 pc
theorem f91_0 : zi_fe 91 0 = some ((.aload_n 0), 1, 0, 0, 0, 0, 0) := (zl91_0 (Nat.le_of_ble_eq_true rfl)).trans rfl
theorem f91_1 : zi_fe 91 1 = some ((.getfield 12), 3, 6, 0, 3, 253, 0) := (zl91_0 (Nat.le_of_ble_eq_true rfl)).trans rfl
theorem f91_4 : zi_fe 91 4 = some ((.aload_n 1), 1, 0, 0, 0, 0, 0) := (zl91_0 (Nat.le_of_ble_eq_true rfl)).trans rfl
theorem f91_5 : zi_fe 91 5 = some ((.getfield 200), 3, 0, 9, 0, 220, 0) := (zl91_0 (Nat.le_of_ble_eq_true rfl)).trans rfl
theorem f91_8 : zi_fe 91 8 = some ((.invokevirtual 228), 3, 40, 0, 4, 739, 2) := (zl91_0 (Nat.le_of_ble_eq_true rfl)).trans rfl
theorem f91_11 : zi_fe 91 11 = some ((.istore_n 2), 1, 0, 0, 0, 0, 0) := (zl91_0 (Nat.le_of_ble_eq_true rfl)).trans rfl
theorem f91_12 : zi_fe 91 12 = some ((.aload_n 0), 1, 0, 0, 0, 0, 0) := (zl91_0 (Nat.le_of_ble_eq_true rfl)).trans rfl
theorem f91_13 : zi_fe 91 13 = some ((.getfield 12), 3, 6, 0, 3, 253, 0) := (zl91_0 (Nat.le_of_ble_eq_true rfl)).trans rfl
theorem f91_16 : zi_fe 91 16 = some ((.iload_n 2), 1, 0, 0, 0, 0, 0) := (zl91_0 (Nat.le_of_ble_eq_true rfl)).trans rfl
theorem f91_17 : zi_fe 91 17 = some ((.iconst 0), 1, 0, 0, 0, 0, 0) := (zl91_0 (Nat.le_of_ble_eq_true rfl)).trans rfl
theorem f91_18 : zi_fe 91 18 = some ((.aload_n 1), 1, 0, 0, 0, 0, 0) := (zl91_0 (Nat.le_of_ble_eq_true rfl)).trans rfl
theorem f91_19 : zi_fe 91 19 = some ((.getfield 193), 3, 0, 8, 0, 218, 0) := (zl91_0 (Nat.le_of_ble_eq_true rfl)).trans rfl
theorem zl91_1 {pc : Nat} (h : 22 ≤ pc) : zi_fe 91 pc = zu91_1.lookup pc := (zl91_0 (Nat.le_trans (Nat.le_of_ble_eq_true rfl) h)).trans (zi_lkA (a := zi_i91_0) (c := 22) rfl h)
theorem f91_22 : zi_fe 91 22 = some ((.aload_n 0), 1, 0, 0, 0, 0, 0) := (zl91_1 (Nat.le_of_ble_eq_true rfl)).trans rfl
theorem f91_23 : zi_fe 91 23 = some ((.getfield 12), 3, 6, 0, 3, 253, 0) := (zl91_1 (Nat.le_of_ble_eq_true rfl)).trans rfl
theorem f91_26 : zi_fe 91 26 = some ((.getfield 66), 3, 4, 1, 0, 142, 0) := (zl91_1 (Nat.le_of_ble_eq_true rfl)).trans rfl
theorem f91_29 : zi_fe 91 29 = some ((.invokevirtual 180), 3, 51, 0, 4, 695, 5) := (zl91_1 (Nat.le_of_ble_eq_true rfl)).trans rfl
theorem f91_32 : zi_fe 91 32 = some ((.aload_n 0), 1, 0, 0, 0, 0, 0) := (zl91_1 (Nat.le_of_ble_eq_true rfl)).trans rfl
theorem f91_33 : zi_fe 91 33 = some ((.getfield 12), 3, 6, 0, 3, 253, 0) := (zl91_1 (Nat.le_of_ble_eq_true rfl)).trans rfl
theorem f91_36 : zi_fe 91 36 = some ((.iload_n 2), 1, 0, 0, 0, 0, 0) := (zl91_1 (Nat.le_of_ble_eq_true rfl)).trans rfl
theorem f91_37 : zi_fe 91 37 = some ((.iconst 1), 1, 0, 0, 0, 0, 0) := (zl91_1 (Nat.le_of_ble_eq_true rfl)).trans rfl
theorem f91_38 : zi_fe 91 38 = some ((.bipush 100), 2, 0, 0, 0, 0, 0) := (zl91_1 (Nat.le_of_ble_eq_true rfl)).trans rfl
theorem f91_40 : zi_fe 91 40 = some ((.aload_n 1), 1, 0, 0, 0, 0, 0) := (zl91_1 (Nat.le_of_ble_eq_true rfl)).trans rfl
theorem f91_41 : zi_fe 91 41 = some ((.getfield 190), 3, 0, 10, 0, 222, 0) := (zl91_1 (Nat.le_of_ble_eq_true rfl)).trans rfl
theorem f91_44 : zi_fe 91 44 = some ((.invokevirtual 180), 3, 51, 0, 4, 695, 5) := (zl91_1 (Nat.le_of_ble_eq_true rfl)).trans rfl
theorem zl91_2 {pc : Nat} (h : 47 ≤ pc) : zi_fe 91 pc = zu91_2.lookup pc := (zl91_1 (Nat.le_trans (Nat.le_of_ble_eq_true rfl) h)).trans (zi_lkA (a := zi_i91_1) (c := 47) rfl h)
theorem f91_47 : zi_fe 91 47 = some ((.aload_n 0), 1, 0, 0, 0, 0, 0) := (zl91_2 (Nat.le_of_ble_eq_true rfl)).trans rfl
theorem f91_48 : zi_fe 91 48 = some ((.getfield 12), 3, 6, 0, 3, 253, 0) := (zl91_2 (Nat.le_of_ble_eq_true rfl)).trans rfl
theorem f91_51 : zi_fe 91 51 = some ((.iload_n 2), 1, 0, 0, 0, 0, 0) := (zl91_2 (Nat.le_of_ble_eq_true rfl)).trans rfl
theorem f91_52 : zi_fe 91 52 = some ((.putfield 66), 3, 4, 1, 0, 142, 0) := (zl91_2 (Nat.le_of_ble_eq_true rfl)).trans rfl
theorem f91_55 : zi_fe 91 55 = some ((.aload_n 1), 1, 0, 0, 0, 0, 0) := (zl91_2 (Nat.le_of_ble_eq_true rfl)).trans rfl
theorem f91_56 : zi_fe 91 56 = some ((.bipush 7), 2, 0, 0, 0, 0, 0) := (zl91_2 (Nat.le_of_ble_eq_true rfl)).trans rfl
theorem f91_58 : zi_fe 91 58 = some ((.invokevirtual 222), 3, 7, 0, 0, 731, 2) := (zl91_2 (Nat.le_of_ble_eq_true rfl)).trans rfl
theorem f91_61 : zi_fe 91 61 = some (.ireturn, 1, 0, 0, 0, 0, 0) := (zl91_2 (Nat.le_of_ble_eq_true rfl)).trans rfl
theorem b91_0 {h : zi_Hp} {a0 : Nat} {a1 : Nat} {u2 : Value} (g0 : a0 < zh_n h) (g1 : (zh_k h a0).1 = 6) (g2 : zh_r h a0 0 = .ref (zq (zh_r h a0 0))) (g3 : a1 < zh_n h) (g4 : (zh_k h a1).1 = 0) (g5 : (zq (zh_r h a0 0)) < zh_n h) (g6 : (zh_k h (zq (zh_r h a0 0))).1 = 4) : zv 3 91 0 [.ref a0, .ref a1, u2] [] h = (zv 1 40 0 [.ref (zq (zh_r h a0 0)), .int (zh_i h a1 9), .double 0] [] h).bind fun r => zv 3 91 11 [.ref a0, .ref a1, u2] (r.1.toList ++ []) r.2 := by
  refine Eq.trans (zv_next f91_0 rfl) ?_
  refine Eq.trans (zs_getr f91_1 g0 g1 g2) ?_
  refine Eq.trans (zv_next f91_4 rfl) ?_
  refine Eq.trans (zs_geti f91_5 g3 g4) ?_
  exact zs_callV f91_8 (Nat.le_of_ble_eq_true rfl) (Nat.le_of_ble_eq_true rfl) rfl g5 g6 me_40 (by decide) rfl
theorem b91_11 {h : zi_Hp} {a0 : Nat} {a1 : Nat} {u2 : Value} {s0 : Int32} (g0 : a0 < zh_n h) (g1 : (zh_k h a0).1 = 6) (g2 : zh_r h a0 0 = .ref (zq (zh_r h a0 0))) (g3 : a1 < zh_n h) (g4 : (zh_k h a1).1 = 0) (g5 : (zq (zh_r h a0 0)) < zh_n h) (g6 : (zh_k h (zq (zh_r h a0 0))).1 = 4) : zv 3 91 11 [.ref a0, .ref a1, u2] [.int s0] h = (zv 2 51 0 [.ref (zq (zh_r h a0 0)), .int s0, .int 0, .int (zh_i h a1 8), .int (zh_i h (zq (zh_r h a0 0)) 1), .double 0, .double 0] [] h).bind fun r => zv 3 91 32 [.ref a0, .ref a1, .int s0] (r.1.toList ++ []) r.2 := by
  refine Eq.trans (zv_next f91_11 rfl) ?_
  refine Eq.trans (zv_next f91_12 rfl) ?_
  refine Eq.trans (zs_getr f91_13 g0 g1 g2) ?_
  refine Eq.trans (zv_next f91_16 rfl) ?_
  refine Eq.trans (zs_ic f91_17 ic_0) ?_
  refine Eq.trans (zv_next f91_18 rfl) ?_
  refine Eq.trans (zs_geti f91_19 g3 g4) ?_
  refine Eq.trans (zv_next f91_22 rfl) ?_
  refine Eq.trans (zs_getr f91_23 g0 g1 g2) ?_
  refine Eq.trans (zs_geti f91_26 g5 g6) ?_
  exact zs_callV f91_29 (Nat.le_of_ble_eq_true rfl) (Nat.le_of_ble_eq_true rfl) rfl g5 g6 me_51 (by decide) rfl
theorem b91_32 {h : zi_Hp} {a0 : Nat} {a1 : Nat} {x2 : Int32} (g0 : a0 < zh_n h) (g1 : (zh_k h a0).1 = 6) (g2 : zh_r h a0 0 = .ref (zq (zh_r h a0 0))) (g3 : a1 < zh_n h) (g4 : (zh_k h a1).1 = 0) (g5 : (zq (zh_r h a0 0)) < zh_n h) (g6 : (zh_k h (zq (zh_r h a0 0))).1 = 4) : zv 3 91 32 [.ref a0, .ref a1, .int x2] [] h = (zv 2 51 0 [.ref (zq (zh_r h a0 0)), .int x2, .int 1, .int 100, .int (zh_i h a1 10), .double 0, .double 0] [] h).bind fun r => zv 3 91 47 [.ref a0, .ref a1, .int x2] (r.1.toList ++ []) r.2 := by
  refine Eq.trans (zv_next f91_32 rfl) ?_
  refine Eq.trans (zs_getr f91_33 g0 g1 g2) ?_
  refine Eq.trans (zv_next f91_36 rfl) ?_
  refine Eq.trans (zs_ic f91_37 ic_1) ?_
  refine Eq.trans (zs_bp f91_38 bp_100) ?_
  refine Eq.trans (zv_next f91_40 rfl) ?_
  refine Eq.trans (zs_geti f91_41 g3 g4) ?_
  exact zs_callV f91_44 (Nat.le_of_ble_eq_true rfl) (Nat.le_of_ble_eq_true rfl) rfl g5 g6 me_51 (by decide) rfl
theorem b91_47 {h : zi_Hp} {a0 : Nat} {a1 : Nat} {x2 : Int32} (g0 : a0 < zh_n h) (g1 : (zh_k h a0).1 = 6) (g2 : zh_r h a0 0 = .ref (zq (zh_r h a0 0))) (g3 : (zq (zh_r h a0 0)) < zh_n h) (g4 : (zh_k h (zq (zh_r h a0 0))).1 = 4) (g5 : a1 < zh_n h) (g6 : (zh_k h a1).1 = 0) : zv 3 91 47 [.ref a0, .ref a1, .int x2] [] h = (zv 1 7 0 [.ref a1, .int 7] [] (zh_wi h (zq (zh_r h a0 0)) 1 x2)).bind fun r => zv 3 91 61 [.ref a0, .ref a1, .int x2] (r.1.toList ++ []) r.2 := by
  refine Eq.trans (zv_next f91_47 rfl) ?_
  refine Eq.trans (zs_getr f91_48 g0 g1 g2) ?_
  refine Eq.trans (zv_next f91_51 rfl) ?_
  refine Eq.trans (zs_put f91_52 g3 g4 rfl) ?_
  refine Eq.trans (zv_next f91_55 rfl) ?_
  refine Eq.trans (zs_bp f91_56 bp_7) ?_
  exact zs_callV f91_58 (Nat.le_of_ble_eq_true rfl) (Nat.le_of_ble_eq_true rfl) rfl g5 g6 me_7 (by decide) rfl
theorem b91_61 {h : zi_Hp} {a0 : Nat} {a1 : Nat} {x2 : Int32} {s0 : Int32}  : zv 3 91 61 [.ref a0, .ref a1, .int x2] [.int s0] h = some (some (.int s0), h) := by
  exact zs_ret0 f91_61
set_option maxRecDepth 20000 in
theorem zq92 : zi_M[92]? = some zi_m92 := rfl
theorem zl92_0 {pc : Nat} (_ : 0 ≤ pc) : zi_fe 92 pc = zu92_0.lookup pc := zi_feA zq92 pc
theorem f92_0 : zi_fe 92 0 = some ((.aload_n 0), 1, 0, 0, 0, 0, 0) := (zl92_0 (Nat.le_of_ble_eq_true rfl)).trans rfl
theorem f92_1 : zi_fe 92 1 = some ((.getfield 12), 3, 6, 0, 3, 253, 0) := (zl92_0 (Nat.le_of_ble_eq_true rfl)).trans rfl
theorem f92_4 : zi_fe 92 4 = some ((.aload_n 1), 1, 0, 0, 0, 0, 0) := (zl92_0 (Nat.le_of_ble_eq_true rfl)).trans rfl
theorem f92_5 : zi_fe 92 5 = some ((.getfield 135), 3, 0, 3, 0, 207, 0) := (zl92_0 (Nat.le_of_ble_eq_true rfl)).trans rfl
theorem f92_8 : zi_fe 92 8 = some ((.aload_n 1), 1, 0, 0, 0, 0, 0) := (zl92_0 (Nat.le_of_ble_eq_true rfl)).trans rfl
theorem f92_9 : zi_fe 92 9 = some ((.getfield 193), 3, 0, 8, 0, 218, 0) := (zl92_0 (Nat.le_of_ble_eq_true rfl)).trans rfl
theorem f92_12 : zi_fe 92 12 = some ((.invokevirtual 141), 3, 49, 0, 4, 662, 3) := (zl92_0 (Nat.le_of_ble_eq_true rfl)).trans rfl
theorem f92_15 : zi_fe 92 15 = some ((.istore_n 2), 1, 0, 0, 0, 0, 0) := (zl92_0 (Nat.le_of_ble_eq_true rfl)).trans rfl
theorem f92_16 : zi_fe 92 16 = some ((.aload_n 0), 1, 0, 0, 0, 0, 0) := (zl92_0 (Nat.le_of_ble_eq_true rfl)).trans rfl
theorem f92_17 : zi_fe 92 17 = some ((.getfield 12), 3, 6, 0, 3, 253, 0) := (zl92_0 (Nat.le_of_ble_eq_true rfl)).trans rfl
theorem f92_20 : zi_fe 92 20 = some ((.aload_n 1), 1, 0, 0, 0, 0, 0) := (zl92_0 (Nat.le_of_ble_eq_true rfl)).trans rfl
theorem f92_21 : zi_fe 92 21 = some ((.getfield 135), 3, 0, 3, 0, 207, 0) := (zl92_0 (Nat.le_of_ble_eq_true rfl)).trans rfl
theorem zl92_1 {pc : Nat} (h : 24 ≤ pc) : zi_fe 92 pc = zu92_1.lookup pc := (zl92_0 (Nat.le_trans (Nat.le_of_ble_eq_true rfl) h)).trans (zi_lkA (a := zi_i92_0) (c := 24) rfl h)
theorem f92_24 : zi_fe 92 24 = some ((.iload_n 2), 1, 0, 0, 0, 0, 0) := (zl92_1 (Nat.le_of_ble_eq_true rfl)).trans rfl
theorem f92_25 : zi_fe 92 25 = some ((.invokevirtual 231), 3, 47, 0, 4, 744, 3) := (zl92_1 (Nat.le_of_ble_eq_true rfl)).trans rfl
theorem f92_28 : zi_fe 92 28 = some ((.aload_n 1), 1, 0, 0, 0, 0, 0) := (zl92_1 (Nat.le_of_ble_eq_true rfl)).trans rfl
theorem f92_29 : zi_fe 92 29 = some ((.getfield 193), 3, 0, 8, 0, 218, 0) := (zl92_1 (Nat.le_of_ble_eq_true rfl)).trans rfl
theorem f92_32 : zi_fe 92 32 = some ((.if_icmp .ne 9), 3, 0, 0, 0, 0, 0) := (zl92_1 (Nat.le_of_ble_eq_true rfl)).trans rfl
theorem f92_35 : zi_fe 92 35 = some ((.aload_n 1), 1, 0, 0, 0, 0, 0) := (zl92_1 (Nat.le_of_ble_eq_true rfl)).trans rfl
theorem f92_36 : zi_fe 92 36 = some ((.iconst 3), 1, 0, 0, 0, 0, 0) := (zl92_1 (Nat.le_of_ble_eq_true rfl)).trans rfl
theorem f92_37 : zi_fe 92 37 = some ((.invokevirtual 222), 3, 7, 0, 0, 731, 2) := (zl92_1 (Nat.le_of_ble_eq_true rfl)).trans rfl
theorem f92_40 : zi_fe 92 40 = some (.ireturn, 1, 0, 0, 0, 0, 0) := (zl92_1 (Nat.le_of_ble_eq_true rfl)).trans rfl
theorem f92_41 : zi_fe 92 41 = some ((.aload_n 0), 1, 0, 0, 0, 0, 0) := (zl92_1 (Nat.le_of_ble_eq_true rfl)).trans rfl
theorem f92_42 : zi_fe 92 42 = some ((.getfield 12), 3, 6, 0, 3, 253, 0) := (zl92_1 (Nat.le_of_ble_eq_true rfl)).trans rfl
theorem f92_45 : zi_fe 92 45 = some ((.aload_n 1), 1, 0, 0, 0, 0, 0) := (zl92_1 (Nat.le_of_ble_eq_true rfl)).trans rfl
theorem zl92_2 {pc : Nat} (h : 46 ≤ pc) : zi_fe 92 pc = zu92_2.lookup pc := (zl92_1 (Nat.le_trans (Nat.le_of_ble_eq_true rfl) h)).trans (zi_lkA (a := zi_i92_1) (c := 46) rfl h)
theorem f92_46 : zi_fe 92 46 = some ((.getfield 135), 3, 0, 3, 0, 207, 0) := (zl92_2 (Nat.le_of_ble_eq_true rfl)).trans rfl
theorem f92_49 : zi_fe 92 49 = some ((.invokevirtual 174), 3, 46, 0, 4, 687, 2) := (zl92_2 (Nat.le_of_ble_eq_true rfl)).trans rfl
theorem f92_52 : zi_fe 92 52 = some ((.istore_n 3), 1, 0, 0, 0, 0, 0) := (zl92_2 (Nat.le_of_ble_eq_true rfl)).trans rfl
theorem f92_53 : zi_fe 92 53 = some ((.iload_n 3), 1, 0, 0, 0, 0, 0) := (zl92_2 (Nat.le_of_ble_eq_true rfl)).trans rfl
theorem f92_54 : zi_fe 92 54 = some ((.ifCond .ne 19), 3, 0, 0, 0, 0, 0) := (zl92_2 (Nat.le_of_ble_eq_true rfl)).trans rfl
theorem f92_57 : zi_fe 92 57 = some ((.aload_n 0), 1, 0, 0, 0, 0, 0) := (zl92_2 (Nat.le_of_ble_eq_true rfl)).trans rfl
theorem f92_58 : zi_fe 92 58 = some ((.getfield 12), 3, 6, 0, 3, 253, 0) := (zl92_2 (Nat.le_of_ble_eq_true rfl)).trans rfl
theorem f92_61 : zi_fe 92 61 = some ((.invokevirtual 177), 3, 39, 0, 4, 691, 1) := (zl92_2 (Nat.le_of_ble_eq_true rfl)).trans rfl
theorem f92_64 : zi_fe 92 64 = some ((.ifCond .eq 9), 3, 0, 0, 0, 0, 0) := (zl92_2 (Nat.le_of_ble_eq_true rfl)).trans rfl
theorem f92_67 : zi_fe 92 67 = some ((.aload_n 1), 1, 0, 0, 0, 0, 0) := (zl92_2 (Nat.le_of_ble_eq_true rfl)).trans rfl
theorem f92_68 : zi_fe 92 68 = some ((.iconst 3), 1, 0, 0, 0, 0, 0) := (zl92_2 (Nat.le_of_ble_eq_true rfl)).trans rfl
theorem f92_69 : zi_fe 92 69 = some ((.invokevirtual 222), 3, 7, 0, 0, 731, 2) := (zl92_2 (Nat.le_of_ble_eq_true rfl)).trans rfl
theorem zl92_3 {pc : Nat} (h : 72 ≤ pc) : zi_fe 92 pc = zu92_3.lookup pc := (zl92_2 (Nat.le_trans (Nat.le_of_ble_eq_true rfl) h)).trans (zi_lkA (a := zi_i92_2) (c := 72) rfl h)
theorem f92_72 : zi_fe 92 72 = some (.ireturn, 1, 0, 0, 0, 0, 0) := (zl92_3 (Nat.le_of_ble_eq_true rfl)).trans rfl
theorem f92_73 : zi_fe 92 73 = some ((.aload_n 0), 1, 0, 0, 0, 0, 0) := (zl92_3 (Nat.le_of_ble_eq_true rfl)).trans rfl
theorem f92_74 : zi_fe 92 74 = some ((.getfield 12), 3, 6, 0, 3, 253, 0) := (zl92_3 (Nat.le_of_ble_eq_true rfl)).trans rfl
theorem f92_77 : zi_fe 92 77 = some ((.aload_n 1), 1, 0, 0, 0, 0, 0) := (zl92_3 (Nat.le_of_ble_eq_true rfl)).trans rfl
theorem f92_78 : zi_fe 92 78 = some ((.getfield 135), 3, 0, 3, 0, 207, 0) := (zl92_3 (Nat.le_of_ble_eq_true rfl)).trans rfl
theorem f92_81 : zi_fe 92 81 = some ((.iload_n 2), 1, 0, 0, 0, 0, 0) := (zl92_3 (Nat.le_of_ble_eq_true rfl)).trans rfl
theorem f92_82 : zi_fe 92 82 = some ((.aload_n 1), 1, 0, 0, 0, 0, 0) := (zl92_3 (Nat.le_of_ble_eq_true rfl)).trans rfl
theorem f92_83 : zi_fe 92 83 = some ((.getfield 193), 3, 0, 8, 0, 218, 0) := (zl92_3 (Nat.le_of_ble_eq_true rfl)).trans rfl
theorem f92_86 : zi_fe 92 86 = some ((.aload_n 0), 1, 0, 0, 0, 0, 0) := (zl92_3 (Nat.le_of_ble_eq_true rfl)).trans rfl
theorem f92_87 : zi_fe 92 87 = some ((.getfield 12), 3, 6, 0, 3, 253, 0) := (zl92_3 (Nat.le_of_ble_eq_true rfl)).trans rfl
theorem f92_90 : zi_fe 92 90 = some ((.aload_n 1), 1, 0, 0, 0, 0, 0) := (zl92_3 (Nat.le_of_ble_eq_true rfl)).trans rfl
theorem f92_91 : zi_fe 92 91 = some ((.getfield 135), 3, 0, 3, 0, 207, 0) := (zl92_3 (Nat.le_of_ble_eq_true rfl)).trans rfl
theorem zl92_4 {pc : Nat} (h : 94 ≤ pc) : zi_fe 92 pc = zu92_4.lookup pc := (zl92_3 (Nat.le_trans (Nat.le_of_ble_eq_true rfl) h)).trans (zi_lkA (a := zi_i92_3) (c := 94) rfl h)
theorem f92_94 : zi_fe 92 94 = some ((.iload_n 2), 1, 0, 0, 0, 0, 0) := (zl92_4 (Nat.le_of_ble_eq_true rfl)).trans rfl
theorem f92_95 : zi_fe 92 95 = some ((.invokevirtual 144), 3, 48, 0, 4, 666, 3) := (zl92_4 (Nat.le_of_ble_eq_true rfl)).trans rfl
theorem f92_98 : zi_fe 92 98 = some ((.invokevirtual 180), 3, 51, 0, 4, 695, 5) := (zl92_4 (Nat.le_of_ble_eq_true rfl)).trans rfl
theorem f92_101 : zi_fe 92 101 = some ((.aload_n 0), 1, 0, 0, 0, 0, 0) := (zl92_4 (Nat.le_of_ble_eq_true rfl)).trans rfl
theorem f92_102 : zi_fe 92 102 = some ((.getfield 12), 3, 6, 0, 3, 253, 0) := (zl92_4 (Nat.le_of_ble_eq_true rfl)).trans rfl
theorem f92_105 : zi_fe 92 105 = some ((.aload_n 1), 1, 0, 0, 0, 0, 0) := (zl92_4 (Nat.le_of_ble_eq_true rfl)).trans rfl
theorem f92_106 : zi_fe 92 106 = some ((.getfield 135), 3, 0, 3, 0, 207, 0) := (zl92_4 (Nat.le_of_ble_eq_true rfl)).trans rfl
theorem f92_109 : zi_fe 92 109 = some ((.iload_n 2), 1, 0, 0, 0, 0, 0) := (zl92_4 (Nat.le_of_ble_eq_true rfl)).trans rfl
theorem f92_110 : zi_fe 92 110 = some ((.iconst 1), 1, 0, 0, 0, 0, 0) := (zl92_4 (Nat.le_of_ble_eq_true rfl)).trans rfl
theorem f92_111 : zi_fe 92 111 = some (.iadd, 1, 0, 0, 0, 0, 0) := (zl92_4 (Nat.le_of_ble_eq_true rfl)).trans rfl
theorem f92_112 : zi_fe 92 112 = some ((.aload_n 1), 1, 0, 0, 0, 0, 0) := (zl92_4 (Nat.le_of_ble_eq_true rfl)).trans rfl
theorem f92_113 : zi_fe 92 113 = some ((.getfield 190), 3, 0, 10, 0, 222, 0) := (zl92_4 (Nat.le_of_ble_eq_true rfl)).trans rfl
theorem zl92_5 {pc : Nat} (h : 116 ≤ pc) : zi_fe 92 pc = zu92_5.lookup pc := (zl92_4 (Nat.le_trans (Nat.le_of_ble_eq_true rfl) h)).trans (zi_lkA (a := zi_i92_4) (c := 116) rfl h)
theorem f92_116 : zi_fe 92 116 = some ((.invokevirtual 234), 3, 53, 0, 4, 749, 4) := (zl92_5 (Nat.le_of_ble_eq_true rfl)).trans rfl
theorem f92_119 : zi_fe 92 119 = some ((.iload_n 3), 1, 0, 0, 0, 0, 0) := (zl92_5 (Nat.le_of_ble_eq_true rfl)).trans rfl
theorem f92_120 : zi_fe 92 120 = some ((.ifCond .eq 12), 3, 0, 0, 0, 0, 0) := (zl92_5 (Nat.le_of_ble_eq_true rfl)).trans rfl
theorem f92_123 : zi_fe 92 123 = some ((.aload_n 1), 1, 0, 0, 0, 0, 0) := (zl92_5 (Nat.le_of_ble_eq_true rfl)).trans rfl
theorem f92_124 : zi_fe 92 124 = some ((.bipush 8), 2, 0, 0, 0, 0, 0) := (zl92_5 (Nat.le_of_ble_eq_true rfl)).trans rfl
theorem f92_126 : zi_fe 92 126 = some ((.invokevirtual 222), 3, 7, 0, 0, 731, 2) := (zl92_5 (Nat.le_of_ble_eq_true rfl)).trans rfl
theorem f92_129 : zi_fe 92 129 = some ((.goto 12), 3, 0, 0, 0, 0, 0) := (zl92_5 (Nat.le_of_ble_eq_true rfl)).trans rfl
theorem f92_132 : zi_fe 92 132 = some ((.aload_n 0), 1, 0, 0, 0, 0, 0) := (zl92_5 (Nat.le_of_ble_eq_true rfl)).trans rfl
theorem f92_133 : zi_fe 92 133 = some ((.aload_n 1), 1, 0, 0, 0, 0, 0) := (zl92_5 (Nat.le_of_ble_eq_true rfl)).trans rfl
theorem f92_134 : zi_fe 92 134 = some ((.aload_n 1), 1, 0, 0, 0, 0, 0) := (zl92_5 (Nat.le_of_ble_eq_true rfl)).trans rfl
theorem f92_135 : zi_fe 92 135 = some ((.getfield 79), 3, 0, 4, 0, 209, 0) := (zl92_5 (Nat.le_of_ble_eq_true rfl)).trans rfl
theorem f92_138 : zi_fe 92 138 = some ((.invokevirtual 184), 3, 87, 0, 6, 699, 3) := (zl92_5 (Nat.le_of_ble_eq_true rfl)).trans rfl
theorem zl92_6 {pc : Nat} (h : 141 ≤ pc) : zi_fe 92 pc = zu92_6.lookup pc := (zl92_5 (Nat.le_trans (Nat.le_of_ble_eq_true rfl) h)).trans (zi_lkA (a := zi_i92_5) (c := 141) rfl h)
theorem f92_141 : zi_fe 92 141 = some (.ireturn, 1, 0, 0, 0, 0, 0) := (zl92_6 (Nat.le_of_ble_eq_true rfl)).trans rfl
theorem b92_0 {h : zi_Hp} {a0 : Nat} {a1 : Nat} {u2 : Value} {u3 : Value} (g0 : a0 < zh_n h) (g1 : (zh_k h a0).1 = 6) (g2 : zh_r h a0 0 = .ref (zq (zh_r h a0 0))) (g3 : a1 < zh_n h) (g4 : (zh_k h a1).1 = 0) (g5 : (zq (zh_r h a0 0)) < zh_n h) (g6 : (zh_k h (zq (zh_r h a0 0))).1 = 4) : zv 4 92 0 [.ref a0, .ref a1, u2, u3] [] h = (zv 2 49 0 [.ref (zq (zh_r h a0 0)), .int (zh_i h a1 3), .int (zh_i h a1 8), .double 0] [] h).bind fun r => zv 4 92 15 [.ref a0, .ref a1, u2, u3] (r.1.toList ++ []) r.2 := by
  refine Eq.trans (zv_next f92_0 rfl) ?_
  refine Eq.trans (zs_getr f92_1 g0 g1 g2) ?_
  refine Eq.trans (zv_next f92_4 rfl) ?_
  refine Eq.trans (zs_geti f92_5 g3 g4) ?_
  refine Eq.trans (zv_next f92_8 rfl) ?_
  refine Eq.trans (zs_geti f92_9 g3 g4) ?_
  exact zs_callV f92_12 (Nat.le_of_ble_eq_true rfl) (Nat.le_of_ble_eq_true rfl) rfl g5 g6 me_49 (by decide) rfl
theorem b92_15 {h : zi_Hp} {a0 : Nat} {a1 : Nat} {u2 : Value} {u3 : Value} {s0 : Int32} (g0 : a0 < zh_n h) (g1 : (zh_k h a0).1 = 6) (g2 : zh_r h a0 0 = .ref (zq (zh_r h a0 0))) (g3 : a1 < zh_n h) (g4 : (zh_k h a1).1 = 0) (g5 : (zq (zh_r h a0 0)) < zh_n h) (g6 : (zh_k h (zq (zh_r h a0 0))).1 = 4) : zv 4 92 15 [.ref a0, .ref a1, u2, u3] [.int s0] h = (zv 2 47 0 [.ref (zq (zh_r h a0 0)), .int (zh_i h a1 3), .int s0] [] h).bind fun r => zv 4 92 28 [.ref a0, .ref a1, .int s0, u3] (r.1.toList ++ []) r.2 := by
  refine Eq.trans (zv_next f92_15 rfl) ?_
  refine Eq.trans (zv_next f92_16 rfl) ?_
  refine Eq.trans (zs_getr f92_17 g0 g1 g2) ?_
  refine Eq.trans (zv_next f92_20 rfl) ?_
  refine Eq.trans (zs_geti f92_21 g3 g4) ?_
  refine Eq.trans (zv_next f92_24 rfl) ?_
  exact zs_callV f92_25 (Nat.le_of_ble_eq_true rfl) (Nat.le_of_ble_eq_true rfl) rfl g5 g6 me_47 (by decide) rfl
theorem b92_28 {h : zi_Hp} {a0 : Nat} {a1 : Nat} {x2 : Int32} {u3 : Value} {s0 : Int32} (g0 : a1 < zh_n h) (g1 : (zh_k h a1).1 = 0) : zv 4 92 28 [.ref a0, .ref a1, .int x2, u3] [.int s0] h = if s0 = (zh_i h a1 8) then zv 4 92 35 [.ref a0, .ref a1, .int x2, u3] [] h else zv 4 92 41 [.ref a0, .ref a1, .int x2, u3] [] h := by
  refine Eq.trans (zv_next f92_28 rfl) ?_
  refine Eq.trans (zs_geti f92_29 g0 g1) ?_
  exact zs_icmp f92_32 rfl
theorem b92_35 {h : zi_Hp} {a0 : Nat} {a1 : Nat} {x2 : Int32} {u3 : Value} (g0 : a1 < zh_n h) (g1 : (zh_k h a1).1 = 0) : zv 4 92 35 [.ref a0, .ref a1, .int x2, u3] [] h = (zv 1 7 0 [.ref a1, .int 3] [] h).bind fun r => zv 4 92 40 [.ref a0, .ref a1, .int x2, u3] (r.1.toList ++ []) r.2 := by
  refine Eq.trans (zv_next f92_35 rfl) ?_
  refine Eq.trans (zs_ic f92_36 ic_3) ?_
  exact zs_callV f92_37 (Nat.le_of_ble_eq_true rfl) (Nat.le_of_ble_eq_true rfl) rfl g0 g1 me_7 (by decide) rfl
theorem b92_40 {h : zi_Hp} {a0 : Nat} {a1 : Nat} {x2 : Int32} {u3 : Value} {s0 : Int32}  : zv 4 92 40 [.ref a0, .ref a1, .int x2, u3] [.int s0] h = some (some (.int s0), h) := by
  exact zs_ret0 f92_40
theorem b92_41 {h : zi_Hp} {a0 : Nat} {a1 : Nat} {x2 : Int32} {u3 : Value} (g0 : a0 < zh_n h) (g1 : (zh_k h a0).1 = 6) (g2 : zh_r h a0 0 = .ref (zq (zh_r h a0 0))) (g3 : a1 < zh_n h) (g4 : (zh_k h a1).1 = 0) (g5 : (zq (zh_r h a0 0)) < zh_n h) (g6 : (zh_k h (zq (zh_r h a0 0))).1 = 4) : zv 4 92 41 [.ref a0, .ref a1, .int x2, u3] [] h = (zv 2 46 0 [.ref (zq (zh_r h a0 0)), .int (zh_i h a1 3)] [] h).bind fun r => zv 4 92 52 [.ref a0, .ref a1, .int x2, u3] (r.1.toList ++ []) r.2 := by
  refine Eq.trans (zv_next f92_41 rfl) ?_
  refine Eq.trans (zs_getr f92_42 g0 g1 g2) ?_
  refine Eq.trans (zv_next f92_45 rfl) ?_
  refine Eq.trans (zs_geti f92_46 g3 g4) ?_
  exact zs_callV f92_49 (Nat.le_of_ble_eq_true rfl) (Nat.le_of_ble_eq_true rfl) rfl g5 g6 me_46 (by decide) rfl
theorem b92_52 {h : zi_Hp} {a0 : Nat} {a1 : Nat} {x2 : Int32} {u3 : Value} {s0 : Int32}  : zv 4 92 52 [.ref a0, .ref a1, .int x2, u3] [.int s0] h = if s0 = 0 then zv 4 92 57 [.ref a0, .ref a1, .int x2, .int s0] [] h else zv 4 92 73 [.ref a0, .ref a1, .int x2, .int s0] [] h := by
  refine Eq.trans (zv_next f92_52 rfl) ?_
  refine Eq.trans (zv_next f92_53 rfl) ?_
  exact zs_if f92_54 rfl
theorem b92_57 {h : zi_Hp} {a0 : Nat} {a1 : Nat} {x2 : Int32} {x3 : Int32} (g0 : a0 < zh_n h) (g1 : (zh_k h a0).1 = 6) (g2 : zh_r h a0 0 = .ref (zq (zh_r h a0 0))) (g3 : (zq (zh_r h a0 0)) < zh_n h) (g4 : (zh_k h (zq (zh_r h a0 0))).1 = 4) : zv 4 92 57 [.ref a0, .ref a1, .int x2, .int x3] [] h = (zv 1 39 0 [.ref (zq (zh_r h a0 0))] [] h).bind fun r => zv 4 92 64 [.ref a0, .ref a1, .int x2, .int x3] (r.1.toList ++ []) r.2 := by
  refine Eq.trans (zv_next f92_57 rfl) ?_
  refine Eq.trans (zs_getr f92_58 g0 g1 g2) ?_
  exact zs_callV f92_61 (Nat.le_of_ble_eq_true rfl) (Nat.le_of_ble_eq_true rfl) rfl g3 g4 me_39 (by decide) rfl
theorem b92_64 {h : zi_Hp} {a0 : Nat} {a1 : Nat} {x2 : Int32} {x3 : Int32} {s0 : Int32}  : zv 4 92 64 [.ref a0, .ref a1, .int x2, .int x3] [.int s0] h = if s0 = 0 then zv 4 92 73 [.ref a0, .ref a1, .int x2, .int x3] [] h else zv 4 92 67 [.ref a0, .ref a1, .int x2, .int x3] [] h := by
  exact zs_if f92_64 rfl
theorem b92_67 {h : zi_Hp} {a0 : Nat} {a1 : Nat} {x2 : Int32} {x3 : Int32} (g0 : a1 < zh_n h) (g1 : (zh_k h a1).1 = 0) : zv 4 92 67 [.ref a0, .ref a1, .int x2, .int x3] [] h = (zv 1 7 0 [.ref a1, .int 3] [] h).bind fun r => zv 4 92 72 [.ref a0, .ref a1, .int x2, .int x3] (r.1.toList ++ []) r.2 := by
  refine Eq.trans (zv_next f92_67 rfl) ?_
  refine Eq.trans (zs_ic f92_68 ic_3) ?_
  exact zs_callV f92_69 (Nat.le_of_ble_eq_true rfl) (Nat.le_of_ble_eq_true rfl) rfl g0 g1 me_7 (by decide) rfl
theorem b92_72 {h : zi_Hp} {a0 : Nat} {a1 : Nat} {x2 : Int32} {x3 : Int32} {s0 : Int32}  : zv 4 92 72 [.ref a0, .ref a1, .int x2, .int x3] [.int s0] h = some (some (.int s0), h) := by
  exact zs_ret0 f92_72
theorem b92_73 {h : zi_Hp} {a0 : Nat} {a1 : Nat} {x2 : Int32} {x3 : Int32} (g0 : a0 < zh_n h) (g1 : (zh_k h a0).1 = 6) (g2 : zh_r h a0 0 = .ref (zq (zh_r h a0 0))) (g3 : a1 < zh_n h) (g4 : (zh_k h a1).1 = 0) (g5 : (zq (zh_r h a0 0)) < zh_n h) (g6 : (zh_k h (zq (zh_r h a0 0))).1 = 4) : zv 4 92 73 [.ref a0, .ref a1, .int x2, .int x3] [] h = (zv 2 48 0 [.ref (zq (zh_r h a0 0)), .int (zh_i h a1 3), .int x2] [] h).bind fun r => zv 4 92 98 [.ref a0, .ref a1, .int x2, .int x3] (r.1.toList ++ [.int (zh_i h a1 8), .int x2, .int (zh_i h a1 3), .ref (zq (zh_r h a0 0))]) r.2 := by
  refine Eq.trans (zv_next f92_73 rfl) ?_
  refine Eq.trans (zs_getr f92_74 g0 g1 g2) ?_
  refine Eq.trans (zv_next f92_77 rfl) ?_
  refine Eq.trans (zs_geti f92_78 g3 g4) ?_
  refine Eq.trans (zv_next f92_81 rfl) ?_
  refine Eq.trans (zv_next f92_82 rfl) ?_
  refine Eq.trans (zs_geti f92_83 g3 g4) ?_
  refine Eq.trans (zv_next f92_86 rfl) ?_
  refine Eq.trans (zs_getr f92_87 g0 g1 g2) ?_
  refine Eq.trans (zv_next f92_90 rfl) ?_
  refine Eq.trans (zs_geti f92_91 g3 g4) ?_
  refine Eq.trans (zv_next f92_94 rfl) ?_
  exact zs_callV f92_95 (Nat.le_of_ble_eq_true rfl) (Nat.le_of_ble_eq_true rfl) rfl g5 g6 me_48 (by decide) rfl
theorem b92_98 {h : zi_Hp} {a0 : Nat} {a1 : Nat} {x2 : Int32} {x3 : Int32} {t0 : Nat} {s1 : Int32} {s2 : Int32} {s3 : Int32} {s4 : Int32} (g0 : t0 < zh_n h) (g1 : (zh_k h t0).1 = 4) : zv 4 92 98 [.ref a0, .ref a1, .int x2, .int x3] [.int s4, .int s3, .int s2, .int s1, .ref t0] h = (zv 2 51 0 [.ref t0, .int s1, .int s2, .int s3, .int s4, .double 0, .double 0] [] h).bind fun r => zv 4 92 101 [.ref a0, .ref a1, .int x2, .int x3] (r.1.toList ++ []) r.2 := by
  exact zs_callV f92_98 (Nat.le_of_ble_eq_true rfl) (Nat.le_of_ble_eq_true rfl) rfl g0 g1 me_51 (by decide) rfl
theorem b92_101 {h : zi_Hp} {a0 : Nat} {a1 : Nat} {x2 : Int32} {x3 : Int32} (g0 : a0 < zh_n h) (g1 : (zh_k h a0).1 = 6) (g2 : zh_r h a0 0 = .ref (zq (zh_r h a0 0))) (g3 : a1 < zh_n h) (g4 : (zh_k h a1).1 = 0) (g5 : (zq (zh_r h a0 0)) < zh_n h) (g6 : (zh_k h (zq (zh_r h a0 0))).1 = 4) : zv 4 92 101 [.ref a0, .ref a1, .int x2, .int x3] [] h = (zv 2 53 0 [.ref (zq (zh_r h a0 0)), .int (zh_i h a1 3), .int (x2 + 1), .int (zh_i h a1 10)] [] h).bind fun r => zv 4 92 119 [.ref a0, .ref a1, .int x2, .int x3] (r.1.toList ++ []) r.2 := by
  refine Eq.trans (zv_next f92_101 rfl) ?_
  refine Eq.trans (zs_getr f92_102 g0 g1 g2) ?_
  refine Eq.trans (zv_next f92_105 rfl) ?_
  refine Eq.trans (zs_geti f92_106 g3 g4) ?_
  refine Eq.trans (zv_next f92_109 rfl) ?_
  refine Eq.trans (zs_ic f92_110 ic_1) ?_
  refine Eq.trans (zv_next f92_111 rfl) ?_
  refine Eq.trans (zv_next f92_112 rfl) ?_
  refine Eq.trans (zs_geti f92_113 g3 g4) ?_
  exact zs_callV f92_116 (Nat.le_of_ble_eq_true rfl) (Nat.le_of_ble_eq_true rfl) rfl g5 g6 me_53 (by decide) rfl
theorem b92_119 {h : zi_Hp} {a0 : Nat} {a1 : Nat} {x2 : Int32} {x3 : Int32}  : zv 4 92 119 [.ref a0, .ref a1, .int x2, .int x3] [] h = if x3 = 0 then zv 4 92 132 [.ref a0, .ref a1, .int x2, .int x3] [] h else zv 4 92 123 [.ref a0, .ref a1, .int x2, .int x3] [] h := by
  refine Eq.trans (zv_next f92_119 rfl) ?_
  exact zs_if f92_120 rfl
theorem b92_123 {h : zi_Hp} {a0 : Nat} {a1 : Nat} {x2 : Int32} {x3 : Int32} (g0 : a1 < zh_n h) (g1 : (zh_k h a1).1 = 0) : zv 4 92 123 [.ref a0, .ref a1, .int x2, .int x3] [] h = (zv 1 7 0 [.ref a1, .int 8] [] h).bind fun r => zv 4 92 129 [.ref a0, .ref a1, .int x2, .int x3] (r.1.toList ++ []) r.2 := by
  refine Eq.trans (zv_next f92_123 rfl) ?_
  refine Eq.trans (zs_bp f92_124 bp_8) ?_
  exact zs_callV f92_126 (Nat.le_of_ble_eq_true rfl) (Nat.le_of_ble_eq_true rfl) rfl g0 g1 me_7 (by decide) rfl
theorem b92_129 {h : zi_Hp} {a0 : Nat} {a1 : Nat} {x2 : Int32} {x3 : Int32} {s0 : Int32}  : zv 4 92 129 [.ref a0, .ref a1, .int x2, .int x3] [.int s0] h = zv 4 92 141 [.ref a0, .ref a1, .int x2, .int x3] [.int s0] h := by
  refine Eq.trans (zs_goto (tgt := 141) f92_129 rfl) ?_
  rfl
theorem b92_132 {h : zi_Hp} {a0 : Nat} {a1 : Nat} {x2 : Int32} {x3 : Int32} (g0 : a1 < zh_n h) (g1 : (zh_k h a1).1 = 0) (g2 : a0 < zh_n h) (g3 : (zh_k h a0).1 = 6) : zv 4 92 132 [.ref a0, .ref a1, .int x2, .int x3] [] h = (zv 3 87 0 [.ref a0, .ref a1, .int (zh_i h a1 4)] [] h).bind fun r => zv 4 92 141 [.ref a0, .ref a1, .int x2, .int x3] (r.1.toList ++ []) r.2 := by
  refine Eq.trans (zv_next f92_132 rfl) ?_
  refine Eq.trans (zv_next f92_133 rfl) ?_
  refine Eq.trans (zv_next f92_134 rfl) ?_
  refine Eq.trans (zs_geti f92_135 g0 g1) ?_
  exact zs_callV f92_138 (Nat.le_of_ble_eq_true rfl) (Nat.le_of_ble_eq_true rfl) rfl g2 g3 me_87 (by decide) rfl
theorem b92_141 {h : zi_Hp} {a0 : Nat} {a1 : Nat} {x2 : Int32} {x3 : Int32} {s0 : Int32}  : zv 4 92 141 [.ref a0, .ref a1, .int x2, .int x3] [.int s0] h = some (some (.int s0), h) := by
  exact zs_ret0 f92_141
set_option maxRecDepth 20000 in
theorem zq93 : zi_M[93]? = some zi_m93 := rfl
theorem zl93_0 {pc : Nat} (_ : 0 ≤ pc) : zi_fe 93 pc = zu93_0.lookup pc := zi_feA zq93 pc
theorem f93_0 : zi_fe 93 0 = some ((.aload_n 0), 1, 0, 0, 0, 0, 0) := (zl93_0 (Nat.le_of_ble_eq_true rfl)).trans rfl
theorem f93_1 : zi_fe 93 1 = some ((.getfield 12), 3, 6, 0, 3, 253, 0) := (zl93_0 (Nat.le_of_ble_eq_true rfl)).trans rfl
theorem f93_4 : zi_fe 93 4 = some ((.aload_n 1), 1, 0, 0, 0, 0, 0) := (zl93_0 (Nat.le_of_ble_eq_true rfl)).trans rfl
theorem f93_5 : zi_fe 93 5 = some ((.getfield 135), 3, 0, 3, 0, 207, 0) := (zl93_0 (Nat.le_of_ble_eq_true rfl)).trans rfl
theorem f93_8 : zi_fe 93 8 = some ((.aload_n 1), 1, 0, 0, 0, 0, 0) := (zl93_0 (Nat.le_of_ble_eq_true rfl)).trans rfl
theorem f93_9 : zi_fe 93 9 = some ((.getfield 193), 3, 0, 8, 0, 218, 0) := (zl93_0 (Nat.le_of_ble_eq_true rfl)).trans rfl
theorem f93_12 : zi_fe 93 12 = some ((.invokevirtual 141), 3, 49, 0, 4, 662, 3) := (zl93_0 (Nat.le_of_ble_eq_true rfl)).trans rfl
theorem f93_15 : zi_fe 93 15 = some ((.istore_n 2), 1, 0, 0, 0, 0, 0) := (zl93_0 (Nat.le_of_ble_eq_true rfl)).trans rfl
theorem f93_16 : zi_fe 93 16 = some ((.aload_n 0), 1, 0, 0, 0, 0, 0) := (zl93_0 (Nat.le_of_ble_eq_true rfl)).trans rfl
theorem f93_17 : zi_fe 93 17 = some ((.getfield 12), 3, 6, 0, 3, 253, 0) := (zl93_0 (Nat.le_of_ble_eq_true rfl)).trans rfl
theorem f93_20 : zi_fe 93 20 = some ((.aload_n 1), 1, 0, 0, 0, 0, 0) := (zl93_0 (Nat.le_of_ble_eq_true rfl)).trans rfl
theorem f93_21 : zi_fe 93 21 = some ((.getfield 135), 3, 0, 3, 0, 207, 0) := (zl93_0 (Nat.le_of_ble_eq_true rfl)).trans rfl
theorem zl93_1 {pc : Nat} (h : 24 ≤ pc) : zi_fe 93 pc = zu93_1.lookup pc := (zl93_0 (Nat.le_trans (Nat.le_of_ble_eq_true rfl) h)).trans (zi_lkA (a := zi_i93_0) (c := 24) rfl h)
theorem f93_24 : zi_fe 93 24 = some ((.iload_n 2), 1, 0, 0, 0, 0, 0) := (zl93_1 (Nat.le_of_ble_eq_true rfl)).trans rfl
theorem f93_25 : zi_fe 93 25 = some ((.invokevirtual 231), 3, 47, 0, 4, 744, 3) := (zl93_1 (Nat.le_of_ble_eq_true rfl)).trans rfl
theorem f93_28 : zi_fe 93 28 = some ((.aload_n 1), 1, 0, 0, 0, 0, 0) := (zl93_1 (Nat.le_of_ble_eq_true rfl)).trans rfl
theorem f93_29 : zi_fe 93 29 = some ((.getfield 193), 3, 0, 8, 0, 218, 0) := (zl93_1 (Nat.le_of_ble_eq_true rfl)).trans rfl
theorem f93_32 : zi_fe 93 32 = some ((.if_icmp .ne 26), 3, 0, 0, 0, 0, 0) := (zl93_1 (Nat.le_of_ble_eq_true rfl)).trans rfl
theorem f93_35 : zi_fe 93 35 = some ((.aload_n 0), 1, 0, 0, 0, 0, 0) := (zl93_1 (Nat.le_of_ble_eq_true rfl)).trans rfl
theorem f93_36 : zi_fe 93 36 = some ((.getfield 12), 3, 6, 0, 3, 253, 0) := (zl93_1 (Nat.le_of_ble_eq_true rfl)).trans rfl
theorem f93_39 : zi_fe 93 39 = some ((.aload_n 1), 1, 0, 0, 0, 0, 0) := (zl93_1 (Nat.le_of_ble_eq_true rfl)).trans rfl
theorem f93_40 : zi_fe 93 40 = some ((.getfield 135), 3, 0, 3, 0, 207, 0) := (zl93_1 (Nat.le_of_ble_eq_true rfl)).trans rfl
theorem f93_43 : zi_fe 93 43 = some ((.iload_n 2), 1, 0, 0, 0, 0, 0) := (zl93_1 (Nat.le_of_ble_eq_true rfl)).trans rfl
theorem f93_44 : zi_fe 93 44 = some ((.invokevirtual 144), 3, 48, 0, 4, 666, 3) := (zl93_1 (Nat.le_of_ble_eq_true rfl)).trans rfl
theorem f93_47 : zi_fe 93 47 = some ((.aload_n 1), 1, 0, 0, 0, 0, 0) := (zl93_1 (Nat.le_of_ble_eq_true rfl)).trans rfl
theorem zl93_2 {pc : Nat} (h : 48 ≤ pc) : zi_fe 93 pc = zu93_2.lookup pc := (zl93_1 (Nat.le_trans (Nat.le_of_ble_eq_true rfl) h)).trans (zi_lkA (a := zi_i93_1) (c := 48) rfl h)
theorem f93_48 : zi_fe 93 48 = some ((.getfield 190), 3, 0, 10, 0, 222, 0) := (zl93_2 (Nat.le_of_ble_eq_true rfl)).trans rfl
theorem f93_51 : zi_fe 93 51 = some ((.if_icmp .ne 7), 3, 0, 0, 0, 0, 0) := (zl93_2 (Nat.le_of_ble_eq_true rfl)).trans rfl
theorem f93_54 : zi_fe 93 54 = some ((.iconst 1), 1, 0, 0, 0, 0, 0) := (zl93_2 (Nat.le_of_ble_eq_true rfl)).trans rfl
theorem f93_55 : zi_fe 93 55 = some ((.goto 4), 3, 0, 0, 0, 0, 0) := (zl93_2 (Nat.le_of_ble_eq_true rfl)).trans rfl
theorem f93_58 : zi_fe 93 58 = some ((.iconst 0), 1, 0, 0, 0, 0, 0) := (zl93_2 (Nat.le_of_ble_eq_true rfl)).trans rfl
theorem f93_59 : zi_fe 93 59 = some ((.istore_n 3), 1, 0, 0, 0, 0, 0) := (zl93_2 (Nat.le_of_ble_eq_true rfl)).trans rfl
theorem f93_60 : zi_fe 93 60 = some ((.iload_n 3), 1, 0, 0, 0, 0, 0) := (zl93_2 (Nat.le_of_ble_eq_true rfl)).trans rfl
theorem f93_61 : zi_fe 93 61 = some ((.ifCond .eq 20), 3, 0, 0, 0, 0, 0) := (zl93_2 (Nat.le_of_ble_eq_true rfl)).trans rfl
theorem f93_64 : zi_fe 93 64 = some ((.aload_n 0), 1, 0, 0, 0, 0, 0) := (zl93_2 (Nat.le_of_ble_eq_true rfl)).trans rfl
theorem f93_65 : zi_fe 93 65 = some ((.getfield 12), 3, 6, 0, 3, 253, 0) := (zl93_2 (Nat.le_of_ble_eq_true rfl)).trans rfl
theorem f93_68 : zi_fe 93 68 = some ((.aload_n 1), 1, 0, 0, 0, 0, 0) := (zl93_2 (Nat.le_of_ble_eq_true rfl)).trans rfl
theorem f93_69 : zi_fe 93 69 = some ((.getfield 135), 3, 0, 3, 0, 207, 0) := (zl93_2 (Nat.le_of_ble_eq_true rfl)).trans rfl
theorem zl93_3 {pc : Nat} (h : 72 ≤ pc) : zi_fe 93 pc = zu93_3.lookup pc := (zl93_2 (Nat.le_trans (Nat.le_of_ble_eq_true rfl) h)).trans (zi_lkA (a := zi_i93_2) (c := 72) rfl h)
theorem f93_72 : zi_fe 93 72 = some ((.iload_n 2), 1, 0, 0, 0, 0, 0) := (zl93_3 (Nat.le_of_ble_eq_true rfl)).trans rfl
theorem f93_73 : zi_fe 93 73 = some ((.iconst 1), 1, 0, 0, 0, 0, 0) := (zl93_3 (Nat.le_of_ble_eq_true rfl)).trans rfl
theorem f93_74 : zi_fe 93 74 = some (.iadd, 1, 0, 0, 0, 0, 0) := (zl93_3 (Nat.le_of_ble_eq_true rfl)).trans rfl
theorem f93_75 : zi_fe 93 75 = some ((.invokevirtual 231), 3, 47, 0, 4, 744, 3) := (zl93_3 (Nat.le_of_ble_eq_true rfl)).trans rfl
theorem f93_78 : zi_fe 93 78 = some ((.ifCond .ge 9), 3, 0, 0, 0, 0, 0) := (zl93_3 (Nat.le_of_ble_eq_true rfl)).trans rfl
theorem f93_81 : zi_fe 93 81 = some ((.aload_n 1), 1, 0, 0, 0, 0, 0) := (zl93_3 (Nat.le_of_ble_eq_true rfl)).trans rfl
theorem f93_82 : zi_fe 93 82 = some ((.iconst 3), 1, 0, 0, 0, 0, 0) := (zl93_3 (Nat.le_of_ble_eq_true rfl)).trans rfl
theorem f93_83 : zi_fe 93 83 = some ((.invokevirtual 222), 3, 7, 0, 0, 731, 2) := (zl93_3 (Nat.le_of_ble_eq_true rfl)).trans rfl
theorem f93_86 : zi_fe 93 86 = some (.ireturn, 1, 0, 0, 0, 0, 0) := (zl93_3 (Nat.le_of_ble_eq_true rfl)).trans rfl
theorem f93_87 : zi_fe 93 87 = some ((.aload_n 0), 1, 0, 0, 0, 0, 0) := (zl93_3 (Nat.le_of_ble_eq_true rfl)).trans rfl
theorem f93_88 : zi_fe 93 88 = some ((.getfield 12), 3, 6, 0, 3, 253, 0) := (zl93_3 (Nat.le_of_ble_eq_true rfl)).trans rfl
theorem f93_91 : zi_fe 93 91 = some ((.aload_n 1), 1, 0, 0, 0, 0, 0) := (zl93_3 (Nat.le_of_ble_eq_true rfl)).trans rfl
theorem zl93_4 {pc : Nat} (h : 92 ≤ pc) : zi_fe 93 pc = zu93_4.lookup pc := (zl93_3 (Nat.le_trans (Nat.le_of_ble_eq_true rfl) h)).trans (zi_lkA (a := zi_i93_3) (c := 92) rfl h)
theorem f93_92 : zi_fe 93 92 = some ((.getfield 135), 3, 0, 3, 0, 207, 0) := (zl93_4 (Nat.le_of_ble_eq_true rfl)).trans rfl
theorem f93_95 : zi_fe 93 95 = some ((.iload_n 2), 1, 0, 0, 0, 0, 0) := (zl93_4 (Nat.le_of_ble_eq_true rfl)).trans rfl
theorem f93_96 : zi_fe 93 96 = some ((.invokevirtual 206), 3, 52, 0, 4, 722, 3) := (zl93_4 (Nat.le_of_ble_eq_true rfl)).trans rfl
theorem f93_99 : zi_fe 93 99 = some ((.aload_n 1), 1, 0, 0, 0, 0, 0) := (zl93_4 (Nat.le_of_ble_eq_true rfl)).trans rfl
theorem f93_100 : zi_fe 93 100 = some ((.bipush 8), 2, 0, 0, 0, 0, 0) := (zl93_4 (Nat.le_of_ble_eq_true rfl)).trans rfl
theorem f93_102 : zi_fe 93 102 = some ((.invokevirtual 222), 3, 7, 0, 0, 731, 2) := (zl93_4 (Nat.le_of_ble_eq_true rfl)).trans rfl
theorem f93_105 : zi_fe 93 105 = some (.ireturn, 1, 0, 0, 0, 0, 0) := (zl93_4 (Nat.le_of_ble_eq_true rfl)).trans rfl
theorem b93_0 {h : zi_Hp} {a0 : Nat} {a1 : Nat} {u2 : Value} {u3 : Value} (g0 : a0 < zh_n h) (g1 : (zh_k h a0).1 = 6) (g2 : zh_r h a0 0 = .ref (zq (zh_r h a0 0))) (g3 : a1 < zh_n h) (g4 : (zh_k h a1).1 = 0) (g5 : (zq (zh_r h a0 0)) < zh_n h) (g6 : (zh_k h (zq (zh_r h a0 0))).1 = 4) : zv 3 93 0 [.ref a0, .ref a1, u2, u3] [] h = (zv 2 49 0 [.ref (zq (zh_r h a0 0)), .int (zh_i h a1 3), .int (zh_i h a1 8), .double 0] [] h).bind fun r => zv 3 93 15 [.ref a0, .ref a1, u2, u3] (r.1.toList ++ []) r.2 := by
  refine Eq.trans (zv_next f93_0 rfl) ?_
  refine Eq.trans (zs_getr f93_1 g0 g1 g2) ?_
  refine Eq.trans (zv_next f93_4 rfl) ?_
  refine Eq.trans (zs_geti f93_5 g3 g4) ?_
  refine Eq.trans (zv_next f93_8 rfl) ?_
  refine Eq.trans (zs_geti f93_9 g3 g4) ?_
  exact zs_callV f93_12 (Nat.le_of_ble_eq_true rfl) (Nat.le_of_ble_eq_true rfl) rfl g5 g6 me_49 (by decide) rfl
theorem b93_15 {h : zi_Hp} {a0 : Nat} {a1 : Nat} {u2 : Value} {u3 : Value} {s0 : Int32} (g0 : a0 < zh_n h) (g1 : (zh_k h a0).1 = 6) (g2 : zh_r h a0 0 = .ref (zq (zh_r h a0 0))) (g3 : a1 < zh_n h) (g4 : (zh_k h a1).1 = 0) (g5 : (zq (zh_r h a0 0)) < zh_n h) (g6 : (zh_k h (zq (zh_r h a0 0))).1 = 4) : zv 3 93 15 [.ref a0, .ref a1, u2, u3] [.int s0] h = (zv 2 47 0 [.ref (zq (zh_r h a0 0)), .int (zh_i h a1 3), .int s0] [] h).bind fun r => zv 3 93 28 [.ref a0, .ref a1, .int s0, u3] (r.1.toList ++ []) r.2 := by
  refine Eq.trans (zv_next f93_15 rfl) ?_
  refine Eq.trans (zv_next f93_16 rfl) ?_
  refine Eq.trans (zs_getr f93_17 g0 g1 g2) ?_
  refine Eq.trans (zv_next f93_20 rfl) ?_
  refine Eq.trans (zs_geti f93_21 g3 g4) ?_
  refine Eq.trans (zv_next f93_24 rfl) ?_
  exact zs_callV f93_25 (Nat.le_of_ble_eq_true rfl) (Nat.le_of_ble_eq_true rfl) rfl g5 g6 me_47 (by decide) rfl
theorem b93_28 {h : zi_Hp} {a0 : Nat} {a1 : Nat} {x2 : Int32} {u3 : Value} {s0 : Int32} (g0 : a1 < zh_n h) (g1 : (zh_k h a1).1 = 0) : zv 3 93 28 [.ref a0, .ref a1, .int x2, u3] [.int s0] h = if s0 = (zh_i h a1 8) then zv 3 93 35 [.ref a0, .ref a1, .int x2, u3] [] h else zv 3 93 58 [.ref a0, .ref a1, .int x2, u3] [] h := by
  refine Eq.trans (zv_next f93_28 rfl) ?_
  refine Eq.trans (zs_geti f93_29 g0 g1) ?_
  exact zs_icmp f93_32 rfl
theorem b93_35 {h : zi_Hp} {a0 : Nat} {a1 : Nat} {x2 : Int32} {u3 : Value} (g0 : a0 < zh_n h) (g1 : (zh_k h a0).1 = 6) (g2 : zh_r h a0 0 = .ref (zq (zh_r h a0 0))) (g3 : a1 < zh_n h) (g4 : (zh_k h a1).1 = 0) (g5 : (zq (zh_r h a0 0)) < zh_n h) (g6 : (zh_k h (zq (zh_r h a0 0))).1 = 4) : zv 3 93 35 [.ref a0, .ref a1, .int x2, u3] [] h = (zv 2 48 0 [.ref (zq (zh_r h a0 0)), .int (zh_i h a1 3), .int x2] [] h).bind fun r => zv 3 93 47 [.ref a0, .ref a1, .int x2, u3] (r.1.toList ++ []) r.2 := by
  refine Eq.trans (zv_next f93_35 rfl) ?_
  refine Eq.trans (zs_getr f93_36 g0 g1 g2) ?_
  refine Eq.trans (zv_next f93_39 rfl) ?_
  refine Eq.trans (zs_geti f93_40 g3 g4) ?_
  refine Eq.trans (zv_next f93_43 rfl) ?_
  exact zs_callV f93_44 (Nat.le_of_ble_eq_true rfl) (Nat.le_of_ble_eq_true rfl) rfl g5 g6 me_48 (by decide) rfl
theorem b93_47 {h : zi_Hp} {a0 : Nat} {a1 : Nat} {x2 : Int32} {u3 : Value} {s0 : Int32} (g0 : a1 < zh_n h) (g1 : (zh_k h a1).1 = 0) : zv 3 93 47 [.ref a0, .ref a1, .int x2, u3] [.int s0] h = if s0 = (zh_i h a1 10) then zv 3 93 54 [.ref a0, .ref a1, .int x2, u3] [] h else zv 3 93 58 [.ref a0, .ref a1, .int x2, u3] [] h := by
  refine Eq.trans (zv_next f93_47 rfl) ?_
  refine Eq.trans (zs_geti f93_48 g0 g1) ?_
  exact zs_icmp f93_51 rfl
theorem b93_54 {h : zi_Hp} {a0 : Nat} {a1 : Nat} {x2 : Int32} {u3 : Value}  : zv 3 93 54 [.ref a0, .ref a1, .int x2, u3] [] h = zv 3 93 59 [.ref a0, .ref a1, .int x2, u3] [.int 1] h := by
  refine Eq.trans (zs_ic f93_54 ic_1) ?_
  refine Eq.trans (zs_goto (tgt := 59) f93_55 rfl) ?_
  rfl
theorem b93_58 {h : zi_Hp} {a0 : Nat} {a1 : Nat} {x2 : Int32} {u3 : Value}  : zv 3 93 58 [.ref a0, .ref a1, .int x2, u3] [] h = zv 3 93 59 [.ref a0, .ref a1, .int x2, u3] [.int 0] h := by
  refine Eq.trans (zs_ic f93_58 ic_0) ?_
  rfl
theorem b93_59 {h : zi_Hp} {a0 : Nat} {a1 : Nat} {x2 : Int32} {u3 : Value} {s0 : Int32}  : zv 3 93 59 [.ref a0, .ref a1, .int x2, u3] [.int s0] h = if s0 = 0 then zv 3 93 81 [.ref a0, .ref a1, .int x2, .int s0] [] h else zv 3 93 64 [.ref a0, .ref a1, .int x2, .int s0] [] h := by
  refine Eq.trans (zv_next f93_59 rfl) ?_
  refine Eq.trans (zv_next f93_60 rfl) ?_
  exact zs_if f93_61 rfl
theorem b93_64 {h : zi_Hp} {a0 : Nat} {a1 : Nat} {x2 : Int32} {x3 : Int32} (g0 : a0 < zh_n h) (g1 : (zh_k h a0).1 = 6) (g2 : zh_r h a0 0 = .ref (zq (zh_r h a0 0))) (g3 : a1 < zh_n h) (g4 : (zh_k h a1).1 = 0) (g5 : (zq (zh_r h a0 0)) < zh_n h) (g6 : (zh_k h (zq (zh_r h a0 0))).1 = 4) : zv 3 93 64 [.ref a0, .ref a1, .int x2, .int x3] [] h = (zv 2 47 0 [.ref (zq (zh_r h a0 0)), .int (zh_i h a1 3), .int (x2 + 1)] [] h).bind fun r => zv 3 93 78 [.ref a0, .ref a1, .int x2, .int x3] (r.1.toList ++ []) r.2 := by
  refine Eq.trans (zv_next f93_64 rfl) ?_
  refine Eq.trans (zs_getr f93_65 g0 g1 g2) ?_
  refine Eq.trans (zv_next f93_68 rfl) ?_
  refine Eq.trans (zs_geti f93_69 g3 g4) ?_
  refine Eq.trans (zv_next f93_72 rfl) ?_
  refine Eq.trans (zs_ic f93_73 ic_1) ?_
  refine Eq.trans (zv_next f93_74 rfl) ?_
  exact zs_callV f93_75 (Nat.le_of_ble_eq_true rfl) (Nat.le_of_ble_eq_true rfl) rfl g5 g6 me_47 (by decide) rfl
theorem b93_78 {h : zi_Hp} {a0 : Nat} {a1 : Nat} {x2 : Int32} {x3 : Int32} {s0 : Int32}  : zv 3 93 78 [.ref a0, .ref a1, .int x2, .int x3] [.int s0] h = if s0 < 0 then zv 3 93 81 [.ref a0, .ref a1, .int x2, .int x3] [] h else zv 3 93 87 [.ref a0, .ref a1, .int x2, .int x3] [] h := by
  exact zs_if f93_78 rfl
theorem b93_81 {h : zi_Hp} {a0 : Nat} {a1 : Nat} {x2 : Int32} {x3 : Int32} (g0 : a1 < zh_n h) (g1 : (zh_k h a1).1 = 0) : zv 3 93 81 [.ref a0, .ref a1, .int x2, .int x3] [] h = (zv 1 7 0 [.ref a1, .int 3] [] h).bind fun r => zv 3 93 86 [.ref a0, .ref a1, .int x2, .int x3] (r.1.toList ++ []) r.2 := by
  refine Eq.trans (zv_next f93_81 rfl) ?_
  refine Eq.trans (zs_ic f93_82 ic_3) ?_
  exact zs_callV f93_83 (Nat.le_of_ble_eq_true rfl) (Nat.le_of_ble_eq_true rfl) rfl g0 g1 me_7 (by decide) rfl
theorem b93_86 {h : zi_Hp} {a0 : Nat} {a1 : Nat} {x2 : Int32} {x3 : Int32} {s0 : Int32}  : zv 3 93 86 [.ref a0, .ref a1, .int x2, .int x3] [.int s0] h = some (some (.int s0), h) := by
  exact zs_ret0 f93_86
theorem b93_87 {h : zi_Hp} {a0 : Nat} {a1 : Nat} {x2 : Int32} {x3 : Int32} (g0 : a0 < zh_n h) (g1 : (zh_k h a0).1 = 6) (g2 : zh_r h a0 0 = .ref (zq (zh_r h a0 0))) (g3 : a1 < zh_n h) (g4 : (zh_k h a1).1 = 0) (g5 : (zq (zh_r h a0 0)) < zh_n h) (g6 : (zh_k h (zq (zh_r h a0 0))).1 = 4) : zv 3 93 87 [.ref a0, .ref a1, .int x2, .int x3] [] h = (zv 2 52 0 [.ref (zq (zh_r h a0 0)), .int (zh_i h a1 3), .int x2, .double 0] [] h).bind fun r => zv 3 93 99 [.ref a0, .ref a1, .int x2, .int x3] (r.1.toList ++ []) r.2 := by
  refine Eq.trans (zv_next f93_87 rfl) ?_
  refine Eq.trans (zs_getr f93_88 g0 g1 g2) ?_
  refine Eq.trans (zv_next f93_91 rfl) ?_
  refine Eq.trans (zs_geti f93_92 g3 g4) ?_
  refine Eq.trans (zv_next f93_95 rfl) ?_
  exact zs_callV f93_96 (Nat.le_of_ble_eq_true rfl) (Nat.le_of_ble_eq_true rfl) rfl g5 g6 me_52 (by decide) rfl
theorem b93_99 {h : zi_Hp} {a0 : Nat} {a1 : Nat} {x2 : Int32} {x3 : Int32} (g0 : a1 < zh_n h) (g1 : (zh_k h a1).1 = 0) : zv 3 93 99 [.ref a0, .ref a1, .int x2, .int x3] [] h = (zv 1 7 0 [.ref a1, .int 8] [] h).bind fun r => zv 3 93 105 [.ref a0, .ref a1, .int x2, .int x3] (r.1.toList ++ []) r.2 := by
  refine Eq.trans (zv_next f93_99 rfl) ?_
  refine Eq.trans (zs_bp f93_100 bp_8) ?_
  exact zs_callV f93_102 (Nat.le_of_ble_eq_true rfl) (Nat.le_of_ble_eq_true rfl) rfl g0 g1 me_7 (by decide) rfl
theorem b93_105 {h : zi_Hp} {a0 : Nat} {a1 : Nat} {x2 : Int32} {x3 : Int32} {s0 : Int32}  : zv 3 93 105 [.ref a0, .ref a1, .int x2, .int x3] [.int s0] h = some (some (.int s0), h) := by
  exact zs_ret0 f93_105
set_option maxRecDepth 20000 in
theorem zq94 : zi_M[94]? = some zi_m94 := rfl
theorem zl94_0 {pc : Nat} (_ : 0 ≤ pc) : zi_fe 94 pc = zu94_0.lookup pc := zi_feA zq94 pc
theorem f94_0 : zi_fe 94 0 = some ((.iload_n 1), 1, 0, 0, 0, 0, 0) := (zl94_0 (Nat.le_of_ble_eq_true rfl)).trans rfl
theorem f94_1 : zi_fe 94 1 = some ((.ifCond .lt 8), 3, 0, 0, 0, 0, 0) := (zl94_0 (Nat.le_of_ble_eq_true rfl)).trans rfl
theorem f94_4 : zi_fe 94 4 = some ((.iload_n 1), 1, 0, 0, 0, 0, 0) := (zl94_0 (Nat.le_of_ble_eq_true rfl)).trans rfl
theorem f94_5 : zi_fe 94 5 = some ((.iconst 3), 1, 0, 0, 0, 0, 0) := (zl94_0 (Nat.le_of_ble_eq_true rfl)).trans rfl
theorem f94_6 : zi_fe 94 6 = some ((.if_icmp .lt 5), 3, 0, 0, 0, 0, 0) := (zl94_0 (Nat.le_of_ble_eq_true rfl)).trans rfl
theorem f94_9 : zi_fe 94 9 = some ((.iconst 0), 1, 0, 0, 0, 0, 0) := (zl94_0 (Nat.le_of_ble_eq_true rfl)).trans rfl
theorem f94_10 : zi_fe 94 10 = some (.ireturn, 1, 1, 0, 0, 0, 0) := (zl94_0 (Nat.le_of_ble_eq_true rfl)).trans rfl
theorem f94_11 : zi_fe 94 11 = some ((.aload_n 0), 1, 0, 0, 0, 0, 0) := (zl94_0 (Nat.le_of_ble_eq_true rfl)).trans rfl
theorem f94_12 : zi_fe 94 12 = some ((.getfield 21), 3, 6, 1, 3, 256, 0) := (zl94_0 (Nat.le_of_ble_eq_true rfl)).trans rfl
theorem f94_15 : zi_fe 94 15 = some ((.iload_n 1), 1, 0, 0, 0, 0, 0) := (zl94_0 (Nat.le_of_ble_eq_true rfl)).trans rfl
theorem f94_16 : zi_fe 94 16 = some (.aaload, 1, 0, 0, 0, 0, 0) := (zl94_0 (Nat.le_of_ble_eq_true rfl)).trans rfl
theorem f94_17 : zi_fe 94 17 = some ((.astore_n 2), 1, 0, 0, 0, 0, 0) := (zl94_0 (Nat.le_of_ble_eq_true rfl)).trans rfl
theorem zl94_1 {pc : Nat} (h : 18 ≤ pc) : zi_fe 94 pc = zu94_1.lookup pc := (zl94_0 (Nat.le_trans (Nat.le_of_ble_eq_true rfl) h)).trans (zi_lkA (a := zi_i94_0) (c := 18) rfl h)
theorem f94_18 : zi_fe 94 18 = some ((.aload_n 2), 1, 0, 0, 0, 0, 0) := (zl94_1 (Nat.le_of_ble_eq_true rfl)).trans rfl
theorem f94_19 : zi_fe 94 19 = some ((.invokevirtual 122), 3, 4, 0, 0, 606, 1) := (zl94_1 (Nat.le_of_ble_eq_true rfl)).trans rfl
theorem f94_22 : zi_fe 94 22 = some ((.ifCond .eq 26), 3, 0, 0, 0, 0, 0) := (zl94_1 (Nat.le_of_ble_eq_true rfl)).trans rfl
theorem f94_25 : zi_fe 94 25 = some ((.aload_n 0), 1, 0, 0, 0, 0, 0) := (zl94_1 (Nat.le_of_ble_eq_true rfl)).trans rfl
theorem f94_26 : zi_fe 94 26 = some ((.aload_n 2), 1, 0, 0, 0, 0, 0) := (zl94_1 (Nat.le_of_ble_eq_true rfl)).trans rfl
theorem f94_27 : zi_fe 94 27 = some ((.invokevirtual 237), 3, 95, 0, 6, 610, 2) := (zl94_1 (Nat.le_of_ble_eq_true rfl)).trans rfl
theorem f94_30 : zi_fe 94 30 = some ((.ifCond .eq 14), 3, 0, 0, 0, 0, 0) := (zl94_1 (Nat.le_of_ble_eq_true rfl)).trans rfl
theorem f94_33 : zi_fe 94 33 = some ((.aload_n 0), 1, 0, 0, 0, 0, 0) := (zl94_1 (Nat.le_of_ble_eq_true rfl)).trans rfl
theorem f94_34 : zi_fe 94 34 = some ((.aload_n 2), 1, 0, 0, 0, 0, 0) := (zl94_1 (Nat.le_of_ble_eq_true rfl)).trans rfl
theorem f94_35 : zi_fe 94 35 = some ((.getfield 135), 3, 0, 3, 0, 207, 0) := (zl94_1 (Nat.le_of_ble_eq_true rfl)).trans rfl
theorem f94_38 : zi_fe 94 38 = some ((.invokevirtual 241), 3, 97, 0, 6, 630, 2) := (zl94_1 (Nat.le_of_ble_eq_true rfl)).trans rfl
theorem f94_41 : zi_fe 94 41 = some ((.ifCond .ge 7), 3, 0, 0, 0, 0, 0) := (zl94_1 (Nat.le_of_ble_eq_true rfl)).trans rfl
theorem zl94_2 {pc : Nat} (h : 44 ≤ pc) : zi_fe 94 pc = zu94_2.lookup pc := (zl94_1 (Nat.le_trans (Nat.le_of_ble_eq_true rfl) h)).trans (zi_lkA (a := zi_i94_1) (c := 44) rfl h)
theorem f94_44 : zi_fe 94 44 = some ((.iconst 1), 1, 0, 0, 0, 0, 0) := (zl94_2 (Nat.le_of_ble_eq_true rfl)).trans rfl
theorem f94_45 : zi_fe 94 45 = some ((.goto 4), 3, 0, 0, 0, 0, 0) := (zl94_2 (Nat.le_of_ble_eq_true rfl)).trans rfl
theorem f94_48 : zi_fe 94 48 = some ((.iconst 0), 1, 0, 0, 0, 0, 0) := (zl94_2 (Nat.le_of_ble_eq_true rfl)).trans rfl
theorem f94_49 : zi_fe 94 49 = some (.ireturn, 1, 1, 0, 0, 0, 0) := (zl94_2 (Nat.le_of_ble_eq_true rfl)).trans rfl
theorem b94_0 {h : zi_Hp} {a0 : Nat} {x1 : Int32} {u2 : Value}  : zv 4 94 0 [.ref a0, .int x1, u2] [] h = if x1 < 0 then zv 4 94 9 [.ref a0, .int x1, u2] [] h else zv 4 94 4 [.ref a0, .int x1, u2] [] h := by
  refine Eq.trans (zv_next f94_0 rfl) ?_
  exact zs_if f94_1 rfl
theorem b94_4 {h : zi_Hp} {a0 : Nat} {x1 : Int32} {u2 : Value}  : zv 4 94 4 [.ref a0, .int x1, u2] [] h = if x1 < 3 then zv 4 94 11 [.ref a0, .int x1, u2] [] h else zv 4 94 9 [.ref a0, .int x1, u2] [] h := by
  refine Eq.trans (zv_next f94_4 rfl) ?_
  refine Eq.trans (zs_ic f94_5 ic_3) ?_
  exact zs_icmp f94_6 rfl
theorem b94_9 {h : zi_Hp} {a0 : Nat} {x1 : Int32} {u2 : Value}  : zv 4 94 9 [.ref a0, .int x1, u2] [] h = some (some (.int 0), h) := by
  refine Eq.trans (zs_ic f94_9 ic_0) ?_
  exact zs_ret1 f94_10 (by decide)
theorem b94_11 {h : zi_Hp} {a0 : Nat} {x1 : Int32} {u2 : Value} (g0 : a0 < zh_n h) (g1 : (zh_k h a0).1 = 6) (g2 : zh_r h a0 1 = .ref (zq (zh_r h a0 1))) (g3 : (zq (zh_r h a0 1)) < zh_n h) (g4 : ¬ (x1 < 0 ∨ (zh_k h (zq (zh_r h a0 1))).2 ≤ x1.toNatClampNeg)) (g5 : (zh_k h (zq (zh_r h a0 1))).1 = 103 ∨ (zh_k h (zq (zh_r h a0 1))).1 = 104 ∨ (zh_k h (zq (zh_r h a0 1))).1 = 105) (g6 : zh_r h (zq (zh_r h a0 1)) x1.toNatClampNeg = .ref (zq (zh_r h (zq (zh_r h a0 1)) x1.toNatClampNeg))) (g7 : (zq (zh_r h (zq (zh_r h a0 1)) x1.toNatClampNeg)) < zh_n h) (g8 : (zh_k h (zq (zh_r h (zq (zh_r h a0 1)) x1.toNatClampNeg))).1 = 0) : zv 4 94 11 [.ref a0, .int x1, u2] [] h = (zv 1 4 0 [.ref (zq (zh_r h (zq (zh_r h a0 1)) x1.toNatClampNeg))] [] h).bind fun r => zv 4 94 22 [.ref a0, .int x1, .ref (zq (zh_r h (zq (zh_r h a0 1)) x1.toNatClampNeg))] (r.1.toList ++ []) r.2 := by
  refine Eq.trans (zv_next f94_11 rfl) ?_
  refine Eq.trans (zs_getr f94_12 g0 g1 g2) ?_
  refine Eq.trans (zv_next f94_15 rfl) ?_
  refine Eq.trans (zs_aald f94_16 g3 g5 g4 g6) ?_
  refine Eq.trans (zv_next f94_17 rfl) ?_
  refine Eq.trans (zv_next f94_18 rfl) ?_
  exact zs_callV f94_19 (Nat.le_of_ble_eq_true rfl) (Nat.le_of_ble_eq_true rfl) rfl g7 g8 me_4 (by decide) rfl
theorem b94_22 {h : zi_Hp} {a0 : Nat} {x1 : Int32} {a2 : Nat} {s0 : Int32}  : zv 4 94 22 [.ref a0, .int x1, .ref a2] [.int s0] h = if s0 = 0 then zv 4 94 48 [.ref a0, .int x1, .ref a2] [] h else zv 4 94 25 [.ref a0, .int x1, .ref a2] [] h := by
  exact zs_if f94_22 rfl
theorem b94_25 {h : zi_Hp} {a0 : Nat} {x1 : Int32} {a2 : Nat} (g0 : a0 < zh_n h) (g1 : (zh_k h a0).1 = 6) : zv 4 94 25 [.ref a0, .int x1, .ref a2] [] h = (zv 3 95 0 [.ref a0, .ref a2] [] h).bind fun r => zv 4 94 30 [.ref a0, .int x1, .ref a2] (r.1.toList ++ []) r.2 := by
  refine Eq.trans (zv_next f94_25 rfl) ?_
  refine Eq.trans (zv_next f94_26 rfl) ?_
  exact zs_callV f94_27 (Nat.le_of_ble_eq_true rfl) (Nat.le_of_ble_eq_true rfl) rfl g0 g1 me_95 (by decide) rfl
theorem b94_30 {h : zi_Hp} {a0 : Nat} {x1 : Int32} {a2 : Nat} {s0 : Int32}  : zv 4 94 30 [.ref a0, .int x1, .ref a2] [.int s0] h = if s0 = 0 then zv 4 94 44 [.ref a0, .int x1, .ref a2] [] h else zv 4 94 33 [.ref a0, .int x1, .ref a2] [] h := by
  exact zs_if f94_30 rfl
theorem b94_33 {h : zi_Hp} {a0 : Nat} {x1 : Int32} {a2 : Nat} (g0 : a2 < zh_n h) (g1 : (zh_k h a2).1 = 0) (g2 : a0 < zh_n h) (g3 : (zh_k h a0).1 = 6) : zv 4 94 33 [.ref a0, .int x1, .ref a2] [] h = (zv 2 97 0 [.ref a0, .int (zh_i h a2 3), .double 0] [] h).bind fun r => zv 4 94 41 [.ref a0, .int x1, .ref a2] (r.1.toList ++ []) r.2 := by
  refine Eq.trans (zv_next f94_33 rfl) ?_
  refine Eq.trans (zv_next f94_34 rfl) ?_
  refine Eq.trans (zs_geti f94_35 g0 g1) ?_
  exact zs_callV f94_38 (Nat.le_of_ble_eq_true rfl) (Nat.le_of_ble_eq_true rfl) rfl g2 g3 me_97 (by decide) rfl
theorem b94_41 {h : zi_Hp} {a0 : Nat} {x1 : Int32} {a2 : Nat} {s0 : Int32}  : zv 4 94 41 [.ref a0, .int x1, .ref a2] [.int s0] h = if s0 < 0 then zv 4 94 44 [.ref a0, .int x1, .ref a2] [] h else zv 4 94 48 [.ref a0, .int x1, .ref a2] [] h := by
  exact zs_if f94_41 rfl
theorem b94_44 {h : zi_Hp} {a0 : Nat} {x1 : Int32} {a2 : Nat}  : zv 4 94 44 [.ref a0, .int x1, .ref a2] [] h = zv 4 94 49 [.ref a0, .int x1, .ref a2] [.int 1] h := by
  refine Eq.trans (zs_ic f94_44 ic_1) ?_
  refine Eq.trans (zs_goto (tgt := 49) f94_45 rfl) ?_
  rfl
theorem b94_48 {h : zi_Hp} {a0 : Nat} {x1 : Int32} {a2 : Nat}  : zv 4 94 48 [.ref a0, .int x1, .ref a2] [] h = zv 4 94 49 [.ref a0, .int x1, .ref a2] [.int 0] h := by
  refine Eq.trans (zs_ic f94_48 ic_0) ?_
  rfl
theorem b94_49 {h : zi_Hp} {a0 : Nat} {x1 : Int32} {a2 : Nat} {s0 : Int32} (g0 : s0 = 0 ∨ s0 = 1) : zv 4 94 49 [.ref a0, .int x1, .ref a2] [.int s0] h = some (some (.int s0), h) := by
  exact zs_ret1 f94_49 g0
set_option maxRecDepth 20000 in
theorem zq95 : zi_M[95]? = some zi_m95 := rfl
theorem zl95_0 {pc : Nat} (_ : 0 ≤ pc) : zi_fe 95 pc = zu95_0.lookup pc := zi_feA zq95 pc
theorem f95_0 : zi_fe 95 0 = some ((.aload_n 1), 1, 0, 0, 0, 0, 0) := (zl95_0 (Nat.le_of_ble_eq_true rfl)).trans rfl
theorem f95_1 : zi_fe 95 1 = some ((.getfield 35), 3, 0, 0, 0, 200, 0) := (zl95_0 (Nat.le_of_ble_eq_true rfl)).trans rfl
theorem f95_4 : zi_fe 95 4 = some ((.iconst 1), 1, 0, 0, 0, 0, 0) := (zl95_0 (Nat.le_of_ble_eq_true rfl)).trans rfl
theorem f95_5 : zi_fe 95 5 = some ((.if_icmp .ne 48), 3, 0, 0, 0, 0, 0) := (zl95_0 (Nat.le_of_ble_eq_true rfl)).trans rfl
theorem f95_8 : zi_fe 95 8 = some ((.aload_n 1), 1, 0, 0, 0, 0, 0) := (zl95_0 (Nat.le_of_ble_eq_true rfl)).trans rfl
theorem f95_9 : zi_fe 95 9 = some ((.getfield 90), 3, 0, 1, 0, 203, 0) := (zl95_0 (Nat.le_of_ble_eq_true rfl)).trans rfl
theorem f95_12 : zi_fe 95 12 = some ((.ifCond .eq 39), 3, 0, 0, 0, 0, 0) := (zl95_0 (Nat.le_of_ble_eq_true rfl)).trans rfl
theorem f95_15 : zi_fe 95 15 = some ((.aload_n 0), 1, 0, 0, 0, 0, 0) := (zl95_0 (Nat.le_of_ble_eq_true rfl)).trans rfl
theorem f95_16 : zi_fe 95 16 = some ((.getfield 12), 3, 6, 0, 3, 253, 0) := (zl95_0 (Nat.le_of_ble_eq_true rfl)).trans rfl
theorem f95_19 : zi_fe 95 19 = some ((.aload_n 1), 1, 0, 0, 0, 0, 0) := (zl95_0 (Nat.le_of_ble_eq_true rfl)).trans rfl
theorem f95_20 : zi_fe 95 20 = some ((.getfield 135), 3, 0, 3, 0, 207, 0) := (zl95_0 (Nat.le_of_ble_eq_true rfl)).trans rfl
theorem f95_23 : zi_fe 95 23 = some ((.invokevirtual 244), 3, 55, 0, 4, 614, 2) := (zl95_0 (Nat.le_of_ble_eq_true rfl)).trans rfl
theorem zl95_1 {pc : Nat} (h : 26 ≤ pc) : zi_fe 95 pc = zu95_1.lookup pc := (zl95_0 (Nat.le_trans (Nat.le_of_ble_eq_true rfl) h)).trans (zi_lkA (a := zi_i95_0) (c := 26) rfl h)
theorem f95_26 : zi_fe 95 26 = some ((.ifCond .eq 25), 3, 0, 0, 0, 0, 0) := (zl95_1 (Nat.le_of_ble_eq_true rfl)).trans rfl
theorem f95_29 : zi_fe 95 29 = some ((.aload_n 1), 1, 0, 0, 0, 0, 0) := (zl95_1 (Nat.le_of_ble_eq_true rfl)).trans rfl
theorem f95_30 : zi_fe 95 30 = some ((.getfield 129), 3, 0, 2, 0, 205, 0) := (zl95_1 (Nat.le_of_ble_eq_true rfl)).trans rfl
theorem f95_33 : zi_fe 95 33 = some ((.aload_n 0), 1, 0, 0, 0, 0, 0) := (zl95_1 (Nat.le_of_ble_eq_true rfl)).trans rfl
theorem f95_34 : zi_fe 95 34 = some ((.getfield 12), 3, 6, 0, 3, 253, 0) := (zl95_1 (Nat.le_of_ble_eq_true rfl)).trans rfl
theorem f95_37 : zi_fe 95 37 = some ((.aload_n 1), 1, 0, 0, 0, 0, 0) := (zl95_1 (Nat.le_of_ble_eq_true rfl)).trans rfl
theorem f95_38 : zi_fe 95 38 = some ((.getfield 135), 3, 0, 3, 0, 207, 0) := (zl95_1 (Nat.le_of_ble_eq_true rfl)).trans rfl
theorem f95_41 : zi_fe 95 41 = some ((.invokevirtual 150), 3, 43, 0, 4, 622, 2) := (zl95_1 (Nat.le_of_ble_eq_true rfl)).trans rfl
theorem f95_44 : zi_fe 95 44 = some ((.if_icmp .gt 7), 3, 0, 0, 0, 0, 0) := (zl95_1 (Nat.le_of_ble_eq_true rfl)).trans rfl
theorem f95_47 : zi_fe 95 47 = some ((.iconst 1), 1, 0, 0, 0, 0, 0) := (zl95_1 (Nat.le_of_ble_eq_true rfl)).trans rfl
theorem f95_48 : zi_fe 95 48 = some ((.goto 4), 3, 0, 0, 0, 0, 0) := (zl95_1 (Nat.le_of_ble_eq_true rfl)).trans rfl
theorem f95_51 : zi_fe 95 51 = some ((.iconst 0), 1, 0, 0, 0, 0, 0) := (zl95_1 (Nat.le_of_ble_eq_true rfl)).trans rfl
theorem zl95_2 {pc : Nat} (h : 52 ≤ pc) : zi_fe 95 pc = zu95_2.lookup pc := (zl95_1 (Nat.le_trans (Nat.le_of_ble_eq_true rfl) h)).trans (zi_lkA (a := zi_i95_1) (c := 52) rfl h)
theorem f95_52 : zi_fe 95 52 = some (.ireturn, 1, 1, 0, 0, 0, 0) := (zl95_2 (Nat.le_of_ble_eq_true rfl)).trans rfl
theorem f95_53 : zi_fe 95 53 = some ((.aload_n 1), 1, 0, 0, 0, 0, 0) := (zl95_2 (Nat.le_of_ble_eq_true rfl)).trans rfl
theorem f95_54 : zi_fe 95 54 = some ((.getfield 35), 3, 0, 0, 0, 200, 0) := (zl95_2 (Nat.le_of_ble_eq_true rfl)).trans rfl
theorem f95_57 : zi_fe 95 57 = some ((.iconst 3), 1, 0, 0, 0, 0, 0) := (zl95_2 (Nat.le_of_ble_eq_true rfl)).trans rfl
theorem f95_58 : zi_fe 95 58 = some ((.if_icmp .ne 43), 3, 0, 0, 0, 0, 0) := (zl95_2 (Nat.le_of_ble_eq_true rfl)).trans rfl
theorem f95_61 : zi_fe 95 61 = some ((.aload_n 0), 1, 0, 0, 0, 0, 0) := (zl95_2 (Nat.le_of_ble_eq_true rfl)).trans rfl
theorem f95_62 : zi_fe 95 62 = some ((.getfield 12), 3, 6, 0, 3, 253, 0) := (zl95_2 (Nat.le_of_ble_eq_true rfl)).trans rfl
theorem f95_65 : zi_fe 95 65 = some ((.aload_n 1), 1, 0, 0, 0, 0, 0) := (zl95_2 (Nat.le_of_ble_eq_true rfl)).trans rfl
theorem f95_66 : zi_fe 95 66 = some ((.getfield 135), 3, 0, 3, 0, 207, 0) := (zl95_2 (Nat.le_of_ble_eq_true rfl)).trans rfl
theorem f95_69 : zi_fe 95 69 = some ((.invokevirtual 156), 3, 42, 0, 4, 626, 2) := (zl95_2 (Nat.le_of_ble_eq_true rfl)).trans rfl
theorem f95_72 : zi_fe 95 72 = some ((.aload_n 1), 1, 0, 0, 0, 0, 0) := (zl95_2 (Nat.le_of_ble_eq_true rfl)).trans rfl
theorem f95_73 : zi_fe 95 73 = some ((.getfield 200), 3, 0, 9, 0, 220, 0) := (zl95_2 (Nat.le_of_ble_eq_true rfl)).trans rfl
theorem zl95_3 {pc : Nat} (h : 76 ≤ pc) : zi_fe 95 pc = zu95_3.lookup pc := (zl95_2 (Nat.le_trans (Nat.le_of_ble_eq_true rfl) h)).trans (zi_lkA (a := zi_i95_2) (c := 76) rfl h)
theorem f95_76 : zi_fe 95 76 = some ((.if_icmp .ne 25), 3, 0, 0, 0, 0, 0) := (zl95_3 (Nat.le_of_ble_eq_true rfl)).trans rfl
theorem f95_79 : zi_fe 95 79 = some ((.aload_n 1), 1, 0, 0, 0, 0, 0) := (zl95_3 (Nat.le_of_ble_eq_true rfl)).trans rfl
theorem f95_80 : zi_fe 95 80 = some ((.getfield 193), 3, 0, 8, 0, 218, 0) := (zl95_3 (Nat.le_of_ble_eq_true rfl)).trans rfl
theorem f95_83 : zi_fe 95 83 = some ((.aload_n 0), 1, 0, 0, 0, 0, 0) := (zl95_3 (Nat.le_of_ble_eq_true rfl)).trans rfl
theorem f95_84 : zi_fe 95 84 = some ((.getfield 12), 3, 6, 0, 3, 253, 0) := (zl95_3 (Nat.le_of_ble_eq_true rfl)).trans rfl
theorem f95_87 : zi_fe 95 87 = some ((.aload_n 1), 1, 0, 0, 0, 0, 0) := (zl95_3 (Nat.le_of_ble_eq_true rfl)).trans rfl
theorem f95_88 : zi_fe 95 88 = some ((.getfield 135), 3, 0, 3, 0, 207, 0) := (zl95_3 (Nat.le_of_ble_eq_true rfl)).trans rfl
theorem f95_91 : zi_fe 95 91 = some ((.invokevirtual 150), 3, 43, 0, 4, 622, 2) := (zl95_3 (Nat.le_of_ble_eq_true rfl)).trans rfl
theorem f95_94 : zi_fe 95 94 = some ((.if_icmp .gt 7), 3, 0, 0, 0, 0, 0) := (zl95_3 (Nat.le_of_ble_eq_true rfl)).trans rfl
theorem f95_97 : zi_fe 95 97 = some ((.iconst 1), 1, 0, 0, 0, 0, 0) := (zl95_3 (Nat.le_of_ble_eq_true rfl)).trans rfl
theorem f95_98 : zi_fe 95 98 = some ((.goto 4), 3, 0, 0, 0, 0, 0) := (zl95_3 (Nat.le_of_ble_eq_true rfl)).trans rfl
theorem f95_101 : zi_fe 95 101 = some ((.iconst 0), 1, 0, 0, 0, 0, 0) := (zl95_3 (Nat.le_of_ble_eq_true rfl)).trans rfl
theorem zl95_4 {pc : Nat} (h : 102 ≤ pc) : zi_fe 95 pc = zu95_4.lookup pc := (zl95_3 (Nat.le_trans (Nat.le_of_ble_eq_true rfl) h)).trans (zi_lkA (a := zi_i95_3) (c := 102) rfl h)
theorem f95_102 : zi_fe 95 102 = some (.ireturn, 1, 1, 0, 0, 0, 0) := (zl95_4 (Nat.le_of_ble_eq_true rfl)).trans rfl
theorem b95_0 {h : zi_Hp} {a0 : Nat} {a1 : Nat} (g0 : a1 < zh_n h) (g1 : (zh_k h a1).1 = 0) : zv 3 95 0 [.ref a0, .ref a1] [] h = if (zh_i h a1 0) = 1 then zv 3 95 8 [.ref a0, .ref a1] [] h else zv 3 95 53 [.ref a0, .ref a1] [] h := by
  refine Eq.trans (zv_next f95_0 rfl) ?_
  refine Eq.trans (zs_geti f95_1 g0 g1) ?_
  refine Eq.trans (zs_ic f95_4 ic_1) ?_
  exact zs_icmp f95_5 rfl
theorem b95_8 {h : zi_Hp} {a0 : Nat} {a1 : Nat} (g0 : a1 < zh_n h) (g1 : (zh_k h a1).1 = 0) : zv 3 95 8 [.ref a0, .ref a1] [] h = if (zh_i h a1 1) = 0 then zv 3 95 51 [.ref a0, .ref a1] [] h else zv 3 95 15 [.ref a0, .ref a1] [] h := by
  refine Eq.trans (zv_next f95_8 rfl) ?_
  refine Eq.trans (zs_geti f95_9 g0 g1) ?_
  exact zs_if f95_12 rfl
theorem b95_15 {h : zi_Hp} {a0 : Nat} {a1 : Nat} (g0 : a0 < zh_n h) (g1 : (zh_k h a0).1 = 6) (g2 : zh_r h a0 0 = .ref (zq (zh_r h a0 0))) (g3 : a1 < zh_n h) (g4 : (zh_k h a1).1 = 0) (g5 : (zq (zh_r h a0 0)) < zh_n h) (g6 : (zh_k h (zq (zh_r h a0 0))).1 = 4) : zv 3 95 15 [.ref a0, .ref a1] [] h = (zv 2 55 0 [.ref (zq (zh_r h a0 0)), .int (zh_i h a1 3)] [] h).bind fun r => zv 3 95 26 [.ref a0, .ref a1] (r.1.toList ++ []) r.2 := by
  refine Eq.trans (zv_next f95_15 rfl) ?_
  refine Eq.trans (zs_getr f95_16 g0 g1 g2) ?_
  refine Eq.trans (zv_next f95_19 rfl) ?_
  refine Eq.trans (zs_geti f95_20 g3 g4) ?_
  exact zs_callV f95_23 (Nat.le_of_ble_eq_true rfl) (Nat.le_of_ble_eq_true rfl) rfl g5 g6 me_55 (by decide) rfl
theorem b95_26 {h : zi_Hp} {a0 : Nat} {a1 : Nat} {s0 : Int32}  : zv 3 95 26 [.ref a0, .ref a1] [.int s0] h = if s0 = 0 then zv 3 95 51 [.ref a0, .ref a1] [] h else zv 3 95 29 [.ref a0, .ref a1] [] h := by
  exact zs_if f95_26 rfl
theorem b95_29 {h : zi_Hp} {a0 : Nat} {a1 : Nat} (g0 : a1 < zh_n h) (g1 : (zh_k h a1).1 = 0) (g2 : a0 < zh_n h) (g3 : (zh_k h a0).1 = 6) (g4 : zh_r h a0 0 = .ref (zq (zh_r h a0 0))) (g5 : (zq (zh_r h a0 0)) < zh_n h) (g6 : (zh_k h (zq (zh_r h a0 0))).1 = 4) : zv 3 95 29 [.ref a0, .ref a1] [] h = (zv 2 43 0 [.ref (zq (zh_r h a0 0)), .int (zh_i h a1 3)] [] h).bind fun r => zv 3 95 44 [.ref a0, .ref a1] (r.1.toList ++ [.int (zh_i h a1 2)]) r.2 := by
  refine Eq.trans (zv_next f95_29 rfl) ?_
  refine Eq.trans (zs_geti f95_30 g0 g1) ?_
  refine Eq.trans (zv_next f95_33 rfl) ?_
  refine Eq.trans (zs_getr f95_34 g2 g3 g4) ?_
  refine Eq.trans (zv_next f95_37 rfl) ?_
  refine Eq.trans (zs_geti f95_38 g0 g1) ?_
  exact zs_callV f95_41 (Nat.le_of_ble_eq_true rfl) (Nat.le_of_ble_eq_true rfl) rfl g5 g6 me_43 (by decide) rfl
theorem b95_44 {h : zi_Hp} {a0 : Nat} {a1 : Nat} {s0 : Int32} {s1 : Int32}  : zv 3 95 44 [.ref a0, .ref a1] [.int s1, .int s0] h = if s1 < s0 then zv 3 95 51 [.ref a0, .ref a1] [] h else zv 3 95 47 [.ref a0, .ref a1] [] h := by
  exact zs_icmp f95_44 rfl
theorem b95_47 {h : zi_Hp} {a0 : Nat} {a1 : Nat}  : zv 3 95 47 [.ref a0, .ref a1] [] h = zv 3 95 52 [.ref a0, .ref a1] [.int 1] h := by
  refine Eq.trans (zs_ic f95_47 ic_1) ?_
  refine Eq.trans (zs_goto (tgt := 52) f95_48 rfl) ?_
  rfl
theorem b95_51 {h : zi_Hp} {a0 : Nat} {a1 : Nat}  : zv 3 95 51 [.ref a0, .ref a1] [] h = zv 3 95 52 [.ref a0, .ref a1] [.int 0] h := by
  refine Eq.trans (zs_ic f95_51 ic_0) ?_
  rfl
theorem b95_52 {h : zi_Hp} {a0 : Nat} {a1 : Nat} {s0 : Int32} (g0 : s0 = 0 ∨ s0 = 1) : zv 3 95 52 [.ref a0, .ref a1] [.int s0] h = some (some (.int s0), h) := by
  exact zs_ret1 f95_52 g0
theorem b95_53 {h : zi_Hp} {a0 : Nat} {a1 : Nat} (g0 : a1 < zh_n h) (g1 : (zh_k h a1).1 = 0) : zv 3 95 53 [.ref a0, .ref a1] [] h = if (zh_i h a1 0) = 3 then zv 3 95 61 [.ref a0, .ref a1] [] h else zv 3 95 101 [.ref a0, .ref a1] [] h := by
  refine Eq.trans (zv_next f95_53 rfl) ?_
  refine Eq.trans (zs_geti f95_54 g0 g1) ?_
  refine Eq.trans (zs_ic f95_57 ic_3) ?_
  exact zs_icmp f95_58 rfl
theorem b95_61 {h : zi_Hp} {a0 : Nat} {a1 : Nat} (g0 : a0 < zh_n h) (g1 : (zh_k h a0).1 = 6) (g2 : zh_r h a0 0 = .ref (zq (zh_r h a0 0))) (g3 : a1 < zh_n h) (g4 : (zh_k h a1).1 = 0) (g5 : (zq (zh_r h a0 0)) < zh_n h) (g6 : (zh_k h (zq (zh_r h a0 0))).1 = 4) : zv 3 95 61 [.ref a0, .ref a1] [] h = (zv 2 42 0 [.ref (zq (zh_r h a0 0)), .int (zh_i h a1 3)] [] h).bind fun r => zv 3 95 72 [.ref a0, .ref a1] (r.1.toList ++ []) r.2 := by
  refine Eq.trans (zv_next f95_61 rfl) ?_
  refine Eq.trans (zs_getr f95_62 g0 g1 g2) ?_
  refine Eq.trans (zv_next f95_65 rfl) ?_
  refine Eq.trans (zs_geti f95_66 g3 g4) ?_
  exact zs_callV f95_69 (Nat.le_of_ble_eq_true rfl) (Nat.le_of_ble_eq_true rfl) rfl g5 g6 me_42 (by decide) rfl
theorem b95_72 {h : zi_Hp} {a0 : Nat} {a1 : Nat} {s0 : Int32} (g0 : a1 < zh_n h) (g1 : (zh_k h a1).1 = 0) : zv 3 95 72 [.ref a0, .ref a1] [.int s0] h = if s0 = (zh_i h a1 9) then zv 3 95 79 [.ref a0, .ref a1] [] h else zv 3 95 101 [.ref a0, .ref a1] [] h := by
  refine Eq.trans (zv_next f95_72 rfl) ?_
  refine Eq.trans (zs_geti f95_73 g0 g1) ?_
  exact zs_icmp f95_76 rfl
theorem b95_79 {h : zi_Hp} {a0 : Nat} {a1 : Nat} (g0 : a1 < zh_n h) (g1 : (zh_k h a1).1 = 0) (g2 : a0 < zh_n h) (g3 : (zh_k h a0).1 = 6) (g4 : zh_r h a0 0 = .ref (zq (zh_r h a0 0))) (g5 : (zq (zh_r h a0 0)) < zh_n h) (g6 : (zh_k h (zq (zh_r h a0 0))).1 = 4) : zv 3 95 79 [.ref a0, .ref a1] [] h = (zv 2 43 0 [.ref (zq (zh_r h a0 0)), .int (zh_i h a1 3)] [] h).bind fun r => zv 3 95 94 [.ref a0, .ref a1] (r.1.toList ++ [.int (zh_i h a1 8)]) r.2 := by
  refine Eq.trans (zv_next f95_79 rfl) ?_
  refine Eq.trans (zs_geti f95_80 g0 g1) ?_
  refine Eq.trans (zv_next f95_83 rfl) ?_
  refine Eq.trans (zs_getr f95_84 g2 g3 g4) ?_
  refine Eq.trans (zv_next f95_87 rfl) ?_
  refine Eq.trans (zs_geti f95_88 g0 g1) ?_
  exact zs_callV f95_91 (Nat.le_of_ble_eq_true rfl) (Nat.le_of_ble_eq_true rfl) rfl g5 g6 me_43 (by decide) rfl
theorem b95_94 {h : zi_Hp} {a0 : Nat} {a1 : Nat} {s0 : Int32} {s1 : Int32}  : zv 3 95 94 [.ref a0, .ref a1] [.int s1, .int s0] h = if s1 < s0 then zv 3 95 101 [.ref a0, .ref a1] [] h else zv 3 95 97 [.ref a0, .ref a1] [] h := by
  exact zs_icmp f95_94 rfl
theorem b95_97 {h : zi_Hp} {a0 : Nat} {a1 : Nat}  : zv 3 95 97 [.ref a0, .ref a1] [] h = zv 3 95 102 [.ref a0, .ref a1] [.int 1] h := by
  refine Eq.trans (zs_ic f95_97 ic_1) ?_
  refine Eq.trans (zs_goto (tgt := 102) f95_98 rfl) ?_
  rfl
theorem b95_101 {h : zi_Hp} {a0 : Nat} {a1 : Nat}  : zv 3 95 101 [.ref a0, .ref a1] [] h = zv 3 95 102 [.ref a0, .ref a1] [.int 0] h := by
  refine Eq.trans (zs_ic f95_101 ic_0) ?_
  rfl
theorem b95_102 {h : zi_Hp} {a0 : Nat} {a1 : Nat} {s0 : Int32} (g0 : s0 = 0 ∨ s0 = 1) : zv 3 95 102 [.ref a0, .ref a1] [.int s0] h = some (some (.int s0), h) := by
  exact zs_ret1 f95_102 g0
set_option maxRecDepth 20000 in
theorem zq96 : zi_M[96]? = some zi_m96 := rfl
theorem zl96_0 {pc : Nat} (_ : 0 ≤ pc) : zi_fe 96 pc = zu96_0.lookup pc := zi_feA zq96 pc
theorem f96_0 : zi_fe 96 0 = some ((.iconst 0), 1, 0, 0, 0, 0, 0) := (zl96_0 (Nat.le_of_ble_eq_true rfl)).trans rfl
theorem f96_1 : zi_fe 96 1 = some ((.istore_n 1), 1, 0, 0, 0, 0, 0) := (zl96_0 (Nat.le_of_ble_eq_true rfl)).trans rfl
theorem f96_2 : zi_fe 96 2 = some ((.iconst 0), 1, 0, 0, 0, 0, 0) := (zl96_0 (Nat.le_of_ble_eq_true rfl)).trans rfl
theorem f96_3 : zi_fe 96 3 = some ((.istore_n 2), 1, 0, 0, 0, 0, 0) := (zl96_0 (Nat.le_of_ble_eq_true rfl)).trans rfl
theorem f96_4 : zi_fe 96 4 = some ((.iload_n 2), 1, 0, 0, 0, 0, 0) := (zl96_0 (Nat.le_of_ble_eq_true rfl)).trans rfl
theorem f96_5 : zi_fe 96 5 = some ((.iconst 3), 1, 0, 0, 0, 0, 0) := (zl96_0 (Nat.le_of_ble_eq_true rfl)).trans rfl
theorem f96_6 : zi_fe 96 6 = some ((.if_icmp .ge 23), 3, 0, 0, 0, 0, 0) := (zl96_0 (Nat.le_of_ble_eq_true rfl)).trans rfl
theorem f96_9 : zi_fe 96 9 = some ((.aload_n 0), 1, 0, 0, 0, 0, 0) := (zl96_0 (Nat.le_of_ble_eq_true rfl)).trans rfl
theorem f96_10 : zi_fe 96 10 = some ((.iload_n 2), 1, 0, 0, 0, 0, 0) := (zl96_0 (Nat.le_of_ble_eq_true rfl)).trans rfl
theorem f96_11 : zi_fe 96 11 = some ((.invokevirtual 82), 3, 94, 0, 6, 602, 2) := (zl96_0 (Nat.le_of_ble_eq_true rfl)).trans rfl
theorem f96_14 : zi_fe 96 14 = some ((.ifCond .eq 9), 3, 0, 0, 0, 0, 0) := (zl96_0 (Nat.le_of_ble_eq_true rfl)).trans rfl
theorem f96_17 : zi_fe 96 17 = some ((.iload_n 1), 1, 0, 0, 0, 0, 0) := (zl96_0 (Nat.le_of_ble_eq_true rfl)).trans rfl
theorem zl96_1 {pc : Nat} (h : 18 ≤ pc) : zi_fe 96 pc = zu96_1.lookup pc := (zl96_0 (Nat.le_trans (Nat.le_of_ble_eq_true rfl) h)).trans (zi_lkA (a := zi_i96_0) (c := 18) rfl h)
theorem f96_18 : zi_fe 96 18 = some ((.iconst 1), 1, 0, 0, 0, 0, 0) := (zl96_1 (Nat.le_of_ble_eq_true rfl)).trans rfl
theorem f96_19 : zi_fe 96 19 = some ((.iload_n 2), 1, 0, 0, 0, 0, 0) := (zl96_1 (Nat.le_of_ble_eq_true rfl)).trans rfl
theorem f96_20 : zi_fe 96 20 = some (.ishl, 1, 0, 0, 0, 0, 0) := (zl96_1 (Nat.le_of_ble_eq_true rfl)).trans rfl
theorem f96_21 : zi_fe 96 21 = some (.ior, 1, 0, 0, 0, 0, 0) := (zl96_1 (Nat.le_of_ble_eq_true rfl)).trans rfl
theorem f96_22 : zi_fe 96 22 = some ((.istore_n 1), 1, 0, 0, 0, 0, 0) := (zl96_1 (Nat.le_of_ble_eq_true rfl)).trans rfl
theorem f96_23 : zi_fe 96 23 = some ((.iinc 2 1), 3, 0, 0, 0, 0, 0) := (zl96_1 (Nat.le_of_ble_eq_true rfl)).trans rfl
theorem f96_26 : zi_fe 96 26 = some ((.goto (-22)), 3, 0, 0, 0, 0, 0) := (zl96_1 (Nat.le_of_ble_eq_true rfl)).trans rfl
theorem f96_29 : zi_fe 96 29 = some ((.iload_n 1), 1, 0, 0, 0, 0, 0) := (zl96_1 (Nat.le_of_ble_eq_true rfl)).trans rfl
theorem f96_30 : zi_fe 96 30 = some (.ireturn, 1, 0, 0, 0, 0, 0) := (zl96_1 (Nat.le_of_ble_eq_true rfl)).trans rfl
theorem b96_0 {h : zi_Hp} {a0 : Nat} {u1 : Value} {u2 : Value}  : zv 5 96 0 [.ref a0, u1, u2] [] h = zv 5 96 4 [.ref a0, .int 0, .int 0] [] h := by
  refine Eq.trans (zs_ic f96_0 ic_0) ?_
  refine Eq.trans (zv_next f96_1 rfl) ?_
  refine Eq.trans (zs_ic f96_2 ic_0) ?_
  refine Eq.trans (zv_next f96_3 rfl) ?_
  rfl
theorem b96_4 {h : zi_Hp} {a0 : Nat} {x1 : Int32} {x2 : Int32}  : zv 5 96 4 [.ref a0, .int x1, .int x2] [] h = if x2 < 3 then zv 5 96 9 [.ref a0, .int x1, .int x2] [] h else zv 5 96 29 [.ref a0, .int x1, .int x2] [] h := by
  refine Eq.trans (zv_next f96_4 rfl) ?_
  refine Eq.trans (zs_ic f96_5 ic_3) ?_
  exact zs_icmp f96_6 rfl
theorem b96_9 {h : zi_Hp} {a0 : Nat} {x1 : Int32} {x2 : Int32} (g0 : a0 < zh_n h) (g1 : (zh_k h a0).1 = 6) : zv 5 96 9 [.ref a0, .int x1, .int x2] [] h = (zv 4 94 0 [.ref a0, .int x2, .double 0] [] h).bind fun r => zv 5 96 14 [.ref a0, .int x1, .int x2] (r.1.toList ++ []) r.2 := by
  refine Eq.trans (zv_next f96_9 rfl) ?_
  refine Eq.trans (zv_next f96_10 rfl) ?_
  exact zs_callV f96_11 (Nat.le_of_ble_eq_true rfl) (Nat.le_of_ble_eq_true rfl) rfl g0 g1 me_94 (by decide) rfl
theorem b96_14 {h : zi_Hp} {a0 : Nat} {x1 : Int32} {x2 : Int32} {s0 : Int32}  : zv 5 96 14 [.ref a0, .int x1, .int x2] [.int s0] h = if s0 = 0 then zv 5 96 23 [.ref a0, .int x1, .int x2] [] h else zv 5 96 17 [.ref a0, .int x1, .int x2] [] h := by
  exact zs_if f96_14 rfl
theorem b96_17 {h : zi_Hp} {a0 : Nat} {x1 : Int32} {x2 : Int32}  : zv 5 96 17 [.ref a0, .int x1, .int x2] [] h = zv 5 96 23 [.ref a0, .int (x1 ||| (1 <<< (x2 &&& 31))), .int x2] [] h := by
  refine Eq.trans (zv_next f96_17 rfl) ?_
  refine Eq.trans (zs_ic f96_18 ic_1) ?_
  refine Eq.trans (zv_next f96_19 rfl) ?_
  refine Eq.trans (zv_next f96_20 rfl) ?_
  refine Eq.trans (zv_next f96_21 rfl) ?_
  refine Eq.trans (zv_next f96_22 rfl) ?_
  rfl
theorem b96_23 {h : zi_Hp} {a0 : Nat} {x1 : Int32} {x2 : Int32}  : zv 5 96 23 [.ref a0, .int x1, .int x2] [] h = zv 5 96 4 [.ref a0, .int x1, .int (x2 + 1)] [] h := by
  refine Eq.trans (zs_inc f96_23 rfl ic_1 rfl) ?_
  refine Eq.trans (zs_goto (tgt := 4) f96_26 rfl) ?_
  rfl
theorem b96_29 {h : zi_Hp} {a0 : Nat} {x1 : Int32} {x2 : Int32}  : zv 5 96 29 [.ref a0, .int x1, .int x2] [] h = some (some (.int x1), h) := by
  refine Eq.trans (zv_next f96_29 rfl) ?_
  exact zs_ret0 f96_30
set_option maxRecDepth 20000 in
theorem zq97 : zi_M[97]? = some zi_m97 := rfl
theorem zl97_0 {pc : Nat} (_ : 0 ≤ pc) : zi_fe 97 pc = zu97_0.lookup pc := zi_feA zq97 pc
theorem f97_0 : zi_fe 97 0 = some ((.iconst 0), 1, 0, 0, 0, 0, 0) := (zl97_0 (Nat.le_of_ble_eq_true rfl)).trans rfl
theorem f97_1 : zi_fe 97 1 = some ((.istore_n 2), 1, 0, 0, 0, 0, 0) := (zl97_0 (Nat.le_of_ble_eq_true rfl)).trans rfl
theorem f97_2 : zi_fe 97 2 = some ((.iload_n 2), 1, 0, 0, 0, 0, 0) := (zl97_0 (Nat.le_of_ble_eq_true rfl)).trans rfl
theorem f97_3 : zi_fe 97 3 = some ((.iconst 3), 1, 0, 0, 0, 0, 0) := (zl97_0 (Nat.le_of_ble_eq_true rfl)).trans rfl
theorem f97_4 : zi_fe 97 4 = some ((.if_icmp .ge 24), 3, 0, 0, 0, 0, 0) := (zl97_0 (Nat.le_of_ble_eq_true rfl)).trans rfl
theorem f97_7 : zi_fe 97 7 = some ((.aload_n 0), 1, 0, 0, 0, 0, 0) := (zl97_0 (Nat.le_of_ble_eq_true rfl)).trans rfl
theorem f97_8 : zi_fe 97 8 = some ((.getfield 21), 3, 6, 1, 3, 256, 0) := (zl97_0 (Nat.le_of_ble_eq_true rfl)).trans rfl
theorem f97_11 : zi_fe 97 11 = some ((.iload_n 2), 1, 0, 0, 0, 0, 0) := (zl97_0 (Nat.le_of_ble_eq_true rfl)).trans rfl
theorem f97_12 : zi_fe 97 12 = some (.aaload, 1, 0, 0, 0, 0, 0) := (zl97_0 (Nat.le_of_ble_eq_true rfl)).trans rfl
theorem f97_13 : zi_fe 97 13 = some ((.iload_n 1), 1, 0, 0, 0, 0, 0) := (zl97_0 (Nat.le_of_ble_eq_true rfl)).trans rfl
theorem f97_14 : zi_fe 97 14 = some ((.invokevirtual 247), 3, 5, 0, 0, 634, 2) := (zl97_0 (Nat.le_of_ble_eq_true rfl)).trans rfl
theorem f97_17 : zi_fe 97 17 = some ((.ifCond .eq 5), 3, 0, 0, 0, 0, 0) := (zl97_0 (Nat.le_of_ble_eq_true rfl)).trans rfl
theorem zl97_1 {pc : Nat} (h : 20 ≤ pc) : zi_fe 97 pc = zu97_1.lookup pc := (zl97_0 (Nat.le_trans (Nat.le_of_ble_eq_true rfl) h)).trans (zi_lkA (a := zi_i97_0) (c := 20) rfl h)
theorem f97_20 : zi_fe 97 20 = some ((.iload_n 2), 1, 0, 0, 0, 0, 0) := (zl97_1 (Nat.le_of_ble_eq_true rfl)).trans rfl
theorem f97_21 : zi_fe 97 21 = some (.ireturn, 1, 0, 0, 0, 0, 0) := (zl97_1 (Nat.le_of_ble_eq_true rfl)).trans rfl
theorem f97_22 : zi_fe 97 22 = some ((.iinc 2 1), 3, 0, 0, 0, 0, 0) := (zl97_1 (Nat.le_of_ble_eq_true rfl)).trans rfl
theorem f97_25 : zi_fe 97 25 = some ((.goto (-23)), 3, 0, 0, 0, 0, 0) := (zl97_1 (Nat.le_of_ble_eq_true rfl)).trans rfl
theorem f97_28 : zi_fe 97 28 = some ((.bipush (-4)), 2, 0, 0, 0, 0, 0) := (zl97_1 (Nat.le_of_ble_eq_true rfl)).trans rfl
theorem f97_30 : zi_fe 97 30 = some (.ireturn, 1, 0, 0, 0, 0, 0) := (zl97_1 (Nat.le_of_ble_eq_true rfl)).trans rfl
theorem b97_0 {h : zi_Hp} {a0 : Nat} {x1 : Int32} {u2 : Value}  : zv 2 97 0 [.ref a0, .int x1, u2] [] h = zv 2 97 2 [.ref a0, .int x1, .int 0] [] h := by
  refine Eq.trans (zs_ic f97_0 ic_0) ?_
  refine Eq.trans (zv_next f97_1 rfl) ?_
  rfl
theorem b97_2 {h : zi_Hp} {a0 : Nat} {x1 : Int32} {x2 : Int32}  : zv 2 97 2 [.ref a0, .int x1, .int x2] [] h = if x2 < 3 then zv 2 97 7 [.ref a0, .int x1, .int x2] [] h else zv 2 97 28 [.ref a0, .int x1, .int x2] [] h := by
  refine Eq.trans (zv_next f97_2 rfl) ?_
  refine Eq.trans (zs_ic f97_3 ic_3) ?_
  exact zs_icmp f97_4 rfl
theorem b97_7 {h : zi_Hp} {a0 : Nat} {x1 : Int32} {x2 : Int32} (g0 : a0 < zh_n h) (g1 : (zh_k h a0).1 = 6) (g2 : zh_r h a0 1 = .ref (zq (zh_r h a0 1))) (g3 : (zq (zh_r h a0 1)) < zh_n h) (g4 : ¬ (x2 < 0 ∨ (zh_k h (zq (zh_r h a0 1))).2 ≤ x2.toNatClampNeg)) (g5 : (zh_k h (zq (zh_r h a0 1))).1 = 103 ∨ (zh_k h (zq (zh_r h a0 1))).1 = 104 ∨ (zh_k h (zq (zh_r h a0 1))).1 = 105) (g6 : zh_r h (zq (zh_r h a0 1)) x2.toNatClampNeg = .ref (zq (zh_r h (zq (zh_r h a0 1)) x2.toNatClampNeg))) (g7 : (zq (zh_r h (zq (zh_r h a0 1)) x2.toNatClampNeg)) < zh_n h) (g8 : (zh_k h (zq (zh_r h (zq (zh_r h a0 1)) x2.toNatClampNeg))).1 = 0) : zv 2 97 7 [.ref a0, .int x1, .int x2] [] h = (zv 1 5 0 [.ref (zq (zh_r h (zq (zh_r h a0 1)) x2.toNatClampNeg)), .int x1] [] h).bind fun r => zv 2 97 17 [.ref a0, .int x1, .int x2] (r.1.toList ++ []) r.2 := by
  refine Eq.trans (zv_next f97_7 rfl) ?_
  refine Eq.trans (zs_getr f97_8 g0 g1 g2) ?_
  refine Eq.trans (zv_next f97_11 rfl) ?_
  refine Eq.trans (zs_aald f97_12 g3 g5 g4 g6) ?_
  refine Eq.trans (zv_next f97_13 rfl) ?_
  exact zs_callV f97_14 (Nat.le_of_ble_eq_true rfl) (Nat.le_of_ble_eq_true rfl) rfl g7 g8 me_5 (by decide) rfl
theorem b97_17 {h : zi_Hp} {a0 : Nat} {x1 : Int32} {x2 : Int32} {s0 : Int32}  : zv 2 97 17 [.ref a0, .int x1, .int x2] [.int s0] h = if s0 = 0 then zv 2 97 22 [.ref a0, .int x1, .int x2] [] h else zv 2 97 20 [.ref a0, .int x1, .int x2] [] h := by
  exact zs_if f97_17 rfl
theorem b97_20 {h : zi_Hp} {a0 : Nat} {x1 : Int32} {x2 : Int32}  : zv 2 97 20 [.ref a0, .int x1, .int x2] [] h = some (some (.int x2), h) := by
  refine Eq.trans (zv_next f97_20 rfl) ?_
  exact zs_ret0 f97_21
theorem b97_22 {h : zi_Hp} {a0 : Nat} {x1 : Int32} {x2 : Int32}  : zv 2 97 22 [.ref a0, .int x1, .int x2] [] h = zv 2 97 2 [.ref a0, .int x1, .int (x2 + 1)] [] h := by
  refine Eq.trans (zs_inc f97_22 rfl ic_1 rfl) ?_
  refine Eq.trans (zs_goto (tgt := 2) f97_25 rfl) ?_
  rfl
theorem b97_28 {h : zi_Hp} {a0 : Nat} {x1 : Int32} {x2 : Int32}  : zv 2 97 28 [.ref a0, .int x1, .int x2] [] h = some (some (.int (-4)), h) := by
  refine Eq.trans (zs_bp f97_28 bp_m4) ?_
  exact zs_ret0 f97_30
set_option maxRecDepth 20000 in
theorem zq98 : zi_M[98]? = some zi_m98 := rfl
theorem zl98_0 {pc : Nat} (_ : 0 ≤ pc) : zi_fe 98 pc = zu98_0.lookup pc := zi_feA zq98 pc
theorem f98_0 : zi_fe 98 0 = some ((.iconst 0), 1, 0, 0, 0, 0, 0) := (zl98_0 (Nat.le_of_ble_eq_true rfl)).trans rfl
theorem f98_1 : zi_fe 98 1 = some ((.istore_n 1), 1, 0, 0, 0, 0, 0) := (zl98_0 (Nat.le_of_ble_eq_true rfl)).trans rfl
theorem f98_2 : zi_fe 98 2 = some ((.iconst 0), 1, 0, 0, 0, 0, 0) := (zl98_0 (Nat.le_of_ble_eq_true rfl)).trans rfl
theorem f98_3 : zi_fe 98 3 = some ((.istore_n 2), 1, 0, 0, 0, 0, 0) := (zl98_0 (Nat.le_of_ble_eq_true rfl)).trans rfl
theorem f98_4 : zi_fe 98 4 = some ((.iload_n 2), 1, 0, 0, 0, 0, 0) := (zl98_0 (Nat.le_of_ble_eq_true rfl)).trans rfl
theorem f98_5 : zi_fe 98 5 = some ((.aload_n 0), 1, 0, 0, 0, 0, 0) := (zl98_0 (Nat.le_of_ble_eq_true rfl)).trans rfl
theorem f98_6 : zi_fe 98 6 = some ((.getfield 12), 3, 6, 0, 3, 253, 0) := (zl98_0 (Nat.le_of_ble_eq_true rfl)).trans rfl
theorem f98_9 : zi_fe 98 9 = some ((.getfield 250), 3, 4, 0, 0, 140, 0) := (zl98_0 (Nat.le_of_ble_eq_true rfl)).trans rfl
theorem f98_12 : zi_fe 98 12 = some ((.if_icmp .ge 20), 3, 0, 0, 0, 0, 0) := (zl98_0 (Nat.le_of_ble_eq_true rfl)).trans rfl
theorem f98_15 : zi_fe 98 15 = some ((.aload_n 0), 1, 0, 0, 0, 0, 0) := (zl98_0 (Nat.le_of_ble_eq_true rfl)).trans rfl
theorem f98_16 : zi_fe 98 16 = some ((.iload_n 2), 1, 0, 0, 0, 0, 0) := (zl98_0 (Nat.le_of_ble_eq_true rfl)).trans rfl
theorem f98_17 : zi_fe 98 17 = some ((.invokevirtual 241), 3, 97, 0, 6, 630, 2) := (zl98_0 (Nat.le_of_ble_eq_true rfl)).trans rfl
theorem zl98_1 {pc : Nat} (h : 20 ≤ pc) : zi_fe 98 pc = zu98_1.lookup pc := (zl98_0 (Nat.le_trans (Nat.le_of_ble_eq_true rfl) h)).trans (zi_lkA (a := zi_i98_0) (c := 20) rfl h)
theorem f98_20 : zi_fe 98 20 = some ((.ifCond .lt 6), 3, 0, 0, 0, 0, 0) := (zl98_1 (Nat.le_of_ble_eq_true rfl)).trans rfl
theorem f98_23 : zi_fe 98 23 = some ((.iinc 1 1), 3, 0, 0, 0, 0, 0) := (zl98_1 (Nat.le_of_ble_eq_true rfl)).trans rfl
theorem f98_26 : zi_fe 98 26 = some ((.iinc 2 1), 3, 0, 0, 0, 0, 0) := (zl98_1 (Nat.le_of_ble_eq_true rfl)).trans rfl
theorem f98_29 : zi_fe 98 29 = some ((.goto (-25)), 3, 0, 0, 0, 0, 0) := (zl98_1 (Nat.le_of_ble_eq_true rfl)).trans rfl
theorem f98_32 : zi_fe 98 32 = some ((.iload_n 1), 1, 0, 0, 0, 0, 0) := (zl98_1 (Nat.le_of_ble_eq_true rfl)).trans rfl
theorem f98_33 : zi_fe 98 33 = some (.ireturn, 1, 0, 0, 0, 0, 0) := (zl98_1 (Nat.le_of_ble_eq_true rfl)).trans rfl
theorem b98_0 {h : zi_Hp} {a0 : Nat} {u1 : Value} {u2 : Value}  : zv 3 98 0 [.ref a0, u1, u2] [] h = zv 3 98 4 [.ref a0, .int 0, .int 0] [] h := by
  refine Eq.trans (zs_ic f98_0 ic_0) ?_
  refine Eq.trans (zv_next f98_1 rfl) ?_
  refine Eq.trans (zs_ic f98_2 ic_0) ?_
  refine Eq.trans (zv_next f98_3 rfl) ?_
  rfl
theorem b98_4 {h : zi_Hp} {a0 : Nat} {x1 : Int32} {x2 : Int32} (g0 : a0 < zh_n h) (g1 : (zh_k h a0).1 = 6) (g2 : zh_r h a0 0 = .ref (zq (zh_r h a0 0))) (g3 : (zq (zh_r h a0 0)) < zh_n h) (g4 : (zh_k h (zq (zh_r h a0 0))).1 = 4) : zv 3 98 4 [.ref a0, .int x1, .int x2] [] h = if x2 < (zh_i h (zq (zh_r h a0 0)) 0) then zv 3 98 15 [.ref a0, .int x1, .int x2] [] h else zv 3 98 32 [.ref a0, .int x1, .int x2] [] h := by
  refine Eq.trans (zv_next f98_4 rfl) ?_
  refine Eq.trans (zv_next f98_5 rfl) ?_
  refine Eq.trans (zs_getr f98_6 g0 g1 g2) ?_
  refine Eq.trans (zs_geti f98_9 g3 g4) ?_
  exact zs_icmp f98_12 rfl
theorem b98_15 {h : zi_Hp} {a0 : Nat} {x1 : Int32} {x2 : Int32} (g0 : a0 < zh_n h) (g1 : (zh_k h a0).1 = 6) : zv 3 98 15 [.ref a0, .int x1, .int x2] [] h = (zv 2 97 0 [.ref a0, .int x2, .double 0] [] h).bind fun r => zv 3 98 20 [.ref a0, .int x1, .int x2] (r.1.toList ++ []) r.2 := by
  refine Eq.trans (zv_next f98_15 rfl) ?_
  refine Eq.trans (zv_next f98_16 rfl) ?_
  exact zs_callV f98_17 (Nat.le_of_ble_eq_true rfl) (Nat.le_of_ble_eq_true rfl) rfl g0 g1 me_97 (by decide) rfl
theorem b98_20 {h : zi_Hp} {a0 : Nat} {x1 : Int32} {x2 : Int32} {s0 : Int32}  : zv 3 98 20 [.ref a0, .int x1, .int x2] [.int s0] h = if s0 < 0 then zv 3 98 26 [.ref a0, .int x1, .int x2] [] h else zv 3 98 23 [.ref a0, .int x1, .int x2] [] h := by
  exact zs_if f98_20 rfl
theorem b98_23 {h : zi_Hp} {a0 : Nat} {x1 : Int32} {x2 : Int32}  : zv 3 98 23 [.ref a0, .int x1, .int x2] [] h = zv 3 98 26 [.ref a0, .int (x1 + 1), .int x2] [] h := by
  refine Eq.trans (zs_inc f98_23 rfl ic_1 rfl) ?_
  rfl
theorem b98_26 {h : zi_Hp} {a0 : Nat} {x1 : Int32} {x2 : Int32}  : zv 3 98 26 [.ref a0, .int x1, .int x2] [] h = zv 3 98 4 [.ref a0, .int x1, .int (x2 + 1)] [] h := by
  refine Eq.trans (zs_inc f98_26 rfl ic_1 rfl) ?_
  refine Eq.trans (zs_goto (tgt := 4) f98_29 rfl) ?_
  rfl
theorem b98_32 {h : zi_Hp} {a0 : Nat} {x1 : Int32} {x2 : Int32}  : zv 3 98 32 [.ref a0, .int x1, .int x2] [] h = some (some (.int x1), h) := by
  refine Eq.trans (zv_next f98_32 rfl) ?_
  exact zs_ret0 f98_33
set_option maxRecDepth 20000 in
theorem zq99 : zi_M[99]? = some zi_m99 := rfl
theorem zl99_0 {pc : Nat} (_ : 0 ≤ pc) : zi_fe 99 pc = zu99_0.lookup pc := zi_feA zq99 pc
theorem f99_0 : zi_fe 99 0 = some ((.iconst 0), 1, 0, 0, 0, 0, 0) := (zl99_0 (Nat.le_of_ble_eq_true rfl)).trans rfl
theorem f99_1 : zi_fe 99 1 = some ((.istore_n 1), 1, 0, 0, 0, 0, 0) := (zl99_0 (Nat.le_of_ble_eq_true rfl)).trans rfl
theorem f99_2 : zi_fe 99 2 = some ((.iload_n 1), 1, 0, 0, 0, 0, 0) := (zl99_0 (Nat.le_of_ble_eq_true rfl)).trans rfl
theorem f99_3 : zi_fe 99 3 = some ((.iconst 3), 1, 0, 0, 0, 0, 0) := (zl99_0 (Nat.le_of_ble_eq_true rfl)).trans rfl
theorem f99_4 : zi_fe 99 4 = some ((.if_icmp .ge 43), 3, 0, 0, 0, 0, 0) := (zl99_0 (Nat.le_of_ble_eq_true rfl)).trans rfl
theorem f99_7 : zi_fe 99 7 = some ((.aload_n 0), 1, 0, 0, 0, 0, 0) := (zl99_0 (Nat.le_of_ble_eq_true rfl)).trans rfl
theorem f99_8 : zi_fe 99 8 = some ((.getfield 21), 3, 6, 1, 3, 256, 0) := (zl99_0 (Nat.le_of_ble_eq_true rfl)).trans rfl
theorem f99_11 : zi_fe 99 11 = some ((.iload_n 1), 1, 0, 0, 0, 0, 0) := (zl99_0 (Nat.le_of_ble_eq_true rfl)).trans rfl
theorem f99_12 : zi_fe 99 12 = some (.aaload, 1, 0, 0, 0, 0, 0) := (zl99_0 (Nat.le_of_ble_eq_true rfl)).trans rfl
theorem f99_13 : zi_fe 99 13 = some ((.getfield 135), 3, 0, 3, 0, 207, 0) := (zl99_0 (Nat.le_of_ble_eq_true rfl)).trans rfl
theorem f99_16 : zi_fe 99 16 = some ((.istore_n 2), 1, 0, 0, 0, 0, 0) := (zl99_0 (Nat.le_of_ble_eq_true rfl)).trans rfl
theorem f99_17 : zi_fe 99 17 = some ((.aload_n 0), 1, 0, 0, 0, 0, 0) := (zl99_0 (Nat.le_of_ble_eq_true rfl)).trans rfl
theorem zl99_1 {pc : Nat} (h : 18 ≤ pc) : zi_fe 99 pc = zu99_1.lookup pc := (zl99_0 (Nat.le_trans (Nat.le_of_ble_eq_true rfl) h)).trans (zi_lkA (a := zi_i99_0) (c := 18) rfl h)
theorem f99_18 : zi_fe 99 18 = some ((.getfield 21), 3, 6, 1, 3, 256, 0) := (zl99_1 (Nat.le_of_ble_eq_true rfl)).trans rfl
theorem f99_21 : zi_fe 99 21 = some ((.iload_n 1), 1, 0, 0, 0, 0, 0) := (zl99_1 (Nat.le_of_ble_eq_true rfl)).trans rfl
theorem f99_22 : zi_fe 99 22 = some (.aaload, 1, 0, 0, 0, 0, 0) := (zl99_1 (Nat.le_of_ble_eq_true rfl)).trans rfl
theorem f99_23 : zi_fe 99 23 = some ((.iload_n 2), 1, 0, 0, 0, 0, 0) := (zl99_1 (Nat.le_of_ble_eq_true rfl)).trans rfl
theorem f99_24 : zi_fe 99 24 = some ((.invokevirtual 247), 3, 5, 0, 0, 634, 2) := (zl99_1 (Nat.le_of_ble_eq_true rfl)).trans rfl
theorem f99_27 : zi_fe 99 27 = some ((.ifCond .eq 14), 3, 0, 0, 0, 0, 0) := (zl99_1 (Nat.le_of_ble_eq_true rfl)).trans rfl
theorem f99_30 : zi_fe 99 30 = some ((.aload_n 0), 1, 0, 0, 0, 0, 0) := (zl99_1 (Nat.le_of_ble_eq_true rfl)).trans rfl
theorem f99_31 : zi_fe 99 31 = some ((.iload_n 2), 1, 0, 0, 0, 0, 0) := (zl99_1 (Nat.le_of_ble_eq_true rfl)).trans rfl
theorem f99_32 : zi_fe 99 32 = some ((.invokevirtual 241), 3, 97, 0, 6, 630, 2) := (zl99_1 (Nat.le_of_ble_eq_true rfl)).trans rfl
theorem f99_35 : zi_fe 99 35 = some ((.iload_n 1), 1, 0, 0, 0, 0, 0) := (zl99_1 (Nat.le_of_ble_eq_true rfl)).trans rfl
theorem f99_36 : zi_fe 99 36 = some ((.if_icmp .eq 5), 3, 0, 0, 0, 0, 0) := (zl99_1 (Nat.le_of_ble_eq_true rfl)).trans rfl
theorem f99_39 : zi_fe 99 39 = some ((.iconst 1), 1, 0, 0, 0, 0, 0) := (zl99_1 (Nat.le_of_ble_eq_true rfl)).trans rfl
theorem zl99_2 {pc : Nat} (h : 40 ≤ pc) : zi_fe 99 pc = zu99_2.lookup pc := (zl99_1 (Nat.le_trans (Nat.le_of_ble_eq_true rfl) h)).trans (zi_lkA (a := zi_i99_1) (c := 40) rfl h)
theorem f99_40 : zi_fe 99 40 = some (.ireturn, 1, 1, 0, 0, 0, 0) := (zl99_2 (Nat.le_of_ble_eq_true rfl)).trans rfl
theorem f99_41 : zi_fe 99 41 = some ((.iinc 1 1), 3, 0, 0, 0, 0, 0) := (zl99_2 (Nat.le_of_ble_eq_true rfl)).trans rfl
theorem f99_44 : zi_fe 99 44 = some ((.goto (-42)), 3, 0, 0, 0, 0, 0) := (zl99_2 (Nat.le_of_ble_eq_true rfl)).trans rfl
theorem f99_47 : zi_fe 99 47 = some ((.iconst 0), 1, 0, 0, 0, 0, 0) := (zl99_2 (Nat.le_of_ble_eq_true rfl)).trans rfl
theorem f99_48 : zi_fe 99 48 = some (.ireturn, 1, 1, 0, 0, 0, 0) := (zl99_2 (Nat.le_of_ble_eq_true rfl)).trans rfl
theorem b99_0 {h : zi_Hp} {a0 : Nat} {u1 : Value} {u2 : Value}  : zv 3 99 0 [.ref a0, u1, u2] [] h = zv 3 99 2 [.ref a0, .int 0, u2] [] h := by
  refine Eq.trans (zs_ic f99_0 ic_0) ?_
  refine Eq.trans (zv_next f99_1 rfl) ?_
  rfl
theorem b99_2 {h : zi_Hp} {a0 : Nat} {x1 : Int32} {u2 : Value}  : zv 3 99 2 [.ref a0, .int x1, u2] [] h = if x1 < 3 then zv 3 99 7 [.ref a0, .int x1, u2] [] h else zv 3 99 47 [.ref a0, .int x1, u2] [] h := by
  refine Eq.trans (zv_next f99_2 rfl) ?_
  refine Eq.trans (zs_ic f99_3 ic_3) ?_
  exact zs_icmp f99_4 rfl
theorem b99_7 {h : zi_Hp} {a0 : Nat} {x1 : Int32} {u2 : Value} (g0 : a0 < zh_n h) (g1 : (zh_k h a0).1 = 6) (g2 : zh_r h a0 1 = .ref (zq (zh_r h a0 1))) (g3 : (zq (zh_r h a0 1)) < zh_n h) (g4 : ¬ (x1 < 0 ∨ (zh_k h (zq (zh_r h a0 1))).2 ≤ x1.toNatClampNeg)) (g5 : (zh_k h (zq (zh_r h a0 1))).1 = 103 ∨ (zh_k h (zq (zh_r h a0 1))).1 = 104 ∨ (zh_k h (zq (zh_r h a0 1))).1 = 105) (g6 : zh_r h (zq (zh_r h a0 1)) x1.toNatClampNeg = .ref (zq (zh_r h (zq (zh_r h a0 1)) x1.toNatClampNeg))) (g7 : (zq (zh_r h (zq (zh_r h a0 1)) x1.toNatClampNeg)) < zh_n h) (g8 : (zh_k h (zq (zh_r h (zq (zh_r h a0 1)) x1.toNatClampNeg))).1 = 0) : zv 3 99 7 [.ref a0, .int x1, u2] [] h = (zv 1 5 0 [.ref (zq (zh_r h (zq (zh_r h a0 1)) x1.toNatClampNeg)), .int (zh_i h (zq (zh_r h (zq (zh_r h a0 1)) x1.toNatClampNeg)) 3)] [] h).bind fun r => zv 3 99 27 [.ref a0, .int x1, .int (zh_i h (zq (zh_r h (zq (zh_r h a0 1)) x1.toNatClampNeg)) 3)] (r.1.toList ++ []) r.2 := by
  refine Eq.trans (zv_next f99_7 rfl) ?_
  refine Eq.trans (zs_getr f99_8 g0 g1 g2) ?_
  refine Eq.trans (zv_next f99_11 rfl) ?_
  refine Eq.trans (zs_aald f99_12 g3 g5 g4 g6) ?_
  refine Eq.trans (zs_geti f99_13 g7 g8) ?_
  refine Eq.trans (zv_next f99_16 rfl) ?_
  refine Eq.trans (zv_next f99_17 rfl) ?_
  refine Eq.trans (zs_getr f99_18 g0 g1 g2) ?_
  refine Eq.trans (zv_next f99_21 rfl) ?_
  refine Eq.trans (zs_aald f99_22 g3 g5 g4 g6) ?_
  refine Eq.trans (zv_next f99_23 rfl) ?_
  exact zs_callV f99_24 (Nat.le_of_ble_eq_true rfl) (Nat.le_of_ble_eq_true rfl) rfl g7 g8 me_5 (by decide) rfl
theorem b99_27 {h : zi_Hp} {a0 : Nat} {x1 : Int32} {x2 : Int32} {s0 : Int32}  : zv 3 99 27 [.ref a0, .int x1, .int x2] [.int s0] h = if s0 = 0 then zv 3 99 41 [.ref a0, .int x1, .int x2] [] h else zv 3 99 30 [.ref a0, .int x1, .int x2] [] h := by
  exact zs_if f99_27 rfl
theorem b99_30 {h : zi_Hp} {a0 : Nat} {x1 : Int32} {x2 : Int32} (g0 : a0 < zh_n h) (g1 : (zh_k h a0).1 = 6) : zv 3 99 30 [.ref a0, .int x1, .int x2] [] h = (zv 2 97 0 [.ref a0, .int x2, .double 0] [] h).bind fun r => zv 3 99 35 [.ref a0, .int x1, .int x2] (r.1.toList ++ []) r.2 := by
  refine Eq.trans (zv_next f99_30 rfl) ?_
  refine Eq.trans (zv_next f99_31 rfl) ?_
  exact zs_callV f99_32 (Nat.le_of_ble_eq_true rfl) (Nat.le_of_ble_eq_true rfl) rfl g0 g1 me_97 (by decide) rfl
theorem b99_35 {h : zi_Hp} {a0 : Nat} {x1 : Int32} {x2 : Int32} {s0 : Int32}  : zv 3 99 35 [.ref a0, .int x1, .int x2] [.int s0] h = if s0 = x1 then zv 3 99 41 [.ref a0, .int x1, .int x2] [] h else zv 3 99 39 [.ref a0, .int x1, .int x2] [] h := by
  refine Eq.trans (zv_next f99_35 rfl) ?_
  exact zs_icmp f99_36 rfl
theorem b99_39 {h : zi_Hp} {a0 : Nat} {x1 : Int32} {x2 : Int32}  : zv 3 99 39 [.ref a0, .int x1, .int x2] [] h = some (some (.int 1), h) := by
  refine Eq.trans (zs_ic f99_39 ic_1) ?_
  exact zs_ret1 f99_40 (by decide)
theorem b99_41 {h : zi_Hp} {a0 : Nat} {x1 : Int32} {x2 : Int32}  : zv 3 99 41 [.ref a0, .int x1, .int x2] [] h = zv 3 99 2 [.ref a0, .int (x1 + 1), .int x2] [] h := by
  refine Eq.trans (zs_inc f99_41 rfl ic_1 rfl) ?_
  refine Eq.trans (zs_goto (tgt := 2) f99_44 rfl) ?_
  rfl
theorem b99_47 {h : zi_Hp} {a0 : Nat} {x1 : Int32} {u2 : Value}  : zv 3 99 47 [.ref a0, .int x1, u2] [] h = some (some (.int 0), h) := by
  refine Eq.trans (zs_ic f99_47 ic_0) ?_
  exact zs_ret1 f99_48 (by decide)
set_option maxRecDepth 20000 in
theorem zq100 : zi_M[100]? = some zi_m100 := rfl
theorem zl100_0 {pc : Nat} (_ : 0 ≤ pc) : zi_fe 100 pc = zu100_0.lookup pc := zi_feA zq100 pc
theorem f100_0 : zi_fe 100 0 = some ((.iconst 0), 1, 0, 0, 0, 0, 0) := (zl100_0 (Nat.le_of_ble_eq_true rfl)).trans rfl
theorem f100_1 : zi_fe 100 1 = some ((.istore_n 1), 1, 0, 0, 0, 0, 0) := (zl100_0 (Nat.le_of_ble_eq_true rfl)).trans rfl
theorem f100_2 : zi_fe 100 2 = some ((.iconst 0), 1, 0, 0, 0, 0, 0) := (zl100_0 (Nat.le_of_ble_eq_true rfl)).trans rfl
theorem f100_3 : zi_fe 100 3 = some ((.istore_n 2), 1, 0, 0, 0, 0, 0) := (zl100_0 (Nat.le_of_ble_eq_true rfl)).trans rfl
theorem f100_4 : zi_fe 100 4 = some ((.iload_n 2), 1, 0, 0, 0, 0, 0) := (zl100_0 (Nat.le_of_ble_eq_true rfl)).trans rfl
theorem f100_5 : zi_fe 100 5 = some ((.iconst 3), 1, 0, 0, 0, 0, 0) := (zl100_0 (Nat.le_of_ble_eq_true rfl)).trans rfl
theorem f100_6 : zi_fe 100 6 = some ((.if_icmp .ge 21), 3, 0, 0, 0, 0, 0) := (zl100_0 (Nat.le_of_ble_eq_true rfl)).trans rfl
theorem f100_9 : zi_fe 100 9 = some ((.iload_n 1), 1, 0, 0, 0, 0, 0) := (zl100_0 (Nat.le_of_ble_eq_true rfl)).trans rfl
theorem f100_10 : zi_fe 100 10 = some ((.aload_n 0), 1, 0, 0, 0, 0, 0) := (zl100_0 (Nat.le_of_ble_eq_true rfl)).trans rfl
theorem f100_11 : zi_fe 100 11 = some ((.getfield 21), 3, 6, 1, 3, 256, 0) := (zl100_0 (Nat.le_of_ble_eq_true rfl)).trans rfl
theorem f100_14 : zi_fe 100 14 = some ((.iload_n 2), 1, 0, 0, 0, 0, 0) := (zl100_0 (Nat.le_of_ble_eq_true rfl)).trans rfl
theorem f100_15 : zi_fe 100 15 = some (.aaload, 1, 0, 0, 0, 0, 0) := (zl100_0 (Nat.le_of_ble_eq_true rfl)).trans rfl
theorem zl100_1 {pc : Nat} (h : 16 ≤ pc) : zi_fe 100 pc = zu100_1.lookup pc := (zl100_0 (Nat.le_trans (Nat.le_of_ble_eq_true rfl) h)).trans (zi_lkA (a := zi_i100_0) (c := 16) rfl h)
theorem f100_16 : zi_fe 100 16 = some ((.getfield 115), 3, 0, 7, 0, 216, 0) := (zl100_1 (Nat.le_of_ble_eq_true rfl)).trans rfl
theorem f100_19 : zi_fe 100 19 = some (.iadd, 1, 0, 0, 0, 0, 0) := (zl100_1 (Nat.le_of_ble_eq_true rfl)).trans rfl
theorem f100_20 : zi_fe 100 20 = some ((.istore_n 1), 1, 0, 0, 0, 0, 0) := (zl100_1 (Nat.le_of_ble_eq_true rfl)).trans rfl
theorem f100_21 : zi_fe 100 21 = some ((.iinc 2 1), 3, 0, 0, 0, 0, 0) := (zl100_1 (Nat.le_of_ble_eq_true rfl)).trans rfl
theorem f100_24 : zi_fe 100 24 = some ((.goto (-20)), 3, 0, 0, 0, 0, 0) := (zl100_1 (Nat.le_of_ble_eq_true rfl)).trans rfl
theorem f100_27 : zi_fe 100 27 = some ((.iload_n 1), 1, 0, 0, 0, 0, 0) := (zl100_1 (Nat.le_of_ble_eq_true rfl)).trans rfl
theorem f100_28 : zi_fe 100 28 = some (.ireturn, 1, 0, 0, 0, 0, 0) := (zl100_1 (Nat.le_of_ble_eq_true rfl)).trans rfl
theorem b100_0 {h : zi_Hp} {a0 : Nat} {u1 : Value} {u2 : Value}  : zv 1 100 0 [.ref a0, u1, u2] [] h = zv 1 100 4 [.ref a0, .int 0, .int 0] [] h := by
  refine Eq.trans (zs_ic f100_0 ic_0) ?_
  refine Eq.trans (zv_next f100_1 rfl) ?_
  refine Eq.trans (zs_ic f100_2 ic_0) ?_
  refine Eq.trans (zv_next f100_3 rfl) ?_
  rfl
theorem b100_4 {h : zi_Hp} {a0 : Nat} {x1 : Int32} {x2 : Int32}  : zv 1 100 4 [.ref a0, .int x1, .int x2] [] h = if x2 < 3 then zv 1 100 9 [.ref a0, .int x1, .int x2] [] h else zv 1 100 27 [.ref a0, .int x1, .int x2] [] h := by
  refine Eq.trans (zv_next f100_4 rfl) ?_
  refine Eq.trans (zs_ic f100_5 ic_3) ?_
  exact zs_icmp f100_6 rfl
theorem b100_9 {h : zi_Hp} {a0 : Nat} {x1 : Int32} {x2 : Int32} (g0 : a0 < zh_n h) (g1 : (zh_k h a0).1 = 6) (g2 : zh_r h a0 1 = .ref (zq (zh_r h a0 1))) (g3 : (zq (zh_r h a0 1)) < zh_n h) (g4 : ¬ (x2 < 0 ∨ (zh_k h (zq (zh_r h a0 1))).2 ≤ x2.toNatClampNeg)) (g5 : (zh_k h (zq (zh_r h a0 1))).1 = 103 ∨ (zh_k h (zq (zh_r h a0 1))).1 = 104 ∨ (zh_k h (zq (zh_r h a0 1))).1 = 105) (g6 : zh_r h (zq (zh_r h a0 1)) x2.toNatClampNeg = .ref (zq (zh_r h (zq (zh_r h a0 1)) x2.toNatClampNeg))) (g7 : (zq (zh_r h (zq (zh_r h a0 1)) x2.toNatClampNeg)) < zh_n h) (g8 : (zh_k h (zq (zh_r h (zq (zh_r h a0 1)) x2.toNatClampNeg))).1 = 0) : zv 1 100 9 [.ref a0, .int x1, .int x2] [] h = zv 1 100 4 [.ref a0, .int (x1 + (zh_i h (zq (zh_r h (zq (zh_r h a0 1)) x2.toNatClampNeg)) 7)), .int (x2 + 1)] [] h := by
  refine Eq.trans (zv_next f100_9 rfl) ?_
  refine Eq.trans (zv_next f100_10 rfl) ?_
  refine Eq.trans (zs_getr f100_11 g0 g1 g2) ?_
  refine Eq.trans (zv_next f100_14 rfl) ?_
  refine Eq.trans (zs_aald f100_15 g3 g5 g4 g6) ?_
  refine Eq.trans (zs_geti f100_16 g7 g8) ?_
  refine Eq.trans (zv_next f100_19 rfl) ?_
  refine Eq.trans (zv_next f100_20 rfl) ?_
  refine Eq.trans (zs_inc f100_21 rfl ic_1 rfl) ?_
  refine Eq.trans (zs_goto (tgt := 4) f100_24 rfl) ?_
  rfl
theorem b100_27 {h : zi_Hp} {a0 : Nat} {x1 : Int32} {x2 : Int32}  : zv 1 100 27 [.ref a0, .int x1, .int x2] [] h = some (some (.int x1), h) := by
  refine Eq.trans (zv_next f100_27 rfl) ?_
  exact zs_ret0 f100_28
set_option maxRecDepth 20000 in
theorem zq101 : zi_M[101]? = some zi_m101 := rfl
theorem zl101_0 {pc : Nat} (_ : 0 ≤ pc) : zi_fe 101 pc = zu101_0.lookup pc := zi_feA zq101 pc
theorem f101_0 : zi_fe 101 0 = some ((.iconst 0), 1, 0, 0, 0, 0, 0) := (zl101_0 (Nat.le_of_ble_eq_true rfl)).trans rfl
theorem f101_1 : zi_fe 101 1 = some ((.istore_n 1), 1, 0, 0, 0, 0, 0) := (zl101_0 (Nat.le_of_ble_eq_true rfl)).trans rfl
theorem f101_2 : zi_fe 101 2 = some ((.iload_n 1), 1, 0, 0, 0, 0, 0) := (zl101_0 (Nat.le_of_ble_eq_true rfl)).trans rfl
theorem f101_3 : zi_fe 101 3 = some ((.iconst 3), 1, 0, 0, 0, 0, 0) := (zl101_0 (Nat.le_of_ble_eq_true rfl)).trans rfl
theorem f101_4 : zi_fe 101 4 = some ((.if_icmp .ge 23), 3, 0, 0, 0, 0, 0) := (zl101_0 (Nat.le_of_ble_eq_true rfl)).trans rfl
theorem f101_7 : zi_fe 101 7 = some ((.aload_n 0), 1, 0, 0, 0, 0, 0) := (zl101_0 (Nat.le_of_ble_eq_true rfl)).trans rfl
theorem f101_8 : zi_fe 101 8 = some ((.getfield 21), 3, 6, 1, 3, 256, 0) := (zl101_0 (Nat.le_of_ble_eq_true rfl)).trans rfl
theorem f101_11 : zi_fe 101 11 = some ((.iload_n 1), 1, 0, 0, 0, 0, 0) := (zl101_0 (Nat.le_of_ble_eq_true rfl)).trans rfl
theorem f101_12 : zi_fe 101 12 = some (.aaload, 1, 0, 0, 0, 0, 0) := (zl101_0 (Nat.le_of_ble_eq_true rfl)).trans rfl
theorem f101_13 : zi_fe 101 13 = some ((.invokevirtual 122), 3, 4, 0, 0, 606, 1) := (zl101_0 (Nat.le_of_ble_eq_true rfl)).trans rfl
theorem f101_16 : zi_fe 101 16 = some ((.ifCond .eq 5), 3, 0, 0, 0, 0, 0) := (zl101_0 (Nat.le_of_ble_eq_true rfl)).trans rfl
theorem f101_19 : zi_fe 101 19 = some ((.iconst 0), 1, 0, 0, 0, 0, 0) := (zl101_0 (Nat.le_of_ble_eq_true rfl)).trans rfl
theorem zl101_1 {pc : Nat} (h : 20 ≤ pc) : zi_fe 101 pc = zu101_1.lookup pc := (zl101_0 (Nat.le_trans (Nat.le_of_ble_eq_true rfl) h)).trans (zi_lkA (a := zi_i101_0) (c := 20) rfl h)
theorem f101_20 : zi_fe 101 20 = some (.ireturn, 1, 1, 0, 0, 0, 0) := (zl101_1 (Nat.le_of_ble_eq_true rfl)).trans rfl
theorem f101_21 : zi_fe 101 21 = some ((.iinc 1 1), 3, 0, 0, 0, 0, 0) := (zl101_1 (Nat.le_of_ble_eq_true rfl)).trans rfl
theorem f101_24 : zi_fe 101 24 = some ((.goto (-22)), 3, 0, 0, 0, 0, 0) := (zl101_1 (Nat.le_of_ble_eq_true rfl)).trans rfl
theorem f101_27 : zi_fe 101 27 = some ((.iconst 1), 1, 0, 0, 0, 0, 0) := (zl101_1 (Nat.le_of_ble_eq_true rfl)).trans rfl
theorem f101_28 : zi_fe 101 28 = some (.ireturn, 1, 1, 0, 0, 0, 0) := (zl101_1 (Nat.le_of_ble_eq_true rfl)).trans rfl
theorem b101_0 {h : zi_Hp} {a0 : Nat} {u1 : Value}  : zv 2 101 0 [.ref a0, u1] [] h = zv 2 101 2 [.ref a0, .int 0] [] h := by
  refine Eq.trans (zs_ic f101_0 ic_0) ?_
  refine Eq.trans (zv_next f101_1 rfl) ?_
  rfl
theorem b101_2 {h : zi_Hp} {a0 : Nat} {x1 : Int32}  : zv 2 101 2 [.ref a0, .int x1] [] h = if x1 < 3 then zv 2 101 7 [.ref a0, .int x1] [] h else zv 2 101 27 [.ref a0, .int x1] [] h := by
  refine Eq.trans (zv_next f101_2 rfl) ?_
  refine Eq.trans (zs_ic f101_3 ic_3) ?_
  exact zs_icmp f101_4 rfl
theorem b101_7 {h : zi_Hp} {a0 : Nat} {x1 : Int32} (g0 : a0 < zh_n h) (g1 : (zh_k h a0).1 = 6) (g2 : zh_r h a0 1 = .ref (zq (zh_r h a0 1))) (g3 : (zq (zh_r h a0 1)) < zh_n h) (g4 : ¬ (x1 < 0 ∨ (zh_k h (zq (zh_r h a0 1))).2 ≤ x1.toNatClampNeg)) (g5 : (zh_k h (zq (zh_r h a0 1))).1 = 103 ∨ (zh_k h (zq (zh_r h a0 1))).1 = 104 ∨ (zh_k h (zq (zh_r h a0 1))).1 = 105) (g6 : zh_r h (zq (zh_r h a0 1)) x1.toNatClampNeg = .ref (zq (zh_r h (zq (zh_r h a0 1)) x1.toNatClampNeg))) (g7 : (zq (zh_r h (zq (zh_r h a0 1)) x1.toNatClampNeg)) < zh_n h) (g8 : (zh_k h (zq (zh_r h (zq (zh_r h a0 1)) x1.toNatClampNeg))).1 = 0) : zv 2 101 7 [.ref a0, .int x1] [] h = (zv 1 4 0 [.ref (zq (zh_r h (zq (zh_r h a0 1)) x1.toNatClampNeg))] [] h).bind fun r => zv 2 101 16 [.ref a0, .int x1] (r.1.toList ++ []) r.2 := by
  refine Eq.trans (zv_next f101_7 rfl) ?_
  refine Eq.trans (zs_getr f101_8 g0 g1 g2) ?_
  refine Eq.trans (zv_next f101_11 rfl) ?_
  refine Eq.trans (zs_aald f101_12 g3 g5 g4 g6) ?_
  exact zs_callV f101_13 (Nat.le_of_ble_eq_true rfl) (Nat.le_of_ble_eq_true rfl) rfl g7 g8 me_4 (by decide) rfl
theorem b101_16 {h : zi_Hp} {a0 : Nat} {x1 : Int32} {s0 : Int32}  : zv 2 101 16 [.ref a0, .int x1] [.int s0] h = if s0 = 0 then zv 2 101 21 [.ref a0, .int x1] [] h else zv 2 101 19 [.ref a0, .int x1] [] h := by
  exact zs_if f101_16 rfl
theorem b101_19 {h : zi_Hp} {a0 : Nat} {x1 : Int32}  : zv 2 101 19 [.ref a0, .int x1] [] h = some (some (.int 0), h) := by
  refine Eq.trans (zs_ic f101_19 ic_0) ?_
  exact zs_ret1 f101_20 (by decide)
theorem b101_21 {h : zi_Hp} {a0 : Nat} {x1 : Int32}  : zv 2 101 21 [.ref a0, .int x1] [] h = zv 2 101 2 [.ref a0, .int (x1 + 1)] [] h := by
  refine Eq.trans (zs_inc f101_21 rfl ic_1 rfl) ?_
  refine Eq.trans (zs_goto (tgt := 2) f101_24 rfl) ?_
  rfl
theorem b101_27 {h : zi_Hp} {a0 : Nat} {x1 : Int32}  : zv 2 101 27 [.ref a0, .int x1] [] h = some (some (.int 1), h) := by
  refine Eq.trans (zs_ic f101_27 ic_1) ?_
  exact zs_ret1 f101_28 (by decide)
set_option maxRecDepth 20000 in
theorem zq102 : zi_M[102]? = some zi_m102 := rfl
theorem zl102_0 {pc : Nat} (_ : 0 ≤ pc) : zi_fe 102 pc = zu102_0.lookup pc := zi_feA zq102 pc
theorem f102_0 : zi_fe 102 0 = some ((.iconst 0), 1, 0, 0, 0, 0, 0) := (zl102_0 (Nat.le_of_ble_eq_true rfl)).trans rfl
theorem f102_1 : zi_fe 102 1 = some ((.istore_n 1), 1, 0, 0, 0, 0, 0) := (zl102_0 (Nat.le_of_ble_eq_true rfl)).trans rfl
theorem f102_2 : zi_fe 102 2 = some ((.iload_n 1), 1, 0, 0, 0, 0, 0) := (zl102_0 (Nat.le_of_ble_eq_true rfl)).trans rfl
theorem f102_3 : zi_fe 102 3 = some ((.iconst 3), 1, 0, 0, 0, 0, 0) := (zl102_0 (Nat.le_of_ble_eq_true rfl)).trans rfl
theorem f102_4 : zi_fe 102 4 = some ((.if_icmp .ge 23), 3, 0, 0, 0, 0, 0) := (zl102_0 (Nat.le_of_ble_eq_true rfl)).trans rfl
theorem f102_7 : zi_fe 102 7 = some ((.aload_n 0), 1, 0, 0, 0, 0, 0) := (zl102_0 (Nat.le_of_ble_eq_true rfl)).trans rfl
theorem f102_8 : zi_fe 102 8 = some ((.getfield 21), 3, 6, 1, 3, 256, 0) := (zl102_0 (Nat.le_of_ble_eq_true rfl)).trans rfl
theorem f102_11 : zi_fe 102 11 = some ((.iload_n 1), 1, 0, 0, 0, 0, 0) := (zl102_0 (Nat.le_of_ble_eq_true rfl)).trans rfl
theorem f102_12 : zi_fe 102 12 = some (.aaload, 1, 0, 0, 0, 0, 0) := (zl102_0 (Nat.le_of_ble_eq_true rfl)).trans rfl
theorem f102_13 : zi_fe 102 13 = some ((.invokevirtual 253), 3, 10, 0, 0, 902, 1) := (zl102_0 (Nat.le_of_ble_eq_true rfl)).trans rfl
theorem f102_16 : zi_fe 102 16 = some ((.ifCond .eq 5), 3, 0, 0, 0, 0, 0) := (zl102_0 (Nat.le_of_ble_eq_true rfl)).trans rfl
theorem f102_19 : zi_fe 102 19 = some ((.iconst 1), 1, 0, 0, 0, 0, 0) := (zl102_0 (Nat.le_of_ble_eq_true rfl)).trans rfl
theorem zl102_1 {pc : Nat} (h : 20 ≤ pc) : zi_fe 102 pc = zu102_1.lookup pc := (zl102_0 (Nat.le_trans (Nat.le_of_ble_eq_true rfl) h)).trans (zi_lkA (a := zi_i102_0) (c := 20) rfl h)
theorem f102_20 : zi_fe 102 20 = some (.ireturn, 1, 1, 0, 0, 0, 0) := (zl102_1 (Nat.le_of_ble_eq_true rfl)).trans rfl
theorem f102_21 : zi_fe 102 21 = some ((.iinc 1 1), 3, 0, 0, 0, 0, 0) := (zl102_1 (Nat.le_of_ble_eq_true rfl)).trans rfl
theorem f102_24 : zi_fe 102 24 = some ((.goto (-22)), 3, 0, 0, 0, 0, 0) := (zl102_1 (Nat.le_of_ble_eq_true rfl)).trans rfl
theorem f102_27 : zi_fe 102 27 = some ((.iconst 0), 1, 0, 0, 0, 0, 0) := (zl102_1 (Nat.le_of_ble_eq_true rfl)).trans rfl
theorem f102_28 : zi_fe 102 28 = some (.ireturn, 1, 1, 0, 0, 0, 0) := (zl102_1 (Nat.le_of_ble_eq_true rfl)).trans rfl
theorem b102_0 {h : zi_Hp} {a0 : Nat} {u1 : Value}  : zv 2 102 0 [.ref a0, u1] [] h = zv 2 102 2 [.ref a0, .int 0] [] h := by
  refine Eq.trans (zs_ic f102_0 ic_0) ?_
  refine Eq.trans (zv_next f102_1 rfl) ?_
  rfl
theorem b102_2 {h : zi_Hp} {a0 : Nat} {x1 : Int32}  : zv 2 102 2 [.ref a0, .int x1] [] h = if x1 < 3 then zv 2 102 7 [.ref a0, .int x1] [] h else zv 2 102 27 [.ref a0, .int x1] [] h := by
  refine Eq.trans (zv_next f102_2 rfl) ?_
  refine Eq.trans (zs_ic f102_3 ic_3) ?_
  exact zs_icmp f102_4 rfl
theorem b102_7 {h : zi_Hp} {a0 : Nat} {x1 : Int32} (g0 : a0 < zh_n h) (g1 : (zh_k h a0).1 = 6) (g2 : zh_r h a0 1 = .ref (zq (zh_r h a0 1))) (g3 : (zq (zh_r h a0 1)) < zh_n h) (g4 : ¬ (x1 < 0 ∨ (zh_k h (zq (zh_r h a0 1))).2 ≤ x1.toNatClampNeg)) (g5 : (zh_k h (zq (zh_r h a0 1))).1 = 103 ∨ (zh_k h (zq (zh_r h a0 1))).1 = 104 ∨ (zh_k h (zq (zh_r h a0 1))).1 = 105) (g6 : zh_r h (zq (zh_r h a0 1)) x1.toNatClampNeg = .ref (zq (zh_r h (zq (zh_r h a0 1)) x1.toNatClampNeg))) (g7 : (zq (zh_r h (zq (zh_r h a0 1)) x1.toNatClampNeg)) < zh_n h) (g8 : (zh_k h (zq (zh_r h (zq (zh_r h a0 1)) x1.toNatClampNeg))).1 = 0) : zv 2 102 7 [.ref a0, .int x1] [] h = (zv 1 10 0 [.ref (zq (zh_r h (zq (zh_r h a0 1)) x1.toNatClampNeg))] [] h).bind fun r => zv 2 102 16 [.ref a0, .int x1] (r.1.toList ++ []) r.2 := by
  refine Eq.trans (zv_next f102_7 rfl) ?_
  refine Eq.trans (zs_getr f102_8 g0 g1 g2) ?_
  refine Eq.trans (zv_next f102_11 rfl) ?_
  refine Eq.trans (zs_aald f102_12 g3 g5 g4 g6) ?_
  exact zs_callV f102_13 (Nat.le_of_ble_eq_true rfl) (Nat.le_of_ble_eq_true rfl) rfl g7 g8 me_10 (by decide) rfl
theorem b102_16 {h : zi_Hp} {a0 : Nat} {x1 : Int32} {s0 : Int32}  : zv 2 102 16 [.ref a0, .int x1] [.int s0] h = if s0 = 0 then zv 2 102 21 [.ref a0, .int x1] [] h else zv 2 102 19 [.ref a0, .int x1] [] h := by
  exact zs_if f102_16 rfl
theorem b102_19 {h : zi_Hp} {a0 : Nat} {x1 : Int32}  : zv 2 102 19 [.ref a0, .int x1] [] h = some (some (.int 1), h) := by
  refine Eq.trans (zs_ic f102_19 ic_1) ?_
  exact zs_ret1 f102_20 (by decide)
theorem b102_21 {h : zi_Hp} {a0 : Nat} {x1 : Int32}  : zv 2 102 21 [.ref a0, .int x1] [] h = zv 2 102 2 [.ref a0, .int (x1 + 1)] [] h := by
  refine Eq.trans (zs_inc f102_21 rfl ic_1 rfl) ?_
  refine Eq.trans (zs_goto (tgt := 2) f102_24 rfl) ?_
  rfl
theorem b102_27 {h : zi_Hp} {a0 : Nat} {x1 : Int32}  : zv 2 102 27 [.ref a0, .int x1] [] h = some (some (.int 0), h) := by
  refine Eq.trans (zs_ic f102_27 ic_0) ?_
  exact zs_ret1 f102_28 (by decide)
set_option maxRecDepth 20000 in
theorem zq103 : zi_M[103]? = some zi_m103 := rfl
theorem zl103_0 {pc : Nat} (_ : 0 ≤ pc) : zi_fe 103 pc = zu103_0.lookup pc := zi_feA zq103 pc
theorem f103_0 : zi_fe 103 0 = some ((.iload_n 1), 1, 0, 0, 0, 0, 0) := (zl103_0 (Nat.le_of_ble_eq_true rfl)).trans rfl
theorem f103_1 : zi_fe 103 1 = some ((.invokestatic 256), 3, 133, 5, 7, 910, 1) := (zl103_0 (Nat.le_of_ble_eq_true rfl)).trans rfl
theorem f103_4 : zi_fe 103 4 = some ((.ifCond .eq 32), 3, 0, 0, 0, 0, 0) := (zl103_0 (Nat.le_of_ble_eq_true rfl)).trans rfl
theorem f103_7 : zi_fe 103 7 = some ((.aload_n 0), 1, 0, 0, 0, 0, 0) := (zl103_0 (Nat.le_of_ble_eq_true rfl)).trans rfl
theorem f103_8 : zi_fe 103 8 = some ((.getfield 21), 3, 6, 1, 3, 256, 0) := (zl103_0 (Nat.le_of_ble_eq_true rfl)).trans rfl
theorem f103_11 : zi_fe 103 11 = some ((.iload_n 1), 1, 0, 0, 0, 0, 0) := (zl103_0 (Nat.le_of_ble_eq_true rfl)).trans rfl
theorem f103_12 : zi_fe 103 12 = some (.aaload, 1, 0, 0, 0, 0, 0) := (zl103_0 (Nat.le_of_ble_eq_true rfl)).trans rfl
theorem f103_13 : zi_fe 103 13 = some ((.getfield 35), 3, 0, 0, 0, 200, 0) := (zl103_0 (Nat.le_of_ble_eq_true rfl)).trans rfl
theorem f103_16 : zi_fe 103 16 = some ((.ifCond .eq 20), 3, 0, 0, 0, 0, 0) := (zl103_0 (Nat.le_of_ble_eq_true rfl)).trans rfl
theorem f103_19 : zi_fe 103 19 = some ((.aload_n 0), 1, 0, 0, 0, 0, 0) := (zl103_0 (Nat.le_of_ble_eq_true rfl)).trans rfl
theorem f103_20 : zi_fe 103 20 = some ((.getfield 21), 3, 6, 1, 3, 256, 0) := (zl103_0 (Nat.le_of_ble_eq_true rfl)).trans rfl
theorem f103_23 : zi_fe 103 23 = some ((.iload_n 1), 1, 0, 0, 0, 0, 0) := (zl103_0 (Nat.le_of_ble_eq_true rfl)).trans rfl
theorem zl103_1 {pc : Nat} (h : 24 ≤ pc) : zi_fe 103 pc = zu103_1.lookup pc := (zl103_0 (Nat.le_trans (Nat.le_of_ble_eq_true rfl) h)).trans (zi_lkA (a := zi_i103_0) (c := 24) rfl h)
theorem f103_24 : zi_fe 103 24 = some (.aaload, 1, 0, 0, 0, 0, 0) := (zl103_1 (Nat.le_of_ble_eq_true rfl)).trans rfl
theorem f103_25 : zi_fe 103 25 = some ((.getfield 79), 3, 0, 4, 0, 209, 0) := (zl103_1 (Nat.le_of_ble_eq_true rfl)).trans rfl
theorem f103_28 : zi_fe 103 28 = some ((.iload_n 2), 1, 0, 0, 0, 0, 0) := (zl103_1 (Nat.le_of_ble_eq_true rfl)).trans rfl
theorem f103_29 : zi_fe 103 29 = some ((.if_icmp .ne 7), 3, 0, 0, 0, 0, 0) := (zl103_1 (Nat.le_of_ble_eq_true rfl)).trans rfl
theorem f103_32 : zi_fe 103 32 = some ((.iconst 1), 1, 0, 0, 0, 0, 0) := (zl103_1 (Nat.le_of_ble_eq_true rfl)).trans rfl
theorem f103_33 : zi_fe 103 33 = some ((.goto 4), 3, 0, 0, 0, 0, 0) := (zl103_1 (Nat.le_of_ble_eq_true rfl)).trans rfl
theorem f103_36 : zi_fe 103 36 = some ((.iconst 0), 1, 0, 0, 0, 0, 0) := (zl103_1 (Nat.le_of_ble_eq_true rfl)).trans rfl
theorem f103_37 : zi_fe 103 37 = some (.ireturn, 1, 1, 0, 0, 0, 0) := (zl103_1 (Nat.le_of_ble_eq_true rfl)).trans rfl
theorem b103_0 {h : zi_Hp} {a0 : Nat} {x1 : Int32} {x2 : Int32}  : zv 2 103 0 [.ref a0, .int x1, .int x2] [] h = (zv 1 133 0 [.int x1] [] h).bind fun r => zv 2 103 4 [.ref a0, .int x1, .int x2] (r.1.toList ++ []) r.2 := by
  refine Eq.trans (zv_next f103_0 rfl) ?_
  exact zs_callS f103_1 (by decide) (Nat.le_of_ble_eq_true rfl) (Nat.le_of_ble_eq_true rfl) rfl me_133 (by decide) rfl
theorem b103_4 {h : zi_Hp} {a0 : Nat} {x1 : Int32} {x2 : Int32} {s0 : Int32}  : zv 2 103 4 [.ref a0, .int x1, .int x2] [.int s0] h = if s0 = 0 then zv 2 103 36 [.ref a0, .int x1, .int x2] [] h else zv 2 103 7 [.ref a0, .int x1, .int x2] [] h := by
  exact zs_if f103_4 rfl
theorem b103_7 {h : zi_Hp} {a0 : Nat} {x1 : Int32} {x2 : Int32} (g0 : a0 < zh_n h) (g1 : (zh_k h a0).1 = 6) (g2 : zh_r h a0 1 = .ref (zq (zh_r h a0 1))) (g3 : (zq (zh_r h a0 1)) < zh_n h) (g4 : ¬ (x1 < 0 ∨ (zh_k h (zq (zh_r h a0 1))).2 ≤ x1.toNatClampNeg)) (g5 : (zh_k h (zq (zh_r h a0 1))).1 = 103 ∨ (zh_k h (zq (zh_r h a0 1))).1 = 104 ∨ (zh_k h (zq (zh_r h a0 1))).1 = 105) (g6 : zh_r h (zq (zh_r h a0 1)) x1.toNatClampNeg = .ref (zq (zh_r h (zq (zh_r h a0 1)) x1.toNatClampNeg))) (g7 : (zq (zh_r h (zq (zh_r h a0 1)) x1.toNatClampNeg)) < zh_n h) (g8 : (zh_k h (zq (zh_r h (zq (zh_r h a0 1)) x1.toNatClampNeg))).1 = 0) : zv 2 103 7 [.ref a0, .int x1, .int x2] [] h = if (zh_i h (zq (zh_r h (zq (zh_r h a0 1)) x1.toNatClampNeg)) 0) = 0 then zv 2 103 36 [.ref a0, .int x1, .int x2] [] h else zv 2 103 19 [.ref a0, .int x1, .int x2] [] h := by
  refine Eq.trans (zv_next f103_7 rfl) ?_
  refine Eq.trans (zs_getr f103_8 g0 g1 g2) ?_
  refine Eq.trans (zv_next f103_11 rfl) ?_
  refine Eq.trans (zs_aald f103_12 g3 g5 g4 g6) ?_
  refine Eq.trans (zs_geti f103_13 g7 g8) ?_
  exact zs_if f103_16 rfl
theorem b103_19 {h : zi_Hp} {a0 : Nat} {x1 : Int32} {x2 : Int32} (g0 : a0 < zh_n h) (g1 : (zh_k h a0).1 = 6) (g2 : zh_r h a0 1 = .ref (zq (zh_r h a0 1))) (g3 : (zq (zh_r h a0 1)) < zh_n h) (g4 : ¬ (x1 < 0 ∨ (zh_k h (zq (zh_r h a0 1))).2 ≤ x1.toNatClampNeg)) (g5 : (zh_k h (zq (zh_r h a0 1))).1 = 103 ∨ (zh_k h (zq (zh_r h a0 1))).1 = 104 ∨ (zh_k h (zq (zh_r h a0 1))).1 = 105) (g6 : zh_r h (zq (zh_r h a0 1)) x1.toNatClampNeg = .ref (zq (zh_r h (zq (zh_r h a0 1)) x1.toNatClampNeg))) (g7 : (zq (zh_r h (zq (zh_r h a0 1)) x1.toNatClampNeg)) < zh_n h) (g8 : (zh_k h (zq (zh_r h (zq (zh_r h a0 1)) x1.toNatClampNeg))).1 = 0) : zv 2 103 19 [.ref a0, .int x1, .int x2] [] h = if (zh_i h (zq (zh_r h (zq (zh_r h a0 1)) x1.toNatClampNeg)) 4) = x2 then zv 2 103 32 [.ref a0, .int x1, .int x2] [] h else zv 2 103 36 [.ref a0, .int x1, .int x2] [] h := by
  refine Eq.trans (zv_next f103_19 rfl) ?_
  refine Eq.trans (zs_getr f103_20 g0 g1 g2) ?_
  refine Eq.trans (zv_next f103_23 rfl) ?_
  refine Eq.trans (zs_aald f103_24 g3 g5 g4 g6) ?_
  refine Eq.trans (zs_geti f103_25 g7 g8) ?_
  refine Eq.trans (zv_next f103_28 rfl) ?_
  exact zs_icmp f103_29 rfl
theorem b103_32 {h : zi_Hp} {a0 : Nat} {x1 : Int32} {x2 : Int32}  : zv 2 103 32 [.ref a0, .int x1, .int x2] [] h = zv 2 103 37 [.ref a0, .int x1, .int x2] [.int 1] h := by
  refine Eq.trans (zs_ic f103_32 ic_1) ?_
  refine Eq.trans (zs_goto (tgt := 37) f103_33 rfl) ?_
  rfl
theorem b103_36 {h : zi_Hp} {a0 : Nat} {x1 : Int32} {x2 : Int32}  : zv 2 103 36 [.ref a0, .int x1, .int x2] [] h = zv 2 103 37 [.ref a0, .int x1, .int x2] [.int 0] h := by
  refine Eq.trans (zs_ic f103_36 ic_0) ?_
  rfl
theorem b103_37 {h : zi_Hp} {a0 : Nat} {x1 : Int32} {x2 : Int32} {s0 : Int32} (g0 : s0 = 0 ∨ s0 = 1) : zv 2 103 37 [.ref a0, .int x1, .int x2] [.int s0] h = some (some (.int s0), h) := by
  exact zs_ret1 f103_37 g0
set_option maxRecDepth 20000 in
theorem zq104 : zi_M[104]? = some zi_m104 := rfl
theorem zl104_0 {pc : Nat} (_ : 0 ≤ pc) : zi_fe 104 pc = zu104_0.lookup pc := zi_feA zq104 pc
theorem f104_0 : zi_fe 104 0 = some ((.aload_n 0), 1, 0, 0, 0, 0, 0) := (zl104_0 (Nat.le_of_ble_eq_true rfl)).trans rfl
theorem f104_1 : zi_fe 104 1 = some ((.invokespecial 3), 3, 0, 3, 0, 114, 1) := (zl104_0 (Nat.le_of_ble_eq_true rfl)).trans rfl
theorem f104_4 : zi_fe 104 4 = some ((.aload_n 0), 1, 0, 0, 0, 0, 0) := (zl104_0 (Nat.le_of_ble_eq_true rfl)).trans rfl
theorem f104_5 : zi_fe 104 5 = some ((.new 9), 3, 6, 2, 118, 117, 0) := (zl104_0 (Nat.le_of_ble_eq_true rfl)).trans rfl
theorem f104_8 : zi_fe 104 8 = some (.dup, 1, 0, 0, 0, 0, 0) := (zl104_0 (Nat.le_of_ble_eq_true rfl)).trans rfl
theorem f104_9 : zi_fe 104 9 = some ((.invokespecial 11), 3, 74, 4, 6, 119, 1) := (zl104_0 (Nat.le_of_ble_eq_true rfl)).trans rfl
theorem f104_12 : zi_fe 104 12 = some ((.putfield 12), 3, 7, 0, 3, 411, 0) := (zl104_0 (Nat.le_of_ble_eq_true rfl)).trans rfl
theorem f104_15 : zi_fe 104 15 = some ((.aload_n 0), 1, 0, 0, 0, 0, 0) := (zl104_0 (Nat.le_of_ble_eq_true rfl)).trans rfl
theorem f104_16 : zi_fe 104 16 = some ((.new 9), 3, 6, 2, 118, 117, 0) := (zl104_0 (Nat.le_of_ble_eq_true rfl)).trans rfl
theorem f104_19 : zi_fe 104 19 = some (.dup, 1, 0, 0, 0, 0, 0) := (zl104_0 (Nat.le_of_ble_eq_true rfl)).trans rfl
theorem f104_20 : zi_fe 104 20 = some ((.invokespecial 11), 3, 74, 4, 6, 119, 1) := (zl104_0 (Nat.le_of_ble_eq_true rfl)).trans rfl
theorem f104_23 : zi_fe 104 23 = some ((.putfield 16), 3, 7, 1, 3, 412, 0) := (zl104_0 (Nat.le_of_ble_eq_true rfl)).trans rfl
theorem zl104_1 {pc : Nat} (h : 26 ≤ pc) : zi_fe 104 pc = zu104_1.lookup pc := (zl104_0 (Nat.le_trans (Nat.le_of_ble_eq_true rfl) h)).trans (zi_lkA (a := zi_i104_0) (c := 26) rfl h)
theorem f104_26 : zi_fe 104 26 = some ((.aload_n 0), 1, 0, 0, 0, 0, 0) := (zl104_1 (Nat.le_of_ble_eq_true rfl)).trans rfl
theorem f104_27 : zi_fe 104 27 = some ((.iconst 2), 1, 0, 0, 0, 0, 0) := (zl104_1 (Nat.le_of_ble_eq_true rfl)).trans rfl
theorem f104_28 : zi_fe 104 28 = some ((.anewarray 9), 3, 103, 0, 263, 117, 0) := (zl104_1 (Nat.le_of_ble_eq_true rfl)).trans rfl
theorem f104_31 : zi_fe 104 31 = some (.dup, 1, 0, 0, 0, 0, 0) := (zl104_1 (Nat.le_of_ble_eq_true rfl)).trans rfl
theorem f104_32 : zi_fe 104 32 = some ((.iconst 0), 1, 0, 0, 0, 0, 0) := (zl104_1 (Nat.le_of_ble_eq_true rfl)).trans rfl
theorem f104_33 : zi_fe 104 33 = some ((.new 9), 3, 6, 2, 118, 117, 0) := (zl104_1 (Nat.le_of_ble_eq_true rfl)).trans rfl
theorem f104_36 : zi_fe 104 36 = some (.dup, 1, 0, 0, 0, 0, 0) := (zl104_1 (Nat.le_of_ble_eq_true rfl)).trans rfl
theorem f104_37 : zi_fe 104 37 = some ((.invokespecial 11), 3, 74, 4, 6, 119, 1) := (zl104_1 (Nat.le_of_ble_eq_true rfl)).trans rfl
theorem f104_40 : zi_fe 104 40 = some (.aastore, 1, 0, 0, 0, 0, 0) := (zl104_1 (Nat.le_of_ble_eq_true rfl)).trans rfl
theorem f104_41 : zi_fe 104 41 = some (.dup, 1, 0, 0, 0, 0, 0) := (zl104_1 (Nat.le_of_ble_eq_true rfl)).trans rfl
theorem f104_42 : zi_fe 104 42 = some ((.iconst 1), 1, 0, 0, 0, 0, 0) := (zl104_1 (Nat.le_of_ble_eq_true rfl)).trans rfl
theorem f104_43 : zi_fe 104 43 = some ((.new 9), 3, 6, 2, 118, 117, 0) := (zl104_1 (Nat.le_of_ble_eq_true rfl)).trans rfl
theorem zl104_2 {pc : Nat} (h : 46 ≤ pc) : zi_fe 104 pc = zu104_2.lookup pc := (zl104_1 (Nat.le_trans (Nat.le_of_ble_eq_true rfl) h)).trans (zi_lkA (a := zi_i104_1) (c := 46) rfl h)
theorem f104_46 : zi_fe 104 46 = some (.dup, 1, 0, 0, 0, 0, 0) := (zl104_2 (Nat.le_of_ble_eq_true rfl)).trans rfl
theorem f104_47 : zi_fe 104 47 = some ((.invokespecial 11), 3, 74, 4, 6, 119, 1) := (zl104_2 (Nat.le_of_ble_eq_true rfl)).trans rfl
theorem f104_50 : zi_fe 104 50 = some (.aastore, 1, 0, 0, 0, 0, 0) := (zl104_2 (Nat.le_of_ble_eq_true rfl)).trans rfl
theorem f104_51 : zi_fe 104 51 = some ((.putfield 19), 3, 7, 2, 3, 413, 0) := (zl104_2 (Nat.le_of_ble_eq_true rfl)).trans rfl
theorem f104_54 : zi_fe 104 54 = some ((.aload_n 0), 1, 0, 0, 0, 0, 0) := (zl104_2 (Nat.le_of_ble_eq_true rfl)).trans rfl
theorem f104_55 : zi_fe 104 55 = some ((.iconst 2), 1, 0, 0, 0, 0, 0) := (zl104_2 (Nat.le_of_ble_eq_true rfl)).trans rfl
theorem f104_56 : zi_fe 104 56 = some ((.newarray .boolean), 2, 101, 0, 0, 184, 0) := (zl104_2 (Nat.le_of_ble_eq_true rfl)).trans rfl
theorem f104_58 : zi_fe 104 58 = some ((.putfield 23), 3, 7, 3, 3, 414, 0) := (zl104_2 (Nat.le_of_ble_eq_true rfl)).trans rfl
theorem f104_61 : zi_fe 104 61 = some ((.aload_n 0), 1, 0, 0, 0, 0, 0) := (zl104_2 (Nat.le_of_ble_eq_true rfl)).trans rfl
theorem f104_62 : zi_fe 104 62 = some ((.new 27), 3, 5, 13, 265, 264, 0) := (zl104_2 (Nat.le_of_ble_eq_true rfl)).trans rfl
theorem f104_65 : zi_fe 104 65 = some (.dup, 1, 0, 0, 0, 0, 0) := (zl104_2 (Nat.le_of_ble_eq_true rfl)).trans rfl
theorem f104_66 : zi_fe 104 66 = some ((.invokespecial 29), 3, 70, 2, 5, 266, 1) := (zl104_2 (Nat.le_of_ble_eq_true rfl)).trans rfl
theorem zl104_3 {pc : Nat} (h : 69 ≤ pc) : zi_fe 104 pc = zu104_3.lookup pc := (zl104_2 (Nat.le_trans (Nat.le_of_ble_eq_true rfl) h)).trans (zi_lkA (a := zi_i104_2) (c := 69) rfl h)
theorem f104_69 : zi_fe 104 69 = some ((.putfield 30), 3, 7, 4, 3, 415, 0) := (zl104_3 (Nat.le_of_ble_eq_true rfl)).trans rfl
theorem f104_72 : zi_fe 104 72 = some ((.aload_n 0), 1, 0, 0, 0, 0, 0) := (zl104_3 (Nat.le_of_ble_eq_true rfl)).trans rfl
theorem f104_73 : zi_fe 104 73 = some ((.new 34), 3, 3, 6, 321, 320, 0) := (zl104_3 (Nat.le_of_ble_eq_true rfl)).trans rfl
theorem f104_76 : zi_fe 104 76 = some (.dup, 1, 0, 0, 0, 0, 0) := (zl104_3 (Nat.le_of_ble_eq_true rfl)).trans rfl
theorem f104_77 : zi_fe 104 77 = some ((.invokespecial 36), 3, 27, 4, 3, 322, 1) := (zl104_3 (Nat.le_of_ble_eq_true rfl)).trans rfl
theorem f104_80 : zi_fe 104 80 = some ((.putfield 37), 3, 7, 5, 3, 416, 0) := (zl104_3 (Nat.le_of_ble_eq_true rfl)).trans rfl
theorem f104_83 : zi_fe 104 83 = some ((.aload_n 0), 1, 0, 0, 0, 0, 0) := (zl104_3 (Nat.le_of_ble_eq_true rfl)).trans rfl
theorem f104_84 : zi_fe 104 84 = some ((.new 41), 3, 1, 9, 350, 349, 0) := (zl104_3 (Nat.le_of_ble_eq_true rfl)).trans rfl
theorem f104_87 : zi_fe 104 87 = some (.dup, 1, 0, 0, 0, 0, 0) := (zl104_3 (Nat.le_of_ble_eq_true rfl)).trans rfl
theorem f104_88 : zi_fe 104 88 = some ((.invokespecial 43), 3, 12, 4, 1, 351, 1) := (zl104_3 (Nat.le_of_ble_eq_true rfl)).trans rfl
theorem f104_91 : zi_fe 104 91 = some ((.putfield 44), 3, 7, 6, 3, 417, 0) := (zl104_3 (Nat.le_of_ble_eq_true rfl)).trans rfl
theorem f104_94 : zi_fe 104 94 = some ((.aload_n 0), 1, 0, 0, 0, 0, 0) := (zl104_3 (Nat.le_of_ble_eq_true rfl)).trans rfl
theorem zl104_4 {pc : Nat} (h : 95 ≤ pc) : zi_fe 104 pc = zu104_4.lookup pc := (zl104_3 (Nat.le_trans (Nat.le_of_ble_eq_true rfl) h)).trans (zi_lkA (a := zi_i104_3) (c := 95) rfl h)
theorem f104_95 : zi_fe 104 95 = some ((.new 48), 3, 2, 3, 392, 391, 0) := (zl104_4 (Nat.le_of_ble_eq_true rfl)).trans rfl
theorem f104_98 : zi_fe 104 98 = some (.dup, 1, 0, 0, 0, 0, 0) := (zl104_4 (Nat.le_of_ble_eq_true rfl)).trans rfl
theorem f104_99 : zi_fe 104 99 = some ((.invokespecial 50), 3, 22, 4, 2, 393, 1) := (zl104_4 (Nat.le_of_ble_eq_true rfl)).trans rfl
theorem f104_102 : zi_fe 104 102 = some ((.putfield 51), 3, 7, 7, 3, 418, 0) := (zl104_4 (Nat.le_of_ble_eq_true rfl)).trans rfl
theorem f104_105 : zi_fe 104 105 = some ((.aload_n 0), 1, 0, 0, 0, 0, 0) := (zl104_4 (Nat.le_of_ble_eq_true rfl)).trans rfl
theorem f104_106 : zi_fe 104 106 = some ((.iconst 0), 1, 0, 0, 0, 0, 0) := (zl104_4 (Nat.le_of_ble_eq_true rfl)).trans rfl
theorem f104_107 : zi_fe 104 107 = some ((.putfield 55), 3, 7, 8, 0, 419, 0) := (zl104_4 (Nat.le_of_ble_eq_true rfl)).trans rfl
theorem f104_110 : zi_fe 104 110 = some (.return_, 1, 0, 0, 0, 0, 0) := (zl104_4 (Nat.le_of_ble_eq_true rfl)).trans rfl
theorem b104_0 {h : zi_Hp} {a0 : Nat}  : zv 6 104 0 [.ref a0] [] h = zv 6 104 8 [.ref a0] [.ref (zh_n h), .ref a0] (zh_al h 6 2) := by
  refine Eq.trans (zv_next f104_0 rfl) ?_
  refine Eq.trans (zs_objI f104_1 (Nat.le_of_ble_eq_true rfl)) ?_
  refine Eq.trans (zv_next f104_4 rfl) ?_
  refine Eq.trans (zv_next f104_5 rfl) ?_
  rfl
theorem b104_8 {h : zi_Hp} {a0 : Nat} {t0 : Nat} {t1 : Nat}  : zv 6 104 8 [.ref a0] [.ref t1, .ref t0] h = (zv 4 74 0 [.ref t1] [] h).bind fun r => zv 6 104 12 [.ref a0] (r.1.toList ++ [.ref t1, .ref t0]) r.2 := by
  refine Eq.trans (zv_next f104_8 rfl) ?_
  exact zs_callI f104_9 (by decide) (Nat.le_of_ble_eq_true rfl) (Nat.le_of_ble_eq_true rfl) rfl me_74 (by decide) rfl
theorem b104_12 {h : zi_Hp} {a0 : Nat} {t0 : Nat} {t1 : Nat} (g0 : t0 < zh_n h) (g1 : (zh_k h t0).1 = 7) : zv 6 104 12 [.ref a0] [.ref t1, .ref t0] h = zv 6 104 19 [.ref a0] [.ref (zh_n h), .ref a0] (zh_al (zh_wr h t0 0 (.ref t1)) 6 2) := by
  refine Eq.trans (zs_put f104_12 g0 g1 rfl) ?_
  refine Eq.trans (zv_next f104_15 rfl) ?_
  refine Eq.trans (zv_next f104_16 rfl) ?_
  rfl
theorem b104_19 {h : zi_Hp} {a0 : Nat} {t0 : Nat} {t1 : Nat}  : zv 6 104 19 [.ref a0] [.ref t1, .ref t0] h = (zv 4 74 0 [.ref t1] [] h).bind fun r => zv 6 104 23 [.ref a0] (r.1.toList ++ [.ref t1, .ref t0]) r.2 := by
  refine Eq.trans (zv_next f104_19 rfl) ?_
  exact zs_callI f104_20 (by decide) (Nat.le_of_ble_eq_true rfl) (Nat.le_of_ble_eq_true rfl) rfl me_74 (by decide) rfl
theorem b104_23 {h : zi_Hp} {a0 : Nat} {t0 : Nat} {t1 : Nat} (g0 : t0 < zh_n h) (g1 : (zh_k h t0).1 = 7) : zv 6 104 23 [.ref a0] [.ref t1, .ref t0] h = zv 6 104 31 [.ref a0] [.ref (zh_n h), .ref a0] (zh_al (zh_wr h t0 1 (.ref t1)) 103 2) := by
  refine Eq.trans (zs_put f104_23 g0 g1 rfl) ?_
  refine Eq.trans (zv_next f104_26 rfl) ?_
  refine Eq.trans (zs_ic f104_27 ic_2) ?_
  refine Eq.trans (zs_anew (N := 2) f104_28 (by decide)) ?_
  rfl
theorem b104_31 {h : zi_Hp} {a0 : Nat} {t0 : Nat} {t1 : Nat}  : zv 6 104 31 [.ref a0] [.ref t1, .ref t0] h = zv 6 104 36 [.ref a0] [.ref (zh_n h), .int 0, .ref t1, .ref t1, .ref t0] (zh_al h 6 2) := by
  refine Eq.trans (zv_next f104_31 rfl) ?_
  refine Eq.trans (zs_ic f104_32 ic_0) ?_
  refine Eq.trans (zv_next f104_33 rfl) ?_
  rfl
theorem b104_36 {h : zi_Hp} {a0 : Nat} {t0 : Nat} {t1 : Nat} {t2 : Nat} {s3 : Int32} {t4 : Nat}  : zv 6 104 36 [.ref a0] [.ref t4, .int s3, .ref t2, .ref t1, .ref t0] h = (zv 4 74 0 [.ref t4] [] h).bind fun r => zv 6 104 40 [.ref a0] (r.1.toList ++ [.ref t4, .int s3, .ref t2, .ref t1, .ref t0]) r.2 := by
  refine Eq.trans (zv_next f104_36 rfl) ?_
  exact zs_callI f104_37 (by decide) (Nat.le_of_ble_eq_true rfl) (Nat.le_of_ble_eq_true rfl) rfl me_74 (by decide) rfl
theorem b104_40 {h : zi_Hp} {a0 : Nat} {t0 : Nat} {t1 : Nat} {t2 : Nat} {s3 : Int32} {t4 : Nat} (g0 : t2 < zh_n h) (g1 : ¬ (s3 < 0 ∨ (zh_k h t2).2 ≤ s3.toNatClampNeg)) (g2 : (zh_k h t2).1 = 103 ∨ (zh_k h t2).1 = 104) (g3 : t4 < zh_n h) (g4 : (zh_k h t4).1 = zi_comp (zh_k h t2).1) : zv 6 104 40 [.ref a0] [.ref t4, .int s3, .ref t2, .ref t1, .ref t0] h = zv 6 104 46 [.ref a0] [.ref (zh_n h), .int 1, .ref t1, .ref t1, .ref t0] (zh_al (zh_wr h t2 s3.toNatClampNeg (.ref t4)) 6 2) := by
  refine Eq.trans (zs_aast f104_40 g0 g2 g1 g3 g4) ?_
  refine Eq.trans (zv_next f104_41 rfl) ?_
  refine Eq.trans (zs_ic f104_42 ic_1) ?_
  refine Eq.trans (zv_next f104_43 rfl) ?_
  rfl
theorem b104_46 {h : zi_Hp} {a0 : Nat} {t0 : Nat} {t1 : Nat} {t2 : Nat} {s3 : Int32} {t4 : Nat}  : zv 6 104 46 [.ref a0] [.ref t4, .int s3, .ref t2, .ref t1, .ref t0] h = (zv 4 74 0 [.ref t4] [] h).bind fun r => zv 6 104 50 [.ref a0] (r.1.toList ++ [.ref t4, .int s3, .ref t2, .ref t1, .ref t0]) r.2 := by
  refine Eq.trans (zv_next f104_46 rfl) ?_
  exact zs_callI f104_47 (by decide) (Nat.le_of_ble_eq_true rfl) (Nat.le_of_ble_eq_true rfl) rfl me_74 (by decide) rfl
theorem b104_50 {h : zi_Hp} {a0 : Nat} {t0 : Nat} {t1 : Nat} {t2 : Nat} {s3 : Int32} {t4 : Nat} (g0 : t2 < zh_n h) (g1 : ¬ (s3 < 0 ∨ (zh_k h t2).2 ≤ s3.toNatClampNeg)) (g2 : (zh_k h t2).1 = 103 ∨ (zh_k h t2).1 = 104) (g3 : t4 < zh_n h) (g4 : (zh_k h t4).1 = zi_comp (zh_k h t2).1) (g5 : t0 < zh_n h) (g6 : (zh_k h t0).1 = 7) : zv 6 104 50 [.ref a0] [.ref t4, .int s3, .ref t2, .ref t1, .ref t0] h = zv 6 104 58 [.ref a0] [.ref (zh_n h), .ref a0] (zh_al (zh_wr (zh_wr h t2 s3.toNatClampNeg (.ref t4)) t0 2 (.ref t1)) 101 2) := by
  refine Eq.trans (zs_aast f104_50 g0 g2 g1 g3 g4) ?_
  refine Eq.trans (zs_put f104_51 g5 g6 rfl) ?_
  refine Eq.trans (zv_next f104_54 rfl) ?_
  refine Eq.trans (zs_ic f104_55 ic_2) ?_
  refine Eq.trans (zs_newa (N := 2) f104_56 (by decide)) ?_
  rfl
theorem b104_58 {h : zi_Hp} {a0 : Nat} {t0 : Nat} {t1 : Nat} (g0 : t0 < zh_n h) (g1 : (zh_k h t0).1 = 7) : zv 6 104 58 [.ref a0] [.ref t1, .ref t0] h = zv 6 104 65 [.ref a0] [.ref (zh_n h), .ref a0] (zh_al (zh_wr h t0 3 (.ref t1)) 5 13) := by
  refine Eq.trans (zs_put f104_58 g0 g1 rfl) ?_
  refine Eq.trans (zv_next f104_61 rfl) ?_
  refine Eq.trans (zv_next f104_62 rfl) ?_
  rfl
theorem b104_65 {h : zi_Hp} {a0 : Nat} {t0 : Nat} {t1 : Nat}  : zv 6 104 65 [.ref a0] [.ref t1, .ref t0] h = (zv 5 70 0 [.ref t1, .double 0] [] h).bind fun r => zv 6 104 69 [.ref a0] (r.1.toList ++ [.ref t1, .ref t0]) r.2 := by
  refine Eq.trans (zv_next f104_65 rfl) ?_
  exact zs_callI f104_66 (by decide) (Nat.le_of_ble_eq_true rfl) (Nat.le_of_ble_eq_true rfl) rfl me_70 (by decide) rfl
theorem b104_69 {h : zi_Hp} {a0 : Nat} {t0 : Nat} {t1 : Nat} (g0 : t0 < zh_n h) (g1 : (zh_k h t0).1 = 7) : zv 6 104 69 [.ref a0] [.ref t1, .ref t0] h = zv 6 104 76 [.ref a0] [.ref (zh_n h), .ref a0] (zh_al (zh_wr h t0 4 (.ref t1)) 3 6) := by
  refine Eq.trans (zs_put f104_69 g0 g1 rfl) ?_
  refine Eq.trans (zv_next f104_72 rfl) ?_
  refine Eq.trans (zv_next f104_73 rfl) ?_
  rfl
theorem b104_76 {h : zi_Hp} {a0 : Nat} {t0 : Nat} {t1 : Nat}  : zv 6 104 76 [.ref a0] [.ref t1, .ref t0] h = (zv 1 27 0 [.ref t1] [] h).bind fun r => zv 6 104 80 [.ref a0] (r.1.toList ++ [.ref t1, .ref t0]) r.2 := by
  refine Eq.trans (zv_next f104_76 rfl) ?_
  exact zs_callI f104_77 (by decide) (Nat.le_of_ble_eq_true rfl) (Nat.le_of_ble_eq_true rfl) rfl me_27 (by decide) rfl
theorem b104_80 {h : zi_Hp} {a0 : Nat} {t0 : Nat} {t1 : Nat} (g0 : t0 < zh_n h) (g1 : (zh_k h t0).1 = 7) : zv 6 104 80 [.ref a0] [.ref t1, .ref t0] h = zv 6 104 87 [.ref a0] [.ref (zh_n h), .ref a0] (zh_al (zh_wr h t0 5 (.ref t1)) 1 9) := by
  refine Eq.trans (zs_put f104_80 g0 g1 rfl) ?_
  refine Eq.trans (zv_next f104_83 rfl) ?_
  refine Eq.trans (zv_next f104_84 rfl) ?_
  rfl
theorem b104_87 {h : zi_Hp} {a0 : Nat} {t0 : Nat} {t1 : Nat}  : zv 6 104 87 [.ref a0] [.ref t1, .ref t0] h = (zv 1 12 0 [.ref t1] [] h).bind fun r => zv 6 104 91 [.ref a0] (r.1.toList ++ [.ref t1, .ref t0]) r.2 := by
  refine Eq.trans (zv_next f104_87 rfl) ?_
  exact zs_callI f104_88 (by decide) (Nat.le_of_ble_eq_true rfl) (Nat.le_of_ble_eq_true rfl) rfl me_12 (by decide) rfl
theorem b104_91 {h : zi_Hp} {a0 : Nat} {t0 : Nat} {t1 : Nat} (g0 : t0 < zh_n h) (g1 : (zh_k h t0).1 = 7) : zv 6 104 91 [.ref a0] [.ref t1, .ref t0] h = zv 6 104 98 [.ref a0] [.ref (zh_n h), .ref a0] (zh_al (zh_wr h t0 6 (.ref t1)) 2 3) := by
  refine Eq.trans (zs_put f104_91 g0 g1 rfl) ?_
  refine Eq.trans (zv_next f104_94 rfl) ?_
  refine Eq.trans (zv_next f104_95 rfl) ?_
  rfl
theorem b104_98 {h : zi_Hp} {a0 : Nat} {t0 : Nat} {t1 : Nat}  : zv 6 104 98 [.ref a0] [.ref t1, .ref t0] h = (zv 1 22 0 [.ref t1] [] h).bind fun r => zv 6 104 102 [.ref a0] (r.1.toList ++ [.ref t1, .ref t0]) r.2 := by
  refine Eq.trans (zv_next f104_98 rfl) ?_
  exact zs_callI f104_99 (by decide) (Nat.le_of_ble_eq_true rfl) (Nat.le_of_ble_eq_true rfl) rfl me_22 (by decide) rfl
theorem b104_102 {h : zi_Hp} {a0 : Nat} {t0 : Nat} {t1 : Nat} (g0 : t0 < zh_n h) (g1 : (zh_k h t0).1 = 7) (g2 : a0 < zh_n h) (g3 : (zh_k h a0).1 = 7) : zv 6 104 102 [.ref a0] [.ref t1, .ref t0] h = some (none, zh_wi (zh_wr h t0 7 (.ref t1)) a0 8 0) := by
  refine Eq.trans (zs_put f104_102 g0 g1 rfl) ?_
  refine Eq.trans (zv_next f104_105 rfl) ?_
  refine Eq.trans (zs_ic f104_106 ic_0) ?_
  refine Eq.trans (zs_put f104_107 g2 g3 rfl) ?_
  exact zv_ret f104_110 rfl
set_option maxRecDepth 20000 in
theorem zq105 : zi_M[105]? = some zi_m105 := rfl
theorem zl105_0 {pc : Nat} (_ : 0 ≤ pc) : zi_fe 105 pc = zu105_0.lookup pc := zi_feA zq105 pc
theorem f105_0 : zi_fe 105 0 = some ((.iload_n 1), 1, 0, 0, 0, 0, 0) := (zl105_0 (Nat.le_of_ble_eq_true rfl)).trans rfl
theorem f105_1 : zi_fe 105 1 = some ((.ifCond .lt 9), 3, 0, 0, 0, 0, 0) := (zl105_0 (Nat.le_of_ble_eq_true rfl)).trans rfl
theorem f105_4 : zi_fe 105 4 = some ((.iload_n 1), 1, 0, 0, 0, 0, 0) := (zl105_0 (Nat.le_of_ble_eq_true rfl)).trans rfl
theorem f105_5 : zi_fe 105 5 = some ((.bipush 127), 2, 0, 0, 0, 0, 0) := (zl105_0 (Nat.le_of_ble_eq_true rfl)).trans rfl
theorem f105_7 : zi_fe 105 7 = some ((.if_icmp .le 5), 3, 0, 0, 0, 0, 0) := (zl105_0 (Nat.le_of_ble_eq_true rfl)).trans rfl
theorem f105_10 : zi_fe 105 10 = some ((.iconst (-1)), 1, 0, 0, 0, 0, 0) := (zl105_0 (Nat.le_of_ble_eq_true rfl)).trans rfl
theorem f105_11 : zi_fe 105 11 = some (.ireturn, 1, 0, 0, 0, 0, 0) := (zl105_0 (Nat.le_of_ble_eq_true rfl)).trans rfl
theorem f105_12 : zi_fe 105 12 = some ((.aload_n 0), 1, 0, 0, 0, 0, 0) := (zl105_0 (Nat.le_of_ble_eq_true rfl)).trans rfl
theorem f105_13 : zi_fe 105 13 = some ((.getfield 37), 3, 7, 5, 3, 416, 0) := (zl105_0 (Nat.le_of_ble_eq_true rfl)).trans rfl
theorem f105_16 : zi_fe 105 16 = some ((.iload_n 1), 1, 0, 0, 0, 0, 0) := (zl105_0 (Nat.le_of_ble_eq_true rfl)).trans rfl
theorem f105_17 : zi_fe 105 17 = some ((.invokevirtual 59), 3, 28, 0, 3, 443, 2) := (zl105_0 (Nat.le_of_ble_eq_true rfl)).trans rfl
theorem f105_20 : zi_fe 105 20 = some ((.ifCond .eq 13), 3, 0, 0, 0, 0, 0) := (zl105_0 (Nat.le_of_ble_eq_true rfl)).trans rfl
theorem zl105_1 {pc : Nat} (h : 23 ≤ pc) : zi_fe 105 pc = zu105_1.lookup pc := (zl105_0 (Nat.le_trans (Nat.le_of_ble_eq_true rfl) h)).trans (zi_lkA (a := zi_i105_0) (c := 23) rfl h)
theorem f105_23 : zi_fe 105 23 = some ((.aload_n 0), 1, 0, 0, 0, 0, 0) := (zl105_1 (Nat.le_of_ble_eq_true rfl)).trans rfl
theorem f105_24 : zi_fe 105 24 = some ((.getfield 37), 3, 7, 5, 3, 416, 0) := (zl105_1 (Nat.le_of_ble_eq_true rfl)).trans rfl
theorem f105_27 : zi_fe 105 27 = some ((.getfield 63), 3, 3, 1, 0, 328, 0) := (zl105_1 (Nat.le_of_ble_eq_true rfl)).trans rfl
theorem f105_30 : zi_fe 105 30 = some ((.goto 5), 3, 0, 0, 0, 0, 0) := (zl105_1 (Nat.le_of_ble_eq_true rfl)).trans rfl
theorem f105_33 : zi_fe 105 33 = some ((.bipush (-3)), 2, 0, 0, 0, 0, 0) := (zl105_1 (Nat.le_of_ble_eq_true rfl)).trans rfl
theorem f105_35 : zi_fe 105 35 = some (.ireturn, 1, 0, 0, 0, 0, 0) := (zl105_1 (Nat.le_of_ble_eq_true rfl)).trans rfl
theorem b105_0 {h : zi_Hp} {a0 : Nat} {x1 : Int32}  : zv 2 105 0 [.ref a0, .int x1] [] h = if x1 < 0 then zv 2 105 10 [.ref a0, .int x1] [] h else zv 2 105 4 [.ref a0, .int x1] [] h := by
  refine Eq.trans (zv_next f105_0 rfl) ?_
  exact zs_if f105_1 rfl
theorem b105_4 {h : zi_Hp} {a0 : Nat} {x1 : Int32}  : zv 2 105 4 [.ref a0, .int x1] [] h = if 127 < x1 then zv 2 105 10 [.ref a0, .int x1] [] h else zv 2 105 12 [.ref a0, .int x1] [] h := by
  refine Eq.trans (zv_next f105_4 rfl) ?_
  refine Eq.trans (zs_bp f105_5 bp_127) ?_
  exact zs_icmp f105_7 rfl
theorem b105_10 {h : zi_Hp} {a0 : Nat} {x1 : Int32}  : zv 2 105 10 [.ref a0, .int x1] [] h = some (some (.int (-1)), h) := by
  refine Eq.trans (zs_ic f105_10 ic_m1) ?_
  exact zs_ret0 f105_11
theorem b105_12 {h : zi_Hp} {a0 : Nat} {x1 : Int32} (g0 : a0 < zh_n h) (g1 : (zh_k h a0).1 = 7) (g2 : zh_r h a0 5 = .ref (zq (zh_r h a0 5))) (g3 : (zq (zh_r h a0 5)) < zh_n h) (g4 : (zh_k h (zq (zh_r h a0 5))).1 = 3) : zv 2 105 12 [.ref a0, .int x1] [] h = (zv 1 28 0 [.ref (zq (zh_r h a0 5)), .int x1] [] h).bind fun r => zv 2 105 20 [.ref a0, .int x1] (r.1.toList ++ []) r.2 := by
  refine Eq.trans (zv_next f105_12 rfl) ?_
  refine Eq.trans (zs_getr f105_13 g0 g1 g2) ?_
  refine Eq.trans (zv_next f105_16 rfl) ?_
  exact zs_callV f105_17 (Nat.le_of_ble_eq_true rfl) (Nat.le_of_ble_eq_true rfl) rfl g3 g4 me_28 (by decide) rfl
theorem b105_20 {h : zi_Hp} {a0 : Nat} {x1 : Int32} {s0 : Int32}  : zv 2 105 20 [.ref a0, .int x1] [.int s0] h = if s0 = 0 then zv 2 105 33 [.ref a0, .int x1] [] h else zv 2 105 23 [.ref a0, .int x1] [] h := by
  exact zs_if f105_20 rfl
theorem b105_23 {h : zi_Hp} {a0 : Nat} {x1 : Int32} (g0 : a0 < zh_n h) (g1 : (zh_k h a0).1 = 7) (g2 : zh_r h a0 5 = .ref (zq (zh_r h a0 5))) (g3 : (zq (zh_r h a0 5)) < zh_n h) (g4 : (zh_k h (zq (zh_r h a0 5))).1 = 3) : zv 2 105 23 [.ref a0, .int x1] [] h = zv 2 105 35 [.ref a0, .int x1] [.int (zh_i h (zq (zh_r h a0 5)) 1)] h := by
  refine Eq.trans (zv_next f105_23 rfl) ?_
  refine Eq.trans (zs_getr f105_24 g0 g1 g2) ?_
  refine Eq.trans (zs_geti f105_27 g3 g4) ?_
  refine Eq.trans (zs_goto (tgt := 35) f105_30 rfl) ?_
  rfl
theorem b105_33 {h : zi_Hp} {a0 : Nat} {x1 : Int32}  : zv 2 105 33 [.ref a0, .int x1] [] h = zv 2 105 35 [.ref a0, .int x1] [.int (-3)] h := by
  refine Eq.trans (zs_bp f105_33 bp_m3) ?_
  rfl
theorem b105_35 {h : zi_Hp} {a0 : Nat} {x1 : Int32} {s0 : Int32}  : zv 2 105 35 [.ref a0, .int x1] [.int s0] h = some (some (.int s0), h) := by
  exact zs_ret0 f105_35
set_option maxRecDepth 20000 in
theorem zq106 : zi_M[106]? = some zi_m106 := rfl
theorem zl106_0 {pc : Nat} (_ : 0 ≤ pc) : zi_fe 106 pc = zu106_0.lookup pc := zi_feA zq106 pc
theorem f106_0 : zi_fe 106 0 = some ((.iload_n 1), 1, 0, 0, 0, 0, 0) := (zl106_0 (Nat.le_of_ble_eq_true rfl)).trans rfl
theorem f106_1 : zi_fe 106 1 = some ((.ifCond .lt 14), 3, 0, 0, 0, 0, 0) := (zl106_0 (Nat.le_of_ble_eq_true rfl)).trans rfl
theorem f106_4 : zi_fe 106 4 = some ((.iload_n 1), 1, 0, 0, 0, 0, 0) := (zl106_0 (Nat.le_of_ble_eq_true rfl)).trans rfl
theorem f106_5 : zi_fe 106 5 = some ((.aload_n 0), 1, 0, 0, 0, 0, 0) := (zl106_0 (Nat.le_of_ble_eq_true rfl)).trans rfl
theorem f106_6 : zi_fe 106 6 = some ((.getfield 37), 3, 7, 5, 3, 416, 0) := (zl106_0 (Nat.le_of_ble_eq_true rfl)).trans rfl
theorem f106_9 : zi_fe 106 9 = some ((.getfield 63), 3, 3, 1, 0, 328, 0) := (zl106_0 (Nat.le_of_ble_eq_true rfl)).trans rfl
theorem f106_12 : zi_fe 106 12 = some ((.if_icmp .le 5), 3, 0, 0, 0, 0, 0) := (zl106_0 (Nat.le_of_ble_eq_true rfl)).trans rfl
theorem f106_15 : zi_fe 106 15 = some ((.iconst (-1)), 1, 0, 0, 0, 0, 0) := (zl106_0 (Nat.le_of_ble_eq_true rfl)).trans rfl
theorem f106_16 : zi_fe 106 16 = some (.ireturn, 1, 0, 0, 0, 0, 0) := (zl106_0 (Nat.le_of_ble_eq_true rfl)).trans rfl
theorem f106_17 : zi_fe 106 17 = some ((.aload_n 0), 1, 0, 0, 0, 0, 0) := (zl106_0 (Nat.le_of_ble_eq_true rfl)).trans rfl
theorem f106_18 : zi_fe 106 18 = some ((.getfield 37), 3, 7, 5, 3, 416, 0) := (zl106_0 (Nat.le_of_ble_eq_true rfl)).trans rfl
theorem f106_21 : zi_fe 106 21 = some ((.getfield 63), 3, 3, 1, 0, 328, 0) := (zl106_0 (Nat.le_of_ble_eq_true rfl)).trans rfl
theorem zl106_1 {pc : Nat} (h : 24 ≤ pc) : zi_fe 106 pc = zu106_1.lookup pc := (zl106_0 (Nat.le_trans (Nat.le_of_ble_eq_true rfl) h)).trans (zi_lkA (a := zi_i106_0) (c := 24) rfl h)
theorem f106_24 : zi_fe 106 24 = some ((.istore_n 2), 1, 0, 0, 0, 0, 0) := (zl106_1 (Nat.le_of_ble_eq_true rfl)).trans rfl
theorem f106_25 : zi_fe 106 25 = some ((.aload_n 0), 1, 0, 0, 0, 0, 0) := (zl106_1 (Nat.le_of_ble_eq_true rfl)).trans rfl
theorem f106_26 : zi_fe 106 26 = some ((.getfield 37), 3, 7, 5, 3, 416, 0) := (zl106_1 (Nat.le_of_ble_eq_true rfl)).trans rfl
theorem f106_29 : zi_fe 106 29 = some ((.iload_n 1), 1, 0, 0, 0, 0, 0) := (zl106_1 (Nat.le_of_ble_eq_true rfl)).trans rfl
theorem f106_30 : zi_fe 106 30 = some ((.putfield 63), 3, 3, 1, 0, 328, 0) := (zl106_1 (Nat.le_of_ble_eq_true rfl)).trans rfl
theorem f106_33 : zi_fe 106 33 = some ((.iload_n 2), 1, 0, 0, 0, 0, 0) := (zl106_1 (Nat.le_of_ble_eq_true rfl)).trans rfl
theorem f106_34 : zi_fe 106 34 = some (.ireturn, 1, 0, 0, 0, 0, 0) := (zl106_1 (Nat.le_of_ble_eq_true rfl)).trans rfl
theorem b106_0 {h : zi_Hp} {a0 : Nat} {x1 : Int32} {u2 : Value}  : zv 1 106 0 [.ref a0, .int x1, u2] [] h = if x1 < 0 then zv 1 106 15 [.ref a0, .int x1, u2] [] h else zv 1 106 4 [.ref a0, .int x1, u2] [] h := by
  refine Eq.trans (zv_next f106_0 rfl) ?_
  exact zs_if f106_1 rfl
theorem b106_4 {h : zi_Hp} {a0 : Nat} {x1 : Int32} {u2 : Value} (g0 : a0 < zh_n h) (g1 : (zh_k h a0).1 = 7) (g2 : zh_r h a0 5 = .ref (zq (zh_r h a0 5))) (g3 : (zq (zh_r h a0 5)) < zh_n h) (g4 : (zh_k h (zq (zh_r h a0 5))).1 = 3) : zv 1 106 4 [.ref a0, .int x1, u2] [] h = if (zh_i h (zq (zh_r h a0 5)) 1) < x1 then zv 1 106 15 [.ref a0, .int x1, u2] [] h else zv 1 106 17 [.ref a0, .int x1, u2] [] h := by
  refine Eq.trans (zv_next f106_4 rfl) ?_
  refine Eq.trans (zv_next f106_5 rfl) ?_
  refine Eq.trans (zs_getr f106_6 g0 g1 g2) ?_
  refine Eq.trans (zs_geti f106_9 g3 g4) ?_
  exact zs_icmp f106_12 rfl
theorem b106_15 {h : zi_Hp} {a0 : Nat} {x1 : Int32} {u2 : Value}  : zv 1 106 15 [.ref a0, .int x1, u2] [] h = some (some (.int (-1)), h) := by
  refine Eq.trans (zs_ic f106_15 ic_m1) ?_
  exact zs_ret0 f106_16
theorem b106_17 {h : zi_Hp} {a0 : Nat} {x1 : Int32} {u2 : Value} (g0 : a0 < zh_n h) (g1 : (zh_k h a0).1 = 7) (g2 : zh_r h a0 5 = .ref (zq (zh_r h a0 5))) (g3 : (zq (zh_r h a0 5)) < zh_n h) (g4 : (zh_k h (zq (zh_r h a0 5))).1 = 3) : zv 1 106 17 [.ref a0, .int x1, u2] [] h = some (some (.int (zh_i h (zq (zh_r h a0 5)) 1)), zh_wi h (zq (zh_r h a0 5)) 1 x1) := by
  refine Eq.trans (zv_next f106_17 rfl) ?_
  refine Eq.trans (zs_getr f106_18 g0 g1 g2) ?_
  refine Eq.trans (zs_geti f106_21 g3 g4) ?_
  refine Eq.trans (zv_next f106_24 rfl) ?_
  refine Eq.trans (zv_next f106_25 rfl) ?_
  refine Eq.trans (zs_getr f106_26 g0 g1 g2) ?_
  refine Eq.trans (zv_next f106_29 rfl) ?_
  refine Eq.trans (zs_put f106_30 g3 g4 rfl) ?_
  refine Eq.trans (zv_next f106_33 rfl) ?_
  exact zs_ret0 f106_34
set_option maxRecDepth 20000 in
theorem zq107 : zi_M[107]? = some zi_m107 := rfl
theorem zl107_0 {pc : Nat} (_ : 0 ≤ pc) : zi_fe 107 pc = zu107_0.lookup pc := zi_feA zq107 pc
theorem f107_0 : zi_fe 107 0 = some ((.aload_n 0), 1, 0, 0, 0, 0, 0) := (zl107_0 (Nat.le_of_ble_eq_true rfl)).trans rfl
theorem f107_1 : zi_fe 107 1 = some ((.getfield 44), 3, 7, 6, 3, 417, 0) := (zl107_0 (Nat.le_of_ble_eq_true rfl)).trans rfl
theorem f107_4 : zi_fe 107 4 = some ((.aload_n 0), 1, 0, 0, 0, 0, 0) := (zl107_0 (Nat.le_of_ble_eq_true rfl)).trans rfl
theorem f107_5 : zi_fe 107 5 = some ((.getfield 37), 3, 7, 5, 3, 416, 0) := (zl107_0 (Nat.le_of_ble_eq_true rfl)).trans rfl
theorem f107_8 : zi_fe 107 8 = some ((.invokevirtual 66), 3, 13, 0, 1, 455, 2) := (zl107_0 (Nat.le_of_ble_eq_true rfl)).trans rfl
theorem f107_11 : zi_fe 107 11 = some ((.aload_n 0), 1, 0, 0, 0, 0, 0) := (zl107_0 (Nat.le_of_ble_eq_true rfl)).trans rfl
theorem f107_12 : zi_fe 107 12 = some ((.getfield 37), 3, 7, 5, 3, 416, 0) := (zl107_0 (Nat.le_of_ble_eq_true rfl)).trans rfl
theorem f107_15 : zi_fe 107 15 = some ((.iconst 0), 1, 0, 0, 0, 0, 0) := (zl107_0 (Nat.le_of_ble_eq_true rfl)).trans rfl
theorem f107_16 : zi_fe 107 16 = some ((.putfield 63), 3, 3, 1, 0, 328, 0) := (zl107_0 (Nat.le_of_ble_eq_true rfl)).trans rfl
theorem f107_19 : zi_fe 107 19 = some ((.aload_n 0), 1, 0, 0, 0, 0, 0) := (zl107_0 (Nat.le_of_ble_eq_true rfl)).trans rfl
theorem f107_20 : zi_fe 107 20 = some ((.getfield 44), 3, 7, 6, 3, 417, 0) := (zl107_0 (Nat.le_of_ble_eq_true rfl)).trans rfl
theorem f107_23 : zi_fe 107 23 = some ((.getfield 70), 3, 1, 3, 0, 362, 0) := (zl107_0 (Nat.le_of_ble_eq_true rfl)).trans rfl
theorem zl107_1 {pc : Nat} (h : 26 ≤ pc) : zi_fe 107 pc = zu107_1.lookup pc := (zl107_0 (Nat.le_trans (Nat.le_of_ble_eq_true rfl) h)).trans (zi_lkA (a := zi_i107_0) (c := 26) rfl h)
theorem f107_26 : zi_fe 107 26 = some ((.ifCond .eq 14), 3, 0, 0, 0, 0, 0) := (zl107_1 (Nat.le_of_ble_eq_true rfl)).trans rfl
theorem f107_29 : zi_fe 107 29 = some ((.bipush (-10)), 2, 0, 0, 0, 0, 0) := (zl107_1 (Nat.le_of_ble_eq_true rfl)).trans rfl
theorem f107_31 : zi_fe 107 31 = some ((.aload_n 0), 1, 0, 0, 0, 0, 0) := (zl107_1 (Nat.le_of_ble_eq_true rfl)).trans rfl
theorem f107_32 : zi_fe 107 32 = some ((.getfield 44), 3, 7, 6, 3, 417, 0) := (zl107_1 (Nat.le_of_ble_eq_true rfl)).trans rfl
theorem f107_35 : zi_fe 107 35 = some ((.getfield 73), 3, 1, 4, 0, 364, 0) := (zl107_1 (Nat.le_of_ble_eq_true rfl)).trans rfl
theorem f107_38 : zi_fe 107 38 = some (.isub, 1, 0, 0, 0, 0, 0) := (zl107_1 (Nat.le_of_ble_eq_true rfl)).trans rfl
theorem f107_39 : zi_fe 107 39 = some (.ireturn, 1, 0, 0, 0, 0, 0) := (zl107_1 (Nat.le_of_ble_eq_true rfl)).trans rfl
theorem f107_40 : zi_fe 107 40 = some ((.aload_n 0), 1, 0, 0, 0, 0, 0) := (zl107_1 (Nat.le_of_ble_eq_true rfl)).trans rfl
theorem f107_41 : zi_fe 107 41 = some ((.getfield 12), 3, 7, 0, 3, 411, 0) := (zl107_1 (Nat.le_of_ble_eq_true rfl)).trans rfl
theorem f107_44 : zi_fe 107 44 = some ((.aload_n 0), 1, 0, 0, 0, 0, 0) := (zl107_1 (Nat.le_of_ble_eq_true rfl)).trans rfl
theorem f107_45 : zi_fe 107 45 = some ((.getfield 44), 3, 7, 6, 3, 417, 0) := (zl107_1 (Nat.le_of_ble_eq_true rfl)).trans rfl
theorem f107_48 : zi_fe 107 48 = some ((.invokevirtual 76), 3, 76, 0, 6, 573, 2) := (zl107_1 (Nat.le_of_ble_eq_true rfl)).trans rfl
theorem zl107_2 {pc : Nat} (h : 51 ≤ pc) : zi_fe 107 pc = zu107_2.lookup pc := (zl107_1 (Nat.le_trans (Nat.le_of_ble_eq_true rfl) h)).trans (zi_lkA (a := zi_i107_1) (c := 51) rfl h)
theorem f107_51 : zi_fe 107 51 = some ((.aload_n 0), 1, 0, 0, 0, 0, 0) := (zl107_2 (Nat.le_of_ble_eq_true rfl)).trans rfl
theorem f107_52 : zi_fe 107 52 = some ((.getfield 23), 3, 7, 3, 3, 414, 0) := (zl107_2 (Nat.le_of_ble_eq_true rfl)).trans rfl
theorem f107_55 : zi_fe 107 55 = some ((.iconst 0), 1, 0, 0, 0, 0, 0) := (zl107_2 (Nat.le_of_ble_eq_true rfl)).trans rfl
theorem f107_56 : zi_fe 107 56 = some ((.iconst 0), 1, 0, 0, 0, 0, 0) := (zl107_2 (Nat.le_of_ble_eq_true rfl)).trans rfl
theorem f107_57 : zi_fe 107 57 = some (.bastore, 1, 0, 0, 0, 0, 0) := (zl107_2 (Nat.le_of_ble_eq_true rfl)).trans rfl
theorem f107_58 : zi_fe 107 58 = some ((.aload_n 0), 1, 0, 0, 0, 0, 0) := (zl107_2 (Nat.le_of_ble_eq_true rfl)).trans rfl
theorem f107_59 : zi_fe 107 59 = some ((.getfield 23), 3, 7, 3, 3, 414, 0) := (zl107_2 (Nat.le_of_ble_eq_true rfl)).trans rfl
theorem f107_62 : zi_fe 107 62 = some ((.iconst 1), 1, 0, 0, 0, 0, 0) := (zl107_2 (Nat.le_of_ble_eq_true rfl)).trans rfl
theorem f107_63 : zi_fe 107 63 = some ((.iconst 0), 1, 0, 0, 0, 0, 0) := (zl107_2 (Nat.le_of_ble_eq_true rfl)).trans rfl
theorem f107_64 : zi_fe 107 64 = some (.bastore, 1, 0, 0, 0, 0, 0) := (zl107_2 (Nat.le_of_ble_eq_true rfl)).trans rfl
theorem f107_65 : zi_fe 107 65 = some ((.aload_n 0), 1, 0, 0, 0, 0, 0) := (zl107_2 (Nat.le_of_ble_eq_true rfl)).trans rfl
theorem f107_66 : zi_fe 107 66 = some ((.getfield 44), 3, 7, 6, 3, 417, 0) := (zl107_2 (Nat.le_of_ble_eq_true rfl)).trans rfl
theorem zl107_3 {pc : Nat} (h : 69 ≤ pc) : zi_fe 107 pc = zu107_3.lookup pc := (zl107_2 (Nat.le_trans (Nat.le_of_ble_eq_true rfl) h)).trans (zi_lkA (a := zi_i107_2) (c := 69) rfl h)
theorem f107_69 : zi_fe 107 69 = some ((.getfield 80), 3, 1, 0, 0, 356, 0) := (zl107_3 (Nat.le_of_ble_eq_true rfl)).trans rfl
theorem f107_72 : zi_fe 107 72 = some (.ireturn, 1, 0, 0, 0, 0, 0) := (zl107_3 (Nat.le_of_ble_eq_true rfl)).trans rfl
theorem b107_0 {h : zi_Hp} {a0 : Nat} (g0 : a0 < zh_n h) (g1 : (zh_k h a0).1 = 7) (g2 : zh_r h a0 6 = .ref (zq (zh_r h a0 6))) (g3 : zh_r h a0 5 = .ref (zq (zh_r h a0 5))) (g4 : (zq (zh_r h a0 6)) < zh_n h) (g5 : (zh_k h (zq (zh_r h a0 6))).1 = 1) : zv 8 107 0 [.ref a0] [] h = (zv 7 13 0 [.ref (zq (zh_r h a0 6)), .ref (zq (zh_r h a0 5)), .double 0] [] h).bind fun r => zv 8 107 11 [.ref a0] (r.1.toList ++ []) r.2 := by
  refine Eq.trans (zv_next f107_0 rfl) ?_
  refine Eq.trans (zs_getr f107_1 g0 g1 g2) ?_
  refine Eq.trans (zv_next f107_4 rfl) ?_
  refine Eq.trans (zs_getr f107_5 g0 g1 g3) ?_
  exact zs_callV f107_8 (Nat.le_of_ble_eq_true rfl) (Nat.le_of_ble_eq_true rfl) rfl g4 g5 me_13 (by decide) rfl
theorem b107_11 {h : zi_Hp} {a0 : Nat} (g0 : a0 < zh_n h) (g1 : (zh_k h a0).1 = 7) (g2 : zh_r h a0 5 = .ref (zq (zh_r h a0 5))) (g3 : (zq (zh_r h a0 5)) < zh_n h) (g4 : (zh_k h (zq (zh_r h a0 5))).1 = 3) (g5 : zh_r h a0 6 = .ref (zq (zh_r h a0 6))) : zv 8 107 11 [.ref a0] [] h = zv 8 107 23 [.ref a0] [.ref (zq (zh_r h a0 6))] (zh_wi h (zq (zh_r h a0 5)) 1 0) := by
  refine Eq.trans (zv_next f107_11 rfl) ?_
  refine Eq.trans (zs_getr f107_12 g0 g1 g2) ?_
  refine Eq.trans (zs_ic f107_15 ic_0) ?_
  refine Eq.trans (zs_put f107_16 g3 g4 rfl) ?_
  refine Eq.trans (zv_next f107_19 rfl) ?_
  refine Eq.trans (zs_getr f107_20 g0 g1 g5) ?_
  rfl
theorem b107_23 {h : zi_Hp} {a0 : Nat} {t0 : Nat} (g0 : t0 < zh_n h) (g1 : (zh_k h t0).1 = 1) : zv 8 107 23 [.ref a0] [.ref t0] h = if (zh_i h t0 3) = 0 then zv 8 107 40 [.ref a0] [] h else zv 8 107 29 [.ref a0] [] h := by
  refine Eq.trans (zs_geti f107_23 g0 g1) ?_
  exact zs_if f107_26 rfl
theorem b107_29 {h : zi_Hp} {a0 : Nat} (g0 : a0 < zh_n h) (g1 : (zh_k h a0).1 = 7) (g2 : zh_r h a0 6 = .ref (zq (zh_r h a0 6))) (g3 : (zq (zh_r h a0 6)) < zh_n h) (g4 : (zh_k h (zq (zh_r h a0 6))).1 = 1) : zv 8 107 29 [.ref a0] [] h = some (some (.int ((-10) - (zh_i h (zq (zh_r h a0 6)) 4))), h) := by
  refine Eq.trans (zs_bp f107_29 bp_m10) ?_
  refine Eq.trans (zv_next f107_31 rfl) ?_
  refine Eq.trans (zs_getr f107_32 g0 g1 g2) ?_
  refine Eq.trans (zs_geti f107_35 g3 g4) ?_
  refine Eq.trans (zv_next f107_38 rfl) ?_
  exact zs_ret0 f107_39
theorem b107_40 {h : zi_Hp} {a0 : Nat} (g0 : a0 < zh_n h) (g1 : (zh_k h a0).1 = 7) (g2 : zh_r h a0 0 = .ref (zq (zh_r h a0 0))) (g3 : zh_r h a0 6 = .ref (zq (zh_r h a0 6))) (g4 : (zq (zh_r h a0 0)) < zh_n h) (g5 : (zh_k h (zq (zh_r h a0 0))).1 = 6) : zv 8 107 40 [.ref a0] [] h = (zv 7 76 0 [.ref (zq (zh_r h a0 0)), .ref (zq (zh_r h a0 6)), .double 0] [] h).bind fun r => zv 8 107 51 [.ref a0] (r.1.toList ++ []) r.2 := by
  refine Eq.trans (zv_next f107_40 rfl) ?_
  refine Eq.trans (zs_getr f107_41 g0 g1 g2) ?_
  refine Eq.trans (zv_next f107_44 rfl) ?_
  refine Eq.trans (zs_getr f107_45 g0 g1 g3) ?_
  exact zs_callV f107_48 (Nat.le_of_ble_eq_true rfl) (Nat.le_of_ble_eq_true rfl) rfl g4 g5 me_76 (by decide) rfl
theorem b107_51 {h : zi_Hp} {a0 : Nat} (g0 : a0 < zh_n h) (g1 : (zh_k h a0).1 = 7) (g2 : zh_r h a0 3 = .ref (zq (zh_r h a0 3))) (g3 : (zq (zh_r h a0 3)) < zh_n h) (g4 : 0 < (zh_k h (zq (zh_r h a0 3))).2) (g5 : (zh_k h (zq (zh_r h a0 3))).1 = 101) (g6 : 1 < (zh_k h (zq (zh_r h a0 3))).2) (g7 : zh_r h a0 6 = .ref (zq (zh_r h a0 6))) : zv 8 107 51 [.ref a0] [] h = zv 8 107 69 [.ref a0] [.ref (zq (zh_r h a0 6))] (zh_wb (zh_wb h (zq (zh_r h a0 3)) 0 false) (zq (zh_r h a0 3)) 1 false) := by
  refine Eq.trans (zv_next f107_51 rfl) ?_
  refine Eq.trans (zs_getr f107_52 g0 g1 g2) ?_
  refine Eq.trans (zs_ic f107_55 ic_0) ?_
  refine Eq.trans (zs_ic f107_56 ic_0) ?_
  refine Eq.trans (zs_bast f107_57 g3 g5 (zj_lit (by decide) g4) rfl) ?_
  refine Eq.trans (zv_next f107_58 rfl) ?_
  refine Eq.trans (zs_getr f107_59 g0 g1 g2) ?_
  refine Eq.trans (zs_ic f107_62 ic_1) ?_
  refine Eq.trans (zs_ic f107_63 ic_0) ?_
  refine Eq.trans (zs_bast f107_64 g3 g5 (zj_lit (by decide) g6) rfl) ?_
  refine Eq.trans (zv_next f107_65 rfl) ?_
  refine Eq.trans (zs_getr f107_66 g0 g1 g7) ?_
  rfl
theorem b107_69 {h : zi_Hp} {a0 : Nat} {t0 : Nat} (g0 : t0 < zh_n h) (g1 : (zh_k h t0).1 = 1) : zv 8 107 69 [.ref a0] [.ref t0] h = some (some (.int (zh_i h t0 0)), h) := by
  refine Eq.trans (zs_geti f107_69 g0 g1) ?_
  exact zs_ret0 f107_72
set_option maxRecDepth 20000 in
theorem zq108 : zi_M[108]? = some zi_m108 := rfl
theorem zl108_0 {pc : Nat} (_ : 0 ≤ pc) : zi_fe 108 pc = zu108_0.lookup pc := zi_feA zq108 pc
theorem f108_0 : zi_fe 108 0 = some ((.aload_n 0), 1, 0, 0, 0, 0, 0) := (zl108_0 (Nat.le_of_ble_eq_true rfl)).trans rfl
theorem f108_1 : zi_fe 108 1 = some ((.getfield 44), 3, 7, 6, 3, 417, 0) := (zl108_0 (Nat.le_of_ble_eq_true rfl)).trans rfl
theorem f108_4 : zi_fe 108 4 = some ((.getfield 70), 3, 1, 3, 0, 362, 0) := (zl108_0 (Nat.le_of_ble_eq_true rfl)).trans rfl
theorem f108_7 : zi_fe 108 7 = some (.ireturn, 1, 0, 0, 0, 0, 0) := (zl108_0 (Nat.le_of_ble_eq_true rfl)).trans rfl
theorem b108_0 {h : zi_Hp} {a0 : Nat} (g0 : a0 < zh_n h) (g1 : (zh_k h a0).1 = 7) (g2 : zh_r h a0 6 = .ref (zq (zh_r h a0 6))) (g3 : (zq (zh_r h a0 6)) < zh_n h) (g4 : (zh_k h (zq (zh_r h a0 6))).1 = 1) : zv 1 108 0 [.ref a0] [] h = some (some (.int (zh_i h (zq (zh_r h a0 6)) 3)), h) := by
  refine Eq.trans (zv_next f108_0 rfl) ?_
  refine Eq.trans (zs_getr f108_1 g0 g1 g2) ?_
  refine Eq.trans (zs_geti f108_4 g3 g4) ?_
  exact zs_ret0 f108_7
set_option maxRecDepth 20000 in
theorem zq109 : zi_M[109]? = some zi_m109 := rfl
theorem zl109_0 {pc : Nat} (_ : 0 ≤ pc) : zi_fe 109 pc = zu109_0.lookup pc := zi_feA zq109 pc
theorem f109_0 : zi_fe 109 0 = some ((.iload_n 1), 1, 0, 0, 0, 0, 0) := (zl109_0 (Nat.le_of_ble_eq_true rfl)).trans rfl
theorem f109_1 : zi_fe 109 1 = some ((.tableswitch 139 0 7 #[47, 58, 69, 90, 101, 112, 120, 131]), 47, 0, 0, 0, 0, 0) := (zl109_0 (Nat.le_of_ble_eq_true rfl)).trans rfl
theorem f109_48 : zi_fe 109 48 = some ((.aload_n 0), 1, 0, 0, 0, 0, 0) := (zl109_0 (Nat.le_of_ble_eq_true rfl)).trans rfl
theorem f109_49 : zi_fe 109 49 = some ((.getfield 12), 3, 7, 0, 3, 411, 0) := (zl109_0 (Nat.le_of_ble_eq_true rfl)).trans rfl
theorem f109_52 : zi_fe 109 52 = some ((.getfield 83), 3, 6, 0, 3, 255, 0) := (zl109_0 (Nat.le_of_ble_eq_true rfl)).trans rfl
theorem f109_55 : zi_fe 109 55 = some ((.getfield 87), 3, 4, 0, 0, 139, 0) := (zl109_0 (Nat.le_of_ble_eq_true rfl)).trans rfl
theorem f109_58 : zi_fe 109 58 = some (.ireturn, 1, 0, 0, 0, 0, 0) := (zl109_0 (Nat.le_of_ble_eq_true rfl)).trans rfl
theorem f109_59 : zi_fe 109 59 = some ((.aload_n 0), 1, 0, 0, 0, 0, 0) := (zl109_0 (Nat.le_of_ble_eq_true rfl)).trans rfl
theorem f109_60 : zi_fe 109 60 = some ((.getfield 12), 3, 7, 0, 3, 411, 0) := (zl109_0 (Nat.le_of_ble_eq_true rfl)).trans rfl
theorem f109_63 : zi_fe 109 63 = some ((.getfield 83), 3, 6, 0, 3, 255, 0) := (zl109_0 (Nat.le_of_ble_eq_true rfl)).trans rfl
theorem f109_66 : zi_fe 109 66 = some ((.getfield 92), 3, 4, 1, 0, 143, 0) := (zl109_0 (Nat.le_of_ble_eq_true rfl)).trans rfl
theorem f109_69 : zi_fe 109 69 = some (.ireturn, 1, 0, 0, 0, 0, 0) := (zl109_0 (Nat.le_of_ble_eq_true rfl)).trans rfl
theorem zl109_1 {pc : Nat} (h : 70 ≤ pc) : zi_fe 109 pc = zu109_1.lookup pc := (zl109_0 (Nat.le_trans (Nat.le_of_ble_eq_true rfl) h)).trans (zi_lkA (a := zi_i109_0) (c := 70) rfl h)
theorem f109_70 : zi_fe 109 70 = some ((.aload_n 0), 1, 0, 0, 0, 0, 0) := (zl109_1 (Nat.le_of_ble_eq_true rfl)).trans rfl
theorem f109_71 : zi_fe 109 71 = some ((.getfield 12), 3, 7, 0, 3, 411, 0) := (zl109_1 (Nat.le_of_ble_eq_true rfl)).trans rfl
theorem f109_74 : zi_fe 109 74 = some ((.getfield 83), 3, 6, 0, 3, 255, 0) := (zl109_1 (Nat.le_of_ble_eq_true rfl)).trans rfl
theorem f109_77 : zi_fe 109 77 = some ((.aload_n 0), 1, 0, 0, 0, 0, 0) := (zl109_1 (Nat.le_of_ble_eq_true rfl)).trans rfl
theorem f109_78 : zi_fe 109 78 = some ((.getfield 12), 3, 7, 0, 3, 411, 0) := (zl109_1 (Nat.le_of_ble_eq_true rfl)).trans rfl
theorem f109_81 : zi_fe 109 81 = some ((.getfield 83), 3, 6, 0, 3, 255, 0) := (zl109_1 (Nat.le_of_ble_eq_true rfl)).trans rfl
theorem f109_84 : zi_fe 109 84 = some ((.getfield 92), 3, 4, 1, 0, 143, 0) := (zl109_1 (Nat.le_of_ble_eq_true rfl)).trans rfl
theorem f109_87 : zi_fe 109 87 = some ((.invokevirtual 95), 3, 42, 0, 4, 766, 2) := (zl109_1 (Nat.le_of_ble_eq_true rfl)).trans rfl
theorem f109_90 : zi_fe 109 90 = some (.ireturn, 1, 0, 0, 0, 0, 0) := (zl109_1 (Nat.le_of_ble_eq_true rfl)).trans rfl
theorem f109_91 : zi_fe 109 91 = some ((.aload_n 0), 1, 0, 0, 0, 0, 0) := (zl109_1 (Nat.le_of_ble_eq_true rfl)).trans rfl
theorem f109_92 : zi_fe 109 92 = some ((.getfield 12), 3, 7, 0, 3, 411, 0) := (zl109_1 (Nat.le_of_ble_eq_true rfl)).trans rfl
theorem f109_95 : zi_fe 109 95 = some ((.getfield 83), 3, 6, 0, 3, 255, 0) := (zl109_1 (Nat.le_of_ble_eq_true rfl)).trans rfl
theorem zl109_2 {pc : Nat} (h : 98 ≤ pc) : zi_fe 109 pc = zu109_2.lookup pc := (zl109_1 (Nat.le_trans (Nat.le_of_ble_eq_true rfl) h)).trans (zi_lkA (a := zi_i109_1) (c := 98) rfl h)
theorem f109_98 : zi_fe 109 98 = some ((.getfield 99), 3, 4, 2, 0, 146, 0) := (zl109_2 (Nat.le_of_ble_eq_true rfl)).trans rfl
theorem f109_101 : zi_fe 109 101 = some (.ireturn, 1, 0, 0, 0, 0, 0) := (zl109_2 (Nat.le_of_ble_eq_true rfl)).trans rfl
theorem f109_102 : zi_fe 109 102 = some ((.aload_n 0), 1, 0, 0, 0, 0, 0) := (zl109_2 (Nat.le_of_ble_eq_true rfl)).trans rfl
theorem f109_103 : zi_fe 109 103 = some ((.getfield 12), 3, 7, 0, 3, 411, 0) := (zl109_2 (Nat.le_of_ble_eq_true rfl)).trans rfl
theorem f109_106 : zi_fe 109 106 = some ((.getfield 83), 3, 6, 0, 3, 255, 0) := (zl109_2 (Nat.le_of_ble_eq_true rfl)).trans rfl
theorem f109_109 : zi_fe 109 109 = some ((.invokevirtual 102), 3, 58, 0, 4, 767, 1) := (zl109_2 (Nat.le_of_ble_eq_true rfl)).trans rfl
theorem f109_112 : zi_fe 109 112 = some (.ireturn, 1, 0, 0, 0, 0, 0) := (zl109_2 (Nat.le_of_ble_eq_true rfl)).trans rfl
theorem f109_113 : zi_fe 109 113 = some ((.aload_n 0), 1, 0, 0, 0, 0, 0) := (zl109_2 (Nat.le_of_ble_eq_true rfl)).trans rfl
theorem f109_114 : zi_fe 109 114 = some ((.getfield 12), 3, 7, 0, 3, 411, 0) := (zl109_2 (Nat.le_of_ble_eq_true rfl)).trans rfl
theorem f109_117 : zi_fe 109 117 = some ((.invokevirtual 106), 3, 98, 0, 6, 772, 1) := (zl109_2 (Nat.le_of_ble_eq_true rfl)).trans rfl
theorem f109_120 : zi_fe 109 120 = some (.ireturn, 1, 0, 0, 0, 0, 0) := (zl109_2 (Nat.le_of_ble_eq_true rfl)).trans rfl
theorem f109_121 : zi_fe 109 121 = some ((.aload_n 0), 1, 0, 0, 0, 0, 0) := (zl109_2 (Nat.le_of_ble_eq_true rfl)).trans rfl
theorem zl109_3 {pc : Nat} (h : 122 ≤ pc) : zi_fe 109 pc = zu109_3.lookup pc := (zl109_2 (Nat.le_trans (Nat.le_of_ble_eq_true rfl) h)).trans (zi_lkA (a := zi_i109_2) (c := 122) rfl h)
theorem f109_122 : zi_fe 109 122 = some ((.getfield 12), 3, 7, 0, 3, 411, 0) := (zl109_3 (Nat.le_of_ble_eq_true rfl)).trans rfl
theorem f109_125 : zi_fe 109 125 = some ((.getfield 83), 3, 6, 0, 3, 255, 0) := (zl109_3 (Nat.le_of_ble_eq_true rfl)).trans rfl
theorem f109_128 : zi_fe 109 128 = some ((.invokevirtual 109), 3, 59, 0, 4, 776, 1) := (zl109_3 (Nat.le_of_ble_eq_true rfl)).trans rfl
theorem f109_131 : zi_fe 109 131 = some (.ireturn, 1, 0, 0, 0, 0, 0) := (zl109_3 (Nat.le_of_ble_eq_true rfl)).trans rfl
theorem f109_132 : zi_fe 109 132 = some ((.aload_n 0), 1, 0, 0, 0, 0, 0) := (zl109_3 (Nat.le_of_ble_eq_true rfl)).trans rfl
theorem f109_133 : zi_fe 109 133 = some ((.getfield 12), 3, 7, 0, 3, 411, 0) := (zl109_3 (Nat.le_of_ble_eq_true rfl)).trans rfl
theorem f109_136 : zi_fe 109 136 = some ((.invokevirtual 112), 3, 96, 0, 6, 781, 1) := (zl109_3 (Nat.le_of_ble_eq_true rfl)).trans rfl
theorem f109_139 : zi_fe 109 139 = some (.ireturn, 1, 0, 0, 0, 0, 0) := (zl109_3 (Nat.le_of_ble_eq_true rfl)).trans rfl
theorem f109_140 : zi_fe 109 140 = some ((.iconst (-1)), 1, 0, 0, 0, 0, 0) := (zl109_3 (Nat.le_of_ble_eq_true rfl)).trans rfl
theorem f109_141 : zi_fe 109 141 = some (.ireturn, 1, 0, 0, 0, 0, 0) := (zl109_3 (Nat.le_of_ble_eq_true rfl)).trans rfl
theorem b109_0_c0 {h : zi_Hp} {a0 : Nat} {x1 : Int32}  (hx : x1 = 0) : zv 6 109 0 [.ref a0, .int x1] [] h = zv 6 109 48 [.ref a0, .int x1] [] h := by
  refine Eq.trans (zv_next f109_0 rfl) ?_
  exact zs_sw (off := 47) (v := 0) f109_1 (by decide) (by decide) rfl hx
theorem b109_0_c1 {h : zi_Hp} {a0 : Nat} {x1 : Int32}  (hx : x1 = 1) : zv 6 109 0 [.ref a0, .int x1] [] h = zv 6 109 59 [.ref a0, .int x1] [] h := by
  refine Eq.trans (zv_next f109_0 rfl) ?_
  exact zs_sw (off := 58) (v := 1) f109_1 (by decide) (by decide) rfl hx
theorem b109_0_c2 {h : zi_Hp} {a0 : Nat} {x1 : Int32}  (hx : x1 = 2) : zv 6 109 0 [.ref a0, .int x1] [] h = zv 6 109 70 [.ref a0, .int x1] [] h := by
  refine Eq.trans (zv_next f109_0 rfl) ?_
  exact zs_sw (off := 69) (v := 2) f109_1 (by decide) (by decide) rfl hx
theorem b109_0_c3 {h : zi_Hp} {a0 : Nat} {x1 : Int32}  (hx : x1 = 3) : zv 6 109 0 [.ref a0, .int x1] [] h = zv 6 109 91 [.ref a0, .int x1] [] h := by
  refine Eq.trans (zv_next f109_0 rfl) ?_
  exact zs_sw (off := 90) (v := 3) f109_1 (by decide) (by decide) rfl hx
theorem b109_0_c4 {h : zi_Hp} {a0 : Nat} {x1 : Int32}  (hx : x1 = 4) : zv 6 109 0 [.ref a0, .int x1] [] h = zv 6 109 102 [.ref a0, .int x1] [] h := by
  refine Eq.trans (zv_next f109_0 rfl) ?_
  exact zs_sw (off := 101) (v := 4) f109_1 (by decide) (by decide) rfl hx
theorem b109_0_c5 {h : zi_Hp} {a0 : Nat} {x1 : Int32}  (hx : x1 = 5) : zv 6 109 0 [.ref a0, .int x1] [] h = zv 6 109 113 [.ref a0, .int x1] [] h := by
  refine Eq.trans (zv_next f109_0 rfl) ?_
  exact zs_sw (off := 112) (v := 5) f109_1 (by decide) (by decide) rfl hx
theorem b109_0_c6 {h : zi_Hp} {a0 : Nat} {x1 : Int32}  (hx : x1 = 6) : zv 6 109 0 [.ref a0, .int x1] [] h = zv 6 109 121 [.ref a0, .int x1] [] h := by
  refine Eq.trans (zv_next f109_0 rfl) ?_
  exact zs_sw (off := 120) (v := 6) f109_1 (by decide) (by decide) rfl hx
theorem b109_0_c7 {h : zi_Hp} {a0 : Nat} {x1 : Int32}  (hx : x1 = 7) : zv 6 109 0 [.ref a0, .int x1] [] h = zv 6 109 132 [.ref a0, .int x1] [] h := by
  refine Eq.trans (zv_next f109_0 rfl) ?_
  exact zs_sw (off := 131) (v := 7) f109_1 (by decide) (by decide) rfl hx
theorem b109_0_d {h : zi_Hp} {a0 : Nat} {x1 : Int32}  (hx : (x1).toInt < 0 ∨ 7 < (x1).toInt) : zv 6 109 0 [.ref a0, .int x1] [] h = zv 6 109 140 [.ref a0, .int x1] [] h := by
  refine Eq.trans (zv_next f109_0 rfl) ?_
  exact zs_swO f109_1 rfl hx
theorem b109_48 {h : zi_Hp} {a0 : Nat} {x1 : Int32} (g0 : a0 < zh_n h) (g1 : (zh_k h a0).1 = 7) (g2 : zh_r h a0 0 = .ref (zq (zh_r h a0 0))) (g3 : (zq (zh_r h a0 0)) < zh_n h) (g4 : (zh_k h (zq (zh_r h a0 0))).1 = 6) (g5 : zh_r h (zq (zh_r h a0 0)) 0 = .ref (zq (zh_r h (zq (zh_r h a0 0)) 0))) (g6 : (zq (zh_r h (zq (zh_r h a0 0)) 0)) < zh_n h) (g7 : (zh_k h (zq (zh_r h (zq (zh_r h a0 0)) 0))).1 = 4) : zv 6 109 48 [.ref a0, .int x1] [] h = some (some (.int (zh_i h (zq (zh_r h (zq (zh_r h a0 0)) 0)) 0)), h) := by
  refine Eq.trans (zv_next f109_48 rfl) ?_
  refine Eq.trans (zs_getr f109_49 g0 g1 g2) ?_
  refine Eq.trans (zs_getr f109_52 g3 g4 g5) ?_
  refine Eq.trans (zs_geti f109_55 g6 g7) ?_
  exact zs_ret0 f109_58
theorem b109_59 {h : zi_Hp} {a0 : Nat} {x1 : Int32} (g0 : a0 < zh_n h) (g1 : (zh_k h a0).1 = 7) (g2 : zh_r h a0 0 = .ref (zq (zh_r h a0 0))) (g3 : (zq (zh_r h a0 0)) < zh_n h) (g4 : (zh_k h (zq (zh_r h a0 0))).1 = 6) (g5 : zh_r h (zq (zh_r h a0 0)) 0 = .ref (zq (zh_r h (zq (zh_r h a0 0)) 0))) (g6 : (zq (zh_r h (zq (zh_r h a0 0)) 0)) < zh_n h) (g7 : (zh_k h (zq (zh_r h (zq (zh_r h a0 0)) 0))).1 = 4) : zv 6 109 59 [.ref a0, .int x1] [] h = some (some (.int (zh_i h (zq (zh_r h (zq (zh_r h a0 0)) 0)) 1)), h) := by
  refine Eq.trans (zv_next f109_59 rfl) ?_
  refine Eq.trans (zs_getr f109_60 g0 g1 g2) ?_
  refine Eq.trans (zs_getr f109_63 g3 g4 g5) ?_
  refine Eq.trans (zs_geti f109_66 g6 g7) ?_
  exact zs_ret0 f109_69
theorem b109_70 {h : zi_Hp} {a0 : Nat} {x1 : Int32} (g0 : a0 < zh_n h) (g1 : (zh_k h a0).1 = 7) (g2 : zh_r h a0 0 = .ref (zq (zh_r h a0 0))) (g3 : (zq (zh_r h a0 0)) < zh_n h) (g4 : (zh_k h (zq (zh_r h a0 0))).1 = 6) (g5 : zh_r h (zq (zh_r h a0 0)) 0 = .ref (zq (zh_r h (zq (zh_r h a0 0)) 0))) (g6 : (zq (zh_r h (zq (zh_r h a0 0)) 0)) < zh_n h) (g7 : (zh_k h (zq (zh_r h (zq (zh_r h a0 0)) 0))).1 = 4) : zv 6 109 70 [.ref a0, .int x1] [] h = (zv 2 42 0 [.ref (zq (zh_r h (zq (zh_r h a0 0)) 0)), .int (zh_i h (zq (zh_r h (zq (zh_r h a0 0)) 0)) 1)] [] h).bind fun r => zv 6 109 90 [.ref a0, .int x1] (r.1.toList ++ []) r.2 := by
  refine Eq.trans (zv_next f109_70 rfl) ?_
  refine Eq.trans (zs_getr f109_71 g0 g1 g2) ?_
  refine Eq.trans (zs_getr f109_74 g3 g4 g5) ?_
  refine Eq.trans (zv_next f109_77 rfl) ?_
  refine Eq.trans (zs_getr f109_78 g0 g1 g2) ?_
  refine Eq.trans (zs_getr f109_81 g3 g4 g5) ?_
  refine Eq.trans (zs_geti f109_84 g6 g7) ?_
  exact zs_callV f109_87 (Nat.le_of_ble_eq_true rfl) (Nat.le_of_ble_eq_true rfl) rfl g6 g7 me_42 (by decide) rfl
theorem b109_90 {h : zi_Hp} {a0 : Nat} {x1 : Int32} {s0 : Int32}  : zv 6 109 90 [.ref a0, .int x1] [.int s0] h = some (some (.int s0), h) := by
  exact zs_ret0 f109_90
theorem b109_91 {h : zi_Hp} {a0 : Nat} {x1 : Int32} (g0 : a0 < zh_n h) (g1 : (zh_k h a0).1 = 7) (g2 : zh_r h a0 0 = .ref (zq (zh_r h a0 0))) (g3 : (zq (zh_r h a0 0)) < zh_n h) (g4 : (zh_k h (zq (zh_r h a0 0))).1 = 6) (g5 : zh_r h (zq (zh_r h a0 0)) 0 = .ref (zq (zh_r h (zq (zh_r h a0 0)) 0))) (g6 : (zq (zh_r h (zq (zh_r h a0 0)) 0)) < zh_n h) (g7 : (zh_k h (zq (zh_r h (zq (zh_r h a0 0)) 0))).1 = 4) : zv 6 109 91 [.ref a0, .int x1] [] h = some (some (.int (zh_i h (zq (zh_r h (zq (zh_r h a0 0)) 0)) 2)), h) := by
  refine Eq.trans (zv_next f109_91 rfl) ?_
  refine Eq.trans (zs_getr f109_92 g0 g1 g2) ?_
  refine Eq.trans (zs_getr f109_95 g3 g4 g5) ?_
  refine Eq.trans (zs_geti f109_98 g6 g7) ?_
  exact zs_ret0 f109_101
theorem b109_102 {h : zi_Hp} {a0 : Nat} {x1 : Int32} (g0 : a0 < zh_n h) (g1 : (zh_k h a0).1 = 7) (g2 : zh_r h a0 0 = .ref (zq (zh_r h a0 0))) (g3 : (zq (zh_r h a0 0)) < zh_n h) (g4 : (zh_k h (zq (zh_r h a0 0))).1 = 6) (g5 : zh_r h (zq (zh_r h a0 0)) 0 = .ref (zq (zh_r h (zq (zh_r h a0 0)) 0))) (g6 : (zq (zh_r h (zq (zh_r h a0 0)) 0)) < zh_n h) (g7 : (zh_k h (zq (zh_r h (zq (zh_r h a0 0)) 0))).1 = 4) : zv 6 109 102 [.ref a0, .int x1] [] h = (zv 3 58 0 [.ref (zq (zh_r h (zq (zh_r h a0 0)) 0)), .double 0, .double 0] [] h).bind fun r => zv 6 109 112 [.ref a0, .int x1] (r.1.toList ++ []) r.2 := by
  refine Eq.trans (zv_next f109_102 rfl) ?_
  refine Eq.trans (zs_getr f109_103 g0 g1 g2) ?_
  refine Eq.trans (zs_getr f109_106 g3 g4 g5) ?_
  exact zs_callV f109_109 (Nat.le_of_ble_eq_true rfl) (Nat.le_of_ble_eq_true rfl) rfl g6 g7 me_58 (by decide) rfl
theorem b109_112 {h : zi_Hp} {a0 : Nat} {x1 : Int32} {s0 : Int32}  : zv 6 109 112 [.ref a0, .int x1] [.int s0] h = some (some (.int s0), h) := by
  exact zs_ret0 f109_112
theorem b109_113 {h : zi_Hp} {a0 : Nat} {x1 : Int32} (g0 : a0 < zh_n h) (g1 : (zh_k h a0).1 = 7) (g2 : zh_r h a0 0 = .ref (zq (zh_r h a0 0))) (g3 : (zq (zh_r h a0 0)) < zh_n h) (g4 : (zh_k h (zq (zh_r h a0 0))).1 = 6) : zv 6 109 113 [.ref a0, .int x1] [] h = (zv 3 98 0 [.ref (zq (zh_r h a0 0)), .double 0, .double 0] [] h).bind fun r => zv 6 109 120 [.ref a0, .int x1] (r.1.toList ++ []) r.2 := by
  refine Eq.trans (zv_next f109_113 rfl) ?_
  refine Eq.trans (zs_getr f109_114 g0 g1 g2) ?_
  exact zs_callV f109_117 (Nat.le_of_ble_eq_true rfl) (Nat.le_of_ble_eq_true rfl) rfl g3 g4 me_98 (by decide) rfl
theorem b109_120 {h : zi_Hp} {a0 : Nat} {x1 : Int32} {s0 : Int32}  : zv 6 109 120 [.ref a0, .int x1] [.int s0] h = some (some (.int s0), h) := by
  exact zs_ret0 f109_120
theorem b109_121 {h : zi_Hp} {a0 : Nat} {x1 : Int32} (g0 : a0 < zh_n h) (g1 : (zh_k h a0).1 = 7) (g2 : zh_r h a0 0 = .ref (zq (zh_r h a0 0))) (g3 : (zq (zh_r h a0 0)) < zh_n h) (g4 : (zh_k h (zq (zh_r h a0 0))).1 = 6) (g5 : zh_r h (zq (zh_r h a0 0)) 0 = .ref (zq (zh_r h (zq (zh_r h a0 0)) 0))) (g6 : (zq (zh_r h (zq (zh_r h a0 0)) 0)) < zh_n h) (g7 : (zh_k h (zq (zh_r h (zq (zh_r h a0 0)) 0))).1 = 4) : zv 6 109 121 [.ref a0, .int x1] [] h = (zv 3 59 0 [.ref (zq (zh_r h (zq (zh_r h a0 0)) 0)), .double 0, .double 0] [] h).bind fun r => zv 6 109 131 [.ref a0, .int x1] (r.1.toList ++ []) r.2 := by
  refine Eq.trans (zv_next f109_121 rfl) ?_
  refine Eq.trans (zs_getr f109_122 g0 g1 g2) ?_
  refine Eq.trans (zs_getr f109_125 g3 g4 g5) ?_
  exact zs_callV f109_128 (Nat.le_of_ble_eq_true rfl) (Nat.le_of_ble_eq_true rfl) rfl g6 g7 me_59 (by decide) rfl
theorem b109_131 {h : zi_Hp} {a0 : Nat} {x1 : Int32} {s0 : Int32}  : zv 6 109 131 [.ref a0, .int x1] [.int s0] h = some (some (.int s0), h) := by
  exact zs_ret0 f109_131
theorem b109_132 {h : zi_Hp} {a0 : Nat} {x1 : Int32} (g0 : a0 < zh_n h) (g1 : (zh_k h a0).1 = 7) (g2 : zh_r h a0 0 = .ref (zq (zh_r h a0 0))) (g3 : (zq (zh_r h a0 0)) < zh_n h) (g4 : (zh_k h (zq (zh_r h a0 0))).1 = 6) : zv 6 109 132 [.ref a0, .int x1] [] h = (zv 5 96 0 [.ref (zq (zh_r h a0 0)), .double 0, .double 0] [] h).bind fun r => zv 6 109 139 [.ref a0, .int x1] (r.1.toList ++ []) r.2 := by
  refine Eq.trans (zv_next f109_132 rfl) ?_
  refine Eq.trans (zs_getr f109_133 g0 g1 g2) ?_
  exact zs_callV f109_136 (Nat.le_of_ble_eq_true rfl) (Nat.le_of_ble_eq_true rfl) rfl g3 g4 me_96 (by decide) rfl
theorem b109_139 {h : zi_Hp} {a0 : Nat} {x1 : Int32} {s0 : Int32}  : zv 6 109 139 [.ref a0, .int x1] [.int s0] h = some (some (.int s0), h) := by
  exact zs_ret0 f109_139
theorem b109_140 {h : zi_Hp} {a0 : Nat} {x1 : Int32}  : zv 6 109 140 [.ref a0, .int x1] [] h = some (some (.int (-1)), h) := by
  refine Eq.trans (zs_ic f109_140 ic_m1) ?_
  exact zs_ret0 f109_141
