set_option maxRecDepth 20000 in
theorem zq0 : zi_M[0]? = some zi_m0 := rfl
theorem zl0_0 {pc : Nat} (_ : 0 ≤ pc) : zi_fe 0 pc = zu0_0.lookup pc := zi_feA zq0 pc
theorem f0_0 : zi_fe 0 0 = some ((.aload_n 0), 1, 0, 0, 0, 0, 0) := (zl0_0 (Nat.le_of_ble_eq_true rfl)).trans rfl
theorem f0_1 : zi_fe 0 1 = some ((.invokespecial 3), 3, 0, 3, 0, 191, 1) := (zl0_0 (Nat.le_of_ble_eq_true rfl)).trans rfl
theorem f0_4 : zi_fe 0 4 = some ((.aload_n 0), 1, 0, 0, 0, 0, 0) := (zl0_0 (Nat.le_of_ble_eq_true rfl)).trans rfl
theorem f0_5 : zi_fe 0 5 = some ((.bipush 24), 2, 0, 0, 0, 0, 0) := (zl0_0 (Nat.le_of_ble_eq_true rfl)).trans rfl
theorem f0_7 : zi_fe 0 7 = some ((.newarray .int), 2, 100, 0, 0, 183, 0) := (zl0_0 (Nat.le_of_ble_eq_true rfl)).trans rfl
theorem f0_9 : zi_fe 0 9 = some ((.putfield 9), 3, 0, 12, 3, 225, 0) := (zl0_0 (Nat.le_of_ble_eq_true rfl)).trans rfl
theorem f0_12 : zi_fe 0 12 = some ((.aload_n 0), 1, 0, 0, 0, 0, 0) := (zl0_0 (Nat.le_of_ble_eq_true rfl)).trans rfl
theorem f0_13 : zi_fe 0 13 = some ((.invokevirtual 15), 3, 1, 0, 0, 192, 1) := (zl0_0 (Nat.le_of_ble_eq_true rfl)).trans rfl
theorem f0_16 : zi_fe 0 16 = some (.return_, 1, 0, 0, 0, 0, 0) := (zl0_0 (Nat.le_of_ble_eq_true rfl)).trans rfl
theorem b0_0 {h : zi_Hp} {a0 : Nat}  : zv 3 0 0 [.ref a0] [] h = zv 3 0 9 [.ref a0] [.ref (zh_n h), .ref a0] (zh_al h 100 24) := by
  refine Eq.trans (zv_next f0_0 rfl) ?_
  refine Eq.trans (zs_objI f0_1 (Nat.le_of_ble_eq_true rfl)) ?_
  refine Eq.trans (zv_next f0_4 rfl) ?_
  refine Eq.trans (zs_bp f0_5 bp_24) ?_
  refine Eq.trans (zs_newa (N := 24) f0_7 (by decide)) ?_
  rfl
theorem b0_9 {h : zi_Hp} {a0 : Nat} {t0 : Nat} {t1 : Nat} (g0 : t0 < zh_n h) (g1 : (zh_k h t0).1 = 0) (g2 : a0 < zh_n h) (g3 : (zh_k h a0).1 = 0) : zv 3 0 9 [.ref a0] [.ref t1, .ref t0] h = (zv 2 1 0 [.ref a0] [] (zh_wr h t0 12 (.ref t1))).bind fun r => zv 3 0 16 [.ref a0] (r.1.toList ++ []) r.2 := by
  refine Eq.trans (zs_put f0_9 g0 g1 rfl) ?_
  refine Eq.trans (zv_next f0_12 rfl) ?_
  exact zs_callV f0_13 (Nat.le_of_ble_eq_true rfl) (Nat.le_of_ble_eq_true rfl) rfl g2 g3 me_1 (by decide) rfl
theorem b0_16 {h : zi_Hp} {a0 : Nat}  : zv 3 0 16 [.ref a0] [] h = some (none, h) := by
  exact zv_ret f0_16 rfl
set_option maxRecDepth 20000 in
theorem zq1 : zi_M[1]? = some zi_m1 := rfl
theorem zl1_0 {pc : Nat} (_ : 0 ≤ pc) : zi_fe 1 pc = zu1_0.lookup pc := zi_feA zq1 pc
theorem f1_0 : zi_fe 1 0 = some ((.aload_n 0), 1, 0, 0, 0, 0, 0) := (zl1_0 (Nat.le_of_ble_eq_true rfl)).trans rfl
theorem f1_1 : zi_fe 1 1 = some ((.iconst 0), 1, 0, 0, 0, 0, 0) := (zl1_0 (Nat.le_of_ble_eq_true rfl)).trans rfl
theorem f1_2 : zi_fe 1 2 = some ((.putfield 18), 3, 0, 0, 0, 199, 0) := (zl1_0 (Nat.le_of_ble_eq_true rfl)).trans rfl
theorem f1_5 : zi_fe 1 5 = some ((.aload_n 0), 1, 0, 0, 0, 0, 0) := (zl1_0 (Nat.le_of_ble_eq_true rfl)).trans rfl
theorem f1_6 : zi_fe 1 6 = some ((.bipush (-4)), 2, 0, 0, 0, 0, 0) := (zl1_0 (Nat.le_of_ble_eq_true rfl)).trans rfl
theorem f1_8 : zi_fe 1 8 = some ((.putfield 22), 3, 0, 4, 0, 208, 0) := (zl1_0 (Nat.le_of_ble_eq_true rfl)).trans rfl
theorem f1_11 : zi_fe 1 11 = some ((.aload_n 0), 1, 0, 0, 0, 0, 0) := (zl1_0 (Nat.le_of_ble_eq_true rfl)).trans rfl
theorem f1_12 : zi_fe 1 12 = some ((.getfield 9), 3, 0, 12, 3, 225, 0) := (zl1_0 (Nat.le_of_ble_eq_true rfl)).trans rfl
theorem f1_15 : zi_fe 1 15 = some ((.bipush (-4)), 2, 0, 0, 0, 0, 0) := (zl1_0 (Nat.le_of_ble_eq_true rfl)).trans rfl
theorem f1_17 : zi_fe 1 17 = some ((.invokestatic 25), 3, 241, 1, 10, 196, 2) := (zl1_0 (Nat.le_of_ble_eq_true rfl)).trans rfl
theorem f1_20 : zi_fe 1 20 = some (.return_, 1, 0, 0, 0, 0, 0) := (zl1_0 (Nat.le_of_ble_eq_true rfl)).trans rfl
theorem b1_0 {h : zi_Hp} {a0 : Nat} (g0 : a0 < zh_n h) (g1 : (zh_k h a0).1 = 0) (g2 : zh_r h a0 12 = .ref (zq (zh_r h a0 12))) : zv 2 1 0 [.ref a0] [] h = (zv 1 241 0 [.ref (zq (zh_r h a0 12)), .int (-4), .double 0, .double 0] [] (zh_wi (zh_wi h a0 0 0) a0 4 (-4))).bind fun r => zv 2 1 20 [.ref a0] (r.1.toList ++ []) r.2 := by
  refine Eq.trans (zv_next f1_0 rfl) ?_
  refine Eq.trans (zs_ic f1_1 ic_0) ?_
  refine Eq.trans (zs_put f1_2 g0 g1 rfl) ?_
  refine Eq.trans (zv_next f1_5 rfl) ?_
  refine Eq.trans (zs_bp f1_6 bp_m4) ?_
  refine Eq.trans (zs_put f1_8 g0 g1 rfl) ?_
  refine Eq.trans (zv_next f1_11 rfl) ?_
  refine Eq.trans (zs_getr f1_12 g0 g1 g2) ?_
  refine Eq.trans (zs_bp f1_15 bp_m4) ?_
  exact zs_callS f1_17 (by decide) (Nat.le_of_ble_eq_true rfl) (Nat.le_of_ble_eq_true rfl) rfl me_241 (by decide) rfl
theorem b1_20 {h : zi_Hp} {a0 : Nat}  : zv 2 1 20 [.ref a0] [] h = some (none, h) := by
  exact zv_ret f1_20 rfl
set_option maxRecDepth 20000 in
theorem zq2 : zi_M[2]? = some zi_m2 := rfl
theorem zl2_0 {pc : Nat} (_ : 0 ≤ pc) : zi_fe 2 pc = zu2_0.lookup pc := zi_feA zq2 pc
theorem f2_0 : zi_fe 2 0 = some ((.aload_n 0), 1, 0, 0, 0, 0, 0) := (zl2_0 (Nat.le_of_ble_eq_true rfl)).trans rfl
theorem f2_1 : zi_fe 2 1 = some ((.invokevirtual 15), 3, 1, 0, 0, 192, 1) := (zl2_0 (Nat.le_of_ble_eq_true rfl)).trans rfl
theorem f2_4 : zi_fe 2 4 = some ((.aload_n 0), 1, 0, 0, 0, 0, 0) := (zl2_0 (Nat.le_of_ble_eq_true rfl)).trans rfl
theorem f2_5 : zi_fe 2 5 = some ((.iconst 1), 1, 0, 0, 0, 0, 0) := (zl2_0 (Nat.le_of_ble_eq_true rfl)).trans rfl
theorem f2_6 : zi_fe 2 6 = some ((.putfield 18), 3, 0, 0, 0, 199, 0) := (zl2_0 (Nat.le_of_ble_eq_true rfl)).trans rfl
theorem f2_9 : zi_fe 2 9 = some ((.aload_n 0), 1, 0, 0, 0, 0, 0) := (zl2_0 (Nat.le_of_ble_eq_true rfl)).trans rfl
theorem f2_10 : zi_fe 2 10 = some ((.iload_n 1), 1, 0, 0, 0, 0, 0) := (zl2_0 (Nat.le_of_ble_eq_true rfl)).trans rfl
theorem f2_11 : zi_fe 2 11 = some ((.putfield 31), 3, 0, 1, 0, 202, 0) := (zl2_0 (Nat.le_of_ble_eq_true rfl)).trans rfl
theorem f2_14 : zi_fe 2 14 = some ((.aload_n 0), 1, 0, 0, 0, 0, 0) := (zl2_0 (Nat.le_of_ble_eq_true rfl)).trans rfl
theorem f2_15 : zi_fe 2 15 = some ((.iload_n 2), 1, 0, 0, 0, 0, 0) := (zl2_0 (Nat.le_of_ble_eq_true rfl)).trans rfl
theorem f2_16 : zi_fe 2 16 = some ((.putfield 34), 3, 0, 2, 0, 204, 0) := (zl2_0 (Nat.le_of_ble_eq_true rfl)).trans rfl
theorem f2_19 : zi_fe 2 19 = some ((.aload_n 0), 1, 0, 0, 0, 0, 0) := (zl2_0 (Nat.le_of_ble_eq_true rfl)).trans rfl
theorem zl2_1 {pc : Nat} (h : 20 ≤ pc) : zi_fe 2 pc = zu2_1.lookup pc := (zl2_0 (Nat.le_trans (Nat.le_of_ble_eq_true rfl) h)).trans (zi_lkA (a := zi_i2_0) (c := 20) rfl h)
theorem f2_20 : zi_fe 2 20 = some ((.iload_n 3), 1, 0, 0, 0, 0, 0) := (zl2_1 (Nat.le_of_ble_eq_true rfl)).trans rfl
theorem f2_21 : zi_fe 2 21 = some ((.putfield 37), 3, 0, 3, 0, 206, 0) := (zl2_1 (Nat.le_of_ble_eq_true rfl)).trans rfl
theorem f2_24 : zi_fe 2 24 = some ((.aload_n 0), 1, 0, 0, 0, 0, 0) := (zl2_1 (Nat.le_of_ble_eq_true rfl)).trans rfl
theorem f2_25 : zi_fe 2 25 = some ((.iconst 0), 1, 0, 0, 0, 0, 0) := (zl2_1 (Nat.le_of_ble_eq_true rfl)).trans rfl
theorem f2_26 : zi_fe 2 26 = some ((.putfield 40), 3, 0, 5, 0, 211, 0) := (zl2_1 (Nat.le_of_ble_eq_true rfl)).trans rfl
theorem f2_29 : zi_fe 2 29 = some ((.aload_n 0), 1, 0, 0, 0, 0, 0) := (zl2_1 (Nat.le_of_ble_eq_true rfl)).trans rfl
theorem f2_30 : zi_fe 2 30 = some ((.iconst 0), 1, 0, 0, 0, 0, 0) := (zl2_1 (Nat.le_of_ble_eq_true rfl)).trans rfl
theorem f2_31 : zi_fe 2 31 = some ((.putfield 43), 3, 0, 6, 0, 213, 0) := (zl2_1 (Nat.le_of_ble_eq_true rfl)).trans rfl
theorem f2_34 : zi_fe 2 34 = some ((.aload_n 0), 1, 0, 0, 0, 0, 0) := (zl2_1 (Nat.le_of_ble_eq_true rfl)).trans rfl
theorem f2_35 : zi_fe 2 35 = some ((.iconst 0), 1, 0, 0, 0, 0, 0) := (zl2_1 (Nat.le_of_ble_eq_true rfl)).trans rfl
theorem f2_36 : zi_fe 2 36 = some ((.putfield 46), 3, 0, 7, 0, 215, 0) := (zl2_1 (Nat.le_of_ble_eq_true rfl)).trans rfl
theorem f2_39 : zi_fe 2 39 = some (.return_, 1, 0, 0, 0, 0, 0) := (zl2_1 (Nat.le_of_ble_eq_true rfl)).trans rfl
theorem b2_0 {h : zi_Hp} {a0 : Nat} {x1 : Int32} {x2 : Int32} {x3 : Int32} (g0 : a0 < zh_n h) (g1 : (zh_k h a0).1 = 0) : zv 3 2 0 [.ref a0, .int x1, .int x2, .int x3] [] h = (zv 2 1 0 [.ref a0] [] h).bind fun r => zv 3 2 4 [.ref a0, .int x1, .int x2, .int x3] (r.1.toList ++ []) r.2 := by
  refine Eq.trans (zv_next f2_0 rfl) ?_
  exact zs_callV f2_1 (Nat.le_of_ble_eq_true rfl) (Nat.le_of_ble_eq_true rfl) rfl g0 g1 me_1 (by decide) rfl
theorem b2_4 {h : zi_Hp} {a0 : Nat} {x1 : Int32} {x2 : Int32} {x3 : Int32} (g0 : a0 < zh_n h) (g1 : (zh_k h a0).1 = 0) : zv 3 2 4 [.ref a0, .int x1, .int x2, .int x3] [] h = some (none, zh_wi (zh_wi (zh_wi (zh_wi (zh_wi (zh_wi (zh_wi h a0 0 1) a0 1 x1) a0 2 x2) a0 3 x3) a0 5 0) a0 6 0) a0 7 0) := by
  refine Eq.trans (zv_next f2_4 rfl) ?_
  refine Eq.trans (zs_ic f2_5 ic_1) ?_
  refine Eq.trans (zs_put f2_6 g0 g1 rfl) ?_
  refine Eq.trans (zv_next f2_9 rfl) ?_
  refine Eq.trans (zv_next f2_10 rfl) ?_
  refine Eq.trans (zs_put f2_11 g0 g1 rfl) ?_
  refine Eq.trans (zv_next f2_14 rfl) ?_
  refine Eq.trans (zv_next f2_15 rfl) ?_
  refine Eq.trans (zs_put f2_16 g0 g1 rfl) ?_
  refine Eq.trans (zv_next f2_19 rfl) ?_
  refine Eq.trans (zv_next f2_20 rfl) ?_
  refine Eq.trans (zs_put f2_21 (zo_ni (zo_ni (zo_ni g0))) (zo_ki (zo_ki (zo_ki g1))) rfl) ?_
  refine Eq.trans (zv_next f2_24 rfl) ?_
  refine Eq.trans (zs_ic f2_25 ic_0) ?_
  refine Eq.trans (zs_put f2_26 (zo_ni (zo_ni (zo_ni (zo_ni g0)))) (zo_ki (zo_ki (zo_ki (zo_ki g1)))) rfl) ?_
  refine Eq.trans (zv_next f2_29 rfl) ?_
  refine Eq.trans (zs_ic f2_30 ic_0) ?_
  refine Eq.trans (zs_put f2_31 (zo_ni (zo_ni (zo_ni (zo_ni (zo_ni g0))))) (zo_ki (zo_ki (zo_ki (zo_ki (zo_ki g1))))) rfl) ?_
  refine Eq.trans (zv_next f2_34 rfl) ?_
  refine Eq.trans (zs_ic f2_35 ic_0) ?_
  refine Eq.trans (zs_put f2_36 (zo_ni (zo_ni (zo_ni (zo_ni (zo_ni (zo_ni g0)))))) (zo_ki (zo_ki (zo_ki (zo_ki (zo_ki (zo_ki g1)))))) rfl) ?_
  exact zv_ret f2_39 rfl
set_option maxRecDepth 20000 in
theorem zq3 : zi_M[3]? = some zi_m3 := rfl
theorem zl3_0 {pc : Nat} (_ : 0 ≤ pc) : zi_fe 3 pc = zu3_0.lookup pc := zi_feA zq3 pc
theorem f3_0 : zi_fe 3 0 = some ((.aload_n 0), 1, 0, 0, 0, 0, 0) := (zl3_0 (Nat.le_of_ble_eq_true rfl)).trans rfl
theorem f3_1 : zi_fe 3 1 = some ((.aload_n 1), 1, 0, 0, 0, 0, 0) := (zl3_0 (Nat.le_of_ble_eq_true rfl)).trans rfl
theorem f3_2 : zi_fe 3 2 = some ((.getfield 18), 3, 0, 0, 0, 199, 0) := (zl3_0 (Nat.le_of_ble_eq_true rfl)).trans rfl
theorem f3_5 : zi_fe 3 5 = some ((.putfield 18), 3, 0, 0, 0, 199, 0) := (zl3_0 (Nat.le_of_ble_eq_true rfl)).trans rfl
theorem f3_8 : zi_fe 3 8 = some ((.aload_n 0), 1, 0, 0, 0, 0, 0) := (zl3_0 (Nat.le_of_ble_eq_true rfl)).trans rfl
theorem f3_9 : zi_fe 3 9 = some ((.aload_n 1), 1, 0, 0, 0, 0, 0) := (zl3_0 (Nat.le_of_ble_eq_true rfl)).trans rfl
theorem f3_10 : zi_fe 3 10 = some ((.getfield 31), 3, 0, 1, 0, 202, 0) := (zl3_0 (Nat.le_of_ble_eq_true rfl)).trans rfl
theorem f3_13 : zi_fe 3 13 = some ((.putfield 31), 3, 0, 1, 0, 202, 0) := (zl3_0 (Nat.le_of_ble_eq_true rfl)).trans rfl
theorem f3_16 : zi_fe 3 16 = some ((.aload_n 0), 1, 0, 0, 0, 0, 0) := (zl3_0 (Nat.le_of_ble_eq_true rfl)).trans rfl
theorem f3_17 : zi_fe 3 17 = some ((.aload_n 1), 1, 0, 0, 0, 0, 0) := (zl3_0 (Nat.le_of_ble_eq_true rfl)).trans rfl
theorem f3_18 : zi_fe 3 18 = some ((.getfield 34), 3, 0, 2, 0, 204, 0) := (zl3_0 (Nat.le_of_ble_eq_true rfl)).trans rfl
theorem f3_21 : zi_fe 3 21 = some ((.putfield 34), 3, 0, 2, 0, 204, 0) := (zl3_0 (Nat.le_of_ble_eq_true rfl)).trans rfl
theorem zl3_1 {pc : Nat} (h : 24 ≤ pc) : zi_fe 3 pc = zu3_1.lookup pc := (zl3_0 (Nat.le_trans (Nat.le_of_ble_eq_true rfl) h)).trans (zi_lkA (a := zi_i3_0) (c := 24) rfl h)
theorem f3_24 : zi_fe 3 24 = some ((.aload_n 0), 1, 0, 0, 0, 0, 0) := (zl3_1 (Nat.le_of_ble_eq_true rfl)).trans rfl
theorem f3_25 : zi_fe 3 25 = some ((.aload_n 1), 1, 0, 0, 0, 0, 0) := (zl3_1 (Nat.le_of_ble_eq_true rfl)).trans rfl
theorem f3_26 : zi_fe 3 26 = some ((.getfield 37), 3, 0, 3, 0, 206, 0) := (zl3_1 (Nat.le_of_ble_eq_true rfl)).trans rfl
theorem f3_29 : zi_fe 3 29 = some ((.putfield 37), 3, 0, 3, 0, 206, 0) := (zl3_1 (Nat.le_of_ble_eq_true rfl)).trans rfl
theorem f3_32 : zi_fe 3 32 = some ((.aload_n 0), 1, 0, 0, 0, 0, 0) := (zl3_1 (Nat.le_of_ble_eq_true rfl)).trans rfl
theorem f3_33 : zi_fe 3 33 = some ((.aload_n 1), 1, 0, 0, 0, 0, 0) := (zl3_1 (Nat.le_of_ble_eq_true rfl)).trans rfl
theorem f3_34 : zi_fe 3 34 = some ((.getfield 22), 3, 0, 4, 0, 208, 0) := (zl3_1 (Nat.le_of_ble_eq_true rfl)).trans rfl
theorem f3_37 : zi_fe 3 37 = some ((.putfield 22), 3, 0, 4, 0, 208, 0) := (zl3_1 (Nat.le_of_ble_eq_true rfl)).trans rfl
theorem f3_40 : zi_fe 3 40 = some ((.aload_n 0), 1, 0, 0, 0, 0, 0) := (zl3_1 (Nat.le_of_ble_eq_true rfl)).trans rfl
theorem f3_41 : zi_fe 3 41 = some ((.aload_n 1), 1, 0, 0, 0, 0, 0) := (zl3_1 (Nat.le_of_ble_eq_true rfl)).trans rfl
theorem f3_42 : zi_fe 3 42 = some ((.getfield 40), 3, 0, 5, 0, 211, 0) := (zl3_1 (Nat.le_of_ble_eq_true rfl)).trans rfl
theorem f3_45 : zi_fe 3 45 = some ((.putfield 40), 3, 0, 5, 0, 211, 0) := (zl3_1 (Nat.le_of_ble_eq_true rfl)).trans rfl
theorem zl3_2 {pc : Nat} (h : 48 ≤ pc) : zi_fe 3 pc = zu3_2.lookup pc := (zl3_1 (Nat.le_trans (Nat.le_of_ble_eq_true rfl) h)).trans (zi_lkA (a := zi_i3_1) (c := 48) rfl h)
theorem f3_48 : zi_fe 3 48 = some ((.aload_n 0), 1, 0, 0, 0, 0, 0) := (zl3_2 (Nat.le_of_ble_eq_true rfl)).trans rfl
theorem f3_49 : zi_fe 3 49 = some ((.aload_n 1), 1, 0, 0, 0, 0, 0) := (zl3_2 (Nat.le_of_ble_eq_true rfl)).trans rfl
theorem f3_50 : zi_fe 3 50 = some ((.getfield 43), 3, 0, 6, 0, 213, 0) := (zl3_2 (Nat.le_of_ble_eq_true rfl)).trans rfl
theorem f3_53 : zi_fe 3 53 = some ((.putfield 43), 3, 0, 6, 0, 213, 0) := (zl3_2 (Nat.le_of_ble_eq_true rfl)).trans rfl
theorem f3_56 : zi_fe 3 56 = some ((.aload_n 0), 1, 0, 0, 0, 0, 0) := (zl3_2 (Nat.le_of_ble_eq_true rfl)).trans rfl
theorem f3_57 : zi_fe 3 57 = some ((.aload_n 1), 1, 0, 0, 0, 0, 0) := (zl3_2 (Nat.le_of_ble_eq_true rfl)).trans rfl
theorem f3_58 : zi_fe 3 58 = some ((.getfield 46), 3, 0, 7, 0, 215, 0) := (zl3_2 (Nat.le_of_ble_eq_true rfl)).trans rfl
theorem f3_61 : zi_fe 3 61 = some ((.putfield 46), 3, 0, 7, 0, 215, 0) := (zl3_2 (Nat.le_of_ble_eq_true rfl)).trans rfl
theorem f3_64 : zi_fe 3 64 = some ((.aload_n 0), 1, 0, 0, 0, 0, 0) := (zl3_2 (Nat.le_of_ble_eq_true rfl)).trans rfl
theorem f3_65 : zi_fe 3 65 = some ((.aload_n 1), 1, 0, 0, 0, 0, 0) := (zl3_2 (Nat.le_of_ble_eq_true rfl)).trans rfl
theorem f3_66 : zi_fe 3 66 = some ((.getfield 49), 3, 0, 8, 0, 217, 0) := (zl3_2 (Nat.le_of_ble_eq_true rfl)).trans rfl
theorem f3_69 : zi_fe 3 69 = some ((.putfield 49), 3, 0, 8, 0, 217, 0) := (zl3_2 (Nat.le_of_ble_eq_true rfl)).trans rfl
theorem zl3_3 {pc : Nat} (h : 72 ≤ pc) : zi_fe 3 pc = zu3_3.lookup pc := (zl3_2 (Nat.le_trans (Nat.le_of_ble_eq_true rfl) h)).trans (zi_lkA (a := zi_i3_2) (c := 72) rfl h)
theorem f3_72 : zi_fe 3 72 = some ((.aload_n 0), 1, 0, 0, 0, 0, 0) := (zl3_3 (Nat.le_of_ble_eq_true rfl)).trans rfl
theorem f3_73 : zi_fe 3 73 = some ((.aload_n 1), 1, 0, 0, 0, 0, 0) := (zl3_3 (Nat.le_of_ble_eq_true rfl)).trans rfl
theorem f3_74 : zi_fe 3 74 = some ((.getfield 52), 3, 0, 9, 0, 219, 0) := (zl3_3 (Nat.le_of_ble_eq_true rfl)).trans rfl
theorem f3_77 : zi_fe 3 77 = some ((.putfield 52), 3, 0, 9, 0, 219, 0) := (zl3_3 (Nat.le_of_ble_eq_true rfl)).trans rfl
theorem f3_80 : zi_fe 3 80 = some ((.aload_n 0), 1, 0, 0, 0, 0, 0) := (zl3_3 (Nat.le_of_ble_eq_true rfl)).trans rfl
theorem f3_81 : zi_fe 3 81 = some ((.aload_n 1), 1, 0, 0, 0, 0, 0) := (zl3_3 (Nat.le_of_ble_eq_true rfl)).trans rfl
theorem f3_82 : zi_fe 3 82 = some ((.getfield 55), 3, 0, 10, 0, 221, 0) := (zl3_3 (Nat.le_of_ble_eq_true rfl)).trans rfl
theorem f3_85 : zi_fe 3 85 = some ((.putfield 55), 3, 0, 10, 0, 221, 0) := (zl3_3 (Nat.le_of_ble_eq_true rfl)).trans rfl
theorem f3_88 : zi_fe 3 88 = some ((.aload_n 0), 1, 0, 0, 0, 0, 0) := (zl3_3 (Nat.le_of_ble_eq_true rfl)).trans rfl
theorem f3_89 : zi_fe 3 89 = some ((.aload_n 1), 1, 0, 0, 0, 0, 0) := (zl3_3 (Nat.le_of_ble_eq_true rfl)).trans rfl
theorem f3_90 : zi_fe 3 90 = some ((.getfield 58), 3, 0, 11, 1, 223, 0) := (zl3_3 (Nat.le_of_ble_eq_true rfl)).trans rfl
theorem f3_93 : zi_fe 3 93 = some ((.putfield 58), 3, 0, 11, 1, 223, 0) := (zl3_3 (Nat.le_of_ble_eq_true rfl)).trans rfl
theorem zl3_4 {pc : Nat} (h : 96 ≤ pc) : zi_fe 3 pc = zu3_4.lookup pc := (zl3_3 (Nat.le_trans (Nat.le_of_ble_eq_true rfl) h)).trans (zi_lkA (a := zi_i3_3) (c := 96) rfl h)
theorem f3_96 : zi_fe 3 96 = some ((.aload_n 1), 1, 0, 0, 0, 0, 0) := (zl3_4 (Nat.le_of_ble_eq_true rfl)).trans rfl
theorem f3_97 : zi_fe 3 97 = some ((.getfield 9), 3, 0, 12, 3, 225, 0) := (zl3_4 (Nat.le_of_ble_eq_true rfl)).trans rfl
theorem f3_100 : zi_fe 3 100 = some ((.iconst 0), 1, 0, 0, 0, 0, 0) := (zl3_4 (Nat.le_of_ble_eq_true rfl)).trans rfl
theorem f3_101 : zi_fe 3 101 = some ((.aload_n 0), 1, 0, 0, 0, 0, 0) := (zl3_4 (Nat.le_of_ble_eq_true rfl)).trans rfl
theorem f3_102 : zi_fe 3 102 = some ((.getfield 9), 3, 0, 12, 3, 225, 0) := (zl3_4 (Nat.le_of_ble_eq_true rfl)).trans rfl
theorem f3_105 : zi_fe 3 105 = some ((.iconst 0), 1, 0, 0, 0, 0, 0) := (zl3_4 (Nat.le_of_ble_eq_true rfl)).trans rfl
theorem f3_106 : zi_fe 3 106 = some ((.bipush 24), 2, 0, 0, 0, 0, 0) := (zl3_4 (Nat.le_of_ble_eq_true rfl)).trans rfl
theorem f3_108 : zi_fe 3 108 = some ((.invokestatic 62), 3, 0, 6, 0, 877, 5) := (zl3_4 (Nat.le_of_ble_eq_true rfl)).trans rfl
theorem f3_111 : zi_fe 3 111 = some (.return_, 1, 0, 0, 0, 0, 0) := (zl3_4 (Nat.le_of_ble_eq_true rfl)).trans rfl
theorem b3_0 {h : zi_Hp} {a0 : Nat} {a1 : Nat} (g0 : a1 < zh_n h) (g1 : (zh_k h a1).1 = 0) (g2 : a0 < zh_n h) (g3 : (zh_k h a0).1 = 0) : zv 1 3 0 [.ref a0, .ref a1] [] h = zv 1 3 10 [.ref a0, .ref a1] [.ref a1, .ref a0] (zh_wi h a0 0 (zh_i h a1 0)) := by
  refine Eq.trans (zv_next f3_0 rfl) ?_
  refine Eq.trans (zv_next f3_1 rfl) ?_
  refine Eq.trans (zs_geti f3_2 g0 g1) ?_
  refine Eq.trans (zs_put f3_5 g2 g3 rfl) ?_
  refine Eq.trans (zv_next f3_8 rfl) ?_
  refine Eq.trans (zv_next f3_9 rfl) ?_
  rfl
theorem b3_10 {h : zi_Hp} {a0 : Nat} {a1 : Nat} {t0 : Nat} {t1 : Nat} (g0 : t1 < zh_n h) (g1 : (zh_k h t1).1 = 0) (g2 : t0 < zh_n h) (g3 : (zh_k h t0).1 = 0) : zv 1 3 10 [.ref a0, .ref a1] [.ref t1, .ref t0] h = zv 1 3 18 [.ref a0, .ref a1] [.ref a1, .ref a0] (zh_wi h t0 1 (zh_i h t1 1)) := by
  refine Eq.trans (zs_geti f3_10 g0 g1) ?_
  refine Eq.trans (zs_put f3_13 g2 g3 rfl) ?_
  refine Eq.trans (zv_next f3_16 rfl) ?_
  refine Eq.trans (zv_next f3_17 rfl) ?_
  rfl
theorem b3_18 {h : zi_Hp} {a0 : Nat} {a1 : Nat} {t0 : Nat} {t1 : Nat} (g0 : t1 < zh_n h) (g1 : (zh_k h t1).1 = 0) (g2 : t0 < zh_n h) (g3 : (zh_k h t0).1 = 0) : zv 1 3 18 [.ref a0, .ref a1] [.ref t1, .ref t0] h = zv 1 3 26 [.ref a0, .ref a1] [.ref a1, .ref a0] (zh_wi h t0 2 (zh_i h t1 2)) := by
  refine Eq.trans (zs_geti f3_18 g0 g1) ?_
  refine Eq.trans (zs_put f3_21 g2 g3 rfl) ?_
  refine Eq.trans (zv_next f3_24 rfl) ?_
  refine Eq.trans (zv_next f3_25 rfl) ?_
  rfl
theorem b3_26 {h : zi_Hp} {a0 : Nat} {a1 : Nat} {t0 : Nat} {t1 : Nat} (g0 : t1 < zh_n h) (g1 : (zh_k h t1).1 = 0) (g2 : t0 < zh_n h) (g3 : (zh_k h t0).1 = 0) : zv 1 3 26 [.ref a0, .ref a1] [.ref t1, .ref t0] h = zv 1 3 34 [.ref a0, .ref a1] [.ref a1, .ref a0] (zh_wi h t0 3 (zh_i h t1 3)) := by
  refine Eq.trans (zs_geti f3_26 g0 g1) ?_
  refine Eq.trans (zs_put f3_29 g2 g3 rfl) ?_
  refine Eq.trans (zv_next f3_32 rfl) ?_
  refine Eq.trans (zv_next f3_33 rfl) ?_
  rfl
theorem b3_34 {h : zi_Hp} {a0 : Nat} {a1 : Nat} {t0 : Nat} {t1 : Nat} (g0 : t1 < zh_n h) (g1 : (zh_k h t1).1 = 0) (g2 : t0 < zh_n h) (g3 : (zh_k h t0).1 = 0) : zv 1 3 34 [.ref a0, .ref a1] [.ref t1, .ref t0] h = zv 1 3 42 [.ref a0, .ref a1] [.ref a1, .ref a0] (zh_wi h t0 4 (zh_i h t1 4)) := by
  refine Eq.trans (zs_geti f3_34 g0 g1) ?_
  refine Eq.trans (zs_put f3_37 g2 g3 rfl) ?_
  refine Eq.trans (zv_next f3_40 rfl) ?_
  refine Eq.trans (zv_next f3_41 rfl) ?_
  rfl
theorem b3_42 {h : zi_Hp} {a0 : Nat} {a1 : Nat} {t0 : Nat} {t1 : Nat} (g0 : t1 < zh_n h) (g1 : (zh_k h t1).1 = 0) (g2 : t0 < zh_n h) (g3 : (zh_k h t0).1 = 0) : zv 1 3 42 [.ref a0, .ref a1] [.ref t1, .ref t0] h = zv 1 3 50 [.ref a0, .ref a1] [.ref a1, .ref a0] (zh_wi h t0 5 (zh_i h t1 5)) := by
  refine Eq.trans (zs_geti f3_42 g0 g1) ?_
  refine Eq.trans (zs_put f3_45 g2 g3 rfl) ?_
  refine Eq.trans (zv_next f3_48 rfl) ?_
  refine Eq.trans (zv_next f3_49 rfl) ?_
  rfl
theorem b3_50 {h : zi_Hp} {a0 : Nat} {a1 : Nat} {t0 : Nat} {t1 : Nat} (g0 : t1 < zh_n h) (g1 : (zh_k h t1).1 = 0) (g2 : t0 < zh_n h) (g3 : (zh_k h t0).1 = 0) : zv 1 3 50 [.ref a0, .ref a1] [.ref t1, .ref t0] h = zv 1 3 58 [.ref a0, .ref a1] [.ref a1, .ref a0] (zh_wi h t0 6 (zh_i h t1 6)) := by
  refine Eq.trans (zs_geti f3_50 g0 g1) ?_
  refine Eq.trans (zs_put f3_53 g2 g3 rfl) ?_
  refine Eq.trans (zv_next f3_56 rfl) ?_
  refine Eq.trans (zv_next f3_57 rfl) ?_
  rfl
theorem b3_58 {h : zi_Hp} {a0 : Nat} {a1 : Nat} {t0 : Nat} {t1 : Nat} (g0 : t1 < zh_n h) (g1 : (zh_k h t1).1 = 0) (g2 : t0 < zh_n h) (g3 : (zh_k h t0).1 = 0) : zv 1 3 58 [.ref a0, .ref a1] [.ref t1, .ref t0] h = zv 1 3 66 [.ref a0, .ref a1] [.ref a1, .ref a0] (zh_wi h t0 7 (zh_i h t1 7)) := by
  refine Eq.trans (zs_geti f3_58 g0 g1) ?_
  refine Eq.trans (zs_put f3_61 g2 g3 rfl) ?_
  refine Eq.trans (zv_next f3_64 rfl) ?_
  refine Eq.trans (zv_next f3_65 rfl) ?_
  rfl
theorem b3_66 {h : zi_Hp} {a0 : Nat} {a1 : Nat} {t0 : Nat} {t1 : Nat} (g0 : t1 < zh_n h) (g1 : (zh_k h t1).1 = 0) (g2 : t0 < zh_n h) (g3 : (zh_k h t0).1 = 0) : zv 1 3 66 [.ref a0, .ref a1] [.ref t1, .ref t0] h = zv 1 3 74 [.ref a0, .ref a1] [.ref a1, .ref a0] (zh_wi h t0 8 (zh_i h t1 8)) := by
  refine Eq.trans (zs_geti f3_66 g0 g1) ?_
  refine Eq.trans (zs_put f3_69 g2 g3 rfl) ?_
  refine Eq.trans (zv_next f3_72 rfl) ?_
  refine Eq.trans (zv_next f3_73 rfl) ?_
  rfl
theorem b3_74 {h : zi_Hp} {a0 : Nat} {a1 : Nat} {t0 : Nat} {t1 : Nat} (g0 : t1 < zh_n h) (g1 : (zh_k h t1).1 = 0) (g2 : t0 < zh_n h) (g3 : (zh_k h t0).1 = 0) : zv 1 3 74 [.ref a0, .ref a1] [.ref t1, .ref t0] h = zv 1 3 82 [.ref a0, .ref a1] [.ref a1, .ref a0] (zh_wi h t0 9 (zh_i h t1 9)) := by
  refine Eq.trans (zs_geti f3_74 g0 g1) ?_
  refine Eq.trans (zs_put f3_77 g2 g3 rfl) ?_
  refine Eq.trans (zv_next f3_80 rfl) ?_
  refine Eq.trans (zv_next f3_81 rfl) ?_
  rfl
theorem b3_82 {h : zi_Hp} {a0 : Nat} {a1 : Nat} {t0 : Nat} {t1 : Nat} (g0 : t1 < zh_n h) (g1 : (zh_k h t1).1 = 0) (g2 : t0 < zh_n h) (g3 : (zh_k h t0).1 = 0) : zv 1 3 82 [.ref a0, .ref a1] [.ref t1, .ref t0] h = zv 1 3 90 [.ref a0, .ref a1] [.ref a1, .ref a0] (zh_wi h t0 10 (zh_i h t1 10)) := by
  refine Eq.trans (zs_geti f3_82 g0 g1) ?_
  refine Eq.trans (zs_put f3_85 g2 g3 rfl) ?_
  refine Eq.trans (zv_next f3_88 rfl) ?_
  refine Eq.trans (zv_next f3_89 rfl) ?_
  rfl
theorem b3_90 {h : zi_Hp} {a0 : Nat} {a1 : Nat} {t0 : Nat} {t1 : Nat} (g0 : t1 < zh_n h) (g1 : (zh_k h t1).1 = 0) (g2 : t0 < zh_n h) (g3 : (zh_k h t0).1 = 0) (g4 : a1 < zh_n h) (g5 : (zh_k h a1).1 = 0) (g6 : zh_r h a1 12 = .ref (zq (zh_r h a1 12))) (g7 : a0 < zh_n h) (g8 : (zh_k h a0).1 = 0) (g9 : zh_r h a0 12 = .ref (zq (zh_r h a0 12))) (g10 : zi_cpo h (zq (zh_r h a1 12)) 0 (zq (zh_r h a0 12)) 0 24) (g11 : (zh_k h (zq (zh_r h a1 12))).1 = 100) (g12 : (zh_k h (zq (zh_r h a0 12))).1 = 100) : zv 1 3 90 [.ref a0, .ref a1] [.ref t1, .ref t0] h = some (none, zh_ci (zh_wb h t0 11 (zh_b h t1 11)) (zq (zh_r h a1 12)) 0 (zq (zh_r h a0 12)) 0 24) := by
  refine Eq.trans (zs_getb f3_90 g0 g1) ?_
  refine Eq.trans (zs_put f3_93 g2 g3 (zw_b _ _ _)) ?_
  refine Eq.trans (zv_next f3_96 rfl) ?_
  refine Eq.trans (zs_getr f3_97 g4 g5 g6) ?_
  refine Eq.trans (zs_ic f3_100 ic_0) ?_
  refine Eq.trans (zv_next f3_101 rfl) ?_
  refine Eq.trans (zs_getr f3_102 g7 g8 g9) ?_
  refine Eq.trans (zs_ic f3_105 ic_0) ?_
  refine Eq.trans (zs_bp f3_106 bp_24) ?_
  refine Eq.trans (zs_cpi f3_108 (Nat.le_of_ble_eq_true rfl) g10 g11 g12) ?_
  exact zv_ret f3_111 rfl
set_option maxRecDepth 20000 in
theorem zq4 : zi_M[4]? = some zi_m4 := rfl
theorem zl4_0 {pc : Nat} (_ : 0 ≤ pc) : zi_fe 4 pc = zu4_0.lookup pc := zi_feA zq4 pc
theorem f4_0 : zi_fe 4 0 = some ((.aload_n 0), 1, 0, 0, 0, 0, 0) := (zl4_0 (Nat.le_of_ble_eq_true rfl)).trans rfl
theorem f4_1 : zi_fe 4 1 = some ((.getfield 18), 3, 0, 0, 0, 199, 0) := (zl4_0 (Nat.le_of_ble_eq_true rfl)).trans rfl
theorem f4_4 : zi_fe 4 4 = some ((.ifCond .eq 15), 3, 0, 0, 0, 0, 0) := (zl4_0 (Nat.le_of_ble_eq_true rfl)).trans rfl
theorem f4_7 : zi_fe 4 7 = some ((.aload_n 0), 1, 0, 0, 0, 0, 0) := (zl4_0 (Nat.le_of_ble_eq_true rfl)).trans rfl
theorem f4_8 : zi_fe 4 8 = some ((.getfield 18), 3, 0, 0, 0, 199, 0) := (zl4_0 (Nat.le_of_ble_eq_true rfl)).trans rfl
theorem f4_11 : zi_fe 4 11 = some ((.iconst 5), 1, 0, 0, 0, 0, 0) := (zl4_0 (Nat.le_of_ble_eq_true rfl)).trans rfl
theorem f4_12 : zi_fe 4 12 = some ((.if_icmp .eq 7), 3, 0, 0, 0, 0, 0) := (zl4_0 (Nat.le_of_ble_eq_true rfl)).trans rfl
theorem f4_15 : zi_fe 4 15 = some ((.iconst 1), 1, 0, 0, 0, 0, 0) := (zl4_0 (Nat.le_of_ble_eq_true rfl)).trans rfl
theorem f4_16 : zi_fe 4 16 = some ((.goto 4), 3, 0, 0, 0, 0, 0) := (zl4_0 (Nat.le_of_ble_eq_true rfl)).trans rfl
theorem f4_19 : zi_fe 4 19 = some ((.iconst 0), 1, 0, 0, 0, 0, 0) := (zl4_0 (Nat.le_of_ble_eq_true rfl)).trans rfl
theorem f4_20 : zi_fe 4 20 = some (.ireturn, 1, 1, 0, 0, 0, 0) := (zl4_0 (Nat.le_of_ble_eq_true rfl)).trans rfl
theorem b4_0 {h : zi_Hp} {a0 : Nat} (g0 : a0 < zh_n h) (g1 : (zh_k h a0).1 = 0) : zv 1 4 0 [.ref a0] [] h = if (zh_i h a0 0) = 0 then zv 1 4 19 [.ref a0] [] h else zv 1 4 7 [.ref a0] [] h := by
  refine Eq.trans (zv_next f4_0 rfl) ?_
  refine Eq.trans (zs_geti f4_1 g0 g1) ?_
  exact zs_if f4_4 rfl
theorem b4_7 {h : zi_Hp} {a0 : Nat} (g0 : a0 < zh_n h) (g1 : (zh_k h a0).1 = 0) : zv 1 4 7 [.ref a0] [] h = if (zh_i h a0 0) = 5 then zv 1 4 19 [.ref a0] [] h else zv 1 4 15 [.ref a0] [] h := by
  refine Eq.trans (zv_next f4_7 rfl) ?_
  refine Eq.trans (zs_geti f4_8 g0 g1) ?_
  refine Eq.trans (zs_ic f4_11 ic_5) ?_
  exact zs_icmp f4_12 rfl
theorem b4_15 {h : zi_Hp} {a0 : Nat}  : zv 1 4 15 [.ref a0] [] h = zv 1 4 20 [.ref a0] [.int 1] h := by
  refine Eq.trans (zs_ic f4_15 ic_1) ?_
  refine Eq.trans (zs_goto (tgt := 20) f4_16 rfl) ?_
  rfl
theorem b4_19 {h : zi_Hp} {a0 : Nat}  : zv 1 4 19 [.ref a0] [] h = zv 1 4 20 [.ref a0] [.int 0] h := by
  refine Eq.trans (zs_ic f4_19 ic_0) ?_
  rfl
theorem b4_20 {h : zi_Hp} {a0 : Nat} {s0 : Int32} (g0 : s0 = 0 ∨ s0 = 1) : zv 1 4 20 [.ref a0] [.int s0] h = some (some (.int s0), h) := by
  exact zs_ret1 f4_20 g0
set_option maxRecDepth 20000 in
theorem zq5 : zi_M[5]? = some zi_m5 := rfl
theorem zl5_0 {pc : Nat} (_ : 0 ≤ pc) : zi_fe 5 pc = zu5_0.lookup pc := zi_feA zq5 pc
theorem f5_0 : zi_fe 5 0 = some ((.aload_n 0), 1, 0, 0, 0, 0, 0) := (zl5_0 (Nat.le_of_ble_eq_true rfl)).trans rfl
theorem f5_1 : zi_fe 5 1 = some ((.getfield 18), 3, 0, 0, 0, 199, 0) := (zl5_0 (Nat.le_of_ble_eq_true rfl)).trans rfl
theorem f5_4 : zi_fe 5 4 = some ((.iconst 2), 1, 0, 0, 0, 0, 0) := (zl5_0 (Nat.le_of_ble_eq_true rfl)).trans rfl
theorem f5_5 : zi_fe 5 5 = some ((.if_icmp .eq 11), 3, 0, 0, 0, 0, 0) := (zl5_0 (Nat.le_of_ble_eq_true rfl)).trans rfl
theorem f5_8 : zi_fe 5 8 = some ((.aload_n 0), 1, 0, 0, 0, 0, 0) := (zl5_0 (Nat.le_of_ble_eq_true rfl)).trans rfl
theorem f5_9 : zi_fe 5 9 = some ((.getfield 18), 3, 0, 0, 0, 199, 0) := (zl5_0 (Nat.le_of_ble_eq_true rfl)).trans rfl
theorem f5_12 : zi_fe 5 12 = some ((.iconst 4), 1, 0, 0, 0, 0, 0) := (zl5_0 (Nat.le_of_ble_eq_true rfl)).trans rfl
theorem f5_13 : zi_fe 5 13 = some ((.if_icmp .ne 15), 3, 0, 0, 0, 0, 0) := (zl5_0 (Nat.le_of_ble_eq_true rfl)).trans rfl
theorem f5_16 : zi_fe 5 16 = some ((.aload_n 0), 1, 0, 0, 0, 0, 0) := (zl5_0 (Nat.le_of_ble_eq_true rfl)).trans rfl
theorem f5_17 : zi_fe 5 17 = some ((.getfield 37), 3, 0, 3, 0, 206, 0) := (zl5_0 (Nat.le_of_ble_eq_true rfl)).trans rfl
theorem f5_20 : zi_fe 5 20 = some ((.iload_n 1), 1, 0, 0, 0, 0, 0) := (zl5_0 (Nat.le_of_ble_eq_true rfl)).trans rfl
theorem f5_21 : zi_fe 5 21 = some ((.if_icmp .ne 7), 3, 0, 0, 0, 0, 0) := (zl5_0 (Nat.le_of_ble_eq_true rfl)).trans rfl
theorem zl5_1 {pc : Nat} (h : 24 ≤ pc) : zi_fe 5 pc = zu5_1.lookup pc := (zl5_0 (Nat.le_trans (Nat.le_of_ble_eq_true rfl) h)).trans (zi_lkA (a := zi_i5_0) (c := 24) rfl h)
theorem f5_24 : zi_fe 5 24 = some ((.iconst 1), 1, 0, 0, 0, 0, 0) := (zl5_1 (Nat.le_of_ble_eq_true rfl)).trans rfl
theorem f5_25 : zi_fe 5 25 = some ((.goto 4), 3, 0, 0, 0, 0, 0) := (zl5_1 (Nat.le_of_ble_eq_true rfl)).trans rfl
theorem f5_28 : zi_fe 5 28 = some ((.iconst 0), 1, 0, 0, 0, 0, 0) := (zl5_1 (Nat.le_of_ble_eq_true rfl)).trans rfl
theorem f5_29 : zi_fe 5 29 = some (.ireturn, 1, 1, 0, 0, 0, 0) := (zl5_1 (Nat.le_of_ble_eq_true rfl)).trans rfl
theorem b5_0 {h : zi_Hp} {a0 : Nat} {x1 : Int32} (g0 : a0 < zh_n h) (g1 : (zh_k h a0).1 = 0) : zv 1 5 0 [.ref a0, .int x1] [] h = if (zh_i h a0 0) = 2 then zv 1 5 16 [.ref a0, .int x1] [] h else zv 1 5 8 [.ref a0, .int x1] [] h := by
  refine Eq.trans (zv_next f5_0 rfl) ?_
  refine Eq.trans (zs_geti f5_1 g0 g1) ?_
  refine Eq.trans (zs_ic f5_4 ic_2) ?_
  exact zs_icmp f5_5 rfl
theorem b5_8 {h : zi_Hp} {a0 : Nat} {x1 : Int32} (g0 : a0 < zh_n h) (g1 : (zh_k h a0).1 = 0) : zv 1 5 8 [.ref a0, .int x1] [] h = if (zh_i h a0 0) = 4 then zv 1 5 16 [.ref a0, .int x1] [] h else zv 1 5 28 [.ref a0, .int x1] [] h := by
  refine Eq.trans (zv_next f5_8 rfl) ?_
  refine Eq.trans (zs_geti f5_9 g0 g1) ?_
  refine Eq.trans (zs_ic f5_12 ic_4) ?_
  exact zs_icmp f5_13 rfl
theorem b5_16 {h : zi_Hp} {a0 : Nat} {x1 : Int32} (g0 : a0 < zh_n h) (g1 : (zh_k h a0).1 = 0) : zv 1 5 16 [.ref a0, .int x1] [] h = if (zh_i h a0 3) = x1 then zv 1 5 24 [.ref a0, .int x1] [] h else zv 1 5 28 [.ref a0, .int x1] [] h := by
  refine Eq.trans (zv_next f5_16 rfl) ?_
  refine Eq.trans (zs_geti f5_17 g0 g1) ?_
  refine Eq.trans (zv_next f5_20 rfl) ?_
  exact zs_icmp f5_21 rfl
theorem b5_24 {h : zi_Hp} {a0 : Nat} {x1 : Int32}  : zv 1 5 24 [.ref a0, .int x1] [] h = zv 1 5 29 [.ref a0, .int x1] [.int 1] h := by
  refine Eq.trans (zs_ic f5_24 ic_1) ?_
  refine Eq.trans (zs_goto (tgt := 29) f5_25 rfl) ?_
  rfl
theorem b5_28 {h : zi_Hp} {a0 : Nat} {x1 : Int32}  : zv 1 5 28 [.ref a0, .int x1] [] h = zv 1 5 29 [.ref a0, .int x1] [.int 0] h := by
  refine Eq.trans (zs_ic f5_28 ic_0) ?_
  rfl
theorem b5_29 {h : zi_Hp} {a0 : Nat} {x1 : Int32} {s0 : Int32} (g0 : s0 = 0 ∨ s0 = 1) : zv 1 5 29 [.ref a0, .int x1] [.int s0] h = some (some (.int s0), h) := by
  exact zs_ret1 f5_29 g0
set_option maxRecDepth 20000 in
theorem zq6 : zi_M[6]? = some zi_m6 := rfl
theorem zl6_0 {pc : Nat} (_ : 0 ≤ pc) : zi_fe 6 pc = zu6_0.lookup pc := zi_feA zq6 pc
theorem f6_0 : zi_fe 6 0 = some ((.aload_n 0), 1, 0, 0, 0, 0, 0) := (zl6_0 (Nat.le_of_ble_eq_true rfl)).trans rfl
theorem f6_1 : zi_fe 6 1 = some ((.iload_n 1), 1, 0, 0, 0, 0, 0) := (zl6_0 (Nat.le_of_ble_eq_true rfl)).trans rfl
theorem f6_2 : zi_fe 6 2 = some ((.putfield 22), 3, 0, 4, 0, 208, 0) := (zl6_0 (Nat.le_of_ble_eq_true rfl)).trans rfl
theorem f6_5 : zi_fe 6 5 = some ((.aload_n 0), 1, 0, 0, 0, 0, 0) := (zl6_0 (Nat.le_of_ble_eq_true rfl)).trans rfl
theorem f6_6 : zi_fe 6 6 = some ((.iconst 5), 1, 0, 0, 0, 0, 0) := (zl6_0 (Nat.le_of_ble_eq_true rfl)).trans rfl
theorem f6_7 : zi_fe 6 7 = some ((.putfield 18), 3, 0, 0, 0, 199, 0) := (zl6_0 (Nat.le_of_ble_eq_true rfl)).trans rfl
theorem f6_10 : zi_fe 6 10 = some ((.iconst 3), 1, 0, 0, 0, 0, 0) := (zl6_0 (Nat.le_of_ble_eq_true rfl)).trans rfl
theorem f6_11 : zi_fe 6 11 = some (.ireturn, 1, 0, 0, 0, 0, 0) := (zl6_0 (Nat.le_of_ble_eq_true rfl)).trans rfl
theorem b6_0 {h : zi_Hp} {a0 : Nat} {x1 : Int32} (g0 : a0 < zh_n h) (g1 : (zh_k h a0).1 = 0) : zv 1 6 0 [.ref a0, .int x1] [] h = some (some (.int 3), zh_wi (zh_wi h a0 4 x1) a0 0 5) := by
  refine Eq.trans (zv_next f6_0 rfl) ?_
  refine Eq.trans (zv_next f6_1 rfl) ?_
  refine Eq.trans (zs_put f6_2 g0 g1 rfl) ?_
  refine Eq.trans (zv_next f6_5 rfl) ?_
  refine Eq.trans (zs_ic f6_6 ic_5) ?_
  refine Eq.trans (zs_put f6_7 g0 g1 rfl) ?_
  refine Eq.trans (zs_ic f6_10 ic_3) ?_
  exact zs_ret0 f6_11
set_option maxRecDepth 20000 in
theorem zq7 : zi_M[7]? = some zi_m7 := rfl
theorem zl7_0 {pc : Nat} (_ : 0 ≤ pc) : zi_fe 7 pc = zu7_0.lookup pc := zi_feA zq7 pc
theorem f7_0 : zi_fe 7 0 = some ((.aload_n 0), 1, 0, 0, 0, 0, 0) := (zl7_0 (Nat.le_of_ble_eq_true rfl)).trans rfl
theorem f7_1 : zi_fe 7 1 = some ((.iconst 5), 1, 0, 0, 0, 0, 0) := (zl7_0 (Nat.le_of_ble_eq_true rfl)).trans rfl
theorem f7_2 : zi_fe 7 2 = some ((.putfield 18), 3, 0, 0, 0, 199, 0) := (zl7_0 (Nat.le_of_ble_eq_true rfl)).trans rfl
theorem f7_5 : zi_fe 7 5 = some ((.iload_n 1), 1, 0, 0, 0, 0, 0) := (zl7_0 (Nat.le_of_ble_eq_true rfl)).trans rfl
theorem f7_6 : zi_fe 7 6 = some (.ireturn, 1, 0, 0, 0, 0, 0) := (zl7_0 (Nat.le_of_ble_eq_true rfl)).trans rfl
theorem b7_0 {h : zi_Hp} {a0 : Nat} {x1 : Int32} (g0 : a0 < zh_n h) (g1 : (zh_k h a0).1 = 0) : zv 1 7 0 [.ref a0, .int x1] [] h = some (some (.int x1), zh_wi h a0 0 5) := by
  refine Eq.trans (zv_next f7_0 rfl) ?_
  refine Eq.trans (zs_ic f7_1 ic_5) ?_
  refine Eq.trans (zs_put f7_2 g0 g1 rfl) ?_
  refine Eq.trans (zv_next f7_5 rfl) ?_
  exact zs_ret0 f7_6
set_option maxRecDepth 20000 in
theorem zq8 : zi_M[8]? = some zi_m8 := rfl
theorem zl8_0 {pc : Nat} (_ : 0 ≤ pc) : zi_fe 8 pc = zu8_0.lookup pc := zi_feA zq8 pc
theorem f8_0 : zi_fe 8 0 = some ((.iload_n 1), 1, 0, 0, 0, 0, 0) := (zl8_0 (Nat.le_of_ble_eq_true rfl)).trans rfl
theorem f8_1 : zi_fe 8 1 = some ((.ifCond .lt 18), 3, 0, 0, 0, 0, 0) := (zl8_0 (Nat.le_of_ble_eq_true rfl)).trans rfl
theorem f8_4 : zi_fe 8 4 = some ((.iload_n 1), 1, 0, 0, 0, 0, 0) := (zl8_0 (Nat.le_of_ble_eq_true rfl)).trans rfl
theorem f8_5 : zi_fe 8 5 = some ((.bipush 24), 2, 0, 0, 0, 0, 0) := (zl8_0 (Nat.le_of_ble_eq_true rfl)).trans rfl
theorem f8_7 : zi_fe 8 7 = some ((.if_icmp .ge 12), 3, 0, 0, 0, 0, 0) := (zl8_0 (Nat.le_of_ble_eq_true rfl)).trans rfl
theorem f8_10 : zi_fe 8 10 = some ((.aload_n 0), 1, 0, 0, 0, 0, 0) := (zl8_0 (Nat.le_of_ble_eq_true rfl)).trans rfl
theorem f8_11 : zi_fe 8 11 = some ((.getfield 9), 3, 0, 12, 3, 225, 0) := (zl8_0 (Nat.le_of_ble_eq_true rfl)).trans rfl
theorem f8_14 : zi_fe 8 14 = some ((.iload_n 1), 1, 0, 0, 0, 0, 0) := (zl8_0 (Nat.le_of_ble_eq_true rfl)).trans rfl
theorem f8_15 : zi_fe 8 15 = some (.iaload, 1, 0, 0, 0, 0, 0) := (zl8_0 (Nat.le_of_ble_eq_true rfl)).trans rfl
theorem f8_16 : zi_fe 8 16 = some ((.goto 5), 3, 0, 0, 0, 0, 0) := (zl8_0 (Nat.le_of_ble_eq_true rfl)).trans rfl
theorem f8_19 : zi_fe 8 19 = some ((.bipush (-4)), 2, 0, 0, 0, 0, 0) := (zl8_0 (Nat.le_of_ble_eq_true rfl)).trans rfl
theorem f8_21 : zi_fe 8 21 = some (.ireturn, 1, 0, 0, 0, 0, 0) := (zl8_0 (Nat.le_of_ble_eq_true rfl)).trans rfl
theorem b8_0 {h : zi_Hp} {a0 : Nat} {x1 : Int32}  : zv 1 8 0 [.ref a0, .int x1] [] h = if x1 < 0 then zv 1 8 19 [.ref a0, .int x1] [] h else zv 1 8 4 [.ref a0, .int x1] [] h := by
  refine Eq.trans (zv_next f8_0 rfl) ?_
  exact zs_if f8_1 rfl
theorem b8_4 {h : zi_Hp} {a0 : Nat} {x1 : Int32}  : zv 1 8 4 [.ref a0, .int x1] [] h = if x1 < 24 then zv 1 8 10 [.ref a0, .int x1] [] h else zv 1 8 19 [.ref a0, .int x1] [] h := by
  refine Eq.trans (zv_next f8_4 rfl) ?_
  refine Eq.trans (zs_bp f8_5 bp_24) ?_
  exact zs_icmp f8_7 rfl
theorem b8_10 {h : zi_Hp} {a0 : Nat} {x1 : Int32} (g0 : a0 < zh_n h) (g1 : (zh_k h a0).1 = 0) (g2 : zh_r h a0 12 = .ref (zq (zh_r h a0 12))) (g3 : (zq (zh_r h a0 12)) < zh_n h) (g4 : ¬ (x1 < 0 ∨ (zh_k h (zq (zh_r h a0 12))).2 ≤ x1.toNatClampNeg)) (g5 : (zh_k h (zq (zh_r h a0 12))).1 = 100) : zv 1 8 10 [.ref a0, .int x1] [] h = zv 1 8 21 [.ref a0, .int x1] [.int (zh_i h (zq (zh_r h a0 12)) x1.toNatClampNeg)] h := by
  refine Eq.trans (zv_next f8_10 rfl) ?_
  refine Eq.trans (zs_getr f8_11 g0 g1 g2) ?_
  refine Eq.trans (zv_next f8_14 rfl) ?_
  refine Eq.trans (zs_iald f8_15 g3 g5 g4) ?_
  refine Eq.trans (zs_goto (tgt := 21) f8_16 rfl) ?_
  rfl
theorem b8_19 {h : zi_Hp} {a0 : Nat} {x1 : Int32}  : zv 1 8 19 [.ref a0, .int x1] [] h = zv 1 8 21 [.ref a0, .int x1] [.int (-4)] h := by
  refine Eq.trans (zs_bp f8_19 bp_m4) ?_
  rfl
theorem b8_21 {h : zi_Hp} {a0 : Nat} {x1 : Int32} {s0 : Int32}  : zv 1 8 21 [.ref a0, .int x1] [.int s0] h = some (some (.int s0), h) := by
  exact zs_ret0 f8_21
set_option maxRecDepth 20000 in
theorem zq9 : zi_M[9]? = some zi_m9 := rfl
theorem zl9_0 {pc : Nat} (_ : 0 ≤ pc) : zi_fe 9 pc = zu9_0.lookup pc := zi_feA zq9 pc
theorem f9_0 : zi_fe 9 0 = some ((.iload_n 1), 1, 0, 0, 0, 0, 0) := (zl9_0 (Nat.le_of_ble_eq_true rfl)).trans rfl
theorem f9_1 : zi_fe 9 1 = some ((.ifCond .lt 16), 3, 0, 0, 0, 0, 0) := (zl9_0 (Nat.le_of_ble_eq_true rfl)).trans rfl
theorem f9_4 : zi_fe 9 4 = some ((.iload_n 1), 1, 0, 0, 0, 0, 0) := (zl9_0 (Nat.le_of_ble_eq_true rfl)).trans rfl
theorem f9_5 : zi_fe 9 5 = some ((.bipush 24), 2, 0, 0, 0, 0, 0) := (zl9_0 (Nat.le_of_ble_eq_true rfl)).trans rfl
theorem f9_7 : zi_fe 9 7 = some ((.if_icmp .ge 10), 3, 0, 0, 0, 0, 0) := (zl9_0 (Nat.le_of_ble_eq_true rfl)).trans rfl
theorem f9_10 : zi_fe 9 10 = some ((.aload_n 0), 1, 0, 0, 0, 0, 0) := (zl9_0 (Nat.le_of_ble_eq_true rfl)).trans rfl
theorem f9_11 : zi_fe 9 11 = some ((.getfield 9), 3, 0, 12, 3, 225, 0) := (zl9_0 (Nat.le_of_ble_eq_true rfl)).trans rfl
theorem f9_14 : zi_fe 9 14 = some ((.iload_n 1), 1, 0, 0, 0, 0, 0) := (zl9_0 (Nat.le_of_ble_eq_true rfl)).trans rfl
theorem f9_15 : zi_fe 9 15 = some ((.iload_n 2), 1, 0, 0, 0, 0, 0) := (zl9_0 (Nat.le_of_ble_eq_true rfl)).trans rfl
theorem f9_16 : zi_fe 9 16 = some (.iastore, 1, 0, 0, 0, 0, 0) := (zl9_0 (Nat.le_of_ble_eq_true rfl)).trans rfl
theorem f9_17 : zi_fe 9 17 = some (.return_, 1, 0, 0, 0, 0, 0) := (zl9_0 (Nat.le_of_ble_eq_true rfl)).trans rfl
theorem b9_0 {h : zi_Hp} {a0 : Nat} {x1 : Int32} {x2 : Int32}  : zv 1 9 0 [.ref a0, .int x1, .int x2] [] h = if x1 < 0 then zv 1 9 17 [.ref a0, .int x1, .int x2] [] h else zv 1 9 4 [.ref a0, .int x1, .int x2] [] h := by
  refine Eq.trans (zv_next f9_0 rfl) ?_
  exact zs_if f9_1 rfl
theorem b9_4 {h : zi_Hp} {a0 : Nat} {x1 : Int32} {x2 : Int32}  : zv 1 9 4 [.ref a0, .int x1, .int x2] [] h = if x1 < 24 then zv 1 9 10 [.ref a0, .int x1, .int x2] [] h else zv 1 9 17 [.ref a0, .int x1, .int x2] [] h := by
  refine Eq.trans (zv_next f9_4 rfl) ?_
  refine Eq.trans (zs_bp f9_5 bp_24) ?_
  exact zs_icmp f9_7 rfl
theorem b9_10 {h : zi_Hp} {a0 : Nat} {x1 : Int32} {x2 : Int32} (g0 : a0 < zh_n h) (g1 : (zh_k h a0).1 = 0) (g2 : zh_r h a0 12 = .ref (zq (zh_r h a0 12))) (g3 : (zq (zh_r h a0 12)) < zh_n h) (g4 : ¬ (x1 < 0 ∨ (zh_k h (zq (zh_r h a0 12))).2 ≤ x1.toNatClampNeg)) (g5 : (zh_k h (zq (zh_r h a0 12))).1 = 100) : zv 1 9 10 [.ref a0, .int x1, .int x2] [] h = zv 1 9 17 [.ref a0, .int x1, .int x2] [] (zh_wi h (zq (zh_r h a0 12)) x1.toNatClampNeg x2) := by
  refine Eq.trans (zv_next f9_10 rfl) ?_
  refine Eq.trans (zs_getr f9_11 g0 g1 g2) ?_
  refine Eq.trans (zv_next f9_14 rfl) ?_
  refine Eq.trans (zv_next f9_15 rfl) ?_
  refine Eq.trans (zs_iast f9_16 g3 g5 g4) ?_
  rfl
theorem b9_17 {h : zi_Hp} {a0 : Nat} {x1 : Int32} {x2 : Int32}  : zv 1 9 17 [.ref a0, .int x1, .int x2] [] h = some (none, h) := by
  exact zv_ret f9_17 rfl
set_option maxRecDepth 20000 in
theorem zq10 : zi_M[10]? = some zi_m10 := rfl
theorem zl10_0 {pc : Nat} (_ : 0 ≤ pc) : zi_fe 10 pc = zu10_0.lookup pc := zi_feA zq10 pc
theorem f10_0 : zi_fe 10 0 = some ((.aload_n 0), 1, 0, 0, 0, 0, 0) := (zl10_0 (Nat.le_of_ble_eq_true rfl)).trans rfl
theorem f10_1 : zi_fe 10 1 = some ((.getfield 18), 3, 0, 0, 0, 199, 0) := (zl10_0 (Nat.le_of_ble_eq_true rfl)).trans rfl
theorem f10_4 : zi_fe 10 4 = some ((.iconst 5), 1, 0, 0, 0, 0, 0) := (zl10_0 (Nat.le_of_ble_eq_true rfl)).trans rfl
theorem f10_5 : zi_fe 10 5 = some ((.if_icmp .ne 10), 3, 0, 0, 0, 0, 0) := (zl10_0 (Nat.le_of_ble_eq_true rfl)).trans rfl
theorem f10_8 : zi_fe 10 8 = some ((.aload_n 0), 1, 0, 0, 0, 0, 0) := (zl10_0 (Nat.le_of_ble_eq_true rfl)).trans rfl
theorem f10_9 : zi_fe 10 9 = some ((.getfield 31), 3, 0, 1, 0, 202, 0) := (zl10_0 (Nat.le_of_ble_eq_true rfl)).trans rfl
theorem f10_12 : zi_fe 10 12 = some ((.ifCond .eq 5), 3, 0, 0, 0, 0, 0) := (zl10_0 (Nat.le_of_ble_eq_true rfl)).trans rfl
theorem f10_15 : zi_fe 10 15 = some ((.iconst 0), 1, 0, 0, 0, 0, 0) := (zl10_0 (Nat.le_of_ble_eq_true rfl)).trans rfl
theorem f10_16 : zi_fe 10 16 = some (.ireturn, 1, 1, 0, 0, 0, 0) := (zl10_0 (Nat.le_of_ble_eq_true rfl)).trans rfl
theorem f10_17 : zi_fe 10 17 = some ((.aload_n 0), 1, 0, 0, 0, 0, 0) := (zl10_0 (Nat.le_of_ble_eq_true rfl)).trans rfl
theorem f10_18 : zi_fe 10 18 = some ((.getfield 22), 3, 0, 4, 0, 208, 0) := (zl10_0 (Nat.le_of_ble_eq_true rfl)).trans rfl
theorem f10_21 : zi_fe 10 21 = some ((.ifCond .ne 12), 3, 0, 0, 0, 0, 0) := (zl10_0 (Nat.le_of_ble_eq_true rfl)).trans rfl
theorem zl10_1 {pc : Nat} (h : 24 ≤ pc) : zi_fe 10 pc = zu10_1.lookup pc := (zl10_0 (Nat.le_trans (Nat.le_of_ble_eq_true rfl) h)).trans (zi_lkA (a := zi_i10_0) (c := 24) rfl h)
theorem f10_24 : zi_fe 10 24 = some ((.aload_n 0), 1, 0, 0, 0, 0, 0) := (zl10_1 (Nat.le_of_ble_eq_true rfl)).trans rfl
theorem f10_25 : zi_fe 10 25 = some ((.getfield 40), 3, 0, 5, 0, 211, 0) := (zl10_1 (Nat.le_of_ble_eq_true rfl)).trans rfl
theorem f10_28 : zi_fe 10 28 = some ((.iconst 1), 1, 0, 0, 0, 0, 0) := (zl10_1 (Nat.le_of_ble_eq_true rfl)).trans rfl
theorem f10_29 : zi_fe 10 29 = some (.iand, 1, 0, 0, 0, 0, 0) := (zl10_1 (Nat.le_of_ble_eq_true rfl)).trans rfl
theorem f10_30 : zi_fe 10 30 = some ((.ifCond .eq 20), 3, 0, 0, 0, 0, 0) := (zl10_1 (Nat.le_of_ble_eq_true rfl)).trans rfl
theorem f10_33 : zi_fe 10 33 = some ((.aload_n 0), 1, 0, 0, 0, 0, 0) := (zl10_1 (Nat.le_of_ble_eq_true rfl)).trans rfl
theorem f10_34 : zi_fe 10 34 = some ((.getfield 22), 3, 0, 4, 0, 208, 0) := (zl10_1 (Nat.le_of_ble_eq_true rfl)).trans rfl
theorem f10_37 : zi_fe 10 37 = some ((.iconst 1), 1, 0, 0, 0, 0, 0) := (zl10_1 (Nat.le_of_ble_eq_true rfl)).trans rfl
theorem f10_38 : zi_fe 10 38 = some ((.if_icmp .ne 16), 3, 0, 0, 0, 0, 0) := (zl10_1 (Nat.le_of_ble_eq_true rfl)).trans rfl
theorem f10_41 : zi_fe 10 41 = some ((.aload_n 0), 1, 0, 0, 0, 0, 0) := (zl10_1 (Nat.le_of_ble_eq_true rfl)).trans rfl
theorem f10_42 : zi_fe 10 42 = some ((.getfield 40), 3, 0, 5, 0, 211, 0) := (zl10_1 (Nat.le_of_ble_eq_true rfl)).trans rfl
theorem f10_45 : zi_fe 10 45 = some ((.iconst 2), 1, 0, 0, 0, 0, 0) := (zl10_1 (Nat.le_of_ble_eq_true rfl)).trans rfl
theorem zl10_2 {pc : Nat} (h : 46 ≤ pc) : zi_fe 10 pc = zu10_2.lookup pc := (zl10_1 (Nat.le_trans (Nat.le_of_ble_eq_true rfl) h)).trans (zi_lkA (a := zi_i10_1) (c := 46) rfl h)
theorem f10_46 : zi_fe 10 46 = some (.iand, 1, 0, 0, 0, 0, 0) := (zl10_2 (Nat.le_of_ble_eq_true rfl)).trans rfl
theorem f10_47 : zi_fe 10 47 = some ((.ifCond .ne 7), 3, 0, 0, 0, 0, 0) := (zl10_2 (Nat.le_of_ble_eq_true rfl)).trans rfl
theorem f10_50 : zi_fe 10 50 = some ((.iconst 1), 1, 0, 0, 0, 0, 0) := (zl10_2 (Nat.le_of_ble_eq_true rfl)).trans rfl
theorem f10_51 : zi_fe 10 51 = some ((.goto 4), 3, 0, 0, 0, 0, 0) := (zl10_2 (Nat.le_of_ble_eq_true rfl)).trans rfl
theorem f10_54 : zi_fe 10 54 = some ((.iconst 0), 1, 0, 0, 0, 0, 0) := (zl10_2 (Nat.le_of_ble_eq_true rfl)).trans rfl
theorem f10_55 : zi_fe 10 55 = some (.ireturn, 1, 1, 0, 0, 0, 0) := (zl10_2 (Nat.le_of_ble_eq_true rfl)).trans rfl
theorem b10_0 {h : zi_Hp} {a0 : Nat} (g0 : a0 < zh_n h) (g1 : (zh_k h a0).1 = 0) : zv 1 10 0 [.ref a0] [] h = if (zh_i h a0 0) = 5 then zv 1 10 8 [.ref a0] [] h else zv 1 10 15 [.ref a0] [] h := by
  refine Eq.trans (zv_next f10_0 rfl) ?_
  refine Eq.trans (zs_geti f10_1 g0 g1) ?_
  refine Eq.trans (zs_ic f10_4 ic_5) ?_
  exact zs_icmp f10_5 rfl
theorem b10_8 {h : zi_Hp} {a0 : Nat} (g0 : a0 < zh_n h) (g1 : (zh_k h a0).1 = 0) : zv 1 10 8 [.ref a0] [] h = if (zh_i h a0 1) = 0 then zv 1 10 17 [.ref a0] [] h else zv 1 10 15 [.ref a0] [] h := by
  refine Eq.trans (zv_next f10_8 rfl) ?_
  refine Eq.trans (zs_geti f10_9 g0 g1) ?_
  exact zs_if f10_12 rfl
theorem b10_15 {h : zi_Hp} {a0 : Nat}  : zv 1 10 15 [.ref a0] [] h = some (some (.int 0), h) := by
  refine Eq.trans (zs_ic f10_15 ic_0) ?_
  exact zs_ret1 f10_16 (by decide)
theorem b10_17 {h : zi_Hp} {a0 : Nat} (g0 : a0 < zh_n h) (g1 : (zh_k h a0).1 = 0) : zv 1 10 17 [.ref a0] [] h = if (zh_i h a0 4) = 0 then zv 1 10 24 [.ref a0] [] h else zv 1 10 33 [.ref a0] [] h := by
  refine Eq.trans (zv_next f10_17 rfl) ?_
  refine Eq.trans (zs_geti f10_18 g0 g1) ?_
  exact zs_if f10_21 rfl
theorem b10_24 {h : zi_Hp} {a0 : Nat} (g0 : a0 < zh_n h) (g1 : (zh_k h a0).1 = 0) : zv 1 10 24 [.ref a0] [] h = if ((zh_i h a0 5) &&& 1) = 0 then zv 1 10 50 [.ref a0] [] h else zv 1 10 33 [.ref a0] [] h := by
  refine Eq.trans (zv_next f10_24 rfl) ?_
  refine Eq.trans (zs_geti f10_25 g0 g1) ?_
  refine Eq.trans (zs_ic f10_28 ic_1) ?_
  refine Eq.trans (zv_next f10_29 rfl) ?_
  exact zs_if f10_30 rfl
theorem b10_33 {h : zi_Hp} {a0 : Nat} (g0 : a0 < zh_n h) (g1 : (zh_k h a0).1 = 0) : zv 1 10 33 [.ref a0] [] h = if (zh_i h a0 4) = 1 then zv 1 10 41 [.ref a0] [] h else zv 1 10 54 [.ref a0] [] h := by
  refine Eq.trans (zv_next f10_33 rfl) ?_
  refine Eq.trans (zs_geti f10_34 g0 g1) ?_
  refine Eq.trans (zs_ic f10_37 ic_1) ?_
  exact zs_icmp f10_38 rfl
theorem b10_41 {h : zi_Hp} {a0 : Nat} (g0 : a0 < zh_n h) (g1 : (zh_k h a0).1 = 0) : zv 1 10 41 [.ref a0] [] h = if ((zh_i h a0 5) &&& 2) = 0 then zv 1 10 50 [.ref a0] [] h else zv 1 10 54 [.ref a0] [] h := by
  refine Eq.trans (zv_next f10_41 rfl) ?_
  refine Eq.trans (zs_geti f10_42 g0 g1) ?_
  refine Eq.trans (zs_ic f10_45 ic_2) ?_
  refine Eq.trans (zv_next f10_46 rfl) ?_
  exact zs_if f10_47 rfl
theorem b10_50 {h : zi_Hp} {a0 : Nat}  : zv 1 10 50 [.ref a0] [] h = zv 1 10 55 [.ref a0] [.int 1] h := by
  refine Eq.trans (zs_ic f10_50 ic_1) ?_
  refine Eq.trans (zs_goto (tgt := 55) f10_51 rfl) ?_
  rfl
theorem b10_54 {h : zi_Hp} {a0 : Nat}  : zv 1 10 54 [.ref a0] [] h = zv 1 10 55 [.ref a0] [.int 0] h := by
  refine Eq.trans (zs_ic f10_54 ic_0) ?_
  rfl
theorem b10_55 {h : zi_Hp} {a0 : Nat} {s0 : Int32} (g0 : s0 = 0 ∨ s0 = 1) : zv 1 10 55 [.ref a0] [.int s0] h = some (some (.int s0), h) := by
  exact zs_ret1 f10_55 g0
set_option maxRecDepth 20000 in
theorem zq11 : zi_M[11]? = some zi_m11 := rfl
theorem zl11_0 {pc : Nat} (_ : 0 ≤ pc) : zi_fe 11 pc = zu11_0.lookup pc := zi_feA zq11 pc
theorem f11_0 : zi_fe 11 0 = some ((.iload_n 1), 1, 0, 0, 0, 0, 0) := (zl11_0 (Nat.le_of_ble_eq_true rfl)).trans rfl
theorem f11_1 : zi_fe 11 1 = some ((.tableswitch 78 1 7 #[43, 48, 53, 58, 63, 68, 73]), 43, 0, 0, 0, 0, 0) := (zl11_0 (Nat.le_of_ble_eq_true rfl)).trans rfl
theorem f11_44 : zi_fe 11 44 = some ((.aload_n 0), 1, 0, 0, 0, 0, 0) := (zl11_0 (Nat.le_of_ble_eq_true rfl)).trans rfl
theorem f11_45 : zi_fe 11 45 = some ((.getfield 31), 3, 0, 1, 0, 202, 0) := (zl11_0 (Nat.le_of_ble_eq_true rfl)).trans rfl
theorem f11_48 : zi_fe 11 48 = some (.ireturn, 1, 0, 0, 0, 0, 0) := (zl11_0 (Nat.le_of_ble_eq_true rfl)).trans rfl
theorem f11_49 : zi_fe 11 49 = some ((.aload_n 0), 1, 0, 0, 0, 0, 0) := (zl11_0 (Nat.le_of_ble_eq_true rfl)).trans rfl
theorem f11_50 : zi_fe 11 50 = some ((.getfield 34), 3, 0, 2, 0, 204, 0) := (zl11_0 (Nat.le_of_ble_eq_true rfl)).trans rfl
theorem f11_53 : zi_fe 11 53 = some (.ireturn, 1, 0, 0, 0, 0, 0) := (zl11_0 (Nat.le_of_ble_eq_true rfl)).trans rfl
theorem f11_54 : zi_fe 11 54 = some ((.aload_n 0), 1, 0, 0, 0, 0, 0) := (zl11_0 (Nat.le_of_ble_eq_true rfl)).trans rfl
theorem f11_55 : zi_fe 11 55 = some ((.getfield 37), 3, 0, 3, 0, 206, 0) := (zl11_0 (Nat.le_of_ble_eq_true rfl)).trans rfl
theorem f11_58 : zi_fe 11 58 = some (.ireturn, 1, 0, 0, 0, 0, 0) := (zl11_0 (Nat.le_of_ble_eq_true rfl)).trans rfl
theorem f11_59 : zi_fe 11 59 = some ((.aload_n 0), 1, 0, 0, 0, 0, 0) := (zl11_0 (Nat.le_of_ble_eq_true rfl)).trans rfl
theorem zl11_1 {pc : Nat} (h : 60 ≤ pc) : zi_fe 11 pc = zu11_1.lookup pc := (zl11_0 (Nat.le_trans (Nat.le_of_ble_eq_true rfl) h)).trans (zi_lkA (a := zi_i11_0) (c := 60) rfl h)
theorem f11_60 : zi_fe 11 60 = some ((.getfield 22), 3, 0, 4, 0, 208, 0) := (zl11_1 (Nat.le_of_ble_eq_true rfl)).trans rfl
theorem f11_63 : zi_fe 11 63 = some (.ireturn, 1, 0, 0, 0, 0, 0) := (zl11_1 (Nat.le_of_ble_eq_true rfl)).trans rfl
theorem f11_64 : zi_fe 11 64 = some ((.aload_n 0), 1, 0, 0, 0, 0, 0) := (zl11_1 (Nat.le_of_ble_eq_true rfl)).trans rfl
theorem f11_65 : zi_fe 11 65 = some ((.getfield 40), 3, 0, 5, 0, 211, 0) := (zl11_1 (Nat.le_of_ble_eq_true rfl)).trans rfl
theorem f11_68 : zi_fe 11 68 = some (.ireturn, 1, 0, 0, 0, 0, 0) := (zl11_1 (Nat.le_of_ble_eq_true rfl)).trans rfl
theorem f11_69 : zi_fe 11 69 = some ((.aload_n 0), 1, 0, 0, 0, 0, 0) := (zl11_1 (Nat.le_of_ble_eq_true rfl)).trans rfl
theorem f11_70 : zi_fe 11 70 = some ((.getfield 43), 3, 0, 6, 0, 213, 0) := (zl11_1 (Nat.le_of_ble_eq_true rfl)).trans rfl
theorem f11_73 : zi_fe 11 73 = some (.ireturn, 1, 0, 0, 0, 0, 0) := (zl11_1 (Nat.le_of_ble_eq_true rfl)).trans rfl
theorem f11_74 : zi_fe 11 74 = some ((.aload_n 0), 1, 0, 0, 0, 0, 0) := (zl11_1 (Nat.le_of_ble_eq_true rfl)).trans rfl
theorem f11_75 : zi_fe 11 75 = some ((.getfield 46), 3, 0, 7, 0, 215, 0) := (zl11_1 (Nat.le_of_ble_eq_true rfl)).trans rfl
theorem f11_78 : zi_fe 11 78 = some (.ireturn, 1, 0, 0, 0, 0, 0) := (zl11_1 (Nat.le_of_ble_eq_true rfl)).trans rfl
theorem f11_79 : zi_fe 11 79 = some ((.iconst (-1)), 1, 0, 0, 0, 0, 0) := (zl11_1 (Nat.le_of_ble_eq_true rfl)).trans rfl
theorem zl11_2 {pc : Nat} (h : 80 ≤ pc) : zi_fe 11 pc = zu11_2.lookup pc := (zl11_1 (Nat.le_trans (Nat.le_of_ble_eq_true rfl) h)).trans (zi_lkA (a := zi_i11_1) (c := 80) rfl h)
theorem f11_80 : zi_fe 11 80 = some (.ireturn, 1, 0, 0, 0, 0, 0) := (zl11_2 (Nat.le_of_ble_eq_true rfl)).trans rfl
theorem b11_0_c1 {h : zi_Hp} {a0 : Nat} {x1 : Int32}  (hx : x1 = 1) : zv 1 11 0 [.ref a0, .int x1] [] h = zv 1 11 44 [.ref a0, .int x1] [] h := by
  refine Eq.trans (zv_next f11_0 rfl) ?_
  exact zs_sw (off := 43) (v := 1) f11_1 (by decide) (by decide) rfl hx
theorem b11_0_c2 {h : zi_Hp} {a0 : Nat} {x1 : Int32}  (hx : x1 = 2) : zv 1 11 0 [.ref a0, .int x1] [] h = zv 1 11 49 [.ref a0, .int x1] [] h := by
  refine Eq.trans (zv_next f11_0 rfl) ?_
  exact zs_sw (off := 48) (v := 2) f11_1 (by decide) (by decide) rfl hx
theorem b11_0_c3 {h : zi_Hp} {a0 : Nat} {x1 : Int32}  (hx : x1 = 3) : zv 1 11 0 [.ref a0, .int x1] [] h = zv 1 11 54 [.ref a0, .int x1] [] h := by
  refine Eq.trans (zv_next f11_0 rfl) ?_
  exact zs_sw (off := 53) (v := 3) f11_1 (by decide) (by decide) rfl hx
theorem b11_0_c4 {h : zi_Hp} {a0 : Nat} {x1 : Int32}  (hx : x1 = 4) : zv 1 11 0 [.ref a0, .int x1] [] h = zv 1 11 59 [.ref a0, .int x1] [] h := by
  refine Eq.trans (zv_next f11_0 rfl) ?_
  exact zs_sw (off := 58) (v := 4) f11_1 (by decide) (by decide) rfl hx
theorem b11_0_c5 {h : zi_Hp} {a0 : Nat} {x1 : Int32}  (hx : x1 = 5) : zv 1 11 0 [.ref a0, .int x1] [] h = zv 1 11 64 [.ref a0, .int x1] [] h := by
  refine Eq.trans (zv_next f11_0 rfl) ?_
  exact zs_sw (off := 63) (v := 5) f11_1 (by decide) (by decide) rfl hx
theorem b11_0_c6 {h : zi_Hp} {a0 : Nat} {x1 : Int32}  (hx : x1 = 6) : zv 1 11 0 [.ref a0, .int x1] [] h = zv 1 11 69 [.ref a0, .int x1] [] h := by
  refine Eq.trans (zv_next f11_0 rfl) ?_
  exact zs_sw (off := 68) (v := 6) f11_1 (by decide) (by decide) rfl hx
theorem b11_0_c7 {h : zi_Hp} {a0 : Nat} {x1 : Int32}  (hx : x1 = 7) : zv 1 11 0 [.ref a0, .int x1] [] h = zv 1 11 74 [.ref a0, .int x1] [] h := by
  refine Eq.trans (zv_next f11_0 rfl) ?_
  exact zs_sw (off := 73) (v := 7) f11_1 (by decide) (by decide) rfl hx
theorem b11_0_d {h : zi_Hp} {a0 : Nat} {x1 : Int32}  (hx : (x1).toInt < 1 ∨ 7 < (x1).toInt) : zv 1 11 0 [.ref a0, .int x1] [] h = zv 1 11 79 [.ref a0, .int x1] [] h := by
  refine Eq.trans (zv_next f11_0 rfl) ?_
  exact zs_swO f11_1 rfl hx
theorem b11_44 {h : zi_Hp} {a0 : Nat} {x1 : Int32} (g0 : a0 < zh_n h) (g1 : (zh_k h a0).1 = 0) : zv 1 11 44 [.ref a0, .int x1] [] h = some (some (.int (zh_i h a0 1)), h) := by
  refine Eq.trans (zv_next f11_44 rfl) ?_
  refine Eq.trans (zs_geti f11_45 g0 g1) ?_
  exact zs_ret0 f11_48
theorem b11_49 {h : zi_Hp} {a0 : Nat} {x1 : Int32} (g0 : a0 < zh_n h) (g1 : (zh_k h a0).1 = 0) : zv 1 11 49 [.ref a0, .int x1] [] h = some (some (.int (zh_i h a0 2)), h) := by
  refine Eq.trans (zv_next f11_49 rfl) ?_
  refine Eq.trans (zs_geti f11_50 g0 g1) ?_
  exact zs_ret0 f11_53
theorem b11_54 {h : zi_Hp} {a0 : Nat} {x1 : Int32} (g0 : a0 < zh_n h) (g1 : (zh_k h a0).1 = 0) : zv 1 11 54 [.ref a0, .int x1] [] h = some (some (.int (zh_i h a0 3)), h) := by
  refine Eq.trans (zv_next f11_54 rfl) ?_
  refine Eq.trans (zs_geti f11_55 g0 g1) ?_
  exact zs_ret0 f11_58
theorem b11_59 {h : zi_Hp} {a0 : Nat} {x1 : Int32} (g0 : a0 < zh_n h) (g1 : (zh_k h a0).1 = 0) : zv 1 11 59 [.ref a0, .int x1] [] h = some (some (.int (zh_i h a0 4)), h) := by
  refine Eq.trans (zv_next f11_59 rfl) ?_
  refine Eq.trans (zs_geti f11_60 g0 g1) ?_
  exact zs_ret0 f11_63
theorem b11_64 {h : zi_Hp} {a0 : Nat} {x1 : Int32} (g0 : a0 < zh_n h) (g1 : (zh_k h a0).1 = 0) : zv 1 11 64 [.ref a0, .int x1] [] h = some (some (.int (zh_i h a0 5)), h) := by
  refine Eq.trans (zv_next f11_64 rfl) ?_
  refine Eq.trans (zs_geti f11_65 g0 g1) ?_
  exact zs_ret0 f11_68
theorem b11_69 {h : zi_Hp} {a0 : Nat} {x1 : Int32} (g0 : a0 < zh_n h) (g1 : (zh_k h a0).1 = 0) : zv 1 11 69 [.ref a0, .int x1] [] h = some (some (.int (zh_i h a0 6)), h) := by
  refine Eq.trans (zv_next f11_69 rfl) ?_
  refine Eq.trans (zs_geti f11_70 g0 g1) ?_
  exact zs_ret0 f11_73
theorem b11_74 {h : zi_Hp} {a0 : Nat} {x1 : Int32} (g0 : a0 < zh_n h) (g1 : (zh_k h a0).1 = 0) : zv 1 11 74 [.ref a0, .int x1] [] h = some (some (.int (zh_i h a0 7)), h) := by
  refine Eq.trans (zv_next f11_74 rfl) ?_
  refine Eq.trans (zs_geti f11_75 g0 g1) ?_
  exact zs_ret0 f11_78
theorem b11_79 {h : zi_Hp} {a0 : Nat} {x1 : Int32}  : zv 1 11 79 [.ref a0, .int x1] [] h = some (some (.int (-1)), h) := by
  refine Eq.trans (zs_ic f11_79 ic_m1) ?_
  exact zs_ret0 f11_80
set_option maxRecDepth 20000 in
theorem zq12 : zi_M[12]? = some zi_m12 := rfl
theorem zl12_0 {pc : Nat} (_ : 0 ≤ pc) : zi_fe 12 pc = zu12_0.lookup pc := zi_feA zq12 pc
theorem f12_0 : zi_fe 12 0 = some ((.aload_n 0), 1, 0, 0, 0, 0, 0) := (zl12_0 (Nat.le_of_ble_eq_true rfl)).trans rfl
theorem f12_1 : zi_fe 12 1 = some ((.invokespecial 3), 3, 0, 3, 0, 354, 1) := (zl12_0 (Nat.le_of_ble_eq_true rfl)).trans rfl
theorem f12_4 : zi_fe 12 4 = some ((.aload_n 0), 1, 0, 0, 0, 0, 0) := (zl12_0 (Nat.le_of_ble_eq_true rfl)).trans rfl
theorem f12_5 : zi_fe 12 5 = some ((.bipush 40), 2, 0, 0, 0, 0, 0) := (zl12_0 (Nat.le_of_ble_eq_true rfl)).trans rfl
theorem f12_7 : zi_fe 12 7 = some ((.newarray .int), 2, 100, 0, 0, 183, 0) := (zl12_0 (Nat.le_of_ble_eq_true rfl)).trans rfl
theorem f12_9 : zi_fe 12 9 = some ((.putfield 9), 3, 1, 5, 3, 365, 0) := (zl12_0 (Nat.le_of_ble_eq_true rfl)).trans rfl
theorem f12_12 : zi_fe 12 12 = some ((.aload_n 0), 1, 0, 0, 0, 0, 0) := (zl12_0 (Nat.le_of_ble_eq_true rfl)).trans rfl
theorem f12_13 : zi_fe 12 13 = some ((.bipush 40), 2, 0, 0, 0, 0, 0) := (zl12_0 (Nat.le_of_ble_eq_true rfl)).trans rfl
theorem f12_15 : zi_fe 12 15 = some ((.newarray .int), 2, 100, 0, 0, 183, 0) := (zl12_0 (Nat.le_of_ble_eq_true rfl)).trans rfl
theorem f12_17 : zi_fe 12 17 = some ((.putfield 15), 3, 1, 6, 3, 367, 0) := (zl12_0 (Nat.le_of_ble_eq_true rfl)).trans rfl
theorem f12_20 : zi_fe 12 20 = some ((.aload_n 0), 1, 0, 0, 0, 0, 0) := (zl12_0 (Nat.le_of_ble_eq_true rfl)).trans rfl
theorem f12_21 : zi_fe 12 21 = some ((.iconst 3), 1, 0, 0, 0, 0, 0) := (zl12_0 (Nat.le_of_ble_eq_true rfl)).trans rfl
theorem zl12_1 {pc : Nat} (h : 22 ≤ pc) : zi_fe 12 pc = zu12_1.lookup pc := (zl12_0 (Nat.le_trans (Nat.le_of_ble_eq_true rfl) h)).trans (zi_lkA (a := zi_i12_0) (c := 22) rfl h)
theorem f12_22 : zi_fe 12 22 = some ((.newarray .int), 2, 100, 0, 0, 183, 0) := (zl12_1 (Nat.le_of_ble_eq_true rfl)).trans rfl
theorem f12_24 : zi_fe 12 24 = some ((.putfield 18), 3, 1, 7, 3, 369, 0) := (zl12_1 (Nat.le_of_ble_eq_true rfl)).trans rfl
theorem f12_27 : zi_fe 12 27 = some (.return_, 1, 0, 0, 0, 0, 0) := (zl12_1 (Nat.le_of_ble_eq_true rfl)).trans rfl
theorem b12_0 {h : zi_Hp} {a0 : Nat}  : zv 1 12 0 [.ref a0] [] h = zv 1 12 9 [.ref a0] [.ref (zh_n h), .ref a0] (zh_al h 100 40) := by
  refine Eq.trans (zv_next f12_0 rfl) ?_
  refine Eq.trans (zs_objI f12_1 (Nat.le_of_ble_eq_true rfl)) ?_
  refine Eq.trans (zv_next f12_4 rfl) ?_
  refine Eq.trans (zs_bp f12_5 bp_40) ?_
  refine Eq.trans (zs_newa (N := 40) f12_7 (by decide)) ?_
  rfl
theorem b12_9 {h : zi_Hp} {a0 : Nat} {t0 : Nat} {t1 : Nat} (g0 : t0 < zh_n h) (g1 : (zh_k h t0).1 = 1) : zv 1 12 9 [.ref a0] [.ref t1, .ref t0] h = zv 1 12 17 [.ref a0] [.ref (zh_n h), .ref a0] (zh_al (zh_wr h t0 5 (.ref t1)) 100 40) := by
  refine Eq.trans (zs_put f12_9 g0 g1 rfl) ?_
  refine Eq.trans (zv_next f12_12 rfl) ?_
  refine Eq.trans (zs_bp f12_13 bp_40) ?_
  refine Eq.trans (zs_newa (N := 40) f12_15 (by decide)) ?_
  rfl
theorem b12_17 {h : zi_Hp} {a0 : Nat} {t0 : Nat} {t1 : Nat} (g0 : t0 < zh_n h) (g1 : (zh_k h t0).1 = 1) : zv 1 12 17 [.ref a0] [.ref t1, .ref t0] h = zv 1 12 24 [.ref a0] [.ref (zh_n h), .ref a0] (zh_al (zh_wr h t0 6 (.ref t1)) 100 3) := by
  refine Eq.trans (zs_put f12_17 g0 g1 rfl) ?_
  refine Eq.trans (zv_next f12_20 rfl) ?_
  refine Eq.trans (zs_ic f12_21 ic_3) ?_
  refine Eq.trans (zs_newa (N := 3) f12_22 (by decide)) ?_
  rfl
theorem b12_24 {h : zi_Hp} {a0 : Nat} {t0 : Nat} {t1 : Nat} (g0 : t0 < zh_n h) (g1 : (zh_k h t0).1 = 1) : zv 1 12 24 [.ref a0] [.ref t1, .ref t0] h = some (none, zh_wr h t0 7 (.ref t1)) := by
  refine Eq.trans (zs_put f12_24 g0 g1 rfl) ?_
  exact zv_ret f12_27 rfl
set_option maxRecDepth 20000 in
theorem zq13 : zi_M[13]? = some zi_m13 := rfl
theorem zl13_0 {pc : Nat} (_ : 0 ≤ pc) : zi_fe 13 pc = zu13_0.lookup pc := zi_feA zq13 pc
theorem f13_0 : zi_fe 13 0 = some ((.aload_n 0), 1, 0, 0, 0, 0, 0) := (zl13_0 (Nat.le_of_ble_eq_true rfl)).trans rfl
theorem f13_1 : zi_fe 13 1 = some ((.iconst 0), 1, 0, 0, 0, 0, 0) := (zl13_0 (Nat.le_of_ble_eq_true rfl)).trans rfl
theorem f13_2 : zi_fe 13 2 = some ((.putfield 21), 3, 1, 0, 0, 355, 0) := (zl13_0 (Nat.le_of_ble_eq_true rfl)).trans rfl
theorem f13_5 : zi_fe 13 5 = some ((.aload_n 0), 1, 0, 0, 0, 0, 0) := (zl13_0 (Nat.le_of_ble_eq_true rfl)).trans rfl
theorem f13_6 : zi_fe 13 6 = some ((.iconst 3), 1, 0, 0, 0, 0, 0) := (zl13_0 (Nat.le_of_ble_eq_true rfl)).trans rfl
theorem f13_7 : zi_fe 13 7 = some ((.putfield 25), 3, 1, 1, 0, 357, 0) := (zl13_0 (Nat.le_of_ble_eq_true rfl)).trans rfl
theorem f13_10 : zi_fe 13 10 = some ((.aload_n 0), 1, 0, 0, 0, 0, 0) := (zl13_0 (Nat.le_of_ble_eq_true rfl)).trans rfl
theorem f13_11 : zi_fe 13 11 = some ((.iconst 0), 1, 0, 0, 0, 0, 0) := (zl13_0 (Nat.le_of_ble_eq_true rfl)).trans rfl
theorem f13_12 : zi_fe 13 12 = some ((.putfield 28), 3, 1, 8, 1, 371, 0) := (zl13_0 (Nat.le_of_ble_eq_true rfl)).trans rfl
theorem f13_15 : zi_fe 13 15 = some ((.aload_n 0), 1, 0, 0, 0, 0, 0) := (zl13_0 (Nat.le_of_ble_eq_true rfl)).trans rfl
theorem f13_16 : zi_fe 13 16 = some ((.iconst 0), 1, 0, 0, 0, 0, 0) := (zl13_0 (Nat.le_of_ble_eq_true rfl)).trans rfl
theorem f13_17 : zi_fe 13 17 = some ((.putfield 32), 3, 1, 2, 0, 359, 0) := (zl13_0 (Nat.le_of_ble_eq_true rfl)).trans rfl
theorem zl13_1 {pc : Nat} (h : 20 ≤ pc) : zi_fe 13 pc = zu13_1.lookup pc := (zl13_0 (Nat.le_trans (Nat.le_of_ble_eq_true rfl) h)).trans (zi_lkA (a := zi_i13_0) (c := 20) rfl h)
theorem f13_20 : zi_fe 13 20 = some ((.aload_n 0), 1, 0, 0, 0, 0, 0) := (zl13_1 (Nat.le_of_ble_eq_true rfl)).trans rfl
theorem f13_21 : zi_fe 13 21 = some ((.iconst 0), 1, 0, 0, 0, 0, 0) := (zl13_1 (Nat.le_of_ble_eq_true rfl)).trans rfl
theorem f13_22 : zi_fe 13 22 = some ((.putfield 35), 3, 1, 3, 0, 361, 0) := (zl13_1 (Nat.le_of_ble_eq_true rfl)).trans rfl
theorem f13_25 : zi_fe 13 25 = some ((.aload_n 0), 1, 0, 0, 0, 0, 0) := (zl13_1 (Nat.le_of_ble_eq_true rfl)).trans rfl
theorem f13_26 : zi_fe 13 26 = some ((.iconst 0), 1, 0, 0, 0, 0, 0) := (zl13_1 (Nat.le_of_ble_eq_true rfl)).trans rfl
theorem f13_27 : zi_fe 13 27 = some ((.putfield 38), 3, 1, 4, 0, 363, 0) := (zl13_1 (Nat.le_of_ble_eq_true rfl)).trans rfl
theorem f13_30 : zi_fe 13 30 = some ((.aload_n 0), 1, 0, 0, 0, 0, 0) := (zl13_1 (Nat.le_of_ble_eq_true rfl)).trans rfl
theorem f13_31 : zi_fe 13 31 = some ((.getfield 18), 3, 1, 7, 3, 369, 0) := (zl13_1 (Nat.le_of_ble_eq_true rfl)).trans rfl
theorem f13_34 : zi_fe 13 34 = some ((.bipush (-4)), 2, 0, 0, 0, 0, 0) := (zl13_1 (Nat.le_of_ble_eq_true rfl)).trans rfl
theorem f13_36 : zi_fe 13 36 = some ((.invokestatic 41), 3, 241, 1, 10, 459, 2) := (zl13_1 (Nat.le_of_ble_eq_true rfl)).trans rfl
theorem f13_39 : zi_fe 13 39 = some ((.aload_n 1), 1, 0, 0, 0, 0, 0) := (zl13_1 (Nat.le_of_ble_eq_true rfl)).trans rfl
theorem f13_40 : zi_fe 13 40 = some ((.invokevirtual 47), 3, 29, 0, 3, 460, 1) := (zl13_1 (Nat.le_of_ble_eq_true rfl)).trans rfl
theorem zl13_2 {pc : Nat} (h : 43 ≤ pc) : zi_fe 13 pc = zu13_2.lookup pc := (zl13_1 (Nat.le_trans (Nat.le_of_ble_eq_true rfl) h)).trans (zi_lkA (a := zi_i13_1) (c := 43) rfl h)
theorem f13_43 : zi_fe 13 43 = some ((.aload_n 1), 1, 0, 0, 0, 0, 0) := (zl13_2 (Nat.le_of_ble_eq_true rfl)).trans rfl
theorem f13_44 : zi_fe 13 44 = some ((.invokevirtual 52), 3, 30, 0, 3, 464, 1) := (zl13_2 (Nat.le_of_ble_eq_true rfl)).trans rfl
theorem f13_47 : zi_fe 13 47 = some ((.iconst 0), 1, 0, 0, 0, 0, 0) := (zl13_2 (Nat.le_of_ble_eq_true rfl)).trans rfl
theorem f13_48 : zi_fe 13 48 = some ((.istore_n 2), 1, 0, 0, 0, 0, 0) := (zl13_2 (Nat.le_of_ble_eq_true rfl)).trans rfl
theorem f13_49 : zi_fe 13 49 = some ((.iload_n 2), 1, 0, 0, 0, 0, 0) := (zl13_2 (Nat.le_of_ble_eq_true rfl)).trans rfl
theorem f13_50 : zi_fe 13 50 = some ((.sipush 160), 3, 0, 0, 0, 0, 0) := (zl13_2 (Nat.le_of_ble_eq_true rfl)).trans rfl
theorem f13_53 : zi_fe 13 53 = some ((.if_icmp .ge 40), 3, 0, 0, 0, 0, 0) := (zl13_2 (Nat.le_of_ble_eq_true rfl)).trans rfl
theorem f13_56 : zi_fe 13 56 = some ((.aload_n 1), 1, 0, 0, 0, 0, 0) := (zl13_2 (Nat.le_of_ble_eq_true rfl)).trans rfl
theorem f13_57 : zi_fe 13 57 = some ((.getfield 55), 3, 3, 2, 0, 329, 0) := (zl13_2 (Nat.le_of_ble_eq_true rfl)).trans rfl
theorem f13_60 : zi_fe 13 60 = some ((.iconst 1), 1, 0, 0, 0, 0, 0) := (zl13_2 (Nat.le_of_ble_eq_true rfl)).trans rfl
theorem f13_61 : zi_fe 13 61 = some ((.if_icmp .eq 32), 3, 0, 0, 0, 0, 0) := (zl13_2 (Nat.le_of_ble_eq_true rfl)).trans rfl
theorem f13_64 : zi_fe 13 64 = some ((.aload_n 0), 1, 0, 0, 0, 0, 0) := (zl13_2 (Nat.le_of_ble_eq_true rfl)).trans rfl
theorem zl13_3 {pc : Nat} (h : 65 ≤ pc) : zi_fe 13 pc = zu13_3.lookup pc := (zl13_2 (Nat.le_trans (Nat.le_of_ble_eq_true rfl) h)).trans (zi_lkA (a := zi_i13_2) (c := 65) rfl h)
theorem f13_65 : zi_fe 13 65 = some ((.aload_n 1), 1, 0, 0, 0, 0, 0) := (zl13_3 (Nat.le_of_ble_eq_true rfl)).trans rfl
theorem f13_66 : zi_fe 13 66 = some ((.invokevirtual 58), 3, 14, 0, 1, 482, 2) := (zl13_3 (Nat.le_of_ble_eq_true rfl)).trans rfl
theorem f13_69 : zi_fe 13 69 = some ((.ifCond .ne 4), 3, 0, 0, 0, 0, 0) := (zl13_3 (Nat.le_of_ble_eq_true rfl)).trans rfl
theorem f13_72 : zi_fe 13 72 = some (.return_, 1, 0, 0, 0, 0, 0) := (zl13_3 (Nat.le_of_ble_eq_true rfl)).trans rfl
theorem f13_73 : zi_fe 13 73 = some ((.aload_n 0), 1, 0, 0, 0, 0, 0) := (zl13_3 (Nat.le_of_ble_eq_true rfl)).trans rfl
theorem f13_74 : zi_fe 13 74 = some (.dup, 1, 0, 0, 0, 0, 0) := (zl13_3 (Nat.le_of_ble_eq_true rfl)).trans rfl
theorem f13_75 : zi_fe 13 75 = some ((.getfield 21), 3, 1, 0, 0, 355, 0) := (zl13_3 (Nat.le_of_ble_eq_true rfl)).trans rfl
theorem f13_78 : zi_fe 13 78 = some ((.iconst 1), 1, 0, 0, 0, 0, 0) := (zl13_3 (Nat.le_of_ble_eq_true rfl)).trans rfl
theorem f13_79 : zi_fe 13 79 = some (.iadd, 1, 0, 0, 0, 0, 0) := (zl13_3 (Nat.le_of_ble_eq_true rfl)).trans rfl
theorem f13_80 : zi_fe 13 80 = some ((.putfield 21), 3, 1, 0, 0, 355, 0) := (zl13_3 (Nat.le_of_ble_eq_true rfl)).trans rfl
theorem f13_83 : zi_fe 13 83 = some ((.aload_n 1), 1, 0, 0, 0, 0, 0) := (zl13_3 (Nat.le_of_ble_eq_true rfl)).trans rfl
theorem f13_84 : zi_fe 13 84 = some ((.invokevirtual 52), 3, 30, 0, 3, 464, 1) := (zl13_3 (Nat.le_of_ble_eq_true rfl)).trans rfl
theorem zl13_4 {pc : Nat} (h : 87 ≤ pc) : zi_fe 13 pc = zu13_4.lookup pc := (zl13_3 (Nat.le_trans (Nat.le_of_ble_eq_true rfl) h)).trans (zi_lkA (a := zi_i13_3) (c := 87) rfl h)
theorem f13_87 : zi_fe 13 87 = some ((.iinc 2 1), 3, 0, 0, 0, 0, 0) := (zl13_4 (Nat.le_of_ble_eq_true rfl)).trans rfl
theorem f13_90 : zi_fe 13 90 = some ((.goto (-41)), 3, 0, 0, 0, 0, 0) := (zl13_4 (Nat.le_of_ble_eq_true rfl)).trans rfl
theorem f13_93 : zi_fe 13 93 = some (.return_, 1, 0, 0, 0, 0, 0) := (zl13_4 (Nat.le_of_ble_eq_true rfl)).trans rfl
theorem b13_0 {h : zi_Hp} {a0 : Nat} {a1 : Nat} {u2 : Value} (g0 : a0 < zh_n h) (g1 : (zh_k h a0).1 = 1) (g2 : zh_r h a0 7 = .ref (zq (zh_r h a0 7))) : zv 7 13 0 [.ref a0, .ref a1, u2] [] h = (zv 1 241 0 [.ref (zq (zh_r h a0 7)), .int (-4), .double 0, .double 0] [] (zh_wi (zh_wi (zh_wi (zh_wb (zh_wi (zh_wi h a0 0 0) a0 1 3) a0 8 false) a0 2 0) a0 3 0) a0 4 0)).bind fun r => zv 7 13 39 [.ref a0, .ref a1, u2] (r.1.toList ++ []) r.2 := by
  refine Eq.trans (zv_next f13_0 rfl) ?_
  refine Eq.trans (zs_ic f13_1 ic_0) ?_
  refine Eq.trans (zs_put f13_2 g0 g1 rfl) ?_
  refine Eq.trans (zv_next f13_5 rfl) ?_
  refine Eq.trans (zs_ic f13_6 ic_3) ?_
  refine Eq.trans (zs_put f13_7 g0 g1 rfl) ?_
  refine Eq.trans (zv_next f13_10 rfl) ?_
  refine Eq.trans (zs_ic f13_11 ic_0) ?_
  refine Eq.trans (zs_put f13_12 g0 g1 rfl) ?_
  refine Eq.trans (zv_next f13_15 rfl) ?_
  refine Eq.trans (zs_ic f13_16 ic_0) ?_
  refine Eq.trans (zs_put f13_17 (zo_nb (zo_ni (zo_ni g0))) (zo_kb (zo_ki (zo_ki g1))) rfl) ?_
  refine Eq.trans (zv_next f13_20 rfl) ?_
  refine Eq.trans (zs_ic f13_21 ic_0) ?_
  refine Eq.trans (zs_put f13_22 (zo_ni (zo_nb (zo_ni (zo_ni g0)))) (zo_ki (zo_kb (zo_ki (zo_ki g1)))) rfl) ?_
  refine Eq.trans (zv_next f13_25 rfl) ?_
  refine Eq.trans (zs_ic f13_26 ic_0) ?_
  refine Eq.trans (zs_put f13_27 (zo_ni (zo_ni (zo_nb (zo_ni (zo_ni g0))))) (zo_ki (zo_ki (zo_kb (zo_ki (zo_ki g1))))) rfl) ?_
  refine Eq.trans (zv_next f13_30 rfl) ?_
  refine Eq.trans (zs_getr f13_31 g0 g1 g2) ?_
  refine Eq.trans (zs_bp f13_34 bp_m4) ?_
  exact zs_callS f13_36 (by decide) (Nat.le_of_ble_eq_true rfl) (Nat.le_of_ble_eq_true rfl) rfl me_241 (by decide) rfl
theorem b13_39 {h : zi_Hp} {a0 : Nat} {a1 : Nat} {u2 : Value} (g0 : a1 < zh_n h) (g1 : (zh_k h a1).1 = 3) : zv 7 13 39 [.ref a0, .ref a1, u2] [] h = (zv 1 29 0 [.ref a1] [] h).bind fun r => zv 7 13 43 [.ref a0, .ref a1, u2] (r.1.toList ++ []) r.2 := by
  refine Eq.trans (zv_next f13_39 rfl) ?_
  exact zs_callV f13_40 (Nat.le_of_ble_eq_true rfl) (Nat.le_of_ble_eq_true rfl) rfl g0 g1 me_29 (by decide) rfl
theorem b13_43 {h : zi_Hp} {a0 : Nat} {a1 : Nat} {u2 : Value} (g0 : a1 < zh_n h) (g1 : (zh_k h a1).1 = 3) : zv 7 13 43 [.ref a0, .ref a1, u2] [] h = (zv 3 30 0 [.ref a1, .double 0] [] h).bind fun r => zv 7 13 47 [.ref a0, .ref a1, u2] (r.1.toList ++ []) r.2 := by
  refine Eq.trans (zv_next f13_43 rfl) ?_
  exact zs_callV f13_44 (Nat.le_of_ble_eq_true rfl) (Nat.le_of_ble_eq_true rfl) rfl g0 g1 me_30 (by decide) rfl
theorem b13_47 {h : zi_Hp} {a0 : Nat} {a1 : Nat} {u2 : Value}  : zv 7 13 47 [.ref a0, .ref a1, u2] [] h = zv 7 13 49 [.ref a0, .ref a1, .int 0] [] h := by
  refine Eq.trans (zs_ic f13_47 ic_0) ?_
  refine Eq.trans (zv_next f13_48 rfl) ?_
  rfl
theorem b13_49 {h : zi_Hp} {a0 : Nat} {a1 : Nat} {x2 : Int32}  : zv 7 13 49 [.ref a0, .ref a1, .int x2] [] h = if x2 < 160 then zv 7 13 56 [.ref a0, .ref a1, .int x2] [] h else zv 7 13 93 [.ref a0, .ref a1, .int x2] [] h := by
  refine Eq.trans (zv_next f13_49 rfl) ?_
  refine Eq.trans (zs_sp f13_50 sp_160) ?_
  exact zs_icmp f13_53 rfl
theorem b13_56 {h : zi_Hp} {a0 : Nat} {a1 : Nat} {x2 : Int32} (g0 : a1 < zh_n h) (g1 : (zh_k h a1).1 = 3) : zv 7 13 56 [.ref a0, .ref a1, .int x2] [] h = if (zh_i h a1 2) = 1 then zv 7 13 93 [.ref a0, .ref a1, .int x2] [] h else zv 7 13 64 [.ref a0, .ref a1, .int x2] [] h := by
  refine Eq.trans (zv_next f13_56 rfl) ?_
  refine Eq.trans (zs_geti f13_57 g0 g1) ?_
  refine Eq.trans (zs_ic f13_60 ic_1) ?_
  exact zs_icmp f13_61 rfl
theorem b13_64 {h : zi_Hp} {a0 : Nat} {a1 : Nat} {x2 : Int32} (g0 : a0 < zh_n h) (g1 : (zh_k h a0).1 = 1) : zv 7 13 64 [.ref a0, .ref a1, .int x2] [] h = (zv 6 14 0 [.ref a0, .ref a1] [] h).bind fun r => zv 7 13 69 [.ref a0, .ref a1, .int x2] (r.1.toList ++ []) r.2 := by
  refine Eq.trans (zv_next f13_64 rfl) ?_
  refine Eq.trans (zv_next f13_65 rfl) ?_
  exact zs_callV f13_66 (Nat.le_of_ble_eq_true rfl) (Nat.le_of_ble_eq_true rfl) rfl g0 g1 me_14 (by decide) rfl
theorem b13_69 {h : zi_Hp} {a0 : Nat} {a1 : Nat} {x2 : Int32} {s0 : Int32}  : zv 7 13 69 [.ref a0, .ref a1, .int x2] [.int s0] h = if s0 = 0 then zv 7 13 72 [.ref a0, .ref a1, .int x2] [] h else zv 7 13 73 [.ref a0, .ref a1, .int x2] [] h := by
  exact zs_if f13_69 rfl
theorem b13_72 {h : zi_Hp} {a0 : Nat} {a1 : Nat} {x2 : Int32}  : zv 7 13 72 [.ref a0, .ref a1, .int x2] [] h = some (none, h) := by
  exact zv_ret f13_72 rfl
theorem b13_73 {h : zi_Hp} {a0 : Nat} {a1 : Nat} {x2 : Int32} (g0 : a0 < zh_n h) (g1 : (zh_k h a0).1 = 1) (g2 : a1 < zh_n h) (g3 : (zh_k h a1).1 = 3) : zv 7 13 73 [.ref a0, .ref a1, .int x2] [] h = (zv 3 30 0 [.ref a1, .double 0] [] (zh_wi h a0 0 ((zh_i h a0 0) + 1))).bind fun r => zv 7 13 87 [.ref a0, .ref a1, .int x2] (r.1.toList ++ []) r.2 := by
  refine Eq.trans (zv_next f13_73 rfl) ?_
  refine Eq.trans (zv_next f13_74 rfl) ?_
  refine Eq.trans (zs_geti f13_75 g0 g1) ?_
  refine Eq.trans (zs_ic f13_78 ic_1) ?_
  refine Eq.trans (zv_next f13_79 rfl) ?_
  refine Eq.trans (zs_put f13_80 g0 g1 rfl) ?_
  refine Eq.trans (zv_next f13_83 rfl) ?_
  exact zs_callV f13_84 (Nat.le_of_ble_eq_true rfl) (Nat.le_of_ble_eq_true rfl) rfl g2 g3 me_30 (by decide) rfl
theorem b13_87 {h : zi_Hp} {a0 : Nat} {a1 : Nat} {x2 : Int32}  : zv 7 13 87 [.ref a0, .ref a1, .int x2] [] h = zv 7 13 49 [.ref a0, .ref a1, .int (x2 + 1)] [] h := by
  refine Eq.trans (zs_inc f13_87 rfl ic_1 rfl) ?_
  refine Eq.trans (zs_goto (tgt := 49) f13_90 rfl) ?_
  rfl
theorem b13_93 {h : zi_Hp} {a0 : Nat} {a1 : Nat} {x2 : Int32}  : zv 7 13 93 [.ref a0, .ref a1, .int x2] [] h = some (none, h) := by
  exact zv_ret f13_93 rfl
set_option maxRecDepth 20000 in
theorem zq14 : zi_M[14]? = some zi_m14 := rfl
theorem zl14_0 {pc : Nat} (_ : 0 ≤ pc) : zi_fe 14 pc = zu14_0.lookup pc := zi_feA zq14 pc
theorem f14_0 : zi_fe 14 0 = some ((.aload_n 1), 1, 0, 0, 0, 0, 0) := (zl14_0 (Nat.le_of_ble_eq_true rfl)).trans rfl
theorem f14_1 : zi_fe 14 1 = some ((.ldc 62), 2, 1, 0, 0, 486, 0) := (zl14_0 (Nat.le_of_ble_eq_true rfl)).trans rfl
theorem f14_3 : zi_fe 14 3 = some ((.invokevirtual 64), 3, 32, 0, 3, 487, 2) := (zl14_0 (Nat.le_of_ble_eq_true rfl)).trans rfl
theorem f14_6 : zi_fe 14 6 = some ((.ifCond .eq 9), 3, 0, 0, 0, 0, 0) := (zl14_0 (Nat.le_of_ble_eq_true rfl)).trans rfl
theorem f14_9 : zi_fe 14 9 = some ((.aload_n 0), 1, 0, 0, 0, 0, 0) := (zl14_0 (Nat.le_of_ble_eq_true rfl)).trans rfl
theorem f14_10 : zi_fe 14 10 = some ((.aload_n 1), 1, 0, 0, 0, 0, 0) := (zl14_0 (Nat.le_of_ble_eq_true rfl)).trans rfl
theorem f14_11 : zi_fe 14 11 = some ((.invokevirtual 68), 3, 15, 0, 1, 539, 2) := (zl14_0 (Nat.le_of_ble_eq_true rfl)).trans rfl
theorem f14_14 : zi_fe 14 14 = some (.ireturn, 1, 1, 0, 0, 0, 0) := (zl14_0 (Nat.le_of_ble_eq_true rfl)).trans rfl
theorem f14_15 : zi_fe 14 15 = some ((.aload_n 1), 1, 0, 0, 0, 0, 0) := (zl14_0 (Nat.le_of_ble_eq_true rfl)).trans rfl
theorem f14_16 : zi_fe 14 16 = some ((.ldc 71), 2, 2, 0, 0, 559, 0) := (zl14_0 (Nat.le_of_ble_eq_true rfl)).trans rfl
theorem f14_18 : zi_fe 14 18 = some ((.invokevirtual 64), 3, 32, 0, 3, 487, 2) := (zl14_0 (Nat.le_of_ble_eq_true rfl)).trans rfl
theorem f14_21 : zi_fe 14 21 = some ((.ifCond .eq 10), 3, 0, 0, 0, 0, 0) := (zl14_0 (Nat.le_of_ble_eq_true rfl)).trans rfl
theorem zl14_1 {pc : Nat} (h : 24 ≤ pc) : zi_fe 14 pc = zu14_1.lookup pc := (zl14_0 (Nat.le_trans (Nat.le_of_ble_eq_true rfl) h)).trans (zi_lkA (a := zi_i14_0) (c := 24) rfl h)
theorem f14_24 : zi_fe 14 24 = some ((.aload_n 0), 1, 0, 0, 0, 0, 0) := (zl14_1 (Nat.le_of_ble_eq_true rfl)).trans rfl
theorem f14_25 : zi_fe 14 25 = some ((.aload_n 1), 1, 0, 0, 0, 0, 0) := (zl14_1 (Nat.le_of_ble_eq_true rfl)).trans rfl
theorem f14_26 : zi_fe 14 26 = some ((.iconst 1), 1, 0, 0, 0, 0, 0) := (zl14_1 (Nat.le_of_ble_eq_true rfl)).trans rfl
theorem f14_27 : zi_fe 14 27 = some ((.invokevirtual 73), 3, 16, 0, 1, 560, 3) := (zl14_1 (Nat.le_of_ble_eq_true rfl)).trans rfl
theorem f14_30 : zi_fe 14 30 = some (.ireturn, 1, 1, 0, 0, 0, 0) := (zl14_1 (Nat.le_of_ble_eq_true rfl)).trans rfl
theorem f14_31 : zi_fe 14 31 = some ((.aload_n 1), 1, 0, 0, 0, 0, 0) := (zl14_1 (Nat.le_of_ble_eq_true rfl)).trans rfl
theorem f14_32 : zi_fe 14 32 = some ((.ldc 77), 2, 3, 0, 0, 564, 0) := (zl14_1 (Nat.le_of_ble_eq_true rfl)).trans rfl
theorem f14_34 : zi_fe 14 34 = some ((.invokevirtual 64), 3, 32, 0, 3, 487, 2) := (zl14_1 (Nat.le_of_ble_eq_true rfl)).trans rfl
theorem f14_37 : zi_fe 14 37 = some ((.ifCond .eq 10), 3, 0, 0, 0, 0, 0) := (zl14_1 (Nat.le_of_ble_eq_true rfl)).trans rfl
theorem f14_40 : zi_fe 14 40 = some ((.aload_n 0), 1, 0, 0, 0, 0, 0) := (zl14_1 (Nat.le_of_ble_eq_true rfl)).trans rfl
theorem f14_41 : zi_fe 14 41 = some ((.aload_n 1), 1, 0, 0, 0, 0, 0) := (zl14_1 (Nat.le_of_ble_eq_true rfl)).trans rfl
theorem f14_42 : zi_fe 14 42 = some ((.iconst 2), 1, 0, 0, 0, 0, 0) := (zl14_1 (Nat.le_of_ble_eq_true rfl)).trans rfl
theorem zl14_2 {pc : Nat} (h : 43 ≤ pc) : zi_fe 14 pc = zu14_2.lookup pc := (zl14_1 (Nat.le_trans (Nat.le_of_ble_eq_true rfl) h)).trans (zi_lkA (a := zi_i14_1) (c := 43) rfl h)
theorem f14_43 : zi_fe 14 43 = some ((.invokevirtual 73), 3, 16, 0, 1, 560, 3) := (zl14_2 (Nat.le_of_ble_eq_true rfl)).trans rfl
theorem f14_46 : zi_fe 14 46 = some (.ireturn, 1, 1, 0, 0, 0, 0) := (zl14_2 (Nat.le_of_ble_eq_true rfl)).trans rfl
theorem f14_47 : zi_fe 14 47 = some ((.aload_n 1), 1, 0, 0, 0, 0, 0) := (zl14_2 (Nat.le_of_ble_eq_true rfl)).trans rfl
theorem f14_48 : zi_fe 14 48 = some ((.ldc 79), 2, 4, 0, 0, 565, 0) := (zl14_2 (Nat.le_of_ble_eq_true rfl)).trans rfl
theorem f14_50 : zi_fe 14 50 = some ((.invokevirtual 64), 3, 32, 0, 3, 487, 2) := (zl14_2 (Nat.le_of_ble_eq_true rfl)).trans rfl
theorem f14_53 : zi_fe 14 53 = some ((.ifCond .eq 9), 3, 0, 0, 0, 0, 0) := (zl14_2 (Nat.le_of_ble_eq_true rfl)).trans rfl
theorem f14_56 : zi_fe 14 56 = some ((.aload_n 0), 1, 0, 0, 0, 0, 0) := (zl14_2 (Nat.le_of_ble_eq_true rfl)).trans rfl
theorem f14_57 : zi_fe 14 57 = some ((.aload_n 1), 1, 0, 0, 0, 0, 0) := (zl14_2 (Nat.le_of_ble_eq_true rfl)).trans rfl
theorem f14_58 : zi_fe 14 58 = some ((.invokevirtual 81), 3, 17, 0, 1, 566, 2) := (zl14_2 (Nat.le_of_ble_eq_true rfl)).trans rfl
theorem f14_61 : zi_fe 14 61 = some (.ireturn, 1, 1, 0, 0, 0, 0) := (zl14_2 (Nat.le_of_ble_eq_true rfl)).trans rfl
theorem f14_62 : zi_fe 14 62 = some ((.aload_n 0), 1, 0, 0, 0, 0, 0) := (zl14_2 (Nat.le_of_ble_eq_true rfl)).trans rfl
theorem f14_63 : zi_fe 14 63 = some ((.aload_n 1), 1, 0, 0, 0, 0, 0) := (zl14_2 (Nat.le_of_ble_eq_true rfl)).trans rfl
theorem zl14_3 {pc : Nat} (h : 64 ≤ pc) : zi_fe 14 pc = zu14_3.lookup pc := (zl14_2 (Nat.le_trans (Nat.le_of_ble_eq_true rfl) h)).trans (zi_lkA (a := zi_i14_2) (c := 64) rfl h)
theorem f14_64 : zi_fe 14 64 = some ((.aload_n 1), 1, 0, 0, 0, 0, 0) := (zl14_3 (Nat.le_of_ble_eq_true rfl)).trans rfl
theorem f14_65 : zi_fe 14 65 = some ((.getfield 55), 3, 3, 2, 0, 329, 0) := (zl14_3 (Nat.le_of_ble_eq_true rfl)).trans rfl
theorem f14_68 : zi_fe 14 68 = some ((.ifCond .ne 7), 3, 0, 0, 0, 0, 0) := (zl14_3 (Nat.le_of_ble_eq_true rfl)).trans rfl
theorem f14_71 : zi_fe 14 71 = some ((.iconst 1), 1, 0, 0, 0, 0, 0) := (zl14_3 (Nat.le_of_ble_eq_true rfl)).trans rfl
theorem f14_72 : zi_fe 14 72 = some ((.goto 4), 3, 0, 0, 0, 0, 0) := (zl14_3 (Nat.le_of_ble_eq_true rfl)).trans rfl
theorem f14_75 : zi_fe 14 75 = some ((.iconst 2), 1, 0, 0, 0, 0, 0) := (zl14_3 (Nat.le_of_ble_eq_true rfl)).trans rfl
theorem f14_76 : zi_fe 14 76 = some ((.invokevirtual 84), 3, 21, 0, 1, 543, 3) := (zl14_3 (Nat.le_of_ble_eq_true rfl)).trans rfl
theorem f14_79 : zi_fe 14 79 = some (.ireturn, 1, 1, 0, 0, 0, 0) := (zl14_3 (Nat.le_of_ble_eq_true rfl)).trans rfl
theorem b14_0 {h : zi_Hp} {a0 : Nat} {a1 : Nat} (g0 : a1 < zh_n h) (g1 : (zh_k h a1).1 = 3) : zv 6 14 0 [.ref a0, .ref a1] [] h = (zv 2 32 0 [.ref a1, .retAddr 1, .double 0] [] h).bind fun r => zv 6 14 6 [.ref a0, .ref a1] (r.1.toList ++ []) r.2 := by
  refine Eq.trans (zv_next f14_0 rfl) ?_
  refine Eq.trans (zv_next f14_1 rfl) ?_
  exact zs_callV f14_3 (Nat.le_of_ble_eq_true rfl) (Nat.le_of_ble_eq_true rfl) rfl g0 g1 me_32 (by decide) rfl
theorem b14_6 {h : zi_Hp} {a0 : Nat} {a1 : Nat} {s0 : Int32}  : zv 6 14 6 [.ref a0, .ref a1] [.int s0] h = if s0 = 0 then zv 6 14 15 [.ref a0, .ref a1] [] h else zv 6 14 9 [.ref a0, .ref a1] [] h := by
  exact zs_if f14_6 rfl
theorem b14_9 {h : zi_Hp} {a0 : Nat} {a1 : Nat} (g0 : a0 < zh_n h) (g1 : (zh_k h a0).1 = 1) : zv 6 14 9 [.ref a0, .ref a1] [] h = (zv 5 15 0 [.ref a0, .ref a1] [] h).bind fun r => zv 6 14 14 [.ref a0, .ref a1] (r.1.toList ++ []) r.2 := by
  refine Eq.trans (zv_next f14_9 rfl) ?_
  refine Eq.trans (zv_next f14_10 rfl) ?_
  exact zs_callV f14_11 (Nat.le_of_ble_eq_true rfl) (Nat.le_of_ble_eq_true rfl) rfl g0 g1 me_15 (by decide) rfl
theorem b14_14 {h : zi_Hp} {a0 : Nat} {a1 : Nat} {s0 : Int32} (g0 : s0 = 0 ∨ s0 = 1) : zv 6 14 14 [.ref a0, .ref a1] [.int s0] h = some (some (.int s0), h) := by
  exact zs_ret1 f14_14 g0
theorem b14_15 {h : zi_Hp} {a0 : Nat} {a1 : Nat} (g0 : a1 < zh_n h) (g1 : (zh_k h a1).1 = 3) : zv 6 14 15 [.ref a0, .ref a1] [] h = (zv 2 32 0 [.ref a1, .retAddr 2, .double 0] [] h).bind fun r => zv 6 14 21 [.ref a0, .ref a1] (r.1.toList ++ []) r.2 := by
  refine Eq.trans (zv_next f14_15 rfl) ?_
  refine Eq.trans (zv_next f14_16 rfl) ?_
  exact zs_callV f14_18 (Nat.le_of_ble_eq_true rfl) (Nat.le_of_ble_eq_true rfl) rfl g0 g1 me_32 (by decide) rfl
theorem b14_21 {h : zi_Hp} {a0 : Nat} {a1 : Nat} {s0 : Int32}  : zv 6 14 21 [.ref a0, .ref a1] [.int s0] h = if s0 = 0 then zv 6 14 31 [.ref a0, .ref a1] [] h else zv 6 14 24 [.ref a0, .ref a1] [] h := by
  exact zs_if f14_21 rfl
theorem b14_24 {h : zi_Hp} {a0 : Nat} {a1 : Nat} (g0 : a0 < zh_n h) (g1 : (zh_k h a0).1 = 1) : zv 6 14 24 [.ref a0, .ref a1] [] h = (zv 4 16 0 [.ref a0, .ref a1, .int 1, .double 0] [] h).bind fun r => zv 6 14 30 [.ref a0, .ref a1] (r.1.toList ++ []) r.2 := by
  refine Eq.trans (zv_next f14_24 rfl) ?_
  refine Eq.trans (zv_next f14_25 rfl) ?_
  refine Eq.trans (zs_ic f14_26 ic_1) ?_
  exact zs_callV f14_27 (Nat.le_of_ble_eq_true rfl) (Nat.le_of_ble_eq_true rfl) rfl g0 g1 me_16 (by decide) rfl
theorem b14_30 {h : zi_Hp} {a0 : Nat} {a1 : Nat} {s0 : Int32} (g0 : s0 = 0 ∨ s0 = 1) : zv 6 14 30 [.ref a0, .ref a1] [.int s0] h = some (some (.int s0), h) := by
  exact zs_ret1 f14_30 g0
theorem b14_31 {h : zi_Hp} {a0 : Nat} {a1 : Nat} (g0 : a1 < zh_n h) (g1 : (zh_k h a1).1 = 3) : zv 6 14 31 [.ref a0, .ref a1] [] h = (zv 2 32 0 [.ref a1, .retAddr 3, .double 0] [] h).bind fun r => zv 6 14 37 [.ref a0, .ref a1] (r.1.toList ++ []) r.2 := by
  refine Eq.trans (zv_next f14_31 rfl) ?_
  refine Eq.trans (zv_next f14_32 rfl) ?_
  exact zs_callV f14_34 (Nat.le_of_ble_eq_true rfl) (Nat.le_of_ble_eq_true rfl) rfl g0 g1 me_32 (by decide) rfl
theorem b14_37 {h : zi_Hp} {a0 : Nat} {a1 : Nat} {s0 : Int32}  : zv 6 14 37 [.ref a0, .ref a1] [.int s0] h = if s0 = 0 then zv 6 14 47 [.ref a0, .ref a1] [] h else zv 6 14 40 [.ref a0, .ref a1] [] h := by
  exact zs_if f14_37 rfl
theorem b14_40 {h : zi_Hp} {a0 : Nat} {a1 : Nat} (g0 : a0 < zh_n h) (g1 : (zh_k h a0).1 = 1) : zv 6 14 40 [.ref a0, .ref a1] [] h = (zv 4 16 0 [.ref a0, .ref a1, .int 2, .double 0] [] h).bind fun r => zv 6 14 46 [.ref a0, .ref a1] (r.1.toList ++ []) r.2 := by
  refine Eq.trans (zv_next f14_40 rfl) ?_
  refine Eq.trans (zv_next f14_41 rfl) ?_
  refine Eq.trans (zs_ic f14_42 ic_2) ?_
  exact zs_callV f14_43 (Nat.le_of_ble_eq_true rfl) (Nat.le_of_ble_eq_true rfl) rfl g0 g1 me_16 (by decide) rfl
theorem b14_46 {h : zi_Hp} {a0 : Nat} {a1 : Nat} {s0 : Int32} (g0 : s0 = 0 ∨ s0 = 1) : zv 6 14 46 [.ref a0, .ref a1] [.int s0] h = some (some (.int s0), h) := by
  exact zs_ret1 f14_46 g0
theorem b14_47 {h : zi_Hp} {a0 : Nat} {a1 : Nat} (g0 : a1 < zh_n h) (g1 : (zh_k h a1).1 = 3) : zv 6 14 47 [.ref a0, .ref a1] [] h = (zv 2 32 0 [.ref a1, .retAddr 4, .double 0] [] h).bind fun r => zv 6 14 53 [.ref a0, .ref a1] (r.1.toList ++ []) r.2 := by
  refine Eq.trans (zv_next f14_47 rfl) ?_
  refine Eq.trans (zv_next f14_48 rfl) ?_
  exact zs_callV f14_50 (Nat.le_of_ble_eq_true rfl) (Nat.le_of_ble_eq_true rfl) rfl g0 g1 me_32 (by decide) rfl
theorem b14_53 {h : zi_Hp} {a0 : Nat} {a1 : Nat} {s0 : Int32}  : zv 6 14 53 [.ref a0, .ref a1] [.int s0] h = if s0 = 0 then zv 6 14 62 [.ref a0, .ref a1] [] h else zv 6 14 56 [.ref a0, .ref a1] [] h := by
  exact zs_if f14_53 rfl
theorem b14_56 {h : zi_Hp} {a0 : Nat} {a1 : Nat} (g0 : a0 < zh_n h) (g1 : (zh_k h a0).1 = 1) : zv 6 14 56 [.ref a0, .ref a1] [] h = (zv 5 17 0 [.ref a0, .ref a1, .double 0] [] h).bind fun r => zv 6 14 61 [.ref a0, .ref a1] (r.1.toList ++ []) r.2 := by
  refine Eq.trans (zv_next f14_56 rfl) ?_
  refine Eq.trans (zv_next f14_57 rfl) ?_
  exact zs_callV f14_58 (Nat.le_of_ble_eq_true rfl) (Nat.le_of_ble_eq_true rfl) rfl g0 g1 me_17 (by decide) rfl
theorem b14_61 {h : zi_Hp} {a0 : Nat} {a1 : Nat} {s0 : Int32} (g0 : s0 = 0 ∨ s0 = 1) : zv 6 14 61 [.ref a0, .ref a1] [.int s0] h = some (some (.int s0), h) := by
  exact zs_ret1 f14_61 g0
theorem b14_62 {h : zi_Hp} {a0 : Nat} {a1 : Nat} (g0 : a1 < zh_n h) (g1 : (zh_k h a1).1 = 3) : zv 6 14 62 [.ref a0, .ref a1] [] h = if (zh_i h a1 2) = 0 then zv 6 14 71 [.ref a0, .ref a1] [.ref a1, .ref a0] h else zv 6 14 75 [.ref a0, .ref a1] [.ref a1, .ref a0] h := by
  refine Eq.trans (zv_next f14_62 rfl) ?_
  refine Eq.trans (zv_next f14_63 rfl) ?_
  refine Eq.trans (zv_next f14_64 rfl) ?_
  refine Eq.trans (zs_geti f14_65 g0 g1) ?_
  exact zs_if f14_68 rfl
theorem b14_71 {h : zi_Hp} {a0 : Nat} {a1 : Nat} {t0 : Nat} {t1 : Nat}  : zv 6 14 71 [.ref a0, .ref a1] [.ref t1, .ref t0] h = zv 6 14 76 [.ref a0, .ref a1] [.int 1, .ref t1, .ref t0] h := by
  refine Eq.trans (zs_ic f14_71 ic_1) ?_
  refine Eq.trans (zs_goto (tgt := 76) f14_72 rfl) ?_
  rfl
theorem b14_75 {h : zi_Hp} {a0 : Nat} {a1 : Nat} {t0 : Nat} {t1 : Nat}  : zv 6 14 75 [.ref a0, .ref a1] [.ref t1, .ref t0] h = zv 6 14 76 [.ref a0, .ref a1] [.int 2, .ref t1, .ref t0] h := by
  refine Eq.trans (zs_ic f14_75 ic_2) ?_
  rfl
theorem b14_76 {h : zi_Hp} {a0 : Nat} {a1 : Nat} {t0 : Nat} {t1 : Nat} {s2 : Int32} (g0 : t0 < zh_n h) (g1 : (zh_k h t0).1 = 1) : zv 6 14 76 [.ref a0, .ref a1] [.int s2, .ref t1, .ref t0] h = (zv 1 21 0 [.ref t0, .ref t1, .int s2] [] h).bind fun r => zv 6 14 79 [.ref a0, .ref a1] (r.1.toList ++ []) r.2 := by
  exact zs_callV f14_76 (Nat.le_of_ble_eq_true rfl) (Nat.le_of_ble_eq_true rfl) rfl g0 g1 me_21 (by decide) rfl
theorem b14_79 {h : zi_Hp} {a0 : Nat} {a1 : Nat} {s0 : Int32} (g0 : s0 = 0 ∨ s0 = 1) : zv 6 14 79 [.ref a0, .ref a1] [.int s0] h = some (some (.int s0), h) := by
  exact zs_ret1 f14_79 g0
set_option maxRecDepth 20000 in
theorem zq15 : zi_M[15]? = some zi_m15 := rfl
theorem zl15_0 {pc : Nat} (_ : 0 ≤ pc) : zi_fe 15 pc = zu15_0.lookup pc := zi_feA zq15 pc
theorem f15_0 : zi_fe 15 0 = some ((.aload_n 0), 1, 0, 0, 0, 0, 0) := (zl15_0 (Nat.le_of_ble_eq_true rfl)).trans rfl
theorem f15_1 : zi_fe 15 1 = some ((.getfield 28), 3, 1, 8, 1, 371, 0) := (zl15_0 (Nat.le_of_ble_eq_true rfl)).trans rfl
theorem f15_4 : zi_fe 15 4 = some ((.ifCond .eq 10), 3, 0, 0, 0, 0, 0) := (zl15_0 (Nat.le_of_ble_eq_true rfl)).trans rfl
theorem f15_7 : zi_fe 15 7 = some ((.aload_n 0), 1, 0, 0, 0, 0, 0) := (zl15_0 (Nat.le_of_ble_eq_true rfl)).trans rfl
theorem f15_8 : zi_fe 15 8 = some ((.aload_n 1), 1, 0, 0, 0, 0, 0) := (zl15_0 (Nat.le_of_ble_eq_true rfl)).trans rfl
theorem f15_9 : zi_fe 15 9 = some ((.iconst 4), 1, 0, 0, 0, 0, 0) := (zl15_0 (Nat.le_of_ble_eq_true rfl)).trans rfl
theorem f15_10 : zi_fe 15 10 = some ((.invokevirtual 84), 3, 21, 0, 1, 543, 3) := (zl15_0 (Nat.le_of_ble_eq_true rfl)).trans rfl
theorem f15_13 : zi_fe 15 13 = some (.ireturn, 1, 1, 0, 0, 0, 0) := (zl15_0 (Nat.le_of_ble_eq_true rfl)).trans rfl
theorem f15_14 : zi_fe 15 14 = some ((.aload_n 0), 1, 0, 0, 0, 0, 0) := (zl15_0 (Nat.le_of_ble_eq_true rfl)).trans rfl
theorem f15_15 : zi_fe 15 15 = some ((.aload_n 1), 1, 0, 0, 0, 0, 0) := (zl15_0 (Nat.le_of_ble_eq_true rfl)).trans rfl
theorem f15_16 : zi_fe 15 16 = some ((.iconst 2), 1, 0, 0, 0, 0, 0) := (zl15_0 (Nat.le_of_ble_eq_true rfl)).trans rfl
theorem f15_17 : zi_fe 15 17 = some ((.iconst 4), 1, 0, 0, 0, 0, 0) := (zl15_0 (Nat.le_of_ble_eq_true rfl)).trans rfl
theorem zl15_1 {pc : Nat} (h : 18 ≤ pc) : zi_fe 15 pc = zu15_1.lookup pc := (zl15_0 (Nat.le_trans (Nat.le_of_ble_eq_true rfl) h)).trans (zi_lkA (a := zi_i15_0) (c := 18) rfl h)
theorem f15_18 : zi_fe 15 18 = some ((.invokevirtual 87), 3, 18, 0, 1, 547, 4) := (zl15_1 (Nat.le_of_ble_eq_true rfl)).trans rfl
theorem f15_21 : zi_fe 15 21 = some ((.ifCond .ne 5), 3, 0, 0, 0, 0, 0) := (zl15_1 (Nat.le_of_ble_eq_true rfl)).trans rfl
theorem f15_24 : zi_fe 15 24 = some ((.iconst 0), 1, 0, 0, 0, 0, 0) := (zl15_1 (Nat.le_of_ble_eq_true rfl)).trans rfl
theorem f15_25 : zi_fe 15 25 = some (.ireturn, 1, 1, 0, 0, 0, 0) := (zl15_1 (Nat.le_of_ble_eq_true rfl)).trans rfl
theorem f15_26 : zi_fe 15 26 = some ((.aload_n 0), 1, 0, 0, 0, 0, 0) := (zl15_1 (Nat.le_of_ble_eq_true rfl)).trans rfl
theorem f15_27 : zi_fe 15 27 = some ((.iconst 1), 1, 0, 0, 0, 0, 0) := (zl15_1 (Nat.le_of_ble_eq_true rfl)).trans rfl
theorem f15_28 : zi_fe 15 28 = some ((.putfield 28), 3, 1, 8, 1, 371, 0) := (zl15_1 (Nat.le_of_ble_eq_true rfl)).trans rfl
theorem f15_31 : zi_fe 15 31 = some ((.aload_n 0), 1, 0, 0, 0, 0, 0) := (zl15_1 (Nat.le_of_ble_eq_true rfl)).trans rfl
theorem f15_32 : zi_fe 15 32 = some ((.aload_n 1), 1, 0, 0, 0, 0, 0) := (zl15_1 (Nat.le_of_ble_eq_true rfl)).trans rfl
theorem f15_33 : zi_fe 15 33 = some ((.getfield 91), 3, 3, 4, 0, 333, 0) := (zl15_1 (Nat.le_of_ble_eq_true rfl)).trans rfl
theorem f15_36 : zi_fe 15 36 = some ((.putfield 25), 3, 1, 1, 0, 357, 0) := (zl15_1 (Nat.le_of_ble_eq_true rfl)).trans rfl
theorem f15_39 : zi_fe 15 39 = some ((.aload_n 0), 1, 0, 0, 0, 0, 0) := (zl15_1 (Nat.le_of_ble_eq_true rfl)).trans rfl
theorem zl15_2 {pc : Nat} (h : 40 ≤ pc) : zi_fe 15 pc = zu15_2.lookup pc := (zl15_1 (Nat.le_trans (Nat.le_of_ble_eq_true rfl) h)).trans (zi_lkA (a := zi_i15_1) (c := 40) rfl h)
theorem f15_40 : zi_fe 15 40 = some ((.aload_n 1), 1, 0, 0, 0, 0, 0) := (zl15_2 (Nat.le_of_ble_eq_true rfl)).trans rfl
theorem f15_41 : zi_fe 15 41 = some ((.invokevirtual 94), 3, 19, 0, 1, 555, 2) := (zl15_2 (Nat.le_of_ble_eq_true rfl)).trans rfl
theorem f15_44 : zi_fe 15 44 = some (.ireturn, 1, 1, 0, 0, 0, 0) := (zl15_2 (Nat.le_of_ble_eq_true rfl)).trans rfl
theorem b15_0 {h : zi_Hp} {a0 : Nat} {a1 : Nat} (g0 : a0 < zh_n h) (g1 : (zh_k h a0).1 = 1) : zv 5 15 0 [.ref a0, .ref a1] [] h = if (zi_bI (zh_b h a0 8)) = 0 then zv 5 15 14 [.ref a0, .ref a1] [] h else zv 5 15 7 [.ref a0, .ref a1] [] h := by
  refine Eq.trans (zv_next f15_0 rfl) ?_
  refine Eq.trans (zs_getb f15_1 g0 g1) ?_
  exact zs_if f15_4 rfl
theorem b15_7 {h : zi_Hp} {a0 : Nat} {a1 : Nat} (g0 : a0 < zh_n h) (g1 : (zh_k h a0).1 = 1) : zv 5 15 7 [.ref a0, .ref a1] [] h = (zv 1 21 0 [.ref a0, .ref a1, .int 4] [] h).bind fun r => zv 5 15 13 [.ref a0, .ref a1] (r.1.toList ++ []) r.2 := by
  refine Eq.trans (zv_next f15_7 rfl) ?_
  refine Eq.trans (zv_next f15_8 rfl) ?_
  refine Eq.trans (zs_ic f15_9 ic_4) ?_
  exact zs_callV f15_10 (Nat.le_of_ble_eq_true rfl) (Nat.le_of_ble_eq_true rfl) rfl g0 g1 me_21 (by decide) rfl
theorem b15_13 {h : zi_Hp} {a0 : Nat} {a1 : Nat} {s0 : Int32} (g0 : s0 = 0 ∨ s0 = 1) : zv 5 15 13 [.ref a0, .ref a1] [.int s0] h = some (some (.int s0), h) := by
  exact zs_ret1 f15_13 g0
theorem b15_14 {h : zi_Hp} {a0 : Nat} {a1 : Nat} (g0 : a0 < zh_n h) (g1 : (zh_k h a0).1 = 1) : zv 5 15 14 [.ref a0, .ref a1] [] h = (zv 4 18 0 [.ref a0, .ref a1, .int 2, .int 4] [] h).bind fun r => zv 5 15 21 [.ref a0, .ref a1] (r.1.toList ++ []) r.2 := by
  refine Eq.trans (zv_next f15_14 rfl) ?_
  refine Eq.trans (zv_next f15_15 rfl) ?_
  refine Eq.trans (zs_ic f15_16 ic_2) ?_
  refine Eq.trans (zs_ic f15_17 ic_4) ?_
  exact zs_callV f15_18 (Nat.le_of_ble_eq_true rfl) (Nat.le_of_ble_eq_true rfl) rfl g0 g1 me_18 (by decide) rfl
theorem b15_21 {h : zi_Hp} {a0 : Nat} {a1 : Nat} {s0 : Int32}  : zv 5 15 21 [.ref a0, .ref a1] [.int s0] h = if s0 = 0 then zv 5 15 24 [.ref a0, .ref a1] [] h else zv 5 15 26 [.ref a0, .ref a1] [] h := by
  exact zs_if f15_21 rfl
theorem b15_24 {h : zi_Hp} {a0 : Nat} {a1 : Nat}  : zv 5 15 24 [.ref a0, .ref a1] [] h = some (some (.int 0), h) := by
  refine Eq.trans (zs_ic f15_24 ic_0) ?_
  exact zs_ret1 f15_25 (by decide)
theorem b15_26 {h : zi_Hp} {a0 : Nat} {a1 : Nat} (g0 : a0 < zh_n h) (g1 : (zh_k h a0).1 = 1) : zv 5 15 26 [.ref a0, .ref a1] [] h = zv 5 15 33 [.ref a0, .ref a1] [.ref a1, .ref a0] (zh_wb h a0 8 true) := by
  refine Eq.trans (zv_next f15_26 rfl) ?_
  refine Eq.trans (zs_ic f15_27 ic_1) ?_
  refine Eq.trans (zs_put f15_28 g0 g1 rfl) ?_
  refine Eq.trans (zv_next f15_31 rfl) ?_
  refine Eq.trans (zv_next f15_32 rfl) ?_
  rfl
theorem b15_33 {h : zi_Hp} {a0 : Nat} {a1 : Nat} {t0 : Nat} {t1 : Nat} (g0 : t1 < zh_n h) (g1 : (zh_k h t1).1 = 3) (g2 : t0 < zh_n h) (g3 : (zh_k h t0).1 = 1) (g4 : a0 < zh_n h) (g5 : (zh_k h a0).1 = 1) : zv 5 15 33 [.ref a0, .ref a1] [.ref t1, .ref t0] h = (zv 4 19 0 [.ref a0, .ref a1] [] (zh_wi h t0 1 (zh_i h t1 4))).bind fun r => zv 5 15 44 [.ref a0, .ref a1] (r.1.toList ++ []) r.2 := by
  refine Eq.trans (zs_geti f15_33 g0 g1) ?_
  refine Eq.trans (zs_put f15_36 g2 g3 rfl) ?_
  refine Eq.trans (zv_next f15_39 rfl) ?_
  refine Eq.trans (zv_next f15_40 rfl) ?_
  exact zs_callV f15_41 (Nat.le_of_ble_eq_true rfl) (Nat.le_of_ble_eq_true rfl) rfl g4 g5 me_19 (by decide) rfl
theorem b15_44 {h : zi_Hp} {a0 : Nat} {a1 : Nat} {s0 : Int32} (g0 : s0 = 0 ∨ s0 = 1) : zv 5 15 44 [.ref a0, .ref a1] [.int s0] h = some (some (.int s0), h) := by
  exact zs_ret1 f15_44 g0
set_option maxRecDepth 20000 in
theorem zq16 : zi_M[16]? = some zi_m16 := rfl
theorem zl16_0 {pc : Nat} (_ : 0 ≤ pc) : zi_fe 16 pc = zu16_0.lookup pc := zi_feA zq16 pc
theorem f16_0 : zi_fe 16 0 = some ((.aload_n 1), 1, 0, 0, 0, 0, 0) := (zl16_0 (Nat.le_of_ble_eq_true rfl)).trans rfl
theorem f16_1 : zi_fe 16 1 = some ((.invokevirtual 52), 3, 30, 0, 3, 464, 1) := (zl16_0 (Nat.le_of_ble_eq_true rfl)).trans rfl
theorem f16_4 : zi_fe 16 4 = some ((.iconst 0), 1, 0, 0, 0, 0, 0) := (zl16_0 (Nat.le_of_ble_eq_true rfl)).trans rfl
theorem f16_5 : zi_fe 16 5 = some ((.istore_n 3), 1, 0, 0, 0, 0, 0) := (zl16_0 (Nat.le_of_ble_eq_true rfl)).trans rfl
theorem f16_6 : zi_fe 16 6 = some ((.iload_n 3), 1, 0, 0, 0, 0, 0) := (zl16_0 (Nat.le_of_ble_eq_true rfl)).trans rfl
theorem f16_7 : zi_fe 16 7 = some ((.bipush 40), 2, 0, 0, 0, 0, 0) := (zl16_0 (Nat.le_of_ble_eq_true rfl)).trans rfl
theorem f16_9 : zi_fe 16 9 = some ((.if_icmp .gt 123), 3, 0, 0, 0, 0, 0) := (zl16_0 (Nat.le_of_ble_eq_true rfl)).trans rfl
theorem f16_12 : zi_fe 16 12 = some ((.aload_n 1), 1, 0, 0, 0, 0, 0) := (zl16_0 (Nat.le_of_ble_eq_true rfl)).trans rfl
theorem f16_13 : zi_fe 16 13 = some ((.getfield 55), 3, 3, 2, 0, 329, 0) := (zl16_0 (Nat.le_of_ble_eq_true rfl)).trans rfl
theorem f16_16 : zi_fe 16 16 = some ((.ifCond .eq 11), 3, 0, 0, 0, 0, 0) := (zl16_0 (Nat.le_of_ble_eq_true rfl)).trans rfl
theorem f16_19 : zi_fe 16 19 = some ((.aload_n 1), 1, 0, 0, 0, 0, 0) := (zl16_0 (Nat.le_of_ble_eq_true rfl)).trans rfl
theorem f16_20 : zi_fe 16 20 = some ((.getfield 55), 3, 3, 2, 0, 329, 0) := (zl16_0 (Nat.le_of_ble_eq_true rfl)).trans rfl
theorem zl16_1 {pc : Nat} (h : 23 ≤ pc) : zi_fe 16 pc = zu16_1.lookup pc := (zl16_0 (Nat.le_trans (Nat.le_of_ble_eq_true rfl) h)).trans (zi_lkA (a := zi_i16_0) (c := 23) rfl h)
theorem f16_23 : zi_fe 16 23 = some ((.iconst 1), 1, 0, 0, 0, 0, 0) := (zl16_1 (Nat.le_of_ble_eq_true rfl)).trans rfl
theorem f16_24 : zi_fe 16 24 = some ((.if_icmp .ne 21), 3, 0, 0, 0, 0, 0) := (zl16_1 (Nat.le_of_ble_eq_true rfl)).trans rfl
theorem f16_27 : zi_fe 16 27 = some ((.aload_n 0), 1, 0, 0, 0, 0, 0) := (zl16_1 (Nat.le_of_ble_eq_true rfl)).trans rfl
theorem f16_28 : zi_fe 16 28 = some ((.aload_n 1), 1, 0, 0, 0, 0, 0) := (zl16_1 (Nat.le_of_ble_eq_true rfl)).trans rfl
theorem f16_29 : zi_fe 16 29 = some ((.aload_n 1), 1, 0, 0, 0, 0, 0) := (zl16_1 (Nat.le_of_ble_eq_true rfl)).trans rfl
theorem f16_30 : zi_fe 16 30 = some ((.getfield 55), 3, 3, 2, 0, 329, 0) := (zl16_1 (Nat.le_of_ble_eq_true rfl)).trans rfl
theorem f16_33 : zi_fe 16 33 = some ((.ifCond .ne 7), 3, 0, 0, 0, 0, 0) := (zl16_1 (Nat.le_of_ble_eq_true rfl)).trans rfl
theorem f16_36 : zi_fe 16 36 = some ((.iconst 1), 1, 0, 0, 0, 0, 0) := (zl16_1 (Nat.le_of_ble_eq_true rfl)).trans rfl
theorem f16_37 : zi_fe 16 37 = some ((.goto 4), 3, 0, 0, 0, 0, 0) := (zl16_1 (Nat.le_of_ble_eq_true rfl)).trans rfl
theorem f16_40 : zi_fe 16 40 = some ((.iconst 2), 1, 0, 0, 0, 0, 0) := (zl16_1 (Nat.le_of_ble_eq_true rfl)).trans rfl
theorem f16_41 : zi_fe 16 41 = some ((.invokevirtual 84), 3, 21, 0, 1, 543, 3) := (zl16_1 (Nat.le_of_ble_eq_true rfl)).trans rfl
theorem f16_44 : zi_fe 16 44 = some (.ireturn, 1, 1, 0, 0, 0, 0) := (zl16_1 (Nat.le_of_ble_eq_true rfl)).trans rfl
theorem zl16_2 {pc : Nat} (h : 45 ≤ pc) : zi_fe 16 pc = zu16_2.lookup pc := (zl16_1 (Nat.le_trans (Nat.le_of_ble_eq_true rfl) h)).trans (zi_lkA (a := zi_i16_1) (c := 45) rfl h)
theorem f16_45 : zi_fe 16 45 = some ((.aload_n 0), 1, 0, 0, 0, 0, 0) := (zl16_2 (Nat.le_of_ble_eq_true rfl)).trans rfl
theorem f16_46 : zi_fe 16 46 = some ((.getfield 32), 3, 1, 2, 0, 359, 0) := (zl16_2 (Nat.le_of_ble_eq_true rfl)).trans rfl
theorem f16_49 : zi_fe 16 49 = some ((.ifCond .lt 12), 3, 0, 0, 0, 0, 0) := (zl16_2 (Nat.le_of_ble_eq_true rfl)).trans rfl
theorem f16_52 : zi_fe 16 52 = some ((.aload_n 0), 1, 0, 0, 0, 0, 0) := (zl16_2 (Nat.le_of_ble_eq_true rfl)).trans rfl
theorem f16_53 : zi_fe 16 53 = some ((.getfield 32), 3, 1, 2, 0, 359, 0) := (zl16_2 (Nat.le_of_ble_eq_true rfl)).trans rfl
theorem f16_56 : zi_fe 16 56 = some ((.bipush 40), 2, 0, 0, 0, 0, 0) := (zl16_2 (Nat.le_of_ble_eq_true rfl)).trans rfl
theorem f16_58 : zi_fe 16 58 = some ((.if_icmp .lt 10), 3, 0, 0, 0, 0, 0) := (zl16_2 (Nat.le_of_ble_eq_true rfl)).trans rfl
theorem f16_61 : zi_fe 16 61 = some ((.aload_n 0), 1, 0, 0, 0, 0, 0) := (zl16_2 (Nat.le_of_ble_eq_true rfl)).trans rfl
theorem f16_62 : zi_fe 16 62 = some ((.aload_n 1), 1, 0, 0, 0, 0, 0) := (zl16_2 (Nat.le_of_ble_eq_true rfl)).trans rfl
theorem f16_63 : zi_fe 16 63 = some ((.iconst 5), 1, 0, 0, 0, 0, 0) := (zl16_2 (Nat.le_of_ble_eq_true rfl)).trans rfl
theorem f16_64 : zi_fe 16 64 = some ((.invokevirtual 84), 3, 21, 0, 1, 543, 3) := (zl16_2 (Nat.le_of_ble_eq_true rfl)).trans rfl
theorem f16_67 : zi_fe 16 67 = some (.ireturn, 1, 1, 0, 0, 0, 0) := (zl16_2 (Nat.le_of_ble_eq_true rfl)).trans rfl
theorem zl16_3 {pc : Nat} (h : 68 ≤ pc) : zi_fe 16 pc = zu16_3.lookup pc := (zl16_2 (Nat.le_trans (Nat.le_of_ble_eq_true rfl) h)).trans (zi_lkA (a := zi_i16_2) (c := 68) rfl h)
theorem f16_68 : zi_fe 16 68 = some ((.aload_n 0), 1, 0, 0, 0, 0, 0) := (zl16_3 (Nat.le_of_ble_eq_true rfl)).trans rfl
theorem f16_69 : zi_fe 16 69 = some ((.aload_n 1), 1, 0, 0, 0, 0, 0) := (zl16_3 (Nat.le_of_ble_eq_true rfl)).trans rfl
theorem f16_70 : zi_fe 16 70 = some ((.iconst 3), 1, 0, 0, 0, 0, 0) := (zl16_3 (Nat.le_of_ble_eq_true rfl)).trans rfl
theorem f16_71 : zi_fe 16 71 = some ((.invokevirtual 97), 3, 20, 0, 1, 551, 3) := (zl16_3 (Nat.le_of_ble_eq_true rfl)).trans rfl
theorem f16_74 : zi_fe 16 74 = some ((.ifCond .ne 5), 3, 0, 0, 0, 0, 0) := (zl16_3 (Nat.le_of_ble_eq_true rfl)).trans rfl
theorem f16_77 : zi_fe 16 77 = some ((.iconst 0), 1, 0, 0, 0, 0, 0) := (zl16_3 (Nat.le_of_ble_eq_true rfl)).trans rfl
theorem f16_78 : zi_fe 16 78 = some (.ireturn, 1, 1, 0, 0, 0, 0) := (zl16_3 (Nat.le_of_ble_eq_true rfl)).trans rfl
theorem f16_79 : zi_fe 16 79 = some ((.aload_n 0), 1, 0, 0, 0, 0, 0) := (zl16_3 (Nat.le_of_ble_eq_true rfl)).trans rfl
theorem f16_80 : zi_fe 16 80 = some ((.getfield 9), 3, 1, 5, 3, 365, 0) := (zl16_3 (Nat.le_of_ble_eq_true rfl)).trans rfl
theorem f16_83 : zi_fe 16 83 = some ((.aload_n 0), 1, 0, 0, 0, 0, 0) := (zl16_3 (Nat.le_of_ble_eq_true rfl)).trans rfl
theorem f16_84 : zi_fe 16 84 = some ((.getfield 32), 3, 1, 2, 0, 359, 0) := (zl16_3 (Nat.le_of_ble_eq_true rfl)).trans rfl
theorem f16_87 : zi_fe 16 87 = some ((.iload_n 2), 1, 0, 0, 0, 0, 0) := (zl16_3 (Nat.le_of_ble_eq_true rfl)).trans rfl
theorem zl16_4 {pc : Nat} (h : 88 ≤ pc) : zi_fe 16 pc = zu16_4.lookup pc := (zl16_3 (Nat.le_trans (Nat.le_of_ble_eq_true rfl) h)).trans (zi_lkA (a := zi_i16_3) (c := 88) rfl h)
theorem f16_88 : zi_fe 16 88 = some (.iastore, 1, 0, 0, 0, 0, 0) := (zl16_4 (Nat.le_of_ble_eq_true rfl)).trans rfl
theorem f16_89 : zi_fe 16 89 = some ((.aload_n 0), 1, 0, 0, 0, 0, 0) := (zl16_4 (Nat.le_of_ble_eq_true rfl)).trans rfl
theorem f16_90 : zi_fe 16 90 = some ((.getfield 15), 3, 1, 6, 3, 367, 0) := (zl16_4 (Nat.le_of_ble_eq_true rfl)).trans rfl
theorem f16_93 : zi_fe 16 93 = some ((.aload_n 0), 1, 0, 0, 0, 0, 0) := (zl16_4 (Nat.le_of_ble_eq_true rfl)).trans rfl
theorem f16_94 : zi_fe 16 94 = some ((.getfield 32), 3, 1, 2, 0, 359, 0) := (zl16_4 (Nat.le_of_ble_eq_true rfl)).trans rfl
theorem f16_97 : zi_fe 16 97 = some ((.aload_n 1), 1, 0, 0, 0, 0, 0) := (zl16_4 (Nat.le_of_ble_eq_true rfl)).trans rfl
theorem f16_98 : zi_fe 16 98 = some ((.getfield 91), 3, 3, 4, 0, 333, 0) := (zl16_4 (Nat.le_of_ble_eq_true rfl)).trans rfl
theorem f16_101 : zi_fe 16 101 = some (.iastore, 1, 0, 0, 0, 0, 0) := (zl16_4 (Nat.le_of_ble_eq_true rfl)).trans rfl
theorem f16_102 : zi_fe 16 102 = some ((.aload_n 0), 1, 0, 0, 0, 0, 0) := (zl16_4 (Nat.le_of_ble_eq_true rfl)).trans rfl
theorem f16_103 : zi_fe 16 103 = some (.dup, 1, 0, 0, 0, 0, 0) := (zl16_4 (Nat.le_of_ble_eq_true rfl)).trans rfl
theorem f16_104 : zi_fe 16 104 = some ((.getfield 32), 3, 1, 2, 0, 359, 0) := (zl16_4 (Nat.le_of_ble_eq_true rfl)).trans rfl
theorem f16_107 : zi_fe 16 107 = some ((.iconst 1), 1, 0, 0, 0, 0, 0) := (zl16_4 (Nat.le_of_ble_eq_true rfl)).trans rfl
theorem zl16_5 {pc : Nat} (h : 108 ≤ pc) : zi_fe 16 pc = zu16_5.lookup pc := (zl16_4 (Nat.le_trans (Nat.le_of_ble_eq_true rfl) h)).trans (zi_lkA (a := zi_i16_4) (c := 108) rfl h)
theorem f16_108 : zi_fe 16 108 = some (.iadd, 1, 0, 0, 0, 0, 0) := (zl16_5 (Nat.le_of_ble_eq_true rfl)).trans rfl
theorem f16_109 : zi_fe 16 109 = some ((.putfield 32), 3, 1, 2, 0, 359, 0) := (zl16_5 (Nat.le_of_ble_eq_true rfl)).trans rfl
theorem f16_112 : zi_fe 16 112 = some ((.aload_n 1), 1, 0, 0, 0, 0, 0) := (zl16_5 (Nat.le_of_ble_eq_true rfl)).trans rfl
theorem f16_113 : zi_fe 16 113 = some ((.invokevirtual 52), 3, 30, 0, 3, 464, 1) := (zl16_5 (Nat.le_of_ble_eq_true rfl)).trans rfl
theorem f16_116 : zi_fe 16 116 = some ((.aload_n 1), 1, 0, 0, 0, 0, 0) := (zl16_5 (Nat.le_of_ble_eq_true rfl)).trans rfl
theorem f16_117 : zi_fe 16 117 = some ((.getfield 55), 3, 3, 2, 0, 329, 0) := (zl16_5 (Nat.le_of_ble_eq_true rfl)).trans rfl
theorem f16_120 : zi_fe 16 120 = some ((.iconst 4), 1, 0, 0, 0, 0, 0) := (zl16_5 (Nat.le_of_ble_eq_true rfl)).trans rfl
theorem f16_121 : zi_fe 16 121 = some ((.if_icmp .ne 5), 3, 0, 0, 0, 0, 0) := (zl16_5 (Nat.le_of_ble_eq_true rfl)).trans rfl
theorem f16_124 : zi_fe 16 124 = some ((.iconst 1), 1, 0, 0, 0, 0, 0) := (zl16_5 (Nat.le_of_ble_eq_true rfl)).trans rfl
theorem f16_125 : zi_fe 16 125 = some (.ireturn, 1, 1, 0, 0, 0, 0) := (zl16_5 (Nat.le_of_ble_eq_true rfl)).trans rfl
theorem f16_126 : zi_fe 16 126 = some ((.iinc 3 1), 3, 0, 0, 0, 0, 0) := (zl16_5 (Nat.le_of_ble_eq_true rfl)).trans rfl
theorem f16_129 : zi_fe 16 129 = some ((.goto (-123)), 3, 0, 0, 0, 0, 0) := (zl16_5 (Nat.le_of_ble_eq_true rfl)).trans rfl
theorem zl16_6 {pc : Nat} (h : 132 ≤ pc) : zi_fe 16 pc = zu16_6.lookup pc := (zl16_5 (Nat.le_trans (Nat.le_of_ble_eq_true rfl) h)).trans (zi_lkA (a := zi_i16_5) (c := 132) rfl h)
theorem f16_132 : zi_fe 16 132 = some ((.aload_n 0), 1, 0, 0, 0, 0, 0) := (zl16_6 (Nat.le_of_ble_eq_true rfl)).trans rfl
theorem f16_133 : zi_fe 16 133 = some ((.aload_n 1), 1, 0, 0, 0, 0, 0) := (zl16_6 (Nat.le_of_ble_eq_true rfl)).trans rfl
theorem f16_134 : zi_fe 16 134 = some ((.iconst 5), 1, 0, 0, 0, 0, 0) := (zl16_6 (Nat.le_of_ble_eq_true rfl)).trans rfl
theorem f16_135 : zi_fe 16 135 = some ((.invokevirtual 84), 3, 21, 0, 1, 543, 3) := (zl16_6 (Nat.le_of_ble_eq_true rfl)).trans rfl
theorem f16_138 : zi_fe 16 138 = some (.ireturn, 1, 1, 0, 0, 0, 0) := (zl16_6 (Nat.le_of_ble_eq_true rfl)).trans rfl
theorem b16_0 {h : zi_Hp} {a0 : Nat} {a1 : Nat} {x2 : Int32} {u3 : Value} (g0 : a1 < zh_n h) (g1 : (zh_k h a1).1 = 3) : zv 4 16 0 [.ref a0, .ref a1, .int x2, u3] [] h = (zv 3 30 0 [.ref a1, .double 0] [] h).bind fun r => zv 4 16 4 [.ref a0, .ref a1, .int x2, u3] (r.1.toList ++ []) r.2 := by
  refine Eq.trans (zv_next f16_0 rfl) ?_
  exact zs_callV f16_1 (Nat.le_of_ble_eq_true rfl) (Nat.le_of_ble_eq_true rfl) rfl g0 g1 me_30 (by decide) rfl
theorem b16_4 {h : zi_Hp} {a0 : Nat} {a1 : Nat} {x2 : Int32} {u3 : Value}  : zv 4 16 4 [.ref a0, .ref a1, .int x2, u3] [] h = zv 4 16 6 [.ref a0, .ref a1, .int x2, .int 0] [] h := by
  refine Eq.trans (zs_ic f16_4 ic_0) ?_
  refine Eq.trans (zv_next f16_5 rfl) ?_
  rfl
theorem b16_6 {h : zi_Hp} {a0 : Nat} {a1 : Nat} {x2 : Int32} {x3 : Int32}  : zv 4 16 6 [.ref a0, .ref a1, .int x2, .int x3] [] h = if 40 < x3 then zv 4 16 132 [.ref a0, .ref a1, .int x2, .int x3] [] h else zv 4 16 12 [.ref a0, .ref a1, .int x2, .int x3] [] h := by
  refine Eq.trans (zv_next f16_6 rfl) ?_
  refine Eq.trans (zs_bp f16_7 bp_40) ?_
  exact zs_icmp f16_9 rfl
theorem b16_12 {h : zi_Hp} {a0 : Nat} {a1 : Nat} {x2 : Int32} {x3 : Int32} (g0 : a1 < zh_n h) (g1 : (zh_k h a1).1 = 3) : zv 4 16 12 [.ref a0, .ref a1, .int x2, .int x3] [] h = if (zh_i h a1 2) = 0 then zv 4 16 27 [.ref a0, .ref a1, .int x2, .int x3] [] h else zv 4 16 19 [.ref a0, .ref a1, .int x2, .int x3] [] h := by
  refine Eq.trans (zv_next f16_12 rfl) ?_
  refine Eq.trans (zs_geti f16_13 g0 g1) ?_
  exact zs_if f16_16 rfl
theorem b16_19 {h : zi_Hp} {a0 : Nat} {a1 : Nat} {x2 : Int32} {x3 : Int32} (g0 : a1 < zh_n h) (g1 : (zh_k h a1).1 = 3) : zv 4 16 19 [.ref a0, .ref a1, .int x2, .int x3] [] h = if (zh_i h a1 2) = 1 then zv 4 16 27 [.ref a0, .ref a1, .int x2, .int x3] [] h else zv 4 16 45 [.ref a0, .ref a1, .int x2, .int x3] [] h := by
  refine Eq.trans (zv_next f16_19 rfl) ?_
  refine Eq.trans (zs_geti f16_20 g0 g1) ?_
  refine Eq.trans (zs_ic f16_23 ic_1) ?_
  exact zs_icmp f16_24 rfl
theorem b16_27 {h : zi_Hp} {a0 : Nat} {a1 : Nat} {x2 : Int32} {x3 : Int32} (g0 : a1 < zh_n h) (g1 : (zh_k h a1).1 = 3) : zv 4 16 27 [.ref a0, .ref a1, .int x2, .int x3] [] h = if (zh_i h a1 2) = 0 then zv 4 16 36 [.ref a0, .ref a1, .int x2, .int x3] [.ref a1, .ref a0] h else zv 4 16 40 [.ref a0, .ref a1, .int x2, .int x3] [.ref a1, .ref a0] h := by
  refine Eq.trans (zv_next f16_27 rfl) ?_
  refine Eq.trans (zv_next f16_28 rfl) ?_
  refine Eq.trans (zv_next f16_29 rfl) ?_
  refine Eq.trans (zs_geti f16_30 g0 g1) ?_
  exact zs_if f16_33 rfl
theorem b16_36 {h : zi_Hp} {a0 : Nat} {a1 : Nat} {x2 : Int32} {x3 : Int32} {t0 : Nat} {t1 : Nat}  : zv 4 16 36 [.ref a0, .ref a1, .int x2, .int x3] [.ref t1, .ref t0] h = zv 4 16 41 [.ref a0, .ref a1, .int x2, .int x3] [.int 1, .ref t1, .ref t0] h := by
  refine Eq.trans (zs_ic f16_36 ic_1) ?_
  refine Eq.trans (zs_goto (tgt := 41) f16_37 rfl) ?_
  rfl
theorem b16_40 {h : zi_Hp} {a0 : Nat} {a1 : Nat} {x2 : Int32} {x3 : Int32} {t0 : Nat} {t1 : Nat}  : zv 4 16 40 [.ref a0, .ref a1, .int x2, .int x3] [.ref t1, .ref t0] h = zv 4 16 41 [.ref a0, .ref a1, .int x2, .int x3] [.int 2, .ref t1, .ref t0] h := by
  refine Eq.trans (zs_ic f16_40 ic_2) ?_
  rfl
theorem b16_41 {h : zi_Hp} {a0 : Nat} {a1 : Nat} {x2 : Int32} {x3 : Int32} {t0 : Nat} {t1 : Nat} {s2 : Int32} (g0 : t0 < zh_n h) (g1 : (zh_k h t0).1 = 1) : zv 4 16 41 [.ref a0, .ref a1, .int x2, .int x3] [.int s2, .ref t1, .ref t0] h = (zv 1 21 0 [.ref t0, .ref t1, .int s2] [] h).bind fun r => zv 4 16 44 [.ref a0, .ref a1, .int x2, .int x3] (r.1.toList ++ []) r.2 := by
  exact zs_callV f16_41 (Nat.le_of_ble_eq_true rfl) (Nat.le_of_ble_eq_true rfl) rfl g0 g1 me_21 (by decide) rfl
theorem b16_44 {h : zi_Hp} {a0 : Nat} {a1 : Nat} {x2 : Int32} {x3 : Int32} {s0 : Int32} (g0 : s0 = 0 ∨ s0 = 1) : zv 4 16 44 [.ref a0, .ref a1, .int x2, .int x3] [.int s0] h = some (some (.int s0), h) := by
  exact zs_ret1 f16_44 g0
theorem b16_45 {h : zi_Hp} {a0 : Nat} {a1 : Nat} {x2 : Int32} {x3 : Int32} (g0 : a0 < zh_n h) (g1 : (zh_k h a0).1 = 1) : zv 4 16 45 [.ref a0, .ref a1, .int x2, .int x3] [] h = if (zh_i h a0 2) < 0 then zv 4 16 61 [.ref a0, .ref a1, .int x2, .int x3] [] h else zv 4 16 52 [.ref a0, .ref a1, .int x2, .int x3] [] h := by
  refine Eq.trans (zv_next f16_45 rfl) ?_
  refine Eq.trans (zs_geti f16_46 g0 g1) ?_
  exact zs_if f16_49 rfl
theorem b16_52 {h : zi_Hp} {a0 : Nat} {a1 : Nat} {x2 : Int32} {x3 : Int32} (g0 : a0 < zh_n h) (g1 : (zh_k h a0).1 = 1) : zv 4 16 52 [.ref a0, .ref a1, .int x2, .int x3] [] h = if (zh_i h a0 2) < 40 then zv 4 16 68 [.ref a0, .ref a1, .int x2, .int x3] [] h else zv 4 16 61 [.ref a0, .ref a1, .int x2, .int x3] [] h := by
  refine Eq.trans (zv_next f16_52 rfl) ?_
  refine Eq.trans (zs_geti f16_53 g0 g1) ?_
  refine Eq.trans (zs_bp f16_56 bp_40) ?_
  exact zs_icmp f16_58 rfl
theorem b16_61 {h : zi_Hp} {a0 : Nat} {a1 : Nat} {x2 : Int32} {x3 : Int32} (g0 : a0 < zh_n h) (g1 : (zh_k h a0).1 = 1) : zv 4 16 61 [.ref a0, .ref a1, .int x2, .int x3] [] h = (zv 1 21 0 [.ref a0, .ref a1, .int 5] [] h).bind fun r => zv 4 16 67 [.ref a0, .ref a1, .int x2, .int x3] (r.1.toList ++ []) r.2 := by
  refine Eq.trans (zv_next f16_61 rfl) ?_
  refine Eq.trans (zv_next f16_62 rfl) ?_
  refine Eq.trans (zs_ic f16_63 ic_5) ?_
  exact zs_callV f16_64 (Nat.le_of_ble_eq_true rfl) (Nat.le_of_ble_eq_true rfl) rfl g0 g1 me_21 (by decide) rfl
theorem b16_67 {h : zi_Hp} {a0 : Nat} {a1 : Nat} {x2 : Int32} {x3 : Int32} {s0 : Int32} (g0 : s0 = 0 ∨ s0 = 1) : zv 4 16 67 [.ref a0, .ref a1, .int x2, .int x3] [.int s0] h = some (some (.int s0), h) := by
  exact zs_ret1 f16_67 g0
theorem b16_68 {h : zi_Hp} {a0 : Nat} {a1 : Nat} {x2 : Int32} {x3 : Int32} (g0 : a0 < zh_n h) (g1 : (zh_k h a0).1 = 1) : zv 4 16 68 [.ref a0, .ref a1, .int x2, .int x3] [] h = (zv 2 20 0 [.ref a0, .ref a1, .int 3] [] h).bind fun r => zv 4 16 74 [.ref a0, .ref a1, .int x2, .int x3] (r.1.toList ++ []) r.2 := by
  refine Eq.trans (zv_next f16_68 rfl) ?_
  refine Eq.trans (zv_next f16_69 rfl) ?_
  refine Eq.trans (zs_ic f16_70 ic_3) ?_
  exact zs_callV f16_71 (Nat.le_of_ble_eq_true rfl) (Nat.le_of_ble_eq_true rfl) rfl g0 g1 me_20 (by decide) rfl
theorem b16_74 {h : zi_Hp} {a0 : Nat} {a1 : Nat} {x2 : Int32} {x3 : Int32} {s0 : Int32}  : zv 4 16 74 [.ref a0, .ref a1, .int x2, .int x3] [.int s0] h = if s0 = 0 then zv 4 16 77 [.ref a0, .ref a1, .int x2, .int x3] [] h else zv 4 16 79 [.ref a0, .ref a1, .int x2, .int x3] [] h := by
  exact zs_if f16_74 rfl
theorem b16_77 {h : zi_Hp} {a0 : Nat} {a1 : Nat} {x2 : Int32} {x3 : Int32}  : zv 4 16 77 [.ref a0, .ref a1, .int x2, .int x3] [] h = some (some (.int 0), h) := by
  refine Eq.trans (zs_ic f16_77 ic_0) ?_
  exact zs_ret1 f16_78 (by decide)
theorem b16_79 {h : zi_Hp} {a0 : Nat} {a1 : Nat} {x2 : Int32} {x3 : Int32} (g0 : a0 < zh_n h) (g1 : (zh_k h a0).1 = 1) (g2 : zh_r h a0 5 = .ref (zq (zh_r h a0 5))) (g3 : (zq (zh_r h a0 5)) < zh_n h) (g4 : ¬ ((zh_i h a0 2) < 0 ∨ (zh_k h (zq (zh_r h a0 5))).2 ≤ (zh_i h a0 2).toNatClampNeg)) (g5 : (zh_k h (zq (zh_r h a0 5))).1 = 100) (g6 : zh_r h a0 6 = .ref (zq (zh_r h a0 6))) : zv 4 16 79 [.ref a0, .ref a1, .int x2, .int x3] [] h = zv 4 16 94 [.ref a0, .ref a1, .int x2, .int x3] [.ref a0, .ref (zq (zh_r h a0 6))] (zh_wi h (zq (zh_r h a0 5)) (zh_i h a0 2).toNatClampNeg x2) := by
  refine Eq.trans (zv_next f16_79 rfl) ?_
  refine Eq.trans (zs_getr f16_80 g0 g1 g2) ?_
  refine Eq.trans (zv_next f16_83 rfl) ?_
  refine Eq.trans (zs_geti f16_84 g0 g1) ?_
  refine Eq.trans (zv_next f16_87 rfl) ?_
  refine Eq.trans (zs_iast f16_88 g3 g5 g4) ?_
  refine Eq.trans (zv_next f16_89 rfl) ?_
  refine Eq.trans (zs_getr f16_90 g0 g1 g6) ?_
  refine Eq.trans (zv_next f16_93 rfl) ?_
  rfl
theorem b16_94 {h : zi_Hp} {a0 : Nat} {a1 : Nat} {x2 : Int32} {x3 : Int32} {t0 : Nat} {t1 : Nat} (g0 : t1 < zh_n h) (g1 : (zh_k h t1).1 = 1) (g2 : a1 < zh_n h) (g3 : (zh_k h a1).1 = 3) (g4 : t0 < zh_n h) (g5 : ¬ ((zh_i h t1 2) < 0 ∨ (zh_k h t0).2 ≤ (zh_i h t1 2).toNatClampNeg)) (g6 : (zh_k h t0).1 = 100) : zv 4 16 94 [.ref a0, .ref a1, .int x2, .int x3] [.ref t1, .ref t0] h = zv 4 16 104 [.ref a0, .ref a1, .int x2, .int x3] [.ref a0, .ref a0] (zh_wi h t0 (zh_i h t1 2).toNatClampNeg (zh_i h a1 4)) := by
  refine Eq.trans (zs_geti f16_94 g0 g1) ?_
  refine Eq.trans (zv_next f16_97 rfl) ?_
  refine Eq.trans (zs_geti f16_98 g2 g3) ?_
  refine Eq.trans (zs_iast f16_101 g4 g6 g5) ?_
  refine Eq.trans (zv_next f16_102 rfl) ?_
  refine Eq.trans (zv_next f16_103 rfl) ?_
  rfl
theorem b16_104 {h : zi_Hp} {a0 : Nat} {a1 : Nat} {x2 : Int32} {x3 : Int32} {t0 : Nat} {t1 : Nat} (g0 : t1 < zh_n h) (g1 : (zh_k h t1).1 = 1) (g2 : t0 < zh_n h) (g3 : (zh_k h t0).1 = 1) (g4 : a1 < zh_n h) (g5 : (zh_k h a1).1 = 3) : zv 4 16 104 [.ref a0, .ref a1, .int x2, .int x3] [.ref t1, .ref t0] h = (zv 3 30 0 [.ref a1, .double 0] [] (zh_wi h t0 2 ((zh_i h t1 2) + 1))).bind fun r => zv 4 16 116 [.ref a0, .ref a1, .int x2, .int x3] (r.1.toList ++ []) r.2 := by
  refine Eq.trans (zs_geti f16_104 g0 g1) ?_
  refine Eq.trans (zs_ic f16_107 ic_1) ?_
  refine Eq.trans (zv_next f16_108 rfl) ?_
  refine Eq.trans (zs_put f16_109 g2 g3 rfl) ?_
  refine Eq.trans (zv_next f16_112 rfl) ?_
  exact zs_callV f16_113 (Nat.le_of_ble_eq_true rfl) (Nat.le_of_ble_eq_true rfl) rfl g4 g5 me_30 (by decide) rfl
theorem b16_116 {h : zi_Hp} {a0 : Nat} {a1 : Nat} {x2 : Int32} {x3 : Int32} (g0 : a1 < zh_n h) (g1 : (zh_k h a1).1 = 3) : zv 4 16 116 [.ref a0, .ref a1, .int x2, .int x3] [] h = if (zh_i h a1 2) = 4 then zv 4 16 124 [.ref a0, .ref a1, .int x2, .int x3] [] h else zv 4 16 126 [.ref a0, .ref a1, .int x2, .int x3] [] h := by
  refine Eq.trans (zv_next f16_116 rfl) ?_
  refine Eq.trans (zs_geti f16_117 g0 g1) ?_
  refine Eq.trans (zs_ic f16_120 ic_4) ?_
  exact zs_icmp f16_121 rfl
theorem b16_124 {h : zi_Hp} {a0 : Nat} {a1 : Nat} {x2 : Int32} {x3 : Int32}  : zv 4 16 124 [.ref a0, .ref a1, .int x2, .int x3] [] h = some (some (.int 1), h) := by
  refine Eq.trans (zs_ic f16_124 ic_1) ?_
  exact zs_ret1 f16_125 (by decide)
theorem b16_126 {h : zi_Hp} {a0 : Nat} {a1 : Nat} {x2 : Int32} {x3 : Int32}  : zv 4 16 126 [.ref a0, .ref a1, .int x2, .int x3] [] h = zv 4 16 6 [.ref a0, .ref a1, .int x2, .int (x3 + 1)] [] h := by
  refine Eq.trans (zs_inc f16_126 rfl ic_1 rfl) ?_
  refine Eq.trans (zs_goto (tgt := 6) f16_129 rfl) ?_
  rfl
theorem b16_132 {h : zi_Hp} {a0 : Nat} {a1 : Nat} {x2 : Int32} {x3 : Int32} (g0 : a0 < zh_n h) (g1 : (zh_k h a0).1 = 1) : zv 4 16 132 [.ref a0, .ref a1, .int x2, .int x3] [] h = (zv 1 21 0 [.ref a0, .ref a1, .int 5] [] h).bind fun r => zv 4 16 138 [.ref a0, .ref a1, .int x2, .int x3] (r.1.toList ++ []) r.2 := by
  refine Eq.trans (zv_next f16_132 rfl) ?_
  refine Eq.trans (zv_next f16_133 rfl) ?_
  refine Eq.trans (zs_ic f16_134 ic_5) ?_
  exact zs_callV f16_135 (Nat.le_of_ble_eq_true rfl) (Nat.le_of_ble_eq_true rfl) rfl g0 g1 me_21 (by decide) rfl
theorem b16_138 {h : zi_Hp} {a0 : Nat} {a1 : Nat} {x2 : Int32} {x3 : Int32} {s0 : Int32} (g0 : s0 = 0 ∨ s0 = 1) : zv 4 16 138 [.ref a0, .ref a1, .int x2, .int x3] [.int s0] h = some (some (.int s0), h) := by
  exact zs_ret1 f16_138 g0
set_option maxRecDepth 20000 in
theorem zq17 : zi_M[17]? = some zi_m17 := rfl
theorem zl17_0 {pc : Nat} (_ : 0 ≤ pc) : zi_fe 17 pc = zu17_0.lookup pc := zi_feA zq17 pc
theorem f17_0 : zi_fe 17 0 = some ((.aload_n 0), 1, 0, 0, 0, 0, 0) := (zl17_0 (Nat.le_of_ble_eq_true rfl)).trans rfl
theorem f17_1 : zi_fe 17 1 = some ((.aload_n 1), 1, 0, 0, 0, 0, 0) := (zl17_0 (Nat.le_of_ble_eq_true rfl)).trans rfl
theorem f17_2 : zi_fe 17 2 = some ((.iconst 0), 1, 0, 0, 0, 0, 0) := (zl17_0 (Nat.le_of_ble_eq_true rfl)).trans rfl
theorem f17_3 : zi_fe 17 3 = some ((.iconst 2), 1, 0, 0, 0, 0, 0) := (zl17_0 (Nat.le_of_ble_eq_true rfl)).trans rfl
theorem f17_4 : zi_fe 17 4 = some ((.invokevirtual 87), 3, 18, 0, 1, 547, 4) := (zl17_0 (Nat.le_of_ble_eq_true rfl)).trans rfl
theorem f17_7 : zi_fe 17 7 = some ((.ifCond .ne 5), 3, 0, 0, 0, 0, 0) := (zl17_0 (Nat.le_of_ble_eq_true rfl)).trans rfl
theorem f17_10 : zi_fe 17 10 = some ((.iconst 0), 1, 0, 0, 0, 0, 0) := (zl17_0 (Nat.le_of_ble_eq_true rfl)).trans rfl
theorem f17_11 : zi_fe 17 11 = some (.ireturn, 1, 1, 0, 0, 0, 0) := (zl17_0 (Nat.le_of_ble_eq_true rfl)).trans rfl
theorem f17_12 : zi_fe 17 12 = some ((.aload_n 1), 1, 0, 0, 0, 0, 0) := (zl17_0 (Nat.le_of_ble_eq_true rfl)).trans rfl
theorem f17_13 : zi_fe 17 13 = some ((.getfield 91), 3, 3, 4, 0, 333, 0) := (zl17_0 (Nat.le_of_ble_eq_true rfl)).trans rfl
theorem f17_16 : zi_fe 17 16 = some ((.istore_n 2), 1, 0, 0, 0, 0, 0) := (zl17_0 (Nat.le_of_ble_eq_true rfl)).trans rfl
theorem f17_17 : zi_fe 17 17 = some ((.iload_n 2), 1, 0, 0, 0, 0, 0) := (zl17_0 (Nat.le_of_ble_eq_true rfl)).trans rfl
theorem zl17_1 {pc : Nat} (h : 18 ≤ pc) : zi_fe 17 pc = zu17_1.lookup pc := (zl17_0 (Nat.le_trans (Nat.le_of_ble_eq_true rfl) h)).trans (zi_lkA (a := zi_i17_0) (c := 18) rfl h)
theorem f17_18 : zi_fe 17 18 = some ((.invokestatic 100), 3, 133, 5, 7, 570, 1) := (zl17_1 (Nat.le_of_ble_eq_true rfl)).trans rfl
theorem f17_21 : zi_fe 17 21 = some ((.ifCond .eq 12), 3, 0, 0, 0, 0, 0) := (zl17_1 (Nat.le_of_ble_eq_true rfl)).trans rfl
theorem f17_24 : zi_fe 17 24 = some ((.aload_n 0), 1, 0, 0, 0, 0, 0) := (zl17_1 (Nat.le_of_ble_eq_true rfl)).trans rfl
theorem f17_25 : zi_fe 17 25 = some ((.getfield 18), 3, 1, 7, 3, 369, 0) := (zl17_1 (Nat.le_of_ble_eq_true rfl)).trans rfl
theorem f17_28 : zi_fe 17 28 = some ((.iload_n 2), 1, 0, 0, 0, 0, 0) := (zl17_1 (Nat.le_of_ble_eq_true rfl)).trans rfl
theorem f17_29 : zi_fe 17 29 = some (.iaload, 1, 0, 0, 0, 0, 0) := (zl17_1 (Nat.le_of_ble_eq_true rfl)).trans rfl
theorem f17_30 : zi_fe 17 30 = some ((.ifCond .lt 10), 3, 0, 0, 0, 0, 0) := (zl17_1 (Nat.le_of_ble_eq_true rfl)).trans rfl
theorem f17_33 : zi_fe 17 33 = some ((.aload_n 0), 1, 0, 0, 0, 0, 0) := (zl17_1 (Nat.le_of_ble_eq_true rfl)).trans rfl
theorem f17_34 : zi_fe 17 34 = some ((.aload_n 1), 1, 0, 0, 0, 0, 0) := (zl17_1 (Nat.le_of_ble_eq_true rfl)).trans rfl
theorem f17_35 : zi_fe 17 35 = some ((.iconst 4), 1, 0, 0, 0, 0, 0) := (zl17_1 (Nat.le_of_ble_eq_true rfl)).trans rfl
theorem f17_36 : zi_fe 17 36 = some ((.invokevirtual 84), 3, 21, 0, 1, 543, 3) := (zl17_1 (Nat.le_of_ble_eq_true rfl)).trans rfl
theorem f17_39 : zi_fe 17 39 = some (.ireturn, 1, 1, 0, 0, 0, 0) := (zl17_1 (Nat.le_of_ble_eq_true rfl)).trans rfl
theorem zl17_2 {pc : Nat} (h : 40 ≤ pc) : zi_fe 17 pc = zu17_2.lookup pc := (zl17_1 (Nat.le_trans (Nat.le_of_ble_eq_true rfl) h)).trans (zi_lkA (a := zi_i17_1) (c := 40) rfl h)
theorem f17_40 : zi_fe 17 40 = some ((.aload_n 0), 1, 0, 0, 0, 0, 0) := (zl17_2 (Nat.le_of_ble_eq_true rfl)).trans rfl
theorem f17_41 : zi_fe 17 41 = some ((.aload_n 1), 1, 0, 0, 0, 0, 0) := (zl17_2 (Nat.le_of_ble_eq_true rfl)).trans rfl
theorem f17_42 : zi_fe 17 42 = some ((.iconst 0), 1, 0, 0, 0, 0, 0) := (zl17_2 (Nat.le_of_ble_eq_true rfl)).trans rfl
theorem f17_43 : zi_fe 17 43 = some ((.bipush 99), 2, 0, 0, 0, 0, 0) := (zl17_2 (Nat.le_of_ble_eq_true rfl)).trans rfl
theorem f17_45 : zi_fe 17 45 = some ((.invokevirtual 87), 3, 18, 0, 1, 547, 4) := (zl17_2 (Nat.le_of_ble_eq_true rfl)).trans rfl
theorem f17_48 : zi_fe 17 48 = some ((.ifCond .ne 5), 3, 0, 0, 0, 0, 0) := (zl17_2 (Nat.le_of_ble_eq_true rfl)).trans rfl
theorem f17_51 : zi_fe 17 51 = some ((.iconst 0), 1, 0, 0, 0, 0, 0) := (zl17_2 (Nat.le_of_ble_eq_true rfl)).trans rfl
theorem f17_52 : zi_fe 17 52 = some (.ireturn, 1, 1, 0, 0, 0, 0) := (zl17_2 (Nat.le_of_ble_eq_true rfl)).trans rfl
theorem f17_53 : zi_fe 17 53 = some ((.aload_n 0), 1, 0, 0, 0, 0, 0) := (zl17_2 (Nat.le_of_ble_eq_true rfl)).trans rfl
theorem f17_54 : zi_fe 17 54 = some ((.getfield 18), 3, 1, 7, 3, 369, 0) := (zl17_2 (Nat.le_of_ble_eq_true rfl)).trans rfl
theorem f17_57 : zi_fe 17 57 = some ((.iload_n 2), 1, 0, 0, 0, 0, 0) := (zl17_2 (Nat.le_of_ble_eq_true rfl)).trans rfl
theorem f17_58 : zi_fe 17 58 = some ((.aload_n 1), 1, 0, 0, 0, 0, 0) := (zl17_2 (Nat.le_of_ble_eq_true rfl)).trans rfl
theorem zl17_3 {pc : Nat} (h : 59 ≤ pc) : zi_fe 17 pc = zu17_3.lookup pc := (zl17_2 (Nat.le_trans (Nat.le_of_ble_eq_true rfl) h)).trans (zi_lkA (a := zi_i17_2) (c := 59) rfl h)
theorem f17_59 : zi_fe 17 59 = some ((.getfield 91), 3, 3, 4, 0, 333, 0) := (zl17_3 (Nat.le_of_ble_eq_true rfl)).trans rfl
theorem f17_62 : zi_fe 17 62 = some (.iastore, 1, 0, 0, 0, 0, 0) := (zl17_3 (Nat.le_of_ble_eq_true rfl)).trans rfl
theorem f17_63 : zi_fe 17 63 = some ((.aload_n 0), 1, 0, 0, 0, 0, 0) := (zl17_3 (Nat.le_of_ble_eq_true rfl)).trans rfl
theorem f17_64 : zi_fe 17 64 = some ((.aload_n 1), 1, 0, 0, 0, 0, 0) := (zl17_3 (Nat.le_of_ble_eq_true rfl)).trans rfl
theorem f17_65 : zi_fe 17 65 = some ((.invokevirtual 94), 3, 19, 0, 1, 555, 2) := (zl17_3 (Nat.le_of_ble_eq_true rfl)).trans rfl
theorem f17_68 : zi_fe 17 68 = some (.ireturn, 1, 1, 0, 0, 0, 0) := (zl17_3 (Nat.le_of_ble_eq_true rfl)).trans rfl
theorem b17_0 {h : zi_Hp} {a0 : Nat} {a1 : Nat} {u2 : Value} (g0 : a0 < zh_n h) (g1 : (zh_k h a0).1 = 1) : zv 5 17 0 [.ref a0, .ref a1, u2] [] h = (zv 4 18 0 [.ref a0, .ref a1, .int 0, .int 2] [] h).bind fun r => zv 5 17 7 [.ref a0, .ref a1, u2] (r.1.toList ++ []) r.2 := by
  refine Eq.trans (zv_next f17_0 rfl) ?_
  refine Eq.trans (zv_next f17_1 rfl) ?_
  refine Eq.trans (zs_ic f17_2 ic_0) ?_
  refine Eq.trans (zs_ic f17_3 ic_2) ?_
  exact zs_callV f17_4 (Nat.le_of_ble_eq_true rfl) (Nat.le_of_ble_eq_true rfl) rfl g0 g1 me_18 (by decide) rfl
theorem b17_7 {h : zi_Hp} {a0 : Nat} {a1 : Nat} {u2 : Value} {s0 : Int32}  : zv 5 17 7 [.ref a0, .ref a1, u2] [.int s0] h = if s0 = 0 then zv 5 17 10 [.ref a0, .ref a1, u2] [] h else zv 5 17 12 [.ref a0, .ref a1, u2] [] h := by
  exact zs_if f17_7 rfl
theorem b17_10 {h : zi_Hp} {a0 : Nat} {a1 : Nat} {u2 : Value}  : zv 5 17 10 [.ref a0, .ref a1, u2] [] h = some (some (.int 0), h) := by
  refine Eq.trans (zs_ic f17_10 ic_0) ?_
  exact zs_ret1 f17_11 (by decide)
theorem b17_12 {h : zi_Hp} {a0 : Nat} {a1 : Nat} {u2 : Value} (g0 : a1 < zh_n h) (g1 : (zh_k h a1).1 = 3) : zv 5 17 12 [.ref a0, .ref a1, u2] [] h = (zv 1 133 0 [.int (zh_i h a1 4)] [] h).bind fun r => zv 5 17 21 [.ref a0, .ref a1, .int (zh_i h a1 4)] (r.1.toList ++ []) r.2 := by
  refine Eq.trans (zv_next f17_12 rfl) ?_
  refine Eq.trans (zs_geti f17_13 g0 g1) ?_
  refine Eq.trans (zv_next f17_16 rfl) ?_
  refine Eq.trans (zv_next f17_17 rfl) ?_
  exact zs_callS f17_18 (by decide) (Nat.le_of_ble_eq_true rfl) (Nat.le_of_ble_eq_true rfl) rfl me_133 (by decide) rfl
theorem b17_21 {h : zi_Hp} {a0 : Nat} {a1 : Nat} {x2 : Int32} {s0 : Int32}  : zv 5 17 21 [.ref a0, .ref a1, .int x2] [.int s0] h = if s0 = 0 then zv 5 17 33 [.ref a0, .ref a1, .int x2] [] h else zv 5 17 24 [.ref a0, .ref a1, .int x2] [] h := by
  exact zs_if f17_21 rfl
theorem b17_24 {h : zi_Hp} {a0 : Nat} {a1 : Nat} {x2 : Int32} (g0 : a0 < zh_n h) (g1 : (zh_k h a0).1 = 1) (g2 : zh_r h a0 7 = .ref (zq (zh_r h a0 7))) (g3 : (zq (zh_r h a0 7)) < zh_n h) (g4 : ¬ (x2 < 0 ∨ (zh_k h (zq (zh_r h a0 7))).2 ≤ x2.toNatClampNeg)) (g5 : (zh_k h (zq (zh_r h a0 7))).1 = 100) : zv 5 17 24 [.ref a0, .ref a1, .int x2] [] h = if (zh_i h (zq (zh_r h a0 7)) x2.toNatClampNeg) < 0 then zv 5 17 40 [.ref a0, .ref a1, .int x2] [] h else zv 5 17 33 [.ref a0, .ref a1, .int x2] [] h := by
  refine Eq.trans (zv_next f17_24 rfl) ?_
  refine Eq.trans (zs_getr f17_25 g0 g1 g2) ?_
  refine Eq.trans (zv_next f17_28 rfl) ?_
  refine Eq.trans (zs_iald f17_29 g3 g5 g4) ?_
  exact zs_if f17_30 rfl
theorem b17_33 {h : zi_Hp} {a0 : Nat} {a1 : Nat} {x2 : Int32} (g0 : a0 < zh_n h) (g1 : (zh_k h a0).1 = 1) : zv 5 17 33 [.ref a0, .ref a1, .int x2] [] h = (zv 1 21 0 [.ref a0, .ref a1, .int 4] [] h).bind fun r => zv 5 17 39 [.ref a0, .ref a1, .int x2] (r.1.toList ++ []) r.2 := by
  refine Eq.trans (zv_next f17_33 rfl) ?_
  refine Eq.trans (zv_next f17_34 rfl) ?_
  refine Eq.trans (zs_ic f17_35 ic_4) ?_
  exact zs_callV f17_36 (Nat.le_of_ble_eq_true rfl) (Nat.le_of_ble_eq_true rfl) rfl g0 g1 me_21 (by decide) rfl
theorem b17_39 {h : zi_Hp} {a0 : Nat} {a1 : Nat} {x2 : Int32} {s0 : Int32} (g0 : s0 = 0 ∨ s0 = 1) : zv 5 17 39 [.ref a0, .ref a1, .int x2] [.int s0] h = some (some (.int s0), h) := by
  exact zs_ret1 f17_39 g0
theorem b17_40 {h : zi_Hp} {a0 : Nat} {a1 : Nat} {x2 : Int32} (g0 : a0 < zh_n h) (g1 : (zh_k h a0).1 = 1) : zv 5 17 40 [.ref a0, .ref a1, .int x2] [] h = (zv 4 18 0 [.ref a0, .ref a1, .int 0, .int 99] [] h).bind fun r => zv 5 17 48 [.ref a0, .ref a1, .int x2] (r.1.toList ++ []) r.2 := by
  refine Eq.trans (zv_next f17_40 rfl) ?_
  refine Eq.trans (zv_next f17_41 rfl) ?_
  refine Eq.trans (zs_ic f17_42 ic_0) ?_
  refine Eq.trans (zs_bp f17_43 bp_99) ?_
  exact zs_callV f17_45 (Nat.le_of_ble_eq_true rfl) (Nat.le_of_ble_eq_true rfl) rfl g0 g1 me_18 (by decide) rfl
theorem b17_48 {h : zi_Hp} {a0 : Nat} {a1 : Nat} {x2 : Int32} {s0 : Int32}  : zv 5 17 48 [.ref a0, .ref a1, .int x2] [.int s0] h = if s0 = 0 then zv 5 17 51 [.ref a0, .ref a1, .int x2] [] h else zv 5 17 53 [.ref a0, .ref a1, .int x2] [] h := by
  exact zs_if f17_48 rfl
theorem b17_51 {h : zi_Hp} {a0 : Nat} {a1 : Nat} {x2 : Int32}  : zv 5 17 51 [.ref a0, .ref a1, .int x2] [] h = some (some (.int 0), h) := by
  refine Eq.trans (zs_ic f17_51 ic_0) ?_
  exact zs_ret1 f17_52 (by decide)
theorem b17_53 {h : zi_Hp} {a0 : Nat} {a1 : Nat} {x2 : Int32} (g0 : a0 < zh_n h) (g1 : (zh_k h a0).1 = 1) (g2 : zh_r h a0 7 = .ref (zq (zh_r h a0 7))) (g3 : a1 < zh_n h) (g4 : (zh_k h a1).1 = 3) (g5 : (zq (zh_r h a0 7)) < zh_n h) (g6 : ¬ (x2 < 0 ∨ (zh_k h (zq (zh_r h a0 7))).2 ≤ x2.toNatClampNeg)) (g7 : (zh_k h (zq (zh_r h a0 7))).1 = 100) : zv 5 17 53 [.ref a0, .ref a1, .int x2] [] h = (zv 4 19 0 [.ref a0, .ref a1] [] (zh_wi h (zq (zh_r h a0 7)) x2.toNatClampNeg (zh_i h a1 4))).bind fun r => zv 5 17 68 [.ref a0, .ref a1, .int x2] (r.1.toList ++ []) r.2 := by
  refine Eq.trans (zv_next f17_53 rfl) ?_
  refine Eq.trans (zs_getr f17_54 g0 g1 g2) ?_
  refine Eq.trans (zv_next f17_57 rfl) ?_
  refine Eq.trans (zv_next f17_58 rfl) ?_
  refine Eq.trans (zs_geti f17_59 g3 g4) ?_
  refine Eq.trans (zs_iast f17_62 g5 g7 g6) ?_
  refine Eq.trans (zv_next f17_63 rfl) ?_
  refine Eq.trans (zv_next f17_64 rfl) ?_
  exact zs_callV f17_65 (Nat.le_of_ble_eq_true rfl) (Nat.le_of_ble_eq_true rfl) rfl g0 g1 me_19 (by decide) rfl
theorem b17_68 {h : zi_Hp} {a0 : Nat} {a1 : Nat} {x2 : Int32} {s0 : Int32} (g0 : s0 = 0 ∨ s0 = 1) : zv 5 17 68 [.ref a0, .ref a1, .int x2] [.int s0] h = some (some (.int s0), h) := by
  exact zs_ret1 f17_68 g0
set_option maxRecDepth 20000 in
theorem zq18 : zi_M[18]? = some zi_m18 := rfl
theorem zl18_0 {pc : Nat} (_ : 0 ≤ pc) : zi_fe 18 pc = zu18_0.lookup pc := zi_feA zq18 pc
theorem f18_0 : zi_fe 18 0 = some ((.aload_n 1), 1, 0, 0, 0, 0, 0) := (zl18_0 (Nat.le_of_ble_eq_true rfl)).trans rfl
theorem f18_1 : zi_fe 18 1 = some ((.invokevirtual 52), 3, 30, 0, 3, 464, 1) := (zl18_0 (Nat.le_of_ble_eq_true rfl)).trans rfl
theorem f18_4 : zi_fe 18 4 = some ((.aload_n 0), 1, 0, 0, 0, 0, 0) := (zl18_0 (Nat.le_of_ble_eq_true rfl)).trans rfl
theorem f18_5 : zi_fe 18 5 = some ((.aload_n 1), 1, 0, 0, 0, 0, 0) := (zl18_0 (Nat.le_of_ble_eq_true rfl)).trans rfl
theorem f18_6 : zi_fe 18 6 = some ((.iconst 3), 1, 0, 0, 0, 0, 0) := (zl18_0 (Nat.le_of_ble_eq_true rfl)).trans rfl
theorem f18_7 : zi_fe 18 7 = some ((.invokevirtual 97), 3, 20, 0, 1, 551, 3) := (zl18_0 (Nat.le_of_ble_eq_true rfl)).trans rfl
theorem f18_10 : zi_fe 18 10 = some ((.ifCond .ne 5), 3, 0, 0, 0, 0, 0) := (zl18_0 (Nat.le_of_ble_eq_true rfl)).trans rfl
theorem f18_13 : zi_fe 18 13 = some ((.iconst 0), 1, 0, 0, 0, 0, 0) := (zl18_0 (Nat.le_of_ble_eq_true rfl)).trans rfl
theorem f18_14 : zi_fe 18 14 = some (.ireturn, 1, 1, 0, 0, 0, 0) := (zl18_0 (Nat.le_of_ble_eq_true rfl)).trans rfl
theorem f18_15 : zi_fe 18 15 = some ((.aload_n 1), 1, 0, 0, 0, 0, 0) := (zl18_0 (Nat.le_of_ble_eq_true rfl)).trans rfl
theorem f18_16 : zi_fe 18 16 = some ((.getfield 91), 3, 3, 4, 0, 333, 0) := (zl18_0 (Nat.le_of_ble_eq_true rfl)).trans rfl
theorem f18_19 : zi_fe 18 19 = some ((.iload_n 2), 1, 0, 0, 0, 0, 0) := (zl18_0 (Nat.le_of_ble_eq_true rfl)).trans rfl
theorem zl18_1 {pc : Nat} (h : 20 ≤ pc) : zi_fe 18 pc = zu18_1.lookup pc := (zl18_0 (Nat.le_trans (Nat.le_of_ble_eq_true rfl) h)).trans (zi_lkA (a := zi_i18_0) (c := 20) rfl h)
theorem f18_20 : zi_fe 18 20 = some ((.if_icmp .lt 11), 3, 0, 0, 0, 0, 0) := (zl18_1 (Nat.le_of_ble_eq_true rfl)).trans rfl
theorem f18_23 : zi_fe 18 23 = some ((.aload_n 1), 1, 0, 0, 0, 0, 0) := (zl18_1 (Nat.le_of_ble_eq_true rfl)).trans rfl
theorem f18_24 : zi_fe 18 24 = some ((.getfield 91), 3, 3, 4, 0, 333, 0) := (zl18_1 (Nat.le_of_ble_eq_true rfl)).trans rfl
theorem f18_27 : zi_fe 18 27 = some ((.iload_n 3), 1, 0, 0, 0, 0, 0) := (zl18_1 (Nat.le_of_ble_eq_true rfl)).trans rfl
theorem f18_28 : zi_fe 18 28 = some ((.if_icmp .le 12), 3, 0, 0, 0, 0, 0) := (zl18_1 (Nat.le_of_ble_eq_true rfl)).trans rfl
theorem f18_31 : zi_fe 18 31 = some ((.aload_n 0), 1, 0, 0, 0, 0, 0) := (zl18_1 (Nat.le_of_ble_eq_true rfl)).trans rfl
theorem f18_32 : zi_fe 18 32 = some ((.aload_n 1), 1, 0, 0, 0, 0, 0) := (zl18_1 (Nat.le_of_ble_eq_true rfl)).trans rfl
theorem f18_33 : zi_fe 18 33 = some ((.iconst 3), 1, 0, 0, 0, 0, 0) := (zl18_1 (Nat.le_of_ble_eq_true rfl)).trans rfl
theorem f18_34 : zi_fe 18 34 = some ((.invokevirtual 84), 3, 21, 0, 1, 543, 3) := (zl18_1 (Nat.le_of_ble_eq_true rfl)).trans rfl
theorem f18_37 : zi_fe 18 37 = some ((.ifCond .eq 7), 3, 0, 0, 0, 0, 0) := (zl18_1 (Nat.le_of_ble_eq_true rfl)).trans rfl
theorem f18_40 : zi_fe 18 40 = some ((.iconst 1), 1, 0, 0, 0, 0, 0) := (zl18_1 (Nat.le_of_ble_eq_true rfl)).trans rfl
theorem f18_41 : zi_fe 18 41 = some ((.goto 4), 3, 0, 0, 0, 0, 0) := (zl18_1 (Nat.le_of_ble_eq_true rfl)).trans rfl
theorem zl18_2 {pc : Nat} (h : 44 ≤ pc) : zi_fe 18 pc = zu18_2.lookup pc := (zl18_1 (Nat.le_trans (Nat.le_of_ble_eq_true rfl) h)).trans (zi_lkA (a := zi_i18_1) (c := 44) rfl h)
theorem f18_44 : zi_fe 18 44 = some ((.iconst 0), 1, 0, 0, 0, 0, 0) := (zl18_2 (Nat.le_of_ble_eq_true rfl)).trans rfl
theorem f18_45 : zi_fe 18 45 = some (.ireturn, 1, 1, 0, 0, 0, 0) := (zl18_2 (Nat.le_of_ble_eq_true rfl)).trans rfl
theorem b18_0 {h : zi_Hp} {a0 : Nat} {a1 : Nat} {x2 : Int32} {x3 : Int32} (g0 : a1 < zh_n h) (g1 : (zh_k h a1).1 = 3) : zv 4 18 0 [.ref a0, .ref a1, .int x2, .int x3] [] h = (zv 3 30 0 [.ref a1, .double 0] [] h).bind fun r => zv 4 18 4 [.ref a0, .ref a1, .int x2, .int x3] (r.1.toList ++ []) r.2 := by
  refine Eq.trans (zv_next f18_0 rfl) ?_
  exact zs_callV f18_1 (Nat.le_of_ble_eq_true rfl) (Nat.le_of_ble_eq_true rfl) rfl g0 g1 me_30 (by decide) rfl
theorem b18_4 {h : zi_Hp} {a0 : Nat} {a1 : Nat} {x2 : Int32} {x3 : Int32} (g0 : a0 < zh_n h) (g1 : (zh_k h a0).1 = 1) : zv 4 18 4 [.ref a0, .ref a1, .int x2, .int x3] [] h = (zv 2 20 0 [.ref a0, .ref a1, .int 3] [] h).bind fun r => zv 4 18 10 [.ref a0, .ref a1, .int x2, .int x3] (r.1.toList ++ []) r.2 := by
  refine Eq.trans (zv_next f18_4 rfl) ?_
  refine Eq.trans (zv_next f18_5 rfl) ?_
  refine Eq.trans (zs_ic f18_6 ic_3) ?_
  exact zs_callV f18_7 (Nat.le_of_ble_eq_true rfl) (Nat.le_of_ble_eq_true rfl) rfl g0 g1 me_20 (by decide) rfl
theorem b18_10 {h : zi_Hp} {a0 : Nat} {a1 : Nat} {x2 : Int32} {x3 : Int32} {s0 : Int32}  : zv 4 18 10 [.ref a0, .ref a1, .int x2, .int x3] [.int s0] h = if s0 = 0 then zv 4 18 13 [.ref a0, .ref a1, .int x2, .int x3] [] h else zv 4 18 15 [.ref a0, .ref a1, .int x2, .int x3] [] h := by
  exact zs_if f18_10 rfl
theorem b18_13 {h : zi_Hp} {a0 : Nat} {a1 : Nat} {x2 : Int32} {x3 : Int32}  : zv 4 18 13 [.ref a0, .ref a1, .int x2, .int x3] [] h = some (some (.int 0), h) := by
  refine Eq.trans (zs_ic f18_13 ic_0) ?_
  exact zs_ret1 f18_14 (by decide)
theorem b18_15 {h : zi_Hp} {a0 : Nat} {a1 : Nat} {x2 : Int32} {x3 : Int32} (g0 : a1 < zh_n h) (g1 : (zh_k h a1).1 = 3) : zv 4 18 15 [.ref a0, .ref a1, .int x2, .int x3] [] h = if (zh_i h a1 4) < x2 then zv 4 18 31 [.ref a0, .ref a1, .int x2, .int x3] [] h else zv 4 18 23 [.ref a0, .ref a1, .int x2, .int x3] [] h := by
  refine Eq.trans (zv_next f18_15 rfl) ?_
  refine Eq.trans (zs_geti f18_16 g0 g1) ?_
  refine Eq.trans (zv_next f18_19 rfl) ?_
  exact zs_icmp f18_20 rfl
theorem b18_23 {h : zi_Hp} {a0 : Nat} {a1 : Nat} {x2 : Int32} {x3 : Int32} (g0 : a1 < zh_n h) (g1 : (zh_k h a1).1 = 3) : zv 4 18 23 [.ref a0, .ref a1, .int x2, .int x3] [] h = if x3 < (zh_i h a1 4) then zv 4 18 31 [.ref a0, .ref a1, .int x2, .int x3] [] h else zv 4 18 40 [.ref a0, .ref a1, .int x2, .int x3] [] h := by
  refine Eq.trans (zv_next f18_23 rfl) ?_
  refine Eq.trans (zs_geti f18_24 g0 g1) ?_
  refine Eq.trans (zv_next f18_27 rfl) ?_
  exact zs_icmp f18_28 rfl
theorem b18_31 {h : zi_Hp} {a0 : Nat} {a1 : Nat} {x2 : Int32} {x3 : Int32} (g0 : a0 < zh_n h) (g1 : (zh_k h a0).1 = 1) : zv 4 18 31 [.ref a0, .ref a1, .int x2, .int x3] [] h = (zv 1 21 0 [.ref a0, .ref a1, .int 3] [] h).bind fun r => zv 4 18 37 [.ref a0, .ref a1, .int x2, .int x3] (r.1.toList ++ []) r.2 := by
  refine Eq.trans (zv_next f18_31 rfl) ?_
  refine Eq.trans (zv_next f18_32 rfl) ?_
  refine Eq.trans (zs_ic f18_33 ic_3) ?_
  exact zs_callV f18_34 (Nat.le_of_ble_eq_true rfl) (Nat.le_of_ble_eq_true rfl) rfl g0 g1 me_21 (by decide) rfl
theorem b18_37 {h : zi_Hp} {a0 : Nat} {a1 : Nat} {x2 : Int32} {x3 : Int32} {s0 : Int32}  : zv 4 18 37 [.ref a0, .ref a1, .int x2, .int x3] [.int s0] h = if s0 = 0 then zv 4 18 44 [.ref a0, .ref a1, .int x2, .int x3] [] h else zv 4 18 40 [.ref a0, .ref a1, .int x2, .int x3] [] h := by
  exact zs_if f18_37 rfl
theorem b18_40 {h : zi_Hp} {a0 : Nat} {a1 : Nat} {x2 : Int32} {x3 : Int32}  : zv 4 18 40 [.ref a0, .ref a1, .int x2, .int x3] [] h = zv 4 18 45 [.ref a0, .ref a1, .int x2, .int x3] [.int 1] h := by
  refine Eq.trans (zs_ic f18_40 ic_1) ?_
  refine Eq.trans (zs_goto (tgt := 45) f18_41 rfl) ?_
  rfl
theorem b18_44 {h : zi_Hp} {a0 : Nat} {a1 : Nat} {x2 : Int32} {x3 : Int32}  : zv 4 18 44 [.ref a0, .ref a1, .int x2, .int x3] [] h = zv 4 18 45 [.ref a0, .ref a1, .int x2, .int x3] [.int 0] h := by
  refine Eq.trans (zs_ic f18_44 ic_0) ?_
  rfl
theorem b18_45 {h : zi_Hp} {a0 : Nat} {a1 : Nat} {x2 : Int32} {x3 : Int32} {s0 : Int32} (g0 : s0 = 0 ∨ s0 = 1) : zv 4 18 45 [.ref a0, .ref a1, .int x2, .int x3] [.int s0] h = some (some (.int s0), h) := by
  exact zs_ret1 f18_45 g0
set_option maxRecDepth 20000 in
theorem zq19 : zi_M[19]? = some zi_m19 := rfl
theorem zl19_0 {pc : Nat} (_ : 0 ≤ pc) : zi_fe 19 pc = zu19_0.lookup pc := zi_feA zq19 pc
theorem f19_0 : zi_fe 19 0 = some ((.aload_n 1), 1, 0, 0, 0, 0, 0) := (zl19_0 (Nat.le_of_ble_eq_true rfl)).trans rfl
theorem f19_1 : zi_fe 19 1 = some ((.invokevirtual 52), 3, 30, 0, 3, 464, 1) := (zl19_0 (Nat.le_of_ble_eq_true rfl)).trans rfl
theorem f19_4 : zi_fe 19 4 = some ((.aload_n 0), 1, 0, 0, 0, 0, 0) := (zl19_0 (Nat.le_of_ble_eq_true rfl)).trans rfl
theorem f19_5 : zi_fe 19 5 = some ((.aload_n 1), 1, 0, 0, 0, 0, 0) := (zl19_0 (Nat.le_of_ble_eq_true rfl)).trans rfl
theorem f19_6 : zi_fe 19 6 = some ((.iconst 4), 1, 0, 0, 0, 0, 0) := (zl19_0 (Nat.le_of_ble_eq_true rfl)).trans rfl
theorem f19_7 : zi_fe 19 7 = some ((.invokevirtual 97), 3, 20, 0, 1, 551, 3) := (zl19_0 (Nat.le_of_ble_eq_true rfl)).trans rfl
theorem f19_10 : zi_fe 19 10 = some (.ireturn, 1, 1, 0, 0, 0, 0) := (zl19_0 (Nat.le_of_ble_eq_true rfl)).trans rfl
theorem b19_0 {h : zi_Hp} {a0 : Nat} {a1 : Nat} (g0 : a1 < zh_n h) (g1 : (zh_k h a1).1 = 3) : zv 4 19 0 [.ref a0, .ref a1] [] h = (zv 3 30 0 [.ref a1, .double 0] [] h).bind fun r => zv 4 19 4 [.ref a0, .ref a1] (r.1.toList ++ []) r.2 := by
  refine Eq.trans (zv_next f19_0 rfl) ?_
  exact zs_callV f19_1 (Nat.le_of_ble_eq_true rfl) (Nat.le_of_ble_eq_true rfl) rfl g0 g1 me_30 (by decide) rfl
theorem b19_4 {h : zi_Hp} {a0 : Nat} {a1 : Nat} (g0 : a0 < zh_n h) (g1 : (zh_k h a0).1 = 1) : zv 4 19 4 [.ref a0, .ref a1] [] h = (zv 2 20 0 [.ref a0, .ref a1, .int 4] [] h).bind fun r => zv 4 19 10 [.ref a0, .ref a1] (r.1.toList ++ []) r.2 := by
  refine Eq.trans (zv_next f19_4 rfl) ?_
  refine Eq.trans (zv_next f19_5 rfl) ?_
  refine Eq.trans (zs_ic f19_6 ic_4) ?_
  exact zs_callV f19_7 (Nat.le_of_ble_eq_true rfl) (Nat.le_of_ble_eq_true rfl) rfl g0 g1 me_20 (by decide) rfl
theorem b19_10 {h : zi_Hp} {a0 : Nat} {a1 : Nat} {s0 : Int32} (g0 : s0 = 0 ∨ s0 = 1) : zv 4 19 10 [.ref a0, .ref a1] [.int s0] h = some (some (.int s0), h) := by
  exact zs_ret1 f19_10 g0
set_option maxRecDepth 20000 in
theorem zq20 : zi_M[20]? = some zi_m20 := rfl
theorem zl20_0 {pc : Nat} (_ : 0 ≤ pc) : zi_fe 20 pc = zu20_0.lookup pc := zi_feA zq20 pc
theorem f20_0 : zi_fe 20 0 = some ((.aload_n 1), 1, 0, 0, 0, 0, 0) := (zl20_0 (Nat.le_of_ble_eq_true rfl)).trans rfl
theorem f20_1 : zi_fe 20 1 = some ((.getfield 55), 3, 3, 2, 0, 329, 0) := (zl20_0 (Nat.le_of_ble_eq_true rfl)).trans rfl
theorem f20_4 : zi_fe 20 4 = some ((.iload_n 2), 1, 0, 0, 0, 0, 0) := (zl20_0 (Nat.le_of_ble_eq_true rfl)).trans rfl
theorem f20_5 : zi_fe 20 5 = some ((.if_icmp .eq 23), 3, 0, 0, 0, 0, 0) := (zl20_0 (Nat.le_of_ble_eq_true rfl)).trans rfl
theorem f20_8 : zi_fe 20 8 = some ((.aload_n 0), 1, 0, 0, 0, 0, 0) := (zl20_0 (Nat.le_of_ble_eq_true rfl)).trans rfl
theorem f20_9 : zi_fe 20 9 = some ((.aload_n 1), 1, 0, 0, 0, 0, 0) := (zl20_0 (Nat.le_of_ble_eq_true rfl)).trans rfl
theorem f20_10 : zi_fe 20 10 = some ((.aload_n 1), 1, 0, 0, 0, 0, 0) := (zl20_0 (Nat.le_of_ble_eq_true rfl)).trans rfl
theorem f20_11 : zi_fe 20 11 = some ((.getfield 55), 3, 3, 2, 0, 329, 0) := (zl20_0 (Nat.le_of_ble_eq_true rfl)).trans rfl
theorem f20_14 : zi_fe 20 14 = some ((.ifCond .ne 7), 3, 0, 0, 0, 0, 0) := (zl20_0 (Nat.le_of_ble_eq_true rfl)).trans rfl
theorem f20_17 : zi_fe 20 17 = some ((.iconst 1), 1, 0, 0, 0, 0, 0) := (zl20_0 (Nat.le_of_ble_eq_true rfl)).trans rfl
theorem f20_18 : zi_fe 20 18 = some ((.goto 4), 3, 0, 0, 0, 0, 0) := (zl20_0 (Nat.le_of_ble_eq_true rfl)).trans rfl
theorem f20_21 : zi_fe 20 21 = some ((.iconst 2), 1, 0, 0, 0, 0, 0) := (zl20_0 (Nat.le_of_ble_eq_true rfl)).trans rfl
theorem zl20_1 {pc : Nat} (h : 22 ≤ pc) : zi_fe 20 pc = zu20_1.lookup pc := (zl20_0 (Nat.le_trans (Nat.le_of_ble_eq_true rfl) h)).trans (zi_lkA (a := zi_i20_0) (c := 22) rfl h)
theorem f20_22 : zi_fe 20 22 = some ((.invokevirtual 84), 3, 21, 0, 1, 543, 3) := (zl20_1 (Nat.le_of_ble_eq_true rfl)).trans rfl
theorem f20_25 : zi_fe 20 25 = some ((.ifCond .eq 7), 3, 0, 0, 0, 0, 0) := (zl20_1 (Nat.le_of_ble_eq_true rfl)).trans rfl
theorem f20_28 : zi_fe 20 28 = some ((.iconst 1), 1, 0, 0, 0, 0, 0) := (zl20_1 (Nat.le_of_ble_eq_true rfl)).trans rfl
theorem f20_29 : zi_fe 20 29 = some ((.goto 4), 3, 0, 0, 0, 0, 0) := (zl20_1 (Nat.le_of_ble_eq_true rfl)).trans rfl
theorem f20_32 : zi_fe 20 32 = some ((.iconst 0), 1, 0, 0, 0, 0, 0) := (zl20_1 (Nat.le_of_ble_eq_true rfl)).trans rfl
theorem f20_33 : zi_fe 20 33 = some (.ireturn, 1, 1, 0, 0, 0, 0) := (zl20_1 (Nat.le_of_ble_eq_true rfl)).trans rfl
theorem b20_0 {h : zi_Hp} {a0 : Nat} {a1 : Nat} {x2 : Int32} (g0 : a1 < zh_n h) (g1 : (zh_k h a1).1 = 3) : zv 2 20 0 [.ref a0, .ref a1, .int x2] [] h = if (zh_i h a1 2) = x2 then zv 2 20 28 [.ref a0, .ref a1, .int x2] [] h else zv 2 20 8 [.ref a0, .ref a1, .int x2] [] h := by
  refine Eq.trans (zv_next f20_0 rfl) ?_
  refine Eq.trans (zs_geti f20_1 g0 g1) ?_
  refine Eq.trans (zv_next f20_4 rfl) ?_
  exact zs_icmp f20_5 rfl
theorem b20_8 {h : zi_Hp} {a0 : Nat} {a1 : Nat} {x2 : Int32} (g0 : a1 < zh_n h) (g1 : (zh_k h a1).1 = 3) : zv 2 20 8 [.ref a0, .ref a1, .int x2] [] h = if (zh_i h a1 2) = 0 then zv 2 20 17 [.ref a0, .ref a1, .int x2] [.ref a1, .ref a0] h else zv 2 20 21 [.ref a0, .ref a1, .int x2] [.ref a1, .ref a0] h := by
  refine Eq.trans (zv_next f20_8 rfl) ?_
  refine Eq.trans (zv_next f20_9 rfl) ?_
  refine Eq.trans (zv_next f20_10 rfl) ?_
  refine Eq.trans (zs_geti f20_11 g0 g1) ?_
  exact zs_if f20_14 rfl
theorem b20_17 {h : zi_Hp} {a0 : Nat} {a1 : Nat} {x2 : Int32} {t0 : Nat} {t1 : Nat}  : zv 2 20 17 [.ref a0, .ref a1, .int x2] [.ref t1, .ref t0] h = zv 2 20 22 [.ref a0, .ref a1, .int x2] [.int 1, .ref t1, .ref t0] h := by
  refine Eq.trans (zs_ic f20_17 ic_1) ?_
  refine Eq.trans (zs_goto (tgt := 22) f20_18 rfl) ?_
  rfl
theorem b20_21 {h : zi_Hp} {a0 : Nat} {a1 : Nat} {x2 : Int32} {t0 : Nat} {t1 : Nat}  : zv 2 20 21 [.ref a0, .ref a1, .int x2] [.ref t1, .ref t0] h = zv 2 20 22 [.ref a0, .ref a1, .int x2] [.int 2, .ref t1, .ref t0] h := by
  refine Eq.trans (zs_ic f20_21 ic_2) ?_
  rfl
theorem b20_22 {h : zi_Hp} {a0 : Nat} {a1 : Nat} {x2 : Int32} {t0 : Nat} {t1 : Nat} {s2 : Int32} (g0 : t0 < zh_n h) (g1 : (zh_k h t0).1 = 1) : zv 2 20 22 [.ref a0, .ref a1, .int x2] [.int s2, .ref t1, .ref t0] h = (zv 1 21 0 [.ref t0, .ref t1, .int s2] [] h).bind fun r => zv 2 20 25 [.ref a0, .ref a1, .int x2] (r.1.toList ++ []) r.2 := by
  exact zs_callV f20_22 (Nat.le_of_ble_eq_true rfl) (Nat.le_of_ble_eq_true rfl) rfl g0 g1 me_21 (by decide) rfl
theorem b20_25 {h : zi_Hp} {a0 : Nat} {a1 : Nat} {x2 : Int32} {s0 : Int32}  : zv 2 20 25 [.ref a0, .ref a1, .int x2] [.int s0] h = if s0 = 0 then zv 2 20 32 [.ref a0, .ref a1, .int x2] [] h else zv 2 20 28 [.ref a0, .ref a1, .int x2] [] h := by
  exact zs_if f20_25 rfl
theorem b20_28 {h : zi_Hp} {a0 : Nat} {a1 : Nat} {x2 : Int32}  : zv 2 20 28 [.ref a0, .ref a1, .int x2] [] h = zv 2 20 33 [.ref a0, .ref a1, .int x2] [.int 1] h := by
  refine Eq.trans (zs_ic f20_28 ic_1) ?_
  refine Eq.trans (zs_goto (tgt := 33) f20_29 rfl) ?_
  rfl
theorem b20_32 {h : zi_Hp} {a0 : Nat} {a1 : Nat} {x2 : Int32}  : zv 2 20 32 [.ref a0, .ref a1, .int x2] [] h = zv 2 20 33 [.ref a0, .ref a1, .int x2] [.int 0] h := by
  refine Eq.trans (zs_ic f20_32 ic_0) ?_
  rfl
theorem b20_33 {h : zi_Hp} {a0 : Nat} {a1 : Nat} {x2 : Int32} {s0 : Int32} (g0 : s0 = 0 ∨ s0 = 1) : zv 2 20 33 [.ref a0, .ref a1, .int x2] [.int s0] h = some (some (.int s0), h) := by
  exact zs_ret1 f20_33 g0
set_option maxRecDepth 20000 in
theorem zq21 : zi_M[21]? = some zi_m21 := rfl
theorem zl21_0 {pc : Nat} (_ : 0 ≤ pc) : zi_fe 21 pc = zu21_0.lookup pc := zi_feA zq21 pc
theorem f21_0 : zi_fe 21 0 = some ((.aload_n 0), 1, 0, 0, 0, 0, 0) := (zl21_0 (Nat.le_of_ble_eq_true rfl)).trans rfl
theorem f21_1 : zi_fe 21 1 = some ((.iload_n 2), 1, 0, 0, 0, 0, 0) := (zl21_0 (Nat.le_of_ble_eq_true rfl)).trans rfl
theorem f21_2 : zi_fe 21 2 = some ((.putfield 35), 3, 1, 3, 0, 361, 0) := (zl21_0 (Nat.le_of_ble_eq_true rfl)).trans rfl
theorem f21_5 : zi_fe 21 5 = some ((.aload_n 0), 1, 0, 0, 0, 0, 0) := (zl21_0 (Nat.le_of_ble_eq_true rfl)).trans rfl
theorem f21_6 : zi_fe 21 6 = some ((.aload_n 1), 1, 0, 0, 0, 0, 0) := (zl21_0 (Nat.le_of_ble_eq_true rfl)).trans rfl
theorem f21_7 : zi_fe 21 7 = some ((.getfield 104), 3, 3, 3, 0, 332, 0) := (zl21_0 (Nat.le_of_ble_eq_true rfl)).trans rfl
theorem f21_10 : zi_fe 21 10 = some ((.putfield 38), 3, 1, 4, 0, 363, 0) := (zl21_0 (Nat.le_of_ble_eq_true rfl)).trans rfl
theorem f21_13 : zi_fe 21 13 = some ((.iconst 0), 1, 0, 0, 0, 0, 0) := (zl21_0 (Nat.le_of_ble_eq_true rfl)).trans rfl
theorem f21_14 : zi_fe 21 14 = some (.ireturn, 1, 1, 0, 0, 0, 0) := (zl21_0 (Nat.le_of_ble_eq_true rfl)).trans rfl
theorem b21_0 {h : zi_Hp} {a0 : Nat} {a1 : Nat} {x2 : Int32} (g0 : a0 < zh_n h) (g1 : (zh_k h a0).1 = 1) : zv 1 21 0 [.ref a0, .ref a1, .int x2] [] h = zv 1 21 7 [.ref a0, .ref a1, .int x2] [.ref a1, .ref a0] (zh_wi h a0 3 x2) := by
  refine Eq.trans (zv_next f21_0 rfl) ?_
  refine Eq.trans (zv_next f21_1 rfl) ?_
  refine Eq.trans (zs_put f21_2 g0 g1 rfl) ?_
  refine Eq.trans (zv_next f21_5 rfl) ?_
  refine Eq.trans (zv_next f21_6 rfl) ?_
  rfl
theorem b21_7 {h : zi_Hp} {a0 : Nat} {a1 : Nat} {x2 : Int32} {t0 : Nat} {t1 : Nat} (g0 : t1 < zh_n h) (g1 : (zh_k h t1).1 = 3) (g2 : t0 < zh_n h) (g3 : (zh_k h t0).1 = 1) : zv 1 21 7 [.ref a0, .ref a1, .int x2] [.ref t1, .ref t0] h = some (some (.int 0), zh_wi h t0 4 (zh_i h t1 3)) := by
  refine Eq.trans (zs_geti f21_7 g0 g1) ?_
  refine Eq.trans (zs_put f21_10 g2 g3 rfl) ?_
  refine Eq.trans (zs_ic f21_13 ic_0) ?_
  exact zs_ret1 f21_14 (by decide)
set_option maxRecDepth 20000 in
theorem zq22 : zi_M[22]? = some zi_m22 := rfl
theorem zl22_0 {pc : Nat} (_ : 0 ≤ pc) : zi_fe 22 pc = zu22_0.lookup pc := zi_feA zq22 pc
theorem f22_0 : zi_fe 22 0 = some ((.aload_n 0), 1, 0, 0, 0, 0, 0) := (zl22_0 (Nat.le_of_ble_eq_true rfl)).trans rfl
theorem f22_1 : zi_fe 22 1 = some ((.invokespecial 3), 3, 0, 3, 0, 396, 1) := (zl22_0 (Nat.le_of_ble_eq_true rfl)).trans rfl
theorem f22_4 : zi_fe 22 4 = some ((.aload_n 0), 1, 0, 0, 0, 0, 0) := (zl22_0 (Nat.le_of_ble_eq_true rfl)).trans rfl
theorem f22_5 : zi_fe 22 5 = some ((.iconst 4), 1, 0, 0, 0, 0, 0) := (zl22_0 (Nat.le_of_ble_eq_true rfl)).trans rfl
theorem f22_6 : zi_fe 22 6 = some ((.newarray .int), 2, 100, 0, 0, 183, 0) := (zl22_0 (Nat.le_of_ble_eq_true rfl)).trans rfl
theorem f22_8 : zi_fe 22 8 = some (.dup, 1, 0, 0, 0, 0, 0) := (zl22_0 (Nat.le_of_ble_eq_true rfl)).trans rfl
theorem f22_9 : zi_fe 22 9 = some ((.iconst 0), 1, 0, 0, 0, 0, 0) := (zl22_0 (Nat.le_of_ble_eq_true rfl)).trans rfl
theorem f22_10 : zi_fe 22 10 = some ((.bipush (-4)), 2, 0, 0, 0, 0, 0) := (zl22_0 (Nat.le_of_ble_eq_true rfl)).trans rfl
theorem f22_12 : zi_fe 22 12 = some (.iastore, 1, 0, 0, 0, 0, 0) := (zl22_0 (Nat.le_of_ble_eq_true rfl)).trans rfl
theorem f22_13 : zi_fe 22 13 = some (.dup, 1, 0, 0, 0, 0, 0) := (zl22_0 (Nat.le_of_ble_eq_true rfl)).trans rfl
theorem f22_14 : zi_fe 22 14 = some ((.iconst 1), 1, 0, 0, 0, 0, 0) := (zl22_0 (Nat.le_of_ble_eq_true rfl)).trans rfl
theorem f22_15 : zi_fe 22 15 = some ((.bipush (-4)), 2, 0, 0, 0, 0, 0) := (zl22_0 (Nat.le_of_ble_eq_true rfl)).trans rfl
theorem zl22_1 {pc : Nat} (h : 17 ≤ pc) : zi_fe 22 pc = zu22_1.lookup pc := (zl22_0 (Nat.le_trans (Nat.le_of_ble_eq_true rfl) h)).trans (zi_lkA (a := zi_i22_0) (c := 17) rfl h)
theorem f22_17 : zi_fe 22 17 = some (.iastore, 1, 0, 0, 0, 0, 0) := (zl22_1 (Nat.le_of_ble_eq_true rfl)).trans rfl
theorem f22_18 : zi_fe 22 18 = some (.dup, 1, 0, 0, 0, 0, 0) := (zl22_1 (Nat.le_of_ble_eq_true rfl)).trans rfl
theorem f22_19 : zi_fe 22 19 = some ((.iconst 2), 1, 0, 0, 0, 0, 0) := (zl22_1 (Nat.le_of_ble_eq_true rfl)).trans rfl
theorem f22_20 : zi_fe 22 20 = some ((.bipush (-4)), 2, 0, 0, 0, 0, 0) := (zl22_1 (Nat.le_of_ble_eq_true rfl)).trans rfl
theorem f22_22 : zi_fe 22 22 = some (.iastore, 1, 0, 0, 0, 0, 0) := (zl22_1 (Nat.le_of_ble_eq_true rfl)).trans rfl
theorem f22_23 : zi_fe 22 23 = some (.dup, 1, 0, 0, 0, 0, 0) := (zl22_1 (Nat.le_of_ble_eq_true rfl)).trans rfl
theorem f22_24 : zi_fe 22 24 = some ((.iconst 3), 1, 0, 0, 0, 0, 0) := (zl22_1 (Nat.le_of_ble_eq_true rfl)).trans rfl
theorem f22_25 : zi_fe 22 25 = some ((.bipush (-4)), 2, 0, 0, 0, 0, 0) := (zl22_1 (Nat.le_of_ble_eq_true rfl)).trans rfl
theorem f22_27 : zi_fe 22 27 = some (.iastore, 1, 0, 0, 0, 0, 0) := (zl22_1 (Nat.le_of_ble_eq_true rfl)).trans rfl
theorem f22_28 : zi_fe 22 28 = some ((.putfield 9), 3, 2, 0, 3, 399, 0) := (zl22_1 (Nat.le_of_ble_eq_true rfl)).trans rfl
theorem f22_31 : zi_fe 22 31 = some ((.aload_n 0), 1, 0, 0, 0, 0, 0) := (zl22_1 (Nat.le_of_ble_eq_true rfl)).trans rfl
theorem f22_32 : zi_fe 22 32 = some ((.iconst 4), 1, 0, 0, 0, 0, 0) := (zl22_1 (Nat.le_of_ble_eq_true rfl)).trans rfl
theorem zl22_2 {pc : Nat} (h : 33 ≤ pc) : zi_fe 22 pc = zu22_2.lookup pc := (zl22_1 (Nat.le_trans (Nat.le_of_ble_eq_true rfl) h)).trans (zi_lkA (a := zi_i22_1) (c := 33) rfl h)
theorem f22_33 : zi_fe 22 33 = some ((.newarray .int), 2, 100, 0, 0, 183, 0) := (zl22_2 (Nat.le_of_ble_eq_true rfl)).trans rfl
theorem f22_35 : zi_fe 22 35 = some ((.putfield 15), 3, 2, 1, 3, 401, 0) := (zl22_2 (Nat.le_of_ble_eq_true rfl)).trans rfl
theorem f22_38 : zi_fe 22 38 = some ((.aload_n 0), 1, 0, 0, 0, 0, 0) := (zl22_2 (Nat.le_of_ble_eq_true rfl)).trans rfl
theorem f22_39 : zi_fe 22 39 = some ((.iconst 4), 1, 0, 0, 0, 0, 0) := (zl22_2 (Nat.le_of_ble_eq_true rfl)).trans rfl
theorem f22_40 : zi_fe 22 40 = some ((.bipush 40), 2, 0, 0, 0, 0, 0) := (zl22_2 (Nat.le_of_ble_eq_true rfl)).trans rfl
theorem f22_42 : zi_fe 22 42 = some ((.multianewarray 18 2), 4, 105, 183, 398, 397, 0) := (zl22_2 (Nat.le_of_ble_eq_true rfl)).trans rfl
theorem f22_46 : zi_fe 22 46 = some ((.putfield 20), 3, 2, 2, 3, 403, 0) := (zl22_2 (Nat.le_of_ble_eq_true rfl)).trans rfl
theorem f22_49 : zi_fe 22 49 = some (.return_, 1, 0, 0, 0, 0, 0) := (zl22_2 (Nat.le_of_ble_eq_true rfl)).trans rfl
theorem b22_0 {h : zi_Hp} {a0 : Nat}  : zv 1 22 0 [.ref a0] [] h = zv 1 22 8 [.ref a0] [.ref (zh_n h), .ref a0] (zh_al h 100 4) := by
  refine Eq.trans (zv_next f22_0 rfl) ?_
  refine Eq.trans (zs_objI f22_1 (Nat.le_of_ble_eq_true rfl)) ?_
  refine Eq.trans (zv_next f22_4 rfl) ?_
  refine Eq.trans (zs_ic f22_5 ic_4) ?_
  refine Eq.trans (zs_newa (N := 4) f22_6 (by decide)) ?_
  rfl
theorem b22_8 {h : zi_Hp} {a0 : Nat} {t0 : Nat} {t1 : Nat} (g0 : t1 < zh_n h) (g1 : 0 < (zh_k h t1).2) (g2 : (zh_k h t1).1 = 100) (g3 : 1 < (zh_k h t1).2) (g4 : 2 < (zh_k h t1).2) (g5 : 3 < (zh_k h t1).2) (g6 : t0 < zh_n h) (g7 : (zh_k h t0).1 = 2) : zv 1 22 8 [.ref a0] [.ref t1, .ref t0] h = zv 1 22 35 [.ref a0] [.ref (zh_n h), .ref a0] (zh_al (zh_wr (zh_wi (zh_wi (zh_wi (zh_wi h t1 0 (-4)) t1 1 (-4)) t1 2 (-4)) t1 3 (-4)) t0 0 (.ref t1)) 100 4) := by
  refine Eq.trans (zv_next f22_8 rfl) ?_
  refine Eq.trans (zs_ic f22_9 ic_0) ?_
  refine Eq.trans (zs_bp f22_10 bp_m4) ?_
  refine Eq.trans (zs_iast f22_12 g0 g2 (zj_lit (by decide) g1)) ?_
  refine Eq.trans (zv_next f22_13 rfl) ?_
  refine Eq.trans (zs_ic f22_14 ic_1) ?_
  refine Eq.trans (zs_bp f22_15 bp_m4) ?_
  refine Eq.trans (zs_iast f22_17 g0 g2 (zj_lit (by decide) g3)) ?_
  refine Eq.trans (zv_next f22_18 rfl) ?_
  refine Eq.trans (zs_ic f22_19 ic_2) ?_
  refine Eq.trans (zs_bp f22_20 bp_m4) ?_
  refine Eq.trans (zs_iast f22_22 g0 g2 (zj_lit (by decide) g4)) ?_
  refine Eq.trans (zv_next f22_23 rfl) ?_
  refine Eq.trans (zs_ic f22_24 ic_3) ?_
  refine Eq.trans (zs_bp f22_25 bp_m4) ?_
  refine Eq.trans (zs_iast f22_27 g0 g2 (zj_lit (by decide) g5)) ?_
  refine Eq.trans (zs_put f22_28 (zo_ni (zo_ni (zo_ni (zo_ni g6)))) (zo_ki (zo_ki (zo_ki (zo_ki g7)))) rfl) ?_
  refine Eq.trans (zv_next f22_31 rfl) ?_
  refine Eq.trans (zs_ic f22_32 ic_4) ?_
  refine Eq.trans (zs_newa (N := 4) f22_33 (by decide)) ?_
  rfl
theorem b22_35 {h : zi_Hp} {a0 : Nat} {t0 : Nat} {t1 : Nat} (g0 : t0 < zh_n h) (g1 : (zh_k h t0).1 = 2) : zv 1 22 35 [.ref a0] [.ref t1, .ref t0] h = zv 1 22 46 [.ref a0] [.ref (zh_n h), .ref a0] (zh_mn (zh_wr h t0 1 (.ref t1)) 4 40) := by
  refine Eq.trans (zs_put f22_35 g0 g1 rfl) ?_
  refine Eq.trans (zv_next f22_38 rfl) ?_
  refine Eq.trans (zs_ic f22_39 ic_4) ?_
  refine Eq.trans (zs_bp f22_40 bp_40) ?_
  refine Eq.trans (zs_mnew (N := 4) (K := 40) f22_42 (by decide) (by decide)) ?_
  rfl
theorem b22_46 {h : zi_Hp} {a0 : Nat} {t0 : Nat} {t1 : Nat} (g0 : t0 < zh_n h) (g1 : (zh_k h t0).1 = 2) : zv 1 22 46 [.ref a0] [.ref t1, .ref t0] h = some (none, zh_wr h t0 2 (.ref t1)) := by
  refine Eq.trans (zs_put f22_46 g0 g1 rfl) ?_
  exact zv_ret f22_49 rfl
set_option maxRecDepth 20000 in
theorem zq23 : zi_M[23]? = some zi_m23 := rfl
theorem zl23_0 {pc : Nat} (_ : 0 ≤ pc) : zi_fe 23 pc = zu23_0.lookup pc := zi_feA zq23 pc
theorem f23_0 : zi_fe 23 0 = some ((.iload_n 1), 1, 0, 0, 0, 0, 0) := (zl23_0 (Nat.le_of_ble_eq_true rfl)).trans rfl
theorem f23_1 : zi_fe 23 1 = some ((.invokestatic 23), 3, 138, 5, 7, 1004, 1) := (zl23_0 (Nat.le_of_ble_eq_true rfl)).trans rfl
theorem f23_4 : zi_fe 23 4 = some ((.ifCond .ne 4), 3, 0, 0, 0, 0, 0) := (zl23_0 (Nat.le_of_ble_eq_true rfl)).trans rfl
theorem f23_7 : zi_fe 23 7 = some (.return_, 1, 0, 0, 0, 0, 0) := (zl23_0 (Nat.le_of_ble_eq_true rfl)).trans rfl
theorem f23_8 : zi_fe 23 8 = some ((.aload_n 0), 1, 0, 0, 0, 0, 0) := (zl23_0 (Nat.le_of_ble_eq_true rfl)).trans rfl
theorem f23_9 : zi_fe 23 9 = some ((.getfield 15), 3, 2, 1, 3, 401, 0) := (zl23_0 (Nat.le_of_ble_eq_true rfl)).trans rfl
theorem f23_12 : zi_fe 23 12 = some ((.iload_n 1), 1, 0, 0, 0, 0, 0) := (zl23_0 (Nat.le_of_ble_eq_true rfl)).trans rfl
theorem f23_13 : zi_fe 23 13 = some ((.iload_n 2), 1, 0, 0, 0, 0, 0) := (zl23_0 (Nat.le_of_ble_eq_true rfl)).trans rfl
theorem f23_14 : zi_fe 23 14 = some (.iastore, 1, 0, 0, 0, 0, 0) := (zl23_0 (Nat.le_of_ble_eq_true rfl)).trans rfl
theorem f23_15 : zi_fe 23 15 = some ((.aload_n 0), 1, 0, 0, 0, 0, 0) := (zl23_0 (Nat.le_of_ble_eq_true rfl)).trans rfl
theorem f23_16 : zi_fe 23 16 = some ((.getfield 9), 3, 2, 0, 3, 399, 0) := (zl23_0 (Nat.le_of_ble_eq_true rfl)).trans rfl
theorem f23_19 : zi_fe 23 19 = some ((.iload_n 1), 1, 0, 0, 0, 0, 0) := (zl23_0 (Nat.le_of_ble_eq_true rfl)).trans rfl
theorem zl23_1 {pc : Nat} (h : 20 ≤ pc) : zi_fe 23 pc = zu23_1.lookup pc := (zl23_0 (Nat.le_trans (Nat.le_of_ble_eq_true rfl) h)).trans (zi_lkA (a := zi_i23_0) (c := 20) rfl h)
theorem f23_20 : zi_fe 23 20 = some ((.iload_n 3), 1, 0, 0, 0, 0, 0) := (zl23_1 (Nat.le_of_ble_eq_true rfl)).trans rfl
theorem f23_21 : zi_fe 23 21 = some (.iastore, 1, 0, 0, 0, 0, 0) := (zl23_1 (Nat.le_of_ble_eq_true rfl)).trans rfl
theorem f23_22 : zi_fe 23 22 = some ((.aload_n 0), 1, 0, 0, 0, 0, 0) := (zl23_1 (Nat.le_of_ble_eq_true rfl)).trans rfl
theorem f23_23 : zi_fe 23 23 = some ((.getfield 20), 3, 2, 2, 3, 403, 0) := (zl23_1 (Nat.le_of_ble_eq_true rfl)).trans rfl
theorem f23_26 : zi_fe 23 26 = some ((.iload_n 1), 1, 0, 0, 0, 0, 0) := (zl23_1 (Nat.le_of_ble_eq_true rfl)).trans rfl
theorem f23_27 : zi_fe 23 27 = some (.aaload, 1, 0, 0, 0, 0, 0) := (zl23_1 (Nat.le_of_ble_eq_true rfl)).trans rfl
theorem f23_28 : zi_fe 23 28 = some ((.iconst 0), 1, 0, 0, 0, 0, 0) := (zl23_1 (Nat.le_of_ble_eq_true rfl)).trans rfl
theorem f23_29 : zi_fe 23 29 = some ((.invokestatic 27), 3, 241, 1, 10, 1005, 2) := (zl23_1 (Nat.le_of_ble_eq_true rfl)).trans rfl
theorem f23_32 : zi_fe 23 32 = some (.return_, 1, 0, 0, 0, 0, 0) := (zl23_1 (Nat.le_of_ble_eq_true rfl)).trans rfl
theorem b23_0 {h : zi_Hp} {a0 : Nat} {x1 : Int32} {x2 : Int32} {x3 : Int32}  : zv 2 23 0 [.ref a0, .int x1, .int x2, .int x3] [] h = (zv 1 138 0 [.int x1] [] h).bind fun r => zv 2 23 4 [.ref a0, .int x1, .int x2, .int x3] (r.1.toList ++ []) r.2 := by
  refine Eq.trans (zv_next f23_0 rfl) ?_
  exact zs_callS f23_1 (by decide) (Nat.le_of_ble_eq_true rfl) (Nat.le_of_ble_eq_true rfl) rfl me_138 (by decide) rfl
theorem b23_4 {h : zi_Hp} {a0 : Nat} {x1 : Int32} {x2 : Int32} {x3 : Int32} {s0 : Int32}  : zv 2 23 4 [.ref a0, .int x1, .int x2, .int x3] [.int s0] h = if s0 = 0 then zv 2 23 7 [.ref a0, .int x1, .int x2, .int x3] [] h else zv 2 23 8 [.ref a0, .int x1, .int x2, .int x3] [] h := by
  exact zs_if f23_4 rfl
theorem b23_7 {h : zi_Hp} {a0 : Nat} {x1 : Int32} {x2 : Int32} {x3 : Int32}  : zv 2 23 7 [.ref a0, .int x1, .int x2, .int x3] [] h = some (none, h) := by
  exact zv_ret f23_7 rfl
theorem b23_8 {h : zi_Hp} {a0 : Nat} {x1 : Int32} {x2 : Int32} {x3 : Int32} (g0 : a0 < zh_n h) (g1 : (zh_k h a0).1 = 2) (g2 : zh_r h a0 1 = .ref (zq (zh_r h a0 1))) (g3 : (zq (zh_r h a0 1)) < zh_n h) (g4 : ¬ (x1 < 0 ∨ (zh_k h (zq (zh_r h a0 1))).2 ≤ x1.toNatClampNeg)) (g5 : (zh_k h (zq (zh_r h a0 1))).1 = 100) (g6 : zh_r h a0 0 = .ref (zq (zh_r h a0 0))) (g7 : (zq (zh_r h a0 0)) < zh_n h) (g8 : ¬ (x1 < 0 ∨ (zh_k h (zq (zh_r h a0 0))).2 ≤ x1.toNatClampNeg)) (g9 : (zh_k h (zq (zh_r h a0 0))).1 = 100) (g10 : zh_r h a0 2 = .ref (zq (zh_r h a0 2))) (g11 : (zq (zh_r h a0 2)) < zh_n h) (g12 : ¬ (x1 < 0 ∨ (zh_k h (zq (zh_r h a0 2))).2 ≤ x1.toNatClampNeg)) (g13 : (zh_k h (zq (zh_r h a0 2))).1 = 103 ∨ (zh_k h (zq (zh_r h a0 2))).1 = 104 ∨ (zh_k h (zq (zh_r h a0 2))).1 = 105) (g14 : zh_r h (zq (zh_r h a0 2)) x1.toNatClampNeg = .ref (zq (zh_r h (zq (zh_r h a0 2)) x1.toNatClampNeg))) : zv 2 23 8 [.ref a0, .int x1, .int x2, .int x3] [] h = (zv 1 241 0 [.ref (zq (zh_r h (zq (zh_r h a0 2)) x1.toNatClampNeg)), .int 0, .double 0, .double 0] [] (zh_wi (zh_wi h (zq (zh_r h a0 1)) x1.toNatClampNeg x2) (zq (zh_r h a0 0)) x1.toNatClampNeg x3)).bind fun r => zv 2 23 32 [.ref a0, .int x1, .int x2, .int x3] (r.1.toList ++ []) r.2 := by
  refine Eq.trans (zv_next f23_8 rfl) ?_
  refine Eq.trans (zs_getr f23_9 g0 g1 g2) ?_
  refine Eq.trans (zv_next f23_12 rfl) ?_
  refine Eq.trans (zv_next f23_13 rfl) ?_
  refine Eq.trans (zs_iast f23_14 g3 g5 g4) ?_
  refine Eq.trans (zv_next f23_15 rfl) ?_
  refine Eq.trans (zs_getr f23_16 g0 g1 g6) ?_
  refine Eq.trans (zv_next f23_19 rfl) ?_
  refine Eq.trans (zv_next f23_20 rfl) ?_
  refine Eq.trans (zs_iast f23_21 g7 g9 g8) ?_
  refine Eq.trans (zv_next f23_22 rfl) ?_
  refine Eq.trans (zs_getr f23_23 g0 g1 g10) ?_
  refine Eq.trans (zv_next f23_26 rfl) ?_
  refine Eq.trans (zs_aald f23_27 g11 g13 g12 g14) ?_
  refine Eq.trans (zs_ic f23_28 ic_0) ?_
  exact zs_callS f23_29 (by decide) (Nat.le_of_ble_eq_true rfl) (Nat.le_of_ble_eq_true rfl) rfl me_241 (by decide) rfl
theorem b23_32 {h : zi_Hp} {a0 : Nat} {x1 : Int32} {x2 : Int32} {x3 : Int32}  : zv 2 23 32 [.ref a0, .int x1, .int x2, .int x3] [] h = some (none, h) := by
  exact zv_ret f23_32 rfl
set_option maxRecDepth 20000 in
theorem zq24 : zi_M[24]? = some zi_m24 := rfl
theorem zl24_0 {pc : Nat} (_ : 0 ≤ pc) : zi_fe 24 pc = zu24_0.lookup pc := zi_feA zq24 pc
theorem f24_0 : zi_fe 24 0 = some ((.iload_n 1), 1, 0, 0, 0, 0, 0) := (zl24_0 (Nat.le_of_ble_eq_true rfl)).trans rfl
theorem f24_1 : zi_fe 24 1 = some ((.invokestatic 23), 3, 138, 5, 7, 1004, 1) := (zl24_0 (Nat.le_of_ble_eq_true rfl)).trans rfl
theorem f24_4 : zi_fe 24 4 = some ((.ifCond .eq 12), 3, 0, 0, 0, 0, 0) := (zl24_0 (Nat.le_of_ble_eq_true rfl)).trans rfl
theorem f24_7 : zi_fe 24 7 = some ((.aload_n 0), 1, 0, 0, 0, 0, 0) := (zl24_0 (Nat.le_of_ble_eq_true rfl)).trans rfl
theorem f24_8 : zi_fe 24 8 = some ((.getfield 9), 3, 2, 0, 3, 399, 0) := (zl24_0 (Nat.le_of_ble_eq_true rfl)).trans rfl
theorem f24_11 : zi_fe 24 11 = some ((.iload_n 1), 1, 0, 0, 0, 0, 0) := (zl24_0 (Nat.le_of_ble_eq_true rfl)).trans rfl
theorem f24_12 : zi_fe 24 12 = some (.iaload, 1, 0, 0, 0, 0, 0) := (zl24_0 (Nat.le_of_ble_eq_true rfl)).trans rfl
theorem f24_13 : zi_fe 24 13 = some ((.ifCond .ge 5), 3, 0, 0, 0, 0, 0) := (zl24_0 (Nat.le_of_ble_eq_true rfl)).trans rfl
theorem f24_16 : zi_fe 24 16 = some ((.iconst 1), 1, 0, 0, 0, 0, 0) := (zl24_0 (Nat.le_of_ble_eq_true rfl)).trans rfl
theorem f24_17 : zi_fe 24 17 = some (.ireturn, 1, 0, 0, 0, 0, 0) := (zl24_0 (Nat.le_of_ble_eq_true rfl)).trans rfl
theorem f24_18 : zi_fe 24 18 = some ((.aload_n 0), 1, 0, 0, 0, 0, 0) := (zl24_0 (Nat.le_of_ble_eq_true rfl)).trans rfl
theorem f24_19 : zi_fe 24 19 = some ((.getfield 15), 3, 2, 1, 3, 401, 0) := (zl24_0 (Nat.le_of_ble_eq_true rfl)).trans rfl
theorem zl24_1 {pc : Nat} (h : 22 ≤ pc) : zi_fe 24 pc = zu24_1.lookup pc := (zl24_0 (Nat.le_trans (Nat.le_of_ble_eq_true rfl) h)).trans (zi_lkA (a := zi_i24_0) (c := 22) rfl h)
theorem f24_22 : zi_fe 24 22 = some ((.iload_n 1), 1, 0, 0, 0, 0, 0) := (zl24_1 (Nat.le_of_ble_eq_true rfl)).trans rfl
theorem f24_23 : zi_fe 24 23 = some (.iaload, 1, 0, 0, 0, 0, 0) := (zl24_1 (Nat.le_of_ble_eq_true rfl)).trans rfl
theorem f24_24 : zi_fe 24 24 = some ((.iload_n 2), 1, 0, 0, 0, 0, 0) := (zl24_1 (Nat.le_of_ble_eq_true rfl)).trans rfl
theorem f24_25 : zi_fe 24 25 = some ((.if_icmp .eq 5), 3, 0, 0, 0, 0, 0) := (zl24_1 (Nat.le_of_ble_eq_true rfl)).trans rfl
theorem f24_28 : zi_fe 24 28 = some ((.iconst 3), 1, 0, 0, 0, 0, 0) := (zl24_1 (Nat.le_of_ble_eq_true rfl)).trans rfl
theorem f24_29 : zi_fe 24 29 = some (.ireturn, 1, 0, 0, 0, 0, 0) := (zl24_1 (Nat.le_of_ble_eq_true rfl)).trans rfl
theorem f24_30 : zi_fe 24 30 = some ((.iload_n 3), 1, 0, 0, 0, 0, 0) := (zl24_1 (Nat.le_of_ble_eq_true rfl)).trans rfl
theorem f24_31 : zi_fe 24 31 = some ((.ifCond .lt 13), 3, 0, 0, 0, 0, 0) := (zl24_1 (Nat.le_of_ble_eq_true rfl)).trans rfl
theorem f24_34 : zi_fe 24 34 = some ((.iload_n 3), 1, 0, 0, 0, 0, 0) := (zl24_1 (Nat.le_of_ble_eq_true rfl)).trans rfl
theorem f24_35 : zi_fe 24 35 = some ((.aload_n 0), 1, 0, 0, 0, 0, 0) := (zl24_1 (Nat.le_of_ble_eq_true rfl)).trans rfl
theorem f24_36 : zi_fe 24 36 = some ((.getfield 9), 3, 2, 0, 3, 399, 0) := (zl24_1 (Nat.le_of_ble_eq_true rfl)).trans rfl
theorem f24_39 : zi_fe 24 39 = some ((.iload_n 1), 1, 0, 0, 0, 0, 0) := (zl24_1 (Nat.le_of_ble_eq_true rfl)).trans rfl
theorem zl24_2 {pc : Nat} (h : 40 ≤ pc) : zi_fe 24 pc = zu24_2.lookup pc := (zl24_1 (Nat.le_trans (Nat.le_of_ble_eq_true rfl) h)).trans (zi_lkA (a := zi_i24_1) (c := 40) rfl h)
theorem f24_40 : zi_fe 24 40 = some (.iaload, 1, 0, 0, 0, 0, 0) := (zl24_2 (Nat.le_of_ble_eq_true rfl)).trans rfl
theorem f24_41 : zi_fe 24 41 = some ((.if_icmp .lt 7), 3, 0, 0, 0, 0, 0) := (zl24_2 (Nat.le_of_ble_eq_true rfl)).trans rfl
theorem f24_44 : zi_fe 24 44 = some ((.iconst 2), 1, 0, 0, 0, 0, 0) := (zl24_2 (Nat.le_of_ble_eq_true rfl)).trans rfl
theorem f24_45 : zi_fe 24 45 = some ((.goto 4), 3, 0, 0, 0, 0, 0) := (zl24_2 (Nat.le_of_ble_eq_true rfl)).trans rfl
theorem f24_48 : zi_fe 24 48 = some ((.iconst 0), 1, 0, 0, 0, 0, 0) := (zl24_2 (Nat.le_of_ble_eq_true rfl)).trans rfl
theorem f24_49 : zi_fe 24 49 = some (.ireturn, 1, 0, 0, 0, 0, 0) := (zl24_2 (Nat.le_of_ble_eq_true rfl)).trans rfl
theorem b24_0 {h : zi_Hp} {a0 : Nat} {x1 : Int32} {x2 : Int32} {x3 : Int32}  : zv 2 24 0 [.ref a0, .int x1, .int x2, .int x3] [] h = (zv 1 138 0 [.int x1] [] h).bind fun r => zv 2 24 4 [.ref a0, .int x1, .int x2, .int x3] (r.1.toList ++ []) r.2 := by
  refine Eq.trans (zv_next f24_0 rfl) ?_
  exact zs_callS f24_1 (by decide) (Nat.le_of_ble_eq_true rfl) (Nat.le_of_ble_eq_true rfl) rfl me_138 (by decide) rfl
theorem b24_4 {h : zi_Hp} {a0 : Nat} {x1 : Int32} {x2 : Int32} {x3 : Int32} {s0 : Int32}  : zv 2 24 4 [.ref a0, .int x1, .int x2, .int x3] [.int s0] h = if s0 = 0 then zv 2 24 16 [.ref a0, .int x1, .int x2, .int x3] [] h else zv 2 24 7 [.ref a0, .int x1, .int x2, .int x3] [] h := by
  exact zs_if f24_4 rfl
theorem b24_7 {h : zi_Hp} {a0 : Nat} {x1 : Int32} {x2 : Int32} {x3 : Int32} (g0 : a0 < zh_n h) (g1 : (zh_k h a0).1 = 2) (g2 : zh_r h a0 0 = .ref (zq (zh_r h a0 0))) (g3 : (zq (zh_r h a0 0)) < zh_n h) (g4 : ¬ (x1 < 0 ∨ (zh_k h (zq (zh_r h a0 0))).2 ≤ x1.toNatClampNeg)) (g5 : (zh_k h (zq (zh_r h a0 0))).1 = 100) : zv 2 24 7 [.ref a0, .int x1, .int x2, .int x3] [] h = if (zh_i h (zq (zh_r h a0 0)) x1.toNatClampNeg) < 0 then zv 2 24 16 [.ref a0, .int x1, .int x2, .int x3] [] h else zv 2 24 18 [.ref a0, .int x1, .int x2, .int x3] [] h := by
  refine Eq.trans (zv_next f24_7 rfl) ?_
  refine Eq.trans (zs_getr f24_8 g0 g1 g2) ?_
  refine Eq.trans (zv_next f24_11 rfl) ?_
  refine Eq.trans (zs_iald f24_12 g3 g5 g4) ?_
  exact zs_if f24_13 rfl
theorem b24_16 {h : zi_Hp} {a0 : Nat} {x1 : Int32} {x2 : Int32} {x3 : Int32}  : zv 2 24 16 [.ref a0, .int x1, .int x2, .int x3] [] h = some (some (.int 1), h) := by
  refine Eq.trans (zs_ic f24_16 ic_1) ?_
  exact zs_ret0 f24_17
theorem b24_18 {h : zi_Hp} {a0 : Nat} {x1 : Int32} {x2 : Int32} {x3 : Int32} (g0 : a0 < zh_n h) (g1 : (zh_k h a0).1 = 2) (g2 : zh_r h a0 1 = .ref (zq (zh_r h a0 1))) (g3 : (zq (zh_r h a0 1)) < zh_n h) (g4 : ¬ (x1 < 0 ∨ (zh_k h (zq (zh_r h a0 1))).2 ≤ x1.toNatClampNeg)) (g5 : (zh_k h (zq (zh_r h a0 1))).1 = 100) : zv 2 24 18 [.ref a0, .int x1, .int x2, .int x3] [] h = if (zh_i h (zq (zh_r h a0 1)) x1.toNatClampNeg) = x2 then zv 2 24 30 [.ref a0, .int x1, .int x2, .int x3] [] h else zv 2 24 28 [.ref a0, .int x1, .int x2, .int x3] [] h := by
  refine Eq.trans (zv_next f24_18 rfl) ?_
  refine Eq.trans (zs_getr f24_19 g0 g1 g2) ?_
  refine Eq.trans (zv_next f24_22 rfl) ?_
  refine Eq.trans (zs_iald f24_23 g3 g5 g4) ?_
  refine Eq.trans (zv_next f24_24 rfl) ?_
  exact zs_icmp f24_25 rfl
theorem b24_28 {h : zi_Hp} {a0 : Nat} {x1 : Int32} {x2 : Int32} {x3 : Int32}  : zv 2 24 28 [.ref a0, .int x1, .int x2, .int x3] [] h = some (some (.int 3), h) := by
  refine Eq.trans (zs_ic f24_28 ic_3) ?_
  exact zs_ret0 f24_29
theorem b24_30 {h : zi_Hp} {a0 : Nat} {x1 : Int32} {x2 : Int32} {x3 : Int32}  : zv 2 24 30 [.ref a0, .int x1, .int x2, .int x3] [] h = if x3 < 0 then zv 2 24 44 [.ref a0, .int x1, .int x2, .int x3] [] h else zv 2 24 34 [.ref a0, .int x1, .int x2, .int x3] [] h := by
  refine Eq.trans (zv_next f24_30 rfl) ?_
  exact zs_if f24_31 rfl
theorem b24_34 {h : zi_Hp} {a0 : Nat} {x1 : Int32} {x2 : Int32} {x3 : Int32} (g0 : a0 < zh_n h) (g1 : (zh_k h a0).1 = 2) (g2 : zh_r h a0 0 = .ref (zq (zh_r h a0 0))) (g3 : (zq (zh_r h a0 0)) < zh_n h) (g4 : ¬ (x1 < 0 ∨ (zh_k h (zq (zh_r h a0 0))).2 ≤ x1.toNatClampNeg)) (g5 : (zh_k h (zq (zh_r h a0 0))).1 = 100) : zv 2 24 34 [.ref a0, .int x1, .int x2, .int x3] [] h = if x3 < (zh_i h (zq (zh_r h a0 0)) x1.toNatClampNeg) then zv 2 24 48 [.ref a0, .int x1, .int x2, .int x3] [] h else zv 2 24 44 [.ref a0, .int x1, .int x2, .int x3] [] h := by
  refine Eq.trans (zv_next f24_34 rfl) ?_
  refine Eq.trans (zv_next f24_35 rfl) ?_
  refine Eq.trans (zs_getr f24_36 g0 g1 g2) ?_
  refine Eq.trans (zv_next f24_39 rfl) ?_
  refine Eq.trans (zs_iald f24_40 g3 g5 g4) ?_
  exact zs_icmp f24_41 rfl
theorem b24_44 {h : zi_Hp} {a0 : Nat} {x1 : Int32} {x2 : Int32} {x3 : Int32}  : zv 2 24 44 [.ref a0, .int x1, .int x2, .int x3] [] h = zv 2 24 49 [.ref a0, .int x1, .int x2, .int x3] [.int 2] h := by
  refine Eq.trans (zs_ic f24_44 ic_2) ?_
  refine Eq.trans (zs_goto (tgt := 49) f24_45 rfl) ?_
  rfl
theorem b24_48 {h : zi_Hp} {a0 : Nat} {x1 : Int32} {x2 : Int32} {x3 : Int32}  : zv 2 24 48 [.ref a0, .int x1, .int x2, .int x3] [] h = zv 2 24 49 [.ref a0, .int x1, .int x2, .int x3] [.int 0] h := by
  refine Eq.trans (zs_ic f24_48 ic_0) ?_
  rfl
theorem b24_49 {h : zi_Hp} {a0 : Nat} {x1 : Int32} {x2 : Int32} {x3 : Int32} {s0 : Int32}  : zv 2 24 49 [.ref a0, .int x1, .int x2, .int x3] [.int s0] h = some (some (.int s0), h) := by
  exact zs_ret0 f24_49
set_option maxRecDepth 20000 in
theorem zq25 : zi_M[25]? = some zi_m25 := rfl
theorem zl25_0 {pc : Nat} (_ : 0 ≤ pc) : zi_fe 25 pc = zu25_0.lookup pc := zi_feA zq25 pc
theorem f25_0 : zi_fe 25 0 = some ((.iload_n 1), 1, 0, 0, 0, 0, 0) := (zl25_0 (Nat.le_of_ble_eq_true rfl)).trans rfl
theorem f25_1 : zi_fe 25 1 = some ((.invokestatic 23), 3, 138, 5, 7, 1004, 1) := (zl25_0 (Nat.le_of_ble_eq_true rfl)).trans rfl
theorem f25_4 : zi_fe 25 4 = some ((.ifCond .eq 24), 3, 0, 0, 0, 0, 0) := (zl25_0 (Nat.le_of_ble_eq_true rfl)).trans rfl
theorem f25_7 : zi_fe 25 7 = some ((.iload_n 2), 1, 0, 0, 0, 0, 0) := (zl25_0 (Nat.le_of_ble_eq_true rfl)).trans rfl
theorem f25_8 : zi_fe 25 8 = some ((.ifCond .lt 20), 3, 0, 0, 0, 0, 0) := (zl25_0 (Nat.le_of_ble_eq_true rfl)).trans rfl
theorem f25_11 : zi_fe 25 11 = some ((.iload_n 2), 1, 0, 0, 0, 0, 0) := (zl25_0 (Nat.le_of_ble_eq_true rfl)).trans rfl
theorem f25_12 : zi_fe 25 12 = some ((.bipush 40), 2, 0, 0, 0, 0, 0) := (zl25_0 (Nat.le_of_ble_eq_true rfl)).trans rfl
theorem f25_14 : zi_fe 25 14 = some ((.if_icmp .ge 14), 3, 0, 0, 0, 0, 0) := (zl25_0 (Nat.le_of_ble_eq_true rfl)).trans rfl
theorem f25_17 : zi_fe 25 17 = some ((.aload_n 0), 1, 0, 0, 0, 0, 0) := (zl25_0 (Nat.le_of_ble_eq_true rfl)).trans rfl
theorem f25_18 : zi_fe 25 18 = some ((.getfield 20), 3, 2, 2, 3, 403, 0) := (zl25_0 (Nat.le_of_ble_eq_true rfl)).trans rfl
theorem f25_21 : zi_fe 25 21 = some ((.iload_n 1), 1, 0, 0, 0, 0, 0) := (zl25_0 (Nat.le_of_ble_eq_true rfl)).trans rfl
theorem f25_22 : zi_fe 25 22 = some (.aaload, 1, 0, 0, 0, 0, 0) := (zl25_0 (Nat.le_of_ble_eq_true rfl)).trans rfl
theorem zl25_1 {pc : Nat} (h : 23 ≤ pc) : zi_fe 25 pc = zu25_1.lookup pc := (zl25_0 (Nat.le_trans (Nat.le_of_ble_eq_true rfl) h)).trans (zi_lkA (a := zi_i25_0) (c := 23) rfl h)
theorem f25_23 : zi_fe 25 23 = some ((.iload_n 2), 1, 0, 0, 0, 0, 0) := (zl25_1 (Nat.le_of_ble_eq_true rfl)).trans rfl
theorem f25_24 : zi_fe 25 24 = some (.iaload, 1, 0, 0, 0, 0, 0) := (zl25_1 (Nat.le_of_ble_eq_true rfl)).trans rfl
theorem f25_25 : zi_fe 25 25 = some ((.goto 5), 3, 0, 0, 0, 0, 0) := (zl25_1 (Nat.le_of_ble_eq_true rfl)).trans rfl
theorem f25_28 : zi_fe 25 28 = some ((.bipush (-4)), 2, 0, 0, 0, 0, 0) := (zl25_1 (Nat.le_of_ble_eq_true rfl)).trans rfl
theorem f25_30 : zi_fe 25 30 = some (.ireturn, 1, 0, 0, 0, 0, 0) := (zl25_1 (Nat.le_of_ble_eq_true rfl)).trans rfl
theorem b25_0 {h : zi_Hp} {a0 : Nat} {x1 : Int32} {x2 : Int32}  : zv 2 25 0 [.ref a0, .int x1, .int x2] [] h = (zv 1 138 0 [.int x1] [] h).bind fun r => zv 2 25 4 [.ref a0, .int x1, .int x2] (r.1.toList ++ []) r.2 := by
  refine Eq.trans (zv_next f25_0 rfl) ?_
  exact zs_callS f25_1 (by decide) (Nat.le_of_ble_eq_true rfl) (Nat.le_of_ble_eq_true rfl) rfl me_138 (by decide) rfl
theorem b25_4 {h : zi_Hp} {a0 : Nat} {x1 : Int32} {x2 : Int32} {s0 : Int32}  : zv 2 25 4 [.ref a0, .int x1, .int x2] [.int s0] h = if s0 = 0 then zv 2 25 28 [.ref a0, .int x1, .int x2] [] h else zv 2 25 7 [.ref a0, .int x1, .int x2] [] h := by
  exact zs_if f25_4 rfl
theorem b25_7 {h : zi_Hp} {a0 : Nat} {x1 : Int32} {x2 : Int32}  : zv 2 25 7 [.ref a0, .int x1, .int x2] [] h = if x2 < 0 then zv 2 25 28 [.ref a0, .int x1, .int x2] [] h else zv 2 25 11 [.ref a0, .int x1, .int x2] [] h := by
  refine Eq.trans (zv_next f25_7 rfl) ?_
  exact zs_if f25_8 rfl
theorem b25_11 {h : zi_Hp} {a0 : Nat} {x1 : Int32} {x2 : Int32}  : zv 2 25 11 [.ref a0, .int x1, .int x2] [] h = if x2 < 40 then zv 2 25 17 [.ref a0, .int x1, .int x2] [] h else zv 2 25 28 [.ref a0, .int x1, .int x2] [] h := by
  refine Eq.trans (zv_next f25_11 rfl) ?_
  refine Eq.trans (zs_bp f25_12 bp_40) ?_
  exact zs_icmp f25_14 rfl
theorem b25_17 {h : zi_Hp} {a0 : Nat} {x1 : Int32} {x2 : Int32} (g0 : a0 < zh_n h) (g1 : (zh_k h a0).1 = 2) (g2 : zh_r h a0 2 = .ref (zq (zh_r h a0 2))) (g3 : (zq (zh_r h a0 2)) < zh_n h) (g4 : ¬ (x1 < 0 ∨ (zh_k h (zq (zh_r h a0 2))).2 ≤ x1.toNatClampNeg)) (g5 : (zh_k h (zq (zh_r h a0 2))).1 = 103 ∨ (zh_k h (zq (zh_r h a0 2))).1 = 104 ∨ (zh_k h (zq (zh_r h a0 2))).1 = 105) (g6 : zh_r h (zq (zh_r h a0 2)) x1.toNatClampNeg = .ref (zq (zh_r h (zq (zh_r h a0 2)) x1.toNatClampNeg))) (g7 : (zq (zh_r h (zq (zh_r h a0 2)) x1.toNatClampNeg)) < zh_n h) (g8 : ¬ (x2 < 0 ∨ (zh_k h (zq (zh_r h (zq (zh_r h a0 2)) x1.toNatClampNeg))).2 ≤ x2.toNatClampNeg)) (g9 : (zh_k h (zq (zh_r h (zq (zh_r h a0 2)) x1.toNatClampNeg))).1 = 100) : zv 2 25 17 [.ref a0, .int x1, .int x2] [] h = zv 2 25 30 [.ref a0, .int x1, .int x2] [.int (zh_i h (zq (zh_r h (zq (zh_r h a0 2)) x1.toNatClampNeg)) x2.toNatClampNeg)] h := by
  refine Eq.trans (zv_next f25_17 rfl) ?_
  refine Eq.trans (zs_getr f25_18 g0 g1 g2) ?_
  refine Eq.trans (zv_next f25_21 rfl) ?_
  refine Eq.trans (zs_aald f25_22 g3 g5 g4 g6) ?_
  refine Eq.trans (zv_next f25_23 rfl) ?_
  refine Eq.trans (zs_iald f25_24 g7 g9 g8) ?_
  refine Eq.trans (zs_goto (tgt := 30) f25_25 rfl) ?_
  rfl
theorem b25_28 {h : zi_Hp} {a0 : Nat} {x1 : Int32} {x2 : Int32}  : zv 2 25 28 [.ref a0, .int x1, .int x2] [] h = zv 2 25 30 [.ref a0, .int x1, .int x2] [.int (-4)] h := by
  refine Eq.trans (zs_bp f25_28 bp_m4) ?_
  rfl
theorem b25_30 {h : zi_Hp} {a0 : Nat} {x1 : Int32} {x2 : Int32} {s0 : Int32}  : zv 2 25 30 [.ref a0, .int x1, .int x2] [.int s0] h = some (some (.int s0), h) := by
  exact zs_ret0 f25_30
set_option maxRecDepth 20000 in
theorem zq26 : zi_M[26]? = some zi_m26 := rfl
theorem zl26_0 {pc : Nat} (_ : 0 ≤ pc) : zi_fe 26 pc = zu26_0.lookup pc := zi_feA zq26 pc
theorem f26_0 : zi_fe 26 0 = some ((.iload_n 1), 1, 0, 0, 0, 0, 0) := (zl26_0 (Nat.le_of_ble_eq_true rfl)).trans rfl
theorem f26_1 : zi_fe 26 1 = some ((.invokestatic 23), 3, 138, 5, 7, 1004, 1) := (zl26_0 (Nat.le_of_ble_eq_true rfl)).trans rfl
theorem f26_4 : zi_fe 26 4 = some ((.ifCond .eq 13), 3, 0, 0, 0, 0, 0) := (zl26_0 (Nat.le_of_ble_eq_true rfl)).trans rfl
theorem f26_7 : zi_fe 26 7 = some ((.iload_n 2), 1, 0, 0, 0, 0, 0) := (zl26_0 (Nat.le_of_ble_eq_true rfl)).trans rfl
theorem f26_8 : zi_fe 26 8 = some ((.ifCond .lt 9), 3, 0, 0, 0, 0, 0) := (zl26_0 (Nat.le_of_ble_eq_true rfl)).trans rfl
theorem f26_11 : zi_fe 26 11 = some ((.iload_n 2), 1, 0, 0, 0, 0, 0) := (zl26_0 (Nat.le_of_ble_eq_true rfl)).trans rfl
theorem f26_12 : zi_fe 26 12 = some ((.bipush 40), 2, 0, 0, 0, 0, 0) := (zl26_0 (Nat.le_of_ble_eq_true rfl)).trans rfl
theorem f26_14 : zi_fe 26 14 = some ((.if_icmp .lt 4), 3, 0, 0, 0, 0, 0) := (zl26_0 (Nat.le_of_ble_eq_true rfl)).trans rfl
theorem f26_17 : zi_fe 26 17 = some (.return_, 1, 0, 0, 0, 0, 0) := (zl26_0 (Nat.le_of_ble_eq_true rfl)).trans rfl
theorem f26_18 : zi_fe 26 18 = some ((.aload_n 0), 1, 0, 0, 0, 0, 0) := (zl26_0 (Nat.le_of_ble_eq_true rfl)).trans rfl
theorem f26_19 : zi_fe 26 19 = some ((.getfield 20), 3, 2, 2, 3, 403, 0) := (zl26_0 (Nat.le_of_ble_eq_true rfl)).trans rfl
theorem f26_22 : zi_fe 26 22 = some ((.iload_n 1), 1, 0, 0, 0, 0, 0) := (zl26_0 (Nat.le_of_ble_eq_true rfl)).trans rfl
theorem zl26_1 {pc : Nat} (h : 23 ≤ pc) : zi_fe 26 pc = zu26_1.lookup pc := (zl26_0 (Nat.le_trans (Nat.le_of_ble_eq_true rfl) h)).trans (zi_lkA (a := zi_i26_0) (c := 23) rfl h)
theorem f26_23 : zi_fe 26 23 = some (.aaload, 1, 0, 0, 0, 0, 0) := (zl26_1 (Nat.le_of_ble_eq_true rfl)).trans rfl
theorem f26_24 : zi_fe 26 24 = some ((.iload_n 2), 1, 0, 0, 0, 0, 0) := (zl26_1 (Nat.le_of_ble_eq_true rfl)).trans rfl
theorem f26_25 : zi_fe 26 25 = some ((.aload_n 0), 1, 0, 0, 0, 0, 0) := (zl26_1 (Nat.le_of_ble_eq_true rfl)).trans rfl
theorem f26_26 : zi_fe 26 26 = some ((.getfield 15), 3, 2, 1, 3, 401, 0) := (zl26_1 (Nat.le_of_ble_eq_true rfl)).trans rfl
theorem f26_29 : zi_fe 26 29 = some ((.iload_n 1), 1, 0, 0, 0, 0, 0) := (zl26_1 (Nat.le_of_ble_eq_true rfl)).trans rfl
theorem f26_30 : zi_fe 26 30 = some (.iaload, 1, 0, 0, 0, 0, 0) := (zl26_1 (Nat.le_of_ble_eq_true rfl)).trans rfl
theorem f26_31 : zi_fe 26 31 = some ((.ifCond .ne 8), 3, 0, 0, 0, 0, 0) := (zl26_1 (Nat.le_of_ble_eq_true rfl)).trans rfl
theorem f26_34 : zi_fe 26 34 = some ((.iload_n 3), 1, 0, 0, 0, 0, 0) := (zl26_1 (Nat.le_of_ble_eq_true rfl)).trans rfl
theorem f26_35 : zi_fe 26 35 = some (.i2b, 1, 0, 0, 0, 0, 0) := (zl26_1 (Nat.le_of_ble_eq_true rfl)).trans rfl
theorem f26_36 : zi_fe 26 36 = some ((.goto 19), 3, 0, 0, 0, 0, 0) := (zl26_1 (Nat.le_of_ble_eq_true rfl)).trans rfl
theorem f26_39 : zi_fe 26 39 = some ((.aload_n 0), 1, 0, 0, 0, 0, 0) := (zl26_1 (Nat.le_of_ble_eq_true rfl)).trans rfl
theorem f26_40 : zi_fe 26 40 = some ((.getfield 15), 3, 2, 1, 3, 401, 0) := (zl26_1 (Nat.le_of_ble_eq_true rfl)).trans rfl
theorem zl26_2 {pc : Nat} (h : 43 ≤ pc) : zi_fe 26 pc = zu26_2.lookup pc := (zl26_1 (Nat.le_trans (Nat.le_of_ble_eq_true rfl) h)).trans (zi_lkA (a := zi_i26_1) (c := 43) rfl h)
theorem f26_43 : zi_fe 26 43 = some ((.iload_n 1), 1, 0, 0, 0, 0, 0) := (zl26_2 (Nat.le_of_ble_eq_true rfl)).trans rfl
theorem f26_44 : zi_fe 26 44 = some (.iaload, 1, 0, 0, 0, 0, 0) := (zl26_2 (Nat.le_of_ble_eq_true rfl)).trans rfl
theorem f26_45 : zi_fe 26 45 = some ((.iconst 1), 1, 0, 0, 0, 0, 0) := (zl26_2 (Nat.le_of_ble_eq_true rfl)).trans rfl
theorem f26_46 : zi_fe 26 46 = some ((.if_icmp .ne 8), 3, 0, 0, 0, 0, 0) := (zl26_2 (Nat.le_of_ble_eq_true rfl)).trans rfl
theorem f26_49 : zi_fe 26 49 = some ((.iload_n 3), 1, 0, 0, 0, 0, 0) := (zl26_2 (Nat.le_of_ble_eq_true rfl)).trans rfl
theorem f26_50 : zi_fe 26 50 = some (.i2s, 1, 0, 0, 0, 0, 0) := (zl26_2 (Nat.le_of_ble_eq_true rfl)).trans rfl
theorem f26_51 : zi_fe 26 51 = some ((.goto 4), 3, 0, 0, 0, 0, 0) := (zl26_2 (Nat.le_of_ble_eq_true rfl)).trans rfl
theorem f26_54 : zi_fe 26 54 = some ((.iload_n 3), 1, 0, 0, 0, 0, 0) := (zl26_2 (Nat.le_of_ble_eq_true rfl)).trans rfl
theorem f26_55 : zi_fe 26 55 = some (.iastore, 1, 0, 0, 0, 0, 0) := (zl26_2 (Nat.le_of_ble_eq_true rfl)).trans rfl
theorem f26_56 : zi_fe 26 56 = some (.return_, 1, 0, 0, 0, 0, 0) := (zl26_2 (Nat.le_of_ble_eq_true rfl)).trans rfl
theorem b26_0 {h : zi_Hp} {a0 : Nat} {x1 : Int32} {x2 : Int32} {x3 : Int32}  : zv 2 26 0 [.ref a0, .int x1, .int x2, .int x3] [] h = (zv 1 138 0 [.int x1] [] h).bind fun r => zv 2 26 4 [.ref a0, .int x1, .int x2, .int x3] (r.1.toList ++ []) r.2 := by
  refine Eq.trans (zv_next f26_0 rfl) ?_
  exact zs_callS f26_1 (by decide) (Nat.le_of_ble_eq_true rfl) (Nat.le_of_ble_eq_true rfl) rfl me_138 (by decide) rfl
theorem b26_4 {h : zi_Hp} {a0 : Nat} {x1 : Int32} {x2 : Int32} {x3 : Int32} {s0 : Int32}  : zv 2 26 4 [.ref a0, .int x1, .int x2, .int x3] [.int s0] h = if s0 = 0 then zv 2 26 17 [.ref a0, .int x1, .int x2, .int x3] [] h else zv 2 26 7 [.ref a0, .int x1, .int x2, .int x3] [] h := by
  exact zs_if f26_4 rfl
theorem b26_7 {h : zi_Hp} {a0 : Nat} {x1 : Int32} {x2 : Int32} {x3 : Int32}  : zv 2 26 7 [.ref a0, .int x1, .int x2, .int x3] [] h = if x2 < 0 then zv 2 26 17 [.ref a0, .int x1, .int x2, .int x3] [] h else zv 2 26 11 [.ref a0, .int x1, .int x2, .int x3] [] h := by
  refine Eq.trans (zv_next f26_7 rfl) ?_
  exact zs_if f26_8 rfl
theorem b26_11 {h : zi_Hp} {a0 : Nat} {x1 : Int32} {x2 : Int32} {x3 : Int32}  : zv 2 26 11 [.ref a0, .int x1, .int x2, .int x3] [] h = if x2 < 40 then zv 2 26 18 [.ref a0, .int x1, .int x2, .int x3] [] h else zv 2 26 17 [.ref a0, .int x1, .int x2, .int x3] [] h := by
  refine Eq.trans (zv_next f26_11 rfl) ?_
  refine Eq.trans (zs_bp f26_12 bp_40) ?_
  exact zs_icmp f26_14 rfl
theorem b26_17 {h : zi_Hp} {a0 : Nat} {x1 : Int32} {x2 : Int32} {x3 : Int32}  : zv 2 26 17 [.ref a0, .int x1, .int x2, .int x3] [] h = some (none, h) := by
  exact zv_ret f26_17 rfl
theorem b26_18 {h : zi_Hp} {a0 : Nat} {x1 : Int32} {x2 : Int32} {x3 : Int32} (g0 : a0 < zh_n h) (g1 : (zh_k h a0).1 = 2) (g2 : zh_r h a0 2 = .ref (zq (zh_r h a0 2))) (g3 : (zq (zh_r h a0 2)) < zh_n h) (g4 : ¬ (x1 < 0 ∨ (zh_k h (zq (zh_r h a0 2))).2 ≤ x1.toNatClampNeg)) (g5 : (zh_k h (zq (zh_r h a0 2))).1 = 103 ∨ (zh_k h (zq (zh_r h a0 2))).1 = 104 ∨ (zh_k h (zq (zh_r h a0 2))).1 = 105) (g6 : zh_r h (zq (zh_r h a0 2)) x1.toNatClampNeg = .ref (zq (zh_r h (zq (zh_r h a0 2)) x1.toNatClampNeg))) (g7 : zh_r h a0 1 = .ref (zq (zh_r h a0 1))) (g8 : (zq (zh_r h a0 1)) < zh_n h) (g9 : ¬ (x1 < 0 ∨ (zh_k h (zq (zh_r h a0 1))).2 ≤ x1.toNatClampNeg)) (g10 : (zh_k h (zq (zh_r h a0 1))).1 = 100) : zv 2 26 18 [.ref a0, .int x1, .int x2, .int x3] [] h = if (zh_i h (zq (zh_r h a0 1)) x1.toNatClampNeg) = 0 then zv 2 26 34 [.ref a0, .int x1, .int x2, .int x3] [.int x2, .ref (zq (zh_r h (zq (zh_r h a0 2)) x1.toNatClampNeg))] h else zv 2 26 39 [.ref a0, .int x1, .int x2, .int x3] [.int x2, .ref (zq (zh_r h (zq (zh_r h a0 2)) x1.toNatClampNeg))] h := by
  refine Eq.trans (zv_next f26_18 rfl) ?_
  refine Eq.trans (zs_getr f26_19 g0 g1 g2) ?_
  refine Eq.trans (zv_next f26_22 rfl) ?_
  refine Eq.trans (zs_aald f26_23 g3 g5 g4 g6) ?_
  refine Eq.trans (zv_next f26_24 rfl) ?_
  refine Eq.trans (zv_next f26_25 rfl) ?_
  refine Eq.trans (zs_getr f26_26 g0 g1 g7) ?_
  refine Eq.trans (zv_next f26_29 rfl) ?_
  refine Eq.trans (zs_iald f26_30 g8 g10 g9) ?_
  exact zs_if f26_31 rfl
theorem b26_34 {h : zi_Hp} {a0 : Nat} {x1 : Int32} {x2 : Int32} {x3 : Int32} {t0 : Nat} {s1 : Int32}  : zv 2 26 34 [.ref a0, .int x1, .int x2, .int x3] [.int s1, .ref t0] h = zv 2 26 55 [.ref a0, .int x1, .int x2, .int x3] [.int ((x3).toInt8.toInt32), .int s1, .ref t0] h := by
  refine Eq.trans (zv_next f26_34 rfl) ?_
  refine Eq.trans (zv_next f26_35 rfl) ?_
  refine Eq.trans (zs_goto (tgt := 55) f26_36 rfl) ?_
  rfl
theorem b26_39 {h : zi_Hp} {a0 : Nat} {x1 : Int32} {x2 : Int32} {x3 : Int32} {t0 : Nat} {s1 : Int32} (g0 : a0 < zh_n h) (g1 : (zh_k h a0).1 = 2) (g2 : zh_r h a0 1 = .ref (zq (zh_r h a0 1))) (g3 : (zq (zh_r h a0 1)) < zh_n h) (g4 : ¬ (x1 < 0 ∨ (zh_k h (zq (zh_r h a0 1))).2 ≤ x1.toNatClampNeg)) (g5 : (zh_k h (zq (zh_r h a0 1))).1 = 100) : zv 2 26 39 [.ref a0, .int x1, .int x2, .int x3] [.int s1, .ref t0] h = if (zh_i h (zq (zh_r h a0 1)) x1.toNatClampNeg) = 1 then zv 2 26 49 [.ref a0, .int x1, .int x2, .int x3] [.int s1, .ref t0] h else zv 2 26 54 [.ref a0, .int x1, .int x2, .int x3] [.int s1, .ref t0] h := by
  refine Eq.trans (zv_next f26_39 rfl) ?_
  refine Eq.trans (zs_getr f26_40 g0 g1 g2) ?_
  refine Eq.trans (zv_next f26_43 rfl) ?_
  refine Eq.trans (zs_iald f26_44 g3 g5 g4) ?_
  refine Eq.trans (zs_ic f26_45 ic_1) ?_
  exact zs_icmp f26_46 rfl
theorem b26_49 {h : zi_Hp} {a0 : Nat} {x1 : Int32} {x2 : Int32} {x3 : Int32} {t0 : Nat} {s1 : Int32}  : zv 2 26 49 [.ref a0, .int x1, .int x2, .int x3] [.int s1, .ref t0] h = zv 2 26 55 [.ref a0, .int x1, .int x2, .int x3] [.int ((x3).toInt16.toInt32), .int s1, .ref t0] h := by
  refine Eq.trans (zv_next f26_49 rfl) ?_
  refine Eq.trans (zv_next f26_50 rfl) ?_
  refine Eq.trans (zs_goto (tgt := 55) f26_51 rfl) ?_
  rfl
theorem b26_54 {h : zi_Hp} {a0 : Nat} {x1 : Int32} {x2 : Int32} {x3 : Int32} {t0 : Nat} {s1 : Int32}  : zv 2 26 54 [.ref a0, .int x1, .int x2, .int x3] [.int s1, .ref t0] h = zv 2 26 55 [.ref a0, .int x1, .int x2, .int x3] [.int x3, .int s1, .ref t0] h := by
  refine Eq.trans (zv_next f26_54 rfl) ?_
  rfl
theorem b26_55 {h : zi_Hp} {a0 : Nat} {x1 : Int32} {x2 : Int32} {x3 : Int32} {t0 : Nat} {s1 : Int32} {s2 : Int32} (g0 : t0 < zh_n h) (g1 : ¬ (s1 < 0 ∨ (zh_k h t0).2 ≤ s1.toNatClampNeg)) (g2 : (zh_k h t0).1 = 100) : zv 2 26 55 [.ref a0, .int x1, .int x2, .int x3] [.int s2, .int s1, .ref t0] h = some (none, zh_wi h t0 s1.toNatClampNeg s2) := by
  refine Eq.trans (zs_iast f26_55 g0 g2 g1) ?_
  exact zv_ret f26_56 rfl
set_option maxRecDepth 20000 in
theorem zq27 : zi_M[27]? = some zi_m27 := rfl
theorem zl27_0 {pc : Nat} (_ : 0 ≤ pc) : zi_fe 27 pc = zu27_0.lookup pc := zi_feA zq27 pc
theorem f27_0 : zi_fe 27 0 = some ((.aload_n 0), 1, 0, 0, 0, 0, 0) := (zl27_0 (Nat.le_of_ble_eq_true rfl)).trans rfl
theorem f27_1 : zi_fe 27 1 = some ((.invokespecial 3), 3, 0, 3, 0, 325, 1) := (zl27_0 (Nat.le_of_ble_eq_true rfl)).trans rfl
theorem f27_4 : zi_fe 27 4 = some ((.aload_n 0), 1, 0, 0, 0, 0, 0) := (zl27_0 (Nat.le_of_ble_eq_true rfl)).trans rfl
theorem f27_5 : zi_fe 27 5 = some ((.sipush 160), 3, 0, 0, 0, 0, 0) := (zl27_0 (Nat.le_of_ble_eq_true rfl)).trans rfl
theorem f27_8 : zi_fe 27 8 = some ((.newarray .int), 2, 100, 0, 0, 183, 0) := (zl27_0 (Nat.le_of_ble_eq_true rfl)).trans rfl
theorem f27_10 : zi_fe 27 10 = some ((.putfield 9), 3, 3, 0, 3, 326, 0) := (zl27_0 (Nat.le_of_ble_eq_true rfl)).trans rfl
theorem f27_13 : zi_fe 27 13 = some ((.aload_n 0), 1, 0, 0, 0, 0, 0) := (zl27_0 (Nat.le_of_ble_eq_true rfl)).trans rfl
theorem f27_14 : zi_fe 27 14 = some ((.iconst 0), 1, 0, 0, 0, 0, 0) := (zl27_0 (Nat.le_of_ble_eq_true rfl)).trans rfl
theorem f27_15 : zi_fe 27 15 = some ((.putfield 15), 3, 3, 1, 0, 327, 0) := (zl27_0 (Nat.le_of_ble_eq_true rfl)).trans rfl
theorem f27_18 : zi_fe 27 18 = some (.return_, 1, 0, 0, 0, 0, 0) := (zl27_0 (Nat.le_of_ble_eq_true rfl)).trans rfl
theorem b27_0 {h : zi_Hp} {a0 : Nat}  : zv 1 27 0 [.ref a0] [] h = zv 1 27 10 [.ref a0] [.ref (zh_n h), .ref a0] (zh_al h 100 160) := by
  refine Eq.trans (zv_next f27_0 rfl) ?_
  refine Eq.trans (zs_objI f27_1 (Nat.le_of_ble_eq_true rfl)) ?_
  refine Eq.trans (zv_next f27_4 rfl) ?_
  refine Eq.trans (zs_sp f27_5 sp_160) ?_
  refine Eq.trans (zs_newa (N := 160) f27_8 (by decide)) ?_
  rfl
theorem b27_10 {h : zi_Hp} {a0 : Nat} {t0 : Nat} {t1 : Nat} (g0 : t0 < zh_n h) (g1 : (zh_k h t0).1 = 3) (g2 : a0 < zh_n h) (g3 : (zh_k h a0).1 = 3) : zv 1 27 10 [.ref a0] [.ref t1, .ref t0] h = some (none, zh_wi (zh_wr h t0 0 (.ref t1)) a0 1 0) := by
  refine Eq.trans (zs_put f27_10 g0 g1 rfl) ?_
  refine Eq.trans (zv_next f27_13 rfl) ?_
  refine Eq.trans (zs_ic f27_14 ic_0) ?_
  refine Eq.trans (zs_put f27_15 g2 g3 rfl) ?_
  exact zv_ret f27_18 rfl
set_option maxRecDepth 20000 in
theorem zq28 : zi_M[28]? = some zi_m28 := rfl
theorem zl28_0 {pc : Nat} (_ : 0 ≤ pc) : zi_fe 28 pc = zu28_0.lookup pc := zi_feA zq28 pc
theorem f28_0 : zi_fe 28 0 = some ((.aload_n 0), 1, 0, 0, 0, 0, 0) := (zl28_0 (Nat.le_of_ble_eq_true rfl)).trans rfl
theorem f28_1 : zi_fe 28 1 = some ((.getfield 15), 3, 3, 1, 0, 327, 0) := (zl28_0 (Nat.le_of_ble_eq_true rfl)).trans rfl
theorem f28_4 : zi_fe 28 4 = some ((.ifCond .lt 13), 3, 0, 0, 0, 0, 0) := (zl28_0 (Nat.le_of_ble_eq_true rfl)).trans rfl
theorem f28_7 : zi_fe 28 7 = some ((.aload_n 0), 1, 0, 0, 0, 0, 0) := (zl28_0 (Nat.le_of_ble_eq_true rfl)).trans rfl
theorem f28_8 : zi_fe 28 8 = some ((.getfield 15), 3, 3, 1, 0, 327, 0) := (zl28_0 (Nat.le_of_ble_eq_true rfl)).trans rfl
theorem f28_11 : zi_fe 28 11 = some ((.sipush 160), 3, 0, 0, 0, 0, 0) := (zl28_0 (Nat.le_of_ble_eq_true rfl)).trans rfl
theorem f28_14 : zi_fe 28 14 = some ((.if_icmp .lt 5), 3, 0, 0, 0, 0, 0) := (zl28_0 (Nat.le_of_ble_eq_true rfl)).trans rfl
theorem f28_17 : zi_fe 28 17 = some ((.iconst 0), 1, 0, 0, 0, 0, 0) := (zl28_0 (Nat.le_of_ble_eq_true rfl)).trans rfl
theorem f28_18 : zi_fe 28 18 = some (.ireturn, 1, 1, 0, 0, 0, 0) := (zl28_0 (Nat.le_of_ble_eq_true rfl)).trans rfl
theorem f28_19 : zi_fe 28 19 = some ((.aload_n 0), 1, 0, 0, 0, 0, 0) := (zl28_0 (Nat.le_of_ble_eq_true rfl)).trans rfl
theorem f28_20 : zi_fe 28 20 = some ((.getfield 9), 3, 3, 0, 3, 326, 0) := (zl28_0 (Nat.le_of_ble_eq_true rfl)).trans rfl
theorem f28_23 : zi_fe 28 23 = some ((.aload_n 0), 1, 0, 0, 0, 0, 0) := (zl28_0 (Nat.le_of_ble_eq_true rfl)).trans rfl
theorem zl28_1 {pc : Nat} (h : 24 ≤ pc) : zi_fe 28 pc = zu28_1.lookup pc := (zl28_0 (Nat.le_trans (Nat.le_of_ble_eq_true rfl) h)).trans (zi_lkA (a := zi_i28_0) (c := 24) rfl h)
theorem f28_24 : zi_fe 28 24 = some ((.getfield 15), 3, 3, 1, 0, 327, 0) := (zl28_1 (Nat.le_of_ble_eq_true rfl)).trans rfl
theorem f28_27 : zi_fe 28 27 = some ((.iload_n 1), 1, 0, 0, 0, 0, 0) := (zl28_1 (Nat.le_of_ble_eq_true rfl)).trans rfl
theorem f28_28 : zi_fe 28 28 = some (.iastore, 1, 0, 0, 0, 0, 0) := (zl28_1 (Nat.le_of_ble_eq_true rfl)).trans rfl
theorem f28_29 : zi_fe 28 29 = some ((.aload_n 0), 1, 0, 0, 0, 0, 0) := (zl28_1 (Nat.le_of_ble_eq_true rfl)).trans rfl
theorem f28_30 : zi_fe 28 30 = some (.dup, 1, 0, 0, 0, 0, 0) := (zl28_1 (Nat.le_of_ble_eq_true rfl)).trans rfl
theorem f28_31 : zi_fe 28 31 = some ((.getfield 15), 3, 3, 1, 0, 327, 0) := (zl28_1 (Nat.le_of_ble_eq_true rfl)).trans rfl
theorem f28_34 : zi_fe 28 34 = some ((.iconst 1), 1, 0, 0, 0, 0, 0) := (zl28_1 (Nat.le_of_ble_eq_true rfl)).trans rfl
theorem f28_35 : zi_fe 28 35 = some (.iadd, 1, 0, 0, 0, 0, 0) := (zl28_1 (Nat.le_of_ble_eq_true rfl)).trans rfl
theorem f28_36 : zi_fe 28 36 = some ((.putfield 15), 3, 3, 1, 0, 327, 0) := (zl28_1 (Nat.le_of_ble_eq_true rfl)).trans rfl
theorem f28_39 : zi_fe 28 39 = some ((.iconst 1), 1, 0, 0, 0, 0, 0) := (zl28_1 (Nat.le_of_ble_eq_true rfl)).trans rfl
theorem f28_40 : zi_fe 28 40 = some (.ireturn, 1, 1, 0, 0, 0, 0) := (zl28_1 (Nat.le_of_ble_eq_true rfl)).trans rfl
theorem b28_0 {h : zi_Hp} {a0 : Nat} {x1 : Int32} (g0 : a0 < zh_n h) (g1 : (zh_k h a0).1 = 3) : zv 1 28 0 [.ref a0, .int x1] [] h = if (zh_i h a0 1) < 0 then zv 1 28 17 [.ref a0, .int x1] [] h else zv 1 28 7 [.ref a0, .int x1] [] h := by
  refine Eq.trans (zv_next f28_0 rfl) ?_
  refine Eq.trans (zs_geti f28_1 g0 g1) ?_
  exact zs_if f28_4 rfl
theorem b28_7 {h : zi_Hp} {a0 : Nat} {x1 : Int32} (g0 : a0 < zh_n h) (g1 : (zh_k h a0).1 = 3) : zv 1 28 7 [.ref a0, .int x1] [] h = if (zh_i h a0 1) < 160 then zv 1 28 19 [.ref a0, .int x1] [] h else zv 1 28 17 [.ref a0, .int x1] [] h := by
  refine Eq.trans (zv_next f28_7 rfl) ?_
  refine Eq.trans (zs_geti f28_8 g0 g1) ?_
  refine Eq.trans (zs_sp f28_11 sp_160) ?_
  exact zs_icmp f28_14 rfl
theorem b28_17 {h : zi_Hp} {a0 : Nat} {x1 : Int32}  : zv 1 28 17 [.ref a0, .int x1] [] h = some (some (.int 0), h) := by
  refine Eq.trans (zs_ic f28_17 ic_0) ?_
  exact zs_ret1 f28_18 (by decide)
theorem b28_19 {h : zi_Hp} {a0 : Nat} {x1 : Int32} (g0 : a0 < zh_n h) (g1 : (zh_k h a0).1 = 3) (g2 : zh_r h a0 0 = .ref (zq (zh_r h a0 0))) (g3 : (zq (zh_r h a0 0)) < zh_n h) (g4 : ¬ ((zh_i h a0 1) < 0 ∨ (zh_k h (zq (zh_r h a0 0))).2 ≤ (zh_i h a0 1).toNatClampNeg)) (g5 : (zh_k h (zq (zh_r h a0 0))).1 = 100) : zv 1 28 19 [.ref a0, .int x1] [] h = zv 1 28 31 [.ref a0, .int x1] [.ref a0, .ref a0] (zh_wi h (zq (zh_r h a0 0)) (zh_i h a0 1).toNatClampNeg x1) := by
  refine Eq.trans (zv_next f28_19 rfl) ?_
  refine Eq.trans (zs_getr f28_20 g0 g1 g2) ?_
  refine Eq.trans (zv_next f28_23 rfl) ?_
  refine Eq.trans (zs_geti f28_24 g0 g1) ?_
  refine Eq.trans (zv_next f28_27 rfl) ?_
  refine Eq.trans (zs_iast f28_28 g3 g5 g4) ?_
  refine Eq.trans (zv_next f28_29 rfl) ?_
  refine Eq.trans (zv_next f28_30 rfl) ?_
  rfl
theorem b28_31 {h : zi_Hp} {a0 : Nat} {x1 : Int32} {t0 : Nat} {t1 : Nat} (g0 : t1 < zh_n h) (g1 : (zh_k h t1).1 = 3) (g2 : t0 < zh_n h) (g3 : (zh_k h t0).1 = 3) : zv 1 28 31 [.ref a0, .int x1] [.ref t1, .ref t0] h = some (some (.int 1), zh_wi h t0 1 ((zh_i h t1 1) + 1)) := by
  refine Eq.trans (zs_geti f28_31 g0 g1) ?_
  refine Eq.trans (zs_ic f28_34 ic_1) ?_
  refine Eq.trans (zv_next f28_35 rfl) ?_
  refine Eq.trans (zs_put f28_36 g2 g3 rfl) ?_
  refine Eq.trans (zs_ic f28_39 ic_1) ?_
  exact zs_ret1 f28_40 (by decide)
set_option maxRecDepth 20000 in
theorem zq29 : zi_M[29]? = some zi_m29 := rfl
theorem zl29_0 {pc : Nat} (_ : 0 ≤ pc) : zi_fe 29 pc = zu29_0.lookup pc := zi_feA zq29 pc
theorem f29_0 : zi_fe 29 0 = some ((.aload_n 0), 1, 0, 0, 0, 0, 0) := (zl29_0 (Nat.le_of_ble_eq_true rfl)).trans rfl
theorem f29_1 : zi_fe 29 1 = some ((.iconst 0), 1, 0, 0, 0, 0, 0) := (zl29_0 (Nat.le_of_ble_eq_true rfl)).trans rfl
theorem f29_2 : zi_fe 29 2 = some ((.putfield 19), 3, 3, 5, 0, 335, 0) := (zl29_0 (Nat.le_of_ble_eq_true rfl)).trans rfl
theorem f29_5 : zi_fe 29 5 = some (.return_, 1, 0, 0, 0, 0, 0) := (zl29_0 (Nat.le_of_ble_eq_true rfl)).trans rfl
theorem b29_0 {h : zi_Hp} {a0 : Nat} (g0 : a0 < zh_n h) (g1 : (zh_k h a0).1 = 3) : zv 1 29 0 [.ref a0] [] h = some (none, zh_wi h a0 5 0) := by
  refine Eq.trans (zv_next f29_0 rfl) ?_
  refine Eq.trans (zs_ic f29_1 ic_0) ?_
  refine Eq.trans (zs_put f29_2 g0 g1 rfl) ?_
  exact zv_ret f29_5 rfl
set_option maxRecDepth 20000 in
theorem zq30 : zi_M[30]? = some zi_m30 := rfl
theorem zl30_0 {pc : Nat} (_ : 0 ≤ pc) : zi_fe 30 pc = zu30_0.lookup pc := zi_feA zq30 pc
theorem f30_0 : zi_fe 30 0 = some ((.aload_n 0), 1, 0, 0, 0, 0, 0) := (zl30_0 (Nat.le_of_ble_eq_true rfl)).trans rfl
theorem f30_1 : zi_fe 30 1 = some ((.getfield 19), 3, 3, 5, 0, 335, 0) := (zl30_0 (Nat.le_of_ble_eq_true rfl)).trans rfl
theorem f30_4 : zi_fe 30 4 = some ((.aload_n 0), 1, 0, 0, 0, 0, 0) := (zl30_0 (Nat.le_of_ble_eq_true rfl)).trans rfl
theorem f30_5 : zi_fe 30 5 = some ((.getfield 15), 3, 3, 1, 0, 327, 0) := (zl30_0 (Nat.le_of_ble_eq_true rfl)).trans rfl
theorem f30_8 : zi_fe 30 8 = some ((.if_icmp .ge 29), 3, 0, 0, 0, 0, 0) := (zl30_0 (Nat.le_of_ble_eq_true rfl)).trans rfl
theorem f30_11 : zi_fe 30 11 = some ((.aload_n 0), 1, 0, 0, 0, 0, 0) := (zl30_0 (Nat.le_of_ble_eq_true rfl)).trans rfl
theorem f30_12 : zi_fe 30 12 = some ((.aload_n 0), 1, 0, 0, 0, 0, 0) := (zl30_0 (Nat.le_of_ble_eq_true rfl)).trans rfl
theorem f30_13 : zi_fe 30 13 = some ((.getfield 19), 3, 3, 5, 0, 335, 0) := (zl30_0 (Nat.le_of_ble_eq_true rfl)).trans rfl
theorem f30_16 : zi_fe 30 16 = some ((.invokevirtual 22), 3, 33, 0, 3, 468, 2) := (zl30_0 (Nat.le_of_ble_eq_true rfl)).trans rfl
theorem f30_19 : zi_fe 30 19 = some ((.bipush 32), 2, 0, 0, 0, 0, 0) := (zl30_0 (Nat.le_of_ble_eq_true rfl)).trans rfl
theorem f30_21 : zi_fe 30 21 = some ((.if_icmp .ne 16), 3, 0, 0, 0, 0, 0) := (zl30_0 (Nat.le_of_ble_eq_true rfl)).trans rfl
theorem f30_24 : zi_fe 30 24 = some ((.aload_n 0), 1, 0, 0, 0, 0, 0) := (zl30_0 (Nat.le_of_ble_eq_true rfl)).trans rfl
theorem zl30_1 {pc : Nat} (h : 25 ≤ pc) : zi_fe 30 pc = zu30_1.lookup pc := (zl30_0 (Nat.le_trans (Nat.le_of_ble_eq_true rfl) h)).trans (zi_lkA (a := zi_i30_0) (c := 25) rfl h)
theorem f30_25 : zi_fe 30 25 = some (.dup, 1, 0, 0, 0, 0, 0) := (zl30_1 (Nat.le_of_ble_eq_true rfl)).trans rfl
theorem f30_26 : zi_fe 30 26 = some ((.getfield 19), 3, 3, 5, 0, 335, 0) := (zl30_1 (Nat.le_of_ble_eq_true rfl)).trans rfl
theorem f30_29 : zi_fe 30 29 = some ((.iconst 1), 1, 0, 0, 0, 0, 0) := (zl30_1 (Nat.le_of_ble_eq_true rfl)).trans rfl
theorem f30_30 : zi_fe 30 30 = some (.iadd, 1, 0, 0, 0, 0, 0) := (zl30_1 (Nat.le_of_ble_eq_true rfl)).trans rfl
theorem f30_31 : zi_fe 30 31 = some ((.putfield 19), 3, 3, 5, 0, 335, 0) := (zl30_1 (Nat.le_of_ble_eq_true rfl)).trans rfl
theorem f30_34 : zi_fe 30 34 = some ((.goto (-34)), 3, 0, 0, 0, 0, 0) := (zl30_1 (Nat.le_of_ble_eq_true rfl)).trans rfl
theorem f30_37 : zi_fe 30 37 = some ((.aload_n 0), 1, 0, 0, 0, 0, 0) := (zl30_1 (Nat.le_of_ble_eq_true rfl)).trans rfl
theorem f30_38 : zi_fe 30 38 = some ((.aload_n 0), 1, 0, 0, 0, 0, 0) := (zl30_1 (Nat.le_of_ble_eq_true rfl)).trans rfl
theorem f30_39 : zi_fe 30 39 = some ((.getfield 19), 3, 3, 5, 0, 335, 0) := (zl30_1 (Nat.le_of_ble_eq_true rfl)).trans rfl
theorem f30_42 : zi_fe 30 42 = some ((.putfield 26), 3, 3, 3, 0, 331, 0) := (zl30_1 (Nat.le_of_ble_eq_true rfl)).trans rfl
theorem f30_45 : zi_fe 30 45 = some ((.aload_n 0), 1, 0, 0, 0, 0, 0) := (zl30_1 (Nat.le_of_ble_eq_true rfl)).trans rfl
theorem f30_46 : zi_fe 30 46 = some ((.aload_n 0), 1, 0, 0, 0, 0, 0) := (zl30_1 (Nat.le_of_ble_eq_true rfl)).trans rfl
theorem zl30_2 {pc : Nat} (h : 47 ≤ pc) : zi_fe 30 pc = zu30_2.lookup pc := (zl30_1 (Nat.le_trans (Nat.le_of_ble_eq_true rfl) h)).trans (zi_lkA (a := zi_i30_1) (c := 47) rfl h)
theorem f30_47 : zi_fe 30 47 = some ((.getfield 26), 3, 3, 3, 0, 331, 0) := (zl30_2 (Nat.le_of_ble_eq_true rfl)).trans rfl
theorem f30_50 : zi_fe 30 50 = some ((.invokevirtual 22), 3, 33, 0, 3, 468, 2) := (zl30_2 (Nat.le_of_ble_eq_true rfl)).trans rfl
theorem f30_53 : zi_fe 30 53 = some ((.istore_n 1), 1, 0, 0, 0, 0, 0) := (zl30_2 (Nat.le_of_ble_eq_true rfl)).trans rfl
theorem f30_54 : zi_fe 30 54 = some ((.aload_n 0), 1, 0, 0, 0, 0, 0) := (zl30_2 (Nat.le_of_ble_eq_true rfl)).trans rfl
theorem f30_55 : zi_fe 30 55 = some ((.getfield 26), 3, 3, 3, 0, 331, 0) := (zl30_2 (Nat.le_of_ble_eq_true rfl)).trans rfl
theorem f30_58 : zi_fe 30 58 = some ((.aload_n 0), 1, 0, 0, 0, 0, 0) := (zl30_2 (Nat.le_of_ble_eq_true rfl)).trans rfl
theorem f30_59 : zi_fe 30 59 = some ((.getfield 15), 3, 3, 1, 0, 327, 0) := (zl30_2 (Nat.le_of_ble_eq_true rfl)).trans rfl
theorem f30_62 : zi_fe 30 62 = some ((.if_icmp .lt 11), 3, 0, 0, 0, 0, 0) := (zl30_2 (Nat.le_of_ble_eq_true rfl)).trans rfl
theorem f30_65 : zi_fe 30 65 = some ((.aload_n 0), 1, 0, 0, 0, 0, 0) := (zl30_2 (Nat.le_of_ble_eq_true rfl)).trans rfl
theorem f30_66 : zi_fe 30 66 = some ((.iconst 1), 1, 0, 0, 0, 0, 0) := (zl30_2 (Nat.le_of_ble_eq_true rfl)).trans rfl
theorem f30_67 : zi_fe 30 67 = some ((.putfield 29), 3, 3, 2, 0, 330, 0) := (zl30_2 (Nat.le_of_ble_eq_true rfl)).trans rfl
theorem f30_70 : zi_fe 30 70 = some ((.goto 92), 3, 0, 0, 0, 0, 0) := (zl30_2 (Nat.le_of_ble_eq_true rfl)).trans rfl
theorem zl30_3 {pc : Nat} (h : 73 ≤ pc) : zi_fe 30 pc = zu30_3.lookup pc := (zl30_2 (Nat.le_trans (Nat.le_of_ble_eq_true rfl) h)).trans (zi_lkA (a := zi_i30_2) (c := 73) rfl h)
theorem f30_73 : zi_fe 30 73 = some ((.iload_n 1), 1, 0, 0, 0, 0, 0) := (zl30_3 (Nat.le_of_ble_eq_true rfl)).trans rfl
theorem f30_74 : zi_fe 30 74 = some ((.invokestatic 32), 3, 34, 1, 3, 472, 1) := (zl30_3 (Nat.le_of_ble_eq_true rfl)).trans rfl
theorem f30_77 : zi_fe 30 77 = some ((.ifCond .eq 46), 3, 0, 0, 0, 0, 0) := (zl30_3 (Nat.le_of_ble_eq_true rfl)).trans rfl
theorem f30_80 : zi_fe 30 80 = some ((.aload_n 0), 1, 0, 0, 0, 0, 0) := (zl30_3 (Nat.le_of_ble_eq_true rfl)).trans rfl
theorem f30_81 : zi_fe 30 81 = some ((.iconst 2), 1, 0, 0, 0, 0, 0) := (zl30_3 (Nat.le_of_ble_eq_true rfl)).trans rfl
theorem f30_82 : zi_fe 30 82 = some ((.putfield 29), 3, 3, 2, 0, 330, 0) := (zl30_3 (Nat.le_of_ble_eq_true rfl)).trans rfl
theorem f30_85 : zi_fe 30 85 = some ((.aload_n 0), 1, 0, 0, 0, 0, 0) := (zl30_3 (Nat.le_of_ble_eq_true rfl)).trans rfl
theorem f30_86 : zi_fe 30 86 = some ((.getfield 19), 3, 3, 5, 0, 335, 0) := (zl30_3 (Nat.le_of_ble_eq_true rfl)).trans rfl
theorem f30_89 : zi_fe 30 89 = some ((.aload_n 0), 1, 0, 0, 0, 0, 0) := (zl30_3 (Nat.le_of_ble_eq_true rfl)).trans rfl
theorem f30_90 : zi_fe 30 90 = some ((.getfield 15), 3, 3, 1, 0, 327, 0) := (zl30_3 (Nat.le_of_ble_eq_true rfl)).trans rfl
theorem f30_93 : zi_fe 30 93 = some ((.if_icmp .ge 69), 3, 0, 0, 0, 0, 0) := (zl30_3 (Nat.le_of_ble_eq_true rfl)).trans rfl
theorem f30_96 : zi_fe 30 96 = some ((.aload_n 0), 1, 0, 0, 0, 0, 0) := (zl30_3 (Nat.le_of_ble_eq_true rfl)).trans rfl
theorem zl30_4 {pc : Nat} (h : 97 ≤ pc) : zi_fe 30 pc = zu30_4.lookup pc := (zl30_3 (Nat.le_trans (Nat.le_of_ble_eq_true rfl) h)).trans (zi_lkA (a := zi_i30_3) (c := 97) rfl h)
theorem f30_97 : zi_fe 30 97 = some ((.aload_n 0), 1, 0, 0, 0, 0, 0) := (zl30_4 (Nat.le_of_ble_eq_true rfl)).trans rfl
theorem f30_98 : zi_fe 30 98 = some ((.getfield 19), 3, 3, 5, 0, 335, 0) := (zl30_4 (Nat.le_of_ble_eq_true rfl)).trans rfl
theorem f30_101 : zi_fe 30 101 = some ((.invokevirtual 22), 3, 33, 0, 3, 468, 2) := (zl30_4 (Nat.le_of_ble_eq_true rfl)).trans rfl
theorem f30_104 : zi_fe 30 104 = some ((.invokestatic 32), 3, 34, 1, 3, 472, 1) := (zl30_4 (Nat.le_of_ble_eq_true rfl)).trans rfl
theorem f30_107 : zi_fe 30 107 = some ((.ifCond .eq 55), 3, 0, 0, 0, 0, 0) := (zl30_4 (Nat.le_of_ble_eq_true rfl)).trans rfl
theorem f30_110 : zi_fe 30 110 = some ((.aload_n 0), 1, 0, 0, 0, 0, 0) := (zl30_4 (Nat.le_of_ble_eq_true rfl)).trans rfl
theorem f30_111 : zi_fe 30 111 = some (.dup, 1, 0, 0, 0, 0, 0) := (zl30_4 (Nat.le_of_ble_eq_true rfl)).trans rfl
theorem f30_112 : zi_fe 30 112 = some ((.getfield 19), 3, 3, 5, 0, 335, 0) := (zl30_4 (Nat.le_of_ble_eq_true rfl)).trans rfl
theorem f30_115 : zi_fe 30 115 = some ((.iconst 1), 1, 0, 0, 0, 0, 0) := (zl30_4 (Nat.le_of_ble_eq_true rfl)).trans rfl
theorem f30_116 : zi_fe 30 116 = some (.iadd, 1, 0, 0, 0, 0, 0) := (zl30_4 (Nat.le_of_ble_eq_true rfl)).trans rfl
theorem f30_117 : zi_fe 30 117 = some ((.putfield 19), 3, 3, 5, 0, 335, 0) := (zl30_4 (Nat.le_of_ble_eq_true rfl)).trans rfl
theorem f30_120 : zi_fe 30 120 = some ((.goto (-35)), 3, 0, 0, 0, 0, 0) := (zl30_4 (Nat.le_of_ble_eq_true rfl)).trans rfl
theorem zl30_5 {pc : Nat} (h : 123 ≤ pc) : zi_fe 30 pc = zu30_5.lookup pc := (zl30_4 (Nat.le_trans (Nat.le_of_ble_eq_true rfl) h)).trans (zi_lkA (a := zi_i30_4) (c := 123) rfl h)
theorem f30_123 : zi_fe 30 123 = some ((.iload_n 1), 1, 0, 0, 0, 0, 0) := (zl30_5 (Nat.le_of_ble_eq_true rfl)).trans rfl
theorem f30_124 : zi_fe 30 124 = some ((.invokestatic 36), 3, 35, 1, 3, 475, 1) := (zl30_5 (Nat.le_of_ble_eq_true rfl)).trans rfl
theorem f30_127 : zi_fe 30 127 = some ((.ifCond .eq 10), 3, 0, 0, 0, 0, 0) := (zl30_5 (Nat.le_of_ble_eq_true rfl)).trans rfl
theorem f30_130 : zi_fe 30 130 = some ((.aload_n 0), 1, 0, 0, 0, 0, 0) := (zl30_5 (Nat.le_of_ble_eq_true rfl)).trans rfl
theorem f30_131 : zi_fe 30 131 = some ((.invokevirtual 39), 3, 31, 0, 3, 478, 1) := (zl30_5 (Nat.le_of_ble_eq_true rfl)).trans rfl
theorem f30_134 : zi_fe 30 134 = some ((.goto 28), 3, 0, 0, 0, 0, 0) := (zl30_5 (Nat.le_of_ble_eq_true rfl)).trans rfl
theorem f30_137 : zi_fe 30 137 = some ((.aload_n 0), 1, 0, 0, 0, 0, 0) := (zl30_5 (Nat.le_of_ble_eq_true rfl)).trans rfl
theorem f30_138 : zi_fe 30 138 = some ((.iload_n 1), 1, 0, 0, 0, 0, 0) := (zl30_5 (Nat.le_of_ble_eq_true rfl)).trans rfl
theorem f30_139 : zi_fe 30 139 = some ((.bipush 59), 2, 0, 0, 0, 0, 0) := (zl30_5 (Nat.le_of_ble_eq_true rfl)).trans rfl
theorem f30_141 : zi_fe 30 141 = some ((.if_icmp .ne 7), 3, 0, 0, 0, 0, 0) := (zl30_5 (Nat.le_of_ble_eq_true rfl)).trans rfl
theorem f30_144 : zi_fe 30 144 = some ((.iconst 4), 1, 0, 0, 0, 0, 0) := (zl30_5 (Nat.le_of_ble_eq_true rfl)).trans rfl
theorem f30_145 : zi_fe 30 145 = some ((.goto 4), 3, 0, 0, 0, 0, 0) := (zl30_5 (Nat.le_of_ble_eq_true rfl)).trans rfl
theorem zl30_6 {pc : Nat} (h : 148 ≤ pc) : zi_fe 30 pc = zu30_6.lookup pc := (zl30_5 (Nat.le_trans (Nat.le_of_ble_eq_true rfl) h)).trans (zi_lkA (a := zi_i30_5) (c := 148) rfl h)
theorem f30_148 : zi_fe 30 148 = some ((.iconst 0), 1, 0, 0, 0, 0, 0) := (zl30_6 (Nat.le_of_ble_eq_true rfl)).trans rfl
theorem f30_149 : zi_fe 30 149 = some ((.putfield 29), 3, 3, 2, 0, 330, 0) := (zl30_6 (Nat.le_of_ble_eq_true rfl)).trans rfl
theorem f30_152 : zi_fe 30 152 = some ((.aload_n 0), 1, 0, 0, 0, 0, 0) := (zl30_6 (Nat.le_of_ble_eq_true rfl)).trans rfl
theorem f30_153 : zi_fe 30 153 = some (.dup, 1, 0, 0, 0, 0, 0) := (zl30_6 (Nat.le_of_ble_eq_true rfl)).trans rfl
theorem f30_154 : zi_fe 30 154 = some ((.getfield 19), 3, 3, 5, 0, 335, 0) := (zl30_6 (Nat.le_of_ble_eq_true rfl)).trans rfl
theorem f30_157 : zi_fe 30 157 = some ((.iconst 1), 1, 0, 0, 0, 0, 0) := (zl30_6 (Nat.le_of_ble_eq_true rfl)).trans rfl
theorem f30_158 : zi_fe 30 158 = some (.iadd, 1, 0, 0, 0, 0, 0) := (zl30_6 (Nat.le_of_ble_eq_true rfl)).trans rfl
theorem f30_159 : zi_fe 30 159 = some ((.putfield 19), 3, 3, 5, 0, 335, 0) := (zl30_6 (Nat.le_of_ble_eq_true rfl)).trans rfl
theorem f30_162 : zi_fe 30 162 = some (.return_, 1, 0, 0, 0, 0, 0) := (zl30_6 (Nat.le_of_ble_eq_true rfl)).trans rfl
theorem b30_0 {h : zi_Hp} {a0 : Nat} {u1 : Value} (g0 : a0 < zh_n h) (g1 : (zh_k h a0).1 = 3) : zv 3 30 0 [.ref a0, u1] [] h = if (zh_i h a0 5) < (zh_i h a0 1) then zv 3 30 11 [.ref a0, u1] [] h else zv 3 30 37 [.ref a0, u1] [] h := by
  refine Eq.trans (zv_next f30_0 rfl) ?_
  refine Eq.trans (zs_geti f30_1 g0 g1) ?_
  refine Eq.trans (zv_next f30_4 rfl) ?_
  refine Eq.trans (zs_geti f30_5 g0 g1) ?_
  exact zs_icmp f30_8 rfl
theorem b30_11 {h : zi_Hp} {a0 : Nat} {u1 : Value} (g0 : a0 < zh_n h) (g1 : (zh_k h a0).1 = 3) : zv 3 30 11 [.ref a0, u1] [] h = (zv 1 33 0 [.ref a0, .int (zh_i h a0 5)] [] h).bind fun r => zv 3 30 19 [.ref a0, u1] (r.1.toList ++ []) r.2 := by
  refine Eq.trans (zv_next f30_11 rfl) ?_
  refine Eq.trans (zv_next f30_12 rfl) ?_
  refine Eq.trans (zs_geti f30_13 g0 g1) ?_
  exact zs_callV f30_16 (Nat.le_of_ble_eq_true rfl) (Nat.le_of_ble_eq_true rfl) rfl g0 g1 me_33 (by decide) rfl
theorem b30_19 {h : zi_Hp} {a0 : Nat} {u1 : Value} {s0 : Int32}  : zv 3 30 19 [.ref a0, u1] [.int s0] h = if s0 = 32 then zv 3 30 24 [.ref a0, u1] [] h else zv 3 30 37 [.ref a0, u1] [] h := by
  refine Eq.trans (zs_bp f30_19 bp_32) ?_
  exact zs_icmp f30_21 rfl
theorem b30_24 {h : zi_Hp} {a0 : Nat} {u1 : Value} (g0 : a0 < zh_n h) (g1 : (zh_k h a0).1 = 3) : zv 3 30 24 [.ref a0, u1] [] h = zv 3 30 0 [.ref a0, u1] [] (zh_wi h a0 5 ((zh_i h a0 5) + 1)) := by
  refine Eq.trans (zv_next f30_24 rfl) ?_
  refine Eq.trans (zv_next f30_25 rfl) ?_
  refine Eq.trans (zs_geti f30_26 g0 g1) ?_
  refine Eq.trans (zs_ic f30_29 ic_1) ?_
  refine Eq.trans (zv_next f30_30 rfl) ?_
  refine Eq.trans (zs_put f30_31 g0 g1 rfl) ?_
  refine Eq.trans (zs_goto (tgt := 0) f30_34 rfl) ?_
  rfl
theorem b30_37 {h : zi_Hp} {a0 : Nat} {u1 : Value} (g0 : a0 < zh_n h) (g1 : (zh_k h a0).1 = 3) : zv 3 30 37 [.ref a0, u1] [] h = zv 3 30 47 [.ref a0, u1] [.ref a0, .ref a0] (zh_wi h a0 3 (zh_i h a0 5)) := by
  refine Eq.trans (zv_next f30_37 rfl) ?_
  refine Eq.trans (zv_next f30_38 rfl) ?_
  refine Eq.trans (zs_geti f30_39 g0 g1) ?_
  refine Eq.trans (zs_put f30_42 g0 g1 rfl) ?_
  refine Eq.trans (zv_next f30_45 rfl) ?_
  refine Eq.trans (zv_next f30_46 rfl) ?_
  rfl
theorem b30_47 {h : zi_Hp} {a0 : Nat} {u1 : Value} {t0 : Nat} {t1 : Nat} (g0 : t1 < zh_n h) (g1 : (zh_k h t1).1 = 3) (g2 : t0 < zh_n h) (g3 : (zh_k h t0).1 = 3) : zv 3 30 47 [.ref a0, u1] [.ref t1, .ref t0] h = (zv 1 33 0 [.ref t0, .int (zh_i h t1 3)] [] h).bind fun r => zv 3 30 53 [.ref a0, u1] (r.1.toList ++ []) r.2 := by
  refine Eq.trans (zs_geti f30_47 g0 g1) ?_
  exact zs_callV f30_50 (Nat.le_of_ble_eq_true rfl) (Nat.le_of_ble_eq_true rfl) rfl g2 g3 me_33 (by decide) rfl
theorem b30_53 {h : zi_Hp} {a0 : Nat} {u1 : Value} {s0 : Int32} (g0 : a0 < zh_n h) (g1 : (zh_k h a0).1 = 3) : zv 3 30 53 [.ref a0, u1] [.int s0] h = if (zh_i h a0 3) < (zh_i h a0 1) then zv 3 30 73 [.ref a0, .int s0] [] h else zv 3 30 65 [.ref a0, .int s0] [] h := by
  refine Eq.trans (zv_next f30_53 rfl) ?_
  refine Eq.trans (zv_next f30_54 rfl) ?_
  refine Eq.trans (zs_geti f30_55 g0 g1) ?_
  refine Eq.trans (zv_next f30_58 rfl) ?_
  refine Eq.trans (zs_geti f30_59 g0 g1) ?_
  exact zs_icmp f30_62 rfl
theorem b30_65 {h : zi_Hp} {a0 : Nat} {x1 : Int32} (g0 : a0 < zh_n h) (g1 : (zh_k h a0).1 = 3) : zv 3 30 65 [.ref a0, .int x1] [] h = zv 3 30 162 [.ref a0, .int x1] [] (zh_wi h a0 2 1) := by
  refine Eq.trans (zv_next f30_65 rfl) ?_
  refine Eq.trans (zs_ic f30_66 ic_1) ?_
  refine Eq.trans (zs_put f30_67 g0 g1 rfl) ?_
  refine Eq.trans (zs_goto (tgt := 162) f30_70 rfl) ?_
  rfl
theorem b30_73 {h : zi_Hp} {a0 : Nat} {x1 : Int32}  : zv 3 30 73 [.ref a0, .int x1] [] h = (zv 1 34 0 [.int x1] [] h).bind fun r => zv 3 30 77 [.ref a0, .int x1] (r.1.toList ++ []) r.2 := by
  refine Eq.trans (zv_next f30_73 rfl) ?_
  exact zs_callS f30_74 (by decide) (Nat.le_of_ble_eq_true rfl) (Nat.le_of_ble_eq_true rfl) rfl me_34 (by decide) rfl
theorem b30_77 {h : zi_Hp} {a0 : Nat} {x1 : Int32} {s0 : Int32}  : zv 3 30 77 [.ref a0, .int x1] [.int s0] h = if s0 = 0 then zv 3 30 123 [.ref a0, .int x1] [] h else zv 3 30 80 [.ref a0, .int x1] [] h := by
  exact zs_if f30_77 rfl
theorem b30_80 {h : zi_Hp} {a0 : Nat} {x1 : Int32} (g0 : a0 < zh_n h) (g1 : (zh_k h a0).1 = 3) : zv 3 30 80 [.ref a0, .int x1] [] h = zv 3 30 85 [.ref a0, .int x1] [] (zh_wi h a0 2 2) := by
  refine Eq.trans (zv_next f30_80 rfl) ?_
  refine Eq.trans (zs_ic f30_81 ic_2) ?_
  refine Eq.trans (zs_put f30_82 g0 g1 rfl) ?_
  rfl
theorem b30_85 {h : zi_Hp} {a0 : Nat} {x1 : Int32} (g0 : a0 < zh_n h) (g1 : (zh_k h a0).1 = 3) : zv 3 30 85 [.ref a0, .int x1] [] h = if (zh_i h a0 5) < (zh_i h a0 1) then zv 3 30 96 [.ref a0, .int x1] [] h else zv 3 30 162 [.ref a0, .int x1] [] h := by
  refine Eq.trans (zv_next f30_85 rfl) ?_
  refine Eq.trans (zs_geti f30_86 g0 g1) ?_
  refine Eq.trans (zv_next f30_89 rfl) ?_
  refine Eq.trans (zs_geti f30_90 g0 g1) ?_
  exact zs_icmp f30_93 rfl
theorem b30_96 {h : zi_Hp} {a0 : Nat} {x1 : Int32} (g0 : a0 < zh_n h) (g1 : (zh_k h a0).1 = 3) : zv 3 30 96 [.ref a0, .int x1] [] h = (zv 1 33 0 [.ref a0, .int (zh_i h a0 5)] [] h).bind fun r => zv 3 30 104 [.ref a0, .int x1] (r.1.toList ++ []) r.2 := by
  refine Eq.trans (zv_next f30_96 rfl) ?_
  refine Eq.trans (zv_next f30_97 rfl) ?_
  refine Eq.trans (zs_geti f30_98 g0 g1) ?_
  exact zs_callV f30_101 (Nat.le_of_ble_eq_true rfl) (Nat.le_of_ble_eq_true rfl) rfl g0 g1 me_33 (by decide) rfl
theorem b30_104 {h : zi_Hp} {a0 : Nat} {x1 : Int32} {s0 : Int32}  : zv 3 30 104 [.ref a0, .int x1] [.int s0] h = (zv 1 34 0 [.int s0] [] h).bind fun r => zv 3 30 107 [.ref a0, .int x1] (r.1.toList ++ []) r.2 := by
  exact zs_callS f30_104 (by decide) (Nat.le_of_ble_eq_true rfl) (Nat.le_of_ble_eq_true rfl) rfl me_34 (by decide) rfl
theorem b30_107 {h : zi_Hp} {a0 : Nat} {x1 : Int32} {s0 : Int32}  : zv 3 30 107 [.ref a0, .int x1] [.int s0] h = if s0 = 0 then zv 3 30 162 [.ref a0, .int x1] [] h else zv 3 30 110 [.ref a0, .int x1] [] h := by
  exact zs_if f30_107 rfl
theorem b30_110 {h : zi_Hp} {a0 : Nat} {x1 : Int32} (g0 : a0 < zh_n h) (g1 : (zh_k h a0).1 = 3) : zv 3 30 110 [.ref a0, .int x1] [] h = zv 3 30 85 [.ref a0, .int x1] [] (zh_wi h a0 5 ((zh_i h a0 5) + 1)) := by
  refine Eq.trans (zv_next f30_110 rfl) ?_
  refine Eq.trans (zv_next f30_111 rfl) ?_
  refine Eq.trans (zs_geti f30_112 g0 g1) ?_
  refine Eq.trans (zs_ic f30_115 ic_1) ?_
  refine Eq.trans (zv_next f30_116 rfl) ?_
  refine Eq.trans (zs_put f30_117 g0 g1 rfl) ?_
  refine Eq.trans (zs_goto (tgt := 85) f30_120 rfl) ?_
  rfl
theorem b30_123 {h : zi_Hp} {a0 : Nat} {x1 : Int32}  : zv 3 30 123 [.ref a0, .int x1] [] h = (zv 1 35 0 [.int x1] [] h).bind fun r => zv 3 30 127 [.ref a0, .int x1] (r.1.toList ++ []) r.2 := by
  refine Eq.trans (zv_next f30_123 rfl) ?_
  exact zs_callS f30_124 (by decide) (Nat.le_of_ble_eq_true rfl) (Nat.le_of_ble_eq_true rfl) rfl me_35 (by decide) rfl
theorem b30_127 {h : zi_Hp} {a0 : Nat} {x1 : Int32} {s0 : Int32}  : zv 3 30 127 [.ref a0, .int x1] [.int s0] h = if s0 = 0 then zv 3 30 137 [.ref a0, .int x1] [] h else zv 3 30 130 [.ref a0, .int x1] [] h := by
  exact zs_if f30_127 rfl
theorem b30_130 {h : zi_Hp} {a0 : Nat} {x1 : Int32} (g0 : a0 < zh_n h) (g1 : (zh_k h a0).1 = 3) : zv 3 30 130 [.ref a0, .int x1] [] h = (zv 2 31 0 [.ref a0] [] h).bind fun r => zv 3 30 134 [.ref a0, .int x1] (r.1.toList ++ []) r.2 := by
  refine Eq.trans (zv_next f30_130 rfl) ?_
  exact zs_callV f30_131 (Nat.le_of_ble_eq_true rfl) (Nat.le_of_ble_eq_true rfl) rfl g0 g1 me_31 (by decide) rfl
theorem b30_134 {h : zi_Hp} {a0 : Nat} {x1 : Int32}  : zv 3 30 134 [.ref a0, .int x1] [] h = zv 3 30 162 [.ref a0, .int x1] [] h := by
  refine Eq.trans (zs_goto (tgt := 162) f30_134 rfl) ?_
  rfl
theorem b30_137 {h : zi_Hp} {a0 : Nat} {x1 : Int32}  : zv 3 30 137 [.ref a0, .int x1] [] h = if x1 = 59 then zv 3 30 144 [.ref a0, .int x1] [.ref a0] h else zv 3 30 148 [.ref a0, .int x1] [.ref a0] h := by
  refine Eq.trans (zv_next f30_137 rfl) ?_
  refine Eq.trans (zv_next f30_138 rfl) ?_
  refine Eq.trans (zs_bp f30_139 bp_59) ?_
  exact zs_icmp f30_141 rfl
theorem b30_144 {h : zi_Hp} {a0 : Nat} {x1 : Int32} {t0 : Nat}  : zv 3 30 144 [.ref a0, .int x1] [.ref t0] h = zv 3 30 149 [.ref a0, .int x1] [.int 4, .ref t0] h := by
  refine Eq.trans (zs_ic f30_144 ic_4) ?_
  refine Eq.trans (zs_goto (tgt := 149) f30_145 rfl) ?_
  rfl
theorem b30_148 {h : zi_Hp} {a0 : Nat} {x1 : Int32} {t0 : Nat}  : zv 3 30 148 [.ref a0, .int x1] [.ref t0] h = zv 3 30 149 [.ref a0, .int x1] [.int 0, .ref t0] h := by
  refine Eq.trans (zs_ic f30_148 ic_0) ?_
  rfl
theorem b30_149 {h : zi_Hp} {a0 : Nat} {x1 : Int32} {t0 : Nat} {s1 : Int32} (g0 : t0 < zh_n h) (g1 : (zh_k h t0).1 = 3) : zv 3 30 149 [.ref a0, .int x1] [.int s1, .ref t0] h = zv 3 30 154 [.ref a0, .int x1] [.ref a0, .ref a0] (zh_wi h t0 2 s1) := by
  refine Eq.trans (zs_put f30_149 g0 g1 rfl) ?_
  refine Eq.trans (zv_next f30_152 rfl) ?_
  refine Eq.trans (zv_next f30_153 rfl) ?_
  rfl
theorem b30_154 {h : zi_Hp} {a0 : Nat} {x1 : Int32} {t0 : Nat} {t1 : Nat} (g0 : t1 < zh_n h) (g1 : (zh_k h t1).1 = 3) (g2 : t0 < zh_n h) (g3 : (zh_k h t0).1 = 3) : zv 3 30 154 [.ref a0, .int x1] [.ref t1, .ref t0] h = zv 3 30 162 [.ref a0, .int x1] [] (zh_wi h t0 5 ((zh_i h t1 5) + 1)) := by
  refine Eq.trans (zs_geti f30_154 g0 g1) ?_
  refine Eq.trans (zs_ic f30_157 ic_1) ?_
  refine Eq.trans (zv_next f30_158 rfl) ?_
  refine Eq.trans (zs_put f30_159 g2 g3 rfl) ?_
  rfl
theorem b30_162 {h : zi_Hp} {a0 : Nat} {x1 : Int32}  : zv 3 30 162 [.ref a0, .int x1] [] h = some (none, h) := by
  exact zv_ret f30_162 rfl
set_option maxRecDepth 20000 in
theorem zq31 : zi_M[31]? = some zi_m31 := rfl
theorem zl31_0 {pc : Nat} (_ : 0 ≤ pc) : zi_fe 31 pc = zu31_0.lookup pc := zi_feA zq31 pc
theorem f31_0 : zi_fe 31 0 = some ((.aload_n 0), 1, 0, 0, 0, 0, 0) := (zl31_0 (Nat.le_of_ble_eq_true rfl)).trans rfl
theorem f31_1 : zi_fe 31 1 = some ((.iconst 0), 1, 0, 0, 0, 0, 0) := (zl31_0 (Nat.le_of_ble_eq_true rfl)).trans rfl
theorem f31_2 : zi_fe 31 2 = some ((.putfield 42), 3, 3, 4, 0, 334, 0) := (zl31_0 (Nat.le_of_ble_eq_true rfl)).trans rfl
theorem f31_5 : zi_fe 31 5 = some ((.aload_n 0), 1, 0, 0, 0, 0, 0) := (zl31_0 (Nat.le_of_ble_eq_true rfl)).trans rfl
theorem f31_6 : zi_fe 31 6 = some ((.getfield 19), 3, 3, 5, 0, 335, 0) := (zl31_0 (Nat.le_of_ble_eq_true rfl)).trans rfl
theorem f31_9 : zi_fe 31 9 = some ((.aload_n 0), 1, 0, 0, 0, 0, 0) := (zl31_0 (Nat.le_of_ble_eq_true rfl)).trans rfl
theorem f31_10 : zi_fe 31 10 = some ((.getfield 15), 3, 3, 1, 0, 327, 0) := (zl31_0 (Nat.le_of_ble_eq_true rfl)).trans rfl
theorem f31_13 : zi_fe 31 13 = some ((.if_icmp .ge 53), 3, 0, 0, 0, 0, 0) := (zl31_0 (Nat.le_of_ble_eq_true rfl)).trans rfl
theorem f31_16 : zi_fe 31 16 = some ((.aload_n 0), 1, 0, 0, 0, 0, 0) := (zl31_0 (Nat.le_of_ble_eq_true rfl)).trans rfl
theorem f31_17 : zi_fe 31 17 = some ((.aload_n 0), 1, 0, 0, 0, 0, 0) := (zl31_0 (Nat.le_of_ble_eq_true rfl)).trans rfl
theorem f31_18 : zi_fe 31 18 = some ((.getfield 19), 3, 3, 5, 0, 335, 0) := (zl31_0 (Nat.le_of_ble_eq_true rfl)).trans rfl
theorem f31_21 : zi_fe 31 21 = some ((.invokevirtual 22), 3, 33, 0, 3, 468, 2) := (zl31_0 (Nat.le_of_ble_eq_true rfl)).trans rfl
theorem zl31_1 {pc : Nat} (h : 24 ≤ pc) : zi_fe 31 pc = zu31_1.lookup pc := (zl31_0 (Nat.le_trans (Nat.le_of_ble_eq_true rfl) h)).trans (zi_lkA (a := zi_i31_0) (c := 24) rfl h)
theorem f31_24 : zi_fe 31 24 = some ((.invokestatic 36), 3, 35, 1, 3, 475, 1) := (zl31_1 (Nat.le_of_ble_eq_true rfl)).trans rfl
theorem f31_27 : zi_fe 31 27 = some ((.ifCond .eq 39), 3, 0, 0, 0, 0, 0) := (zl31_1 (Nat.le_of_ble_eq_true rfl)).trans rfl
theorem f31_30 : zi_fe 31 30 = some ((.aload_n 0), 1, 0, 0, 0, 0, 0) := (zl31_1 (Nat.le_of_ble_eq_true rfl)).trans rfl
theorem f31_31 : zi_fe 31 31 = some ((.aload_n 0), 1, 0, 0, 0, 0, 0) := (zl31_1 (Nat.le_of_ble_eq_true rfl)).trans rfl
theorem f31_32 : zi_fe 31 32 = some ((.getfield 42), 3, 3, 4, 0, 334, 0) := (zl31_1 (Nat.le_of_ble_eq_true rfl)).trans rfl
theorem f31_35 : zi_fe 31 35 = some ((.bipush 10), 2, 0, 0, 0, 0, 0) := (zl31_1 (Nat.le_of_ble_eq_true rfl)).trans rfl
theorem f31_37 : zi_fe 31 37 = some (.imul, 1, 0, 0, 0, 0, 0) := (zl31_1 (Nat.le_of_ble_eq_true rfl)).trans rfl
theorem f31_38 : zi_fe 31 38 = some ((.aload_n 0), 1, 0, 0, 0, 0, 0) := (zl31_1 (Nat.le_of_ble_eq_true rfl)).trans rfl
theorem f31_39 : zi_fe 31 39 = some ((.aload_n 0), 1, 0, 0, 0, 0, 0) := (zl31_1 (Nat.le_of_ble_eq_true rfl)).trans rfl
theorem f31_40 : zi_fe 31 40 = some ((.getfield 19), 3, 3, 5, 0, 335, 0) := (zl31_1 (Nat.le_of_ble_eq_true rfl)).trans rfl
theorem f31_43 : zi_fe 31 43 = some ((.invokevirtual 22), 3, 33, 0, 3, 468, 2) := (zl31_1 (Nat.le_of_ble_eq_true rfl)).trans rfl
theorem f31_46 : zi_fe 31 46 = some (.iadd, 1, 0, 0, 0, 0, 0) := (zl31_1 (Nat.le_of_ble_eq_true rfl)).trans rfl
theorem zl31_2 {pc : Nat} (h : 47 ≤ pc) : zi_fe 31 pc = zu31_2.lookup pc := (zl31_1 (Nat.le_trans (Nat.le_of_ble_eq_true rfl) h)).trans (zi_lkA (a := zi_i31_1) (c := 47) rfl h)
theorem f31_47 : zi_fe 31 47 = some ((.bipush 48), 2, 0, 0, 0, 0, 0) := (zl31_2 (Nat.le_of_ble_eq_true rfl)).trans rfl
theorem f31_49 : zi_fe 31 49 = some (.isub, 1, 0, 0, 0, 0, 0) := (zl31_2 (Nat.le_of_ble_eq_true rfl)).trans rfl
theorem f31_50 : zi_fe 31 50 = some ((.putfield 42), 3, 3, 4, 0, 334, 0) := (zl31_2 (Nat.le_of_ble_eq_true rfl)).trans rfl
theorem f31_53 : zi_fe 31 53 = some ((.aload_n 0), 1, 0, 0, 0, 0, 0) := (zl31_2 (Nat.le_of_ble_eq_true rfl)).trans rfl
theorem f31_54 : zi_fe 31 54 = some (.dup, 1, 0, 0, 0, 0, 0) := (zl31_2 (Nat.le_of_ble_eq_true rfl)).trans rfl
theorem f31_55 : zi_fe 31 55 = some ((.getfield 19), 3, 3, 5, 0, 335, 0) := (zl31_2 (Nat.le_of_ble_eq_true rfl)).trans rfl
theorem f31_58 : zi_fe 31 58 = some ((.iconst 1), 1, 0, 0, 0, 0, 0) := (zl31_2 (Nat.le_of_ble_eq_true rfl)).trans rfl
theorem f31_59 : zi_fe 31 59 = some (.iadd, 1, 0, 0, 0, 0, 0) := (zl31_2 (Nat.le_of_ble_eq_true rfl)).trans rfl
theorem f31_60 : zi_fe 31 60 = some ((.putfield 19), 3, 3, 5, 0, 335, 0) := (zl31_2 (Nat.le_of_ble_eq_true rfl)).trans rfl
theorem f31_63 : zi_fe 31 63 = some ((.goto (-58)), 3, 0, 0, 0, 0, 0) := (zl31_2 (Nat.le_of_ble_eq_true rfl)).trans rfl
theorem f31_66 : zi_fe 31 66 = some ((.aload_n 0), 1, 0, 0, 0, 0, 0) := (zl31_2 (Nat.le_of_ble_eq_true rfl)).trans rfl
theorem f31_67 : zi_fe 31 67 = some ((.aload_n 0), 1, 0, 0, 0, 0, 0) := (zl31_2 (Nat.le_of_ble_eq_true rfl)).trans rfl
theorem zl31_3 {pc : Nat} (h : 68 ≤ pc) : zi_fe 31 pc = zu31_3.lookup pc := (zl31_2 (Nat.le_trans (Nat.le_of_ble_eq_true rfl) h)).trans (zi_lkA (a := zi_i31_2) (c := 68) rfl h)
theorem f31_68 : zi_fe 31 68 = some ((.getfield 19), 3, 3, 5, 0, 335, 0) := (zl31_3 (Nat.le_of_ble_eq_true rfl)).trans rfl
theorem f31_71 : zi_fe 31 71 = some ((.aload_n 0), 1, 0, 0, 0, 0, 0) := (zl31_3 (Nat.le_of_ble_eq_true rfl)).trans rfl
theorem f31_72 : zi_fe 31 72 = some ((.getfield 26), 3, 3, 3, 0, 331, 0) := (zl31_3 (Nat.le_of_ble_eq_true rfl)).trans rfl
theorem f31_75 : zi_fe 31 75 = some (.isub, 1, 0, 0, 0, 0, 0) := (zl31_3 (Nat.le_of_ble_eq_true rfl)).trans rfl
theorem f31_76 : zi_fe 31 76 = some ((.iconst 2), 1, 0, 0, 0, 0, 0) := (zl31_3 (Nat.le_of_ble_eq_true rfl)).trans rfl
theorem f31_77 : zi_fe 31 77 = some ((.if_icmp .le 7), 3, 0, 0, 0, 0, 0) := (zl31_3 (Nat.le_of_ble_eq_true rfl)).trans rfl
theorem f31_80 : zi_fe 31 80 = some ((.iconst 0), 1, 0, 0, 0, 0, 0) := (zl31_3 (Nat.le_of_ble_eq_true rfl)).trans rfl
theorem f31_81 : zi_fe 31 81 = some ((.goto 4), 3, 0, 0, 0, 0, 0) := (zl31_3 (Nat.le_of_ble_eq_true rfl)).trans rfl
theorem f31_84 : zi_fe 31 84 = some ((.iconst 3), 1, 0, 0, 0, 0, 0) := (zl31_3 (Nat.le_of_ble_eq_true rfl)).trans rfl
theorem f31_85 : zi_fe 31 85 = some ((.putfield 29), 3, 3, 2, 0, 330, 0) := (zl31_3 (Nat.le_of_ble_eq_true rfl)).trans rfl
theorem f31_88 : zi_fe 31 88 = some (.return_, 1, 0, 0, 0, 0, 0) := (zl31_3 (Nat.le_of_ble_eq_true rfl)).trans rfl
theorem b31_0 {h : zi_Hp} {a0 : Nat} (g0 : a0 < zh_n h) (g1 : (zh_k h a0).1 = 3) : zv 2 31 0 [.ref a0] [] h = zv 2 31 5 [.ref a0] [] (zh_wi h a0 4 0) := by
  refine Eq.trans (zv_next f31_0 rfl) ?_
  refine Eq.trans (zs_ic f31_1 ic_0) ?_
  refine Eq.trans (zs_put f31_2 g0 g1 rfl) ?_
  rfl
theorem b31_5 {h : zi_Hp} {a0 : Nat} (g0 : a0 < zh_n h) (g1 : (zh_k h a0).1 = 3) : zv 2 31 5 [.ref a0] [] h = if (zh_i h a0 5) < (zh_i h a0 1) then zv 2 31 16 [.ref a0] [] h else zv 2 31 66 [.ref a0] [] h := by
  refine Eq.trans (zv_next f31_5 rfl) ?_
  refine Eq.trans (zs_geti f31_6 g0 g1) ?_
  refine Eq.trans (zv_next f31_9 rfl) ?_
  refine Eq.trans (zs_geti f31_10 g0 g1) ?_
  exact zs_icmp f31_13 rfl
theorem b31_16 {h : zi_Hp} {a0 : Nat} (g0 : a0 < zh_n h) (g1 : (zh_k h a0).1 = 3) : zv 2 31 16 [.ref a0] [] h = (zv 1 33 0 [.ref a0, .int (zh_i h a0 5)] [] h).bind fun r => zv 2 31 24 [.ref a0] (r.1.toList ++ []) r.2 := by
  refine Eq.trans (zv_next f31_16 rfl) ?_
  refine Eq.trans (zv_next f31_17 rfl) ?_
  refine Eq.trans (zs_geti f31_18 g0 g1) ?_
  exact zs_callV f31_21 (Nat.le_of_ble_eq_true rfl) (Nat.le_of_ble_eq_true rfl) rfl g0 g1 me_33 (by decide) rfl
theorem b31_24 {h : zi_Hp} {a0 : Nat} {s0 : Int32}  : zv 2 31 24 [.ref a0] [.int s0] h = (zv 1 35 0 [.int s0] [] h).bind fun r => zv 2 31 27 [.ref a0] (r.1.toList ++ []) r.2 := by
  exact zs_callS f31_24 (by decide) (Nat.le_of_ble_eq_true rfl) (Nat.le_of_ble_eq_true rfl) rfl me_35 (by decide) rfl
theorem b31_27 {h : zi_Hp} {a0 : Nat} {s0 : Int32}  : zv 2 31 27 [.ref a0] [.int s0] h = if s0 = 0 then zv 2 31 66 [.ref a0] [] h else zv 2 31 30 [.ref a0] [] h := by
  exact zs_if f31_27 rfl
theorem b31_30 {h : zi_Hp} {a0 : Nat} (g0 : a0 < zh_n h) (g1 : (zh_k h a0).1 = 3) : zv 2 31 30 [.ref a0] [] h = (zv 1 33 0 [.ref a0, .int (zh_i h a0 5)] [] h).bind fun r => zv 2 31 46 [.ref a0] (r.1.toList ++ [.int ((zh_i h a0 4) * 10), .ref a0]) r.2 := by
  refine Eq.trans (zv_next f31_30 rfl) ?_
  refine Eq.trans (zv_next f31_31 rfl) ?_
  refine Eq.trans (zs_geti f31_32 g0 g1) ?_
  refine Eq.trans (zs_bp f31_35 bp_10) ?_
  refine Eq.trans (zv_next f31_37 rfl) ?_
  refine Eq.trans (zv_next f31_38 rfl) ?_
  refine Eq.trans (zv_next f31_39 rfl) ?_
  refine Eq.trans (zs_geti f31_40 g0 g1) ?_
  exact zs_callV f31_43 (Nat.le_of_ble_eq_true rfl) (Nat.le_of_ble_eq_true rfl) rfl g0 g1 me_33 (by decide) rfl
theorem b31_46 {h : zi_Hp} {a0 : Nat} {t0 : Nat} {s1 : Int32} {s2 : Int32} (g0 : t0 < zh_n h) (g1 : (zh_k h t0).1 = 3) : zv 2 31 46 [.ref a0] [.int s2, .int s1, .ref t0] h = zv 2 31 55 [.ref a0] [.ref a0, .ref a0] (zh_wi h t0 4 ((s1 + s2) - 48)) := by
  refine Eq.trans (zv_next f31_46 rfl) ?_
  refine Eq.trans (zs_bp f31_47 bp_48) ?_
  refine Eq.trans (zv_next f31_49 rfl) ?_
  refine Eq.trans (zs_put f31_50 g0 g1 rfl) ?_
  refine Eq.trans (zv_next f31_53 rfl) ?_
  refine Eq.trans (zv_next f31_54 rfl) ?_
  rfl
theorem b31_55 {h : zi_Hp} {a0 : Nat} {t0 : Nat} {t1 : Nat} (g0 : t1 < zh_n h) (g1 : (zh_k h t1).1 = 3) (g2 : t0 < zh_n h) (g3 : (zh_k h t0).1 = 3) : zv 2 31 55 [.ref a0] [.ref t1, .ref t0] h = zv 2 31 5 [.ref a0] [] (zh_wi h t0 5 ((zh_i h t1 5) + 1)) := by
  refine Eq.trans (zs_geti f31_55 g0 g1) ?_
  refine Eq.trans (zs_ic f31_58 ic_1) ?_
  refine Eq.trans (zv_next f31_59 rfl) ?_
  refine Eq.trans (zs_put f31_60 g2 g3 rfl) ?_
  refine Eq.trans (zs_goto (tgt := 5) f31_63 rfl) ?_
  rfl
theorem b31_66 {h : zi_Hp} {a0 : Nat} (g0 : a0 < zh_n h) (g1 : (zh_k h a0).1 = 3) : zv 2 31 66 [.ref a0] [] h = if 2 < ((zh_i h a0 5) - (zh_i h a0 3)) then zv 2 31 80 [.ref a0] [.ref a0] h else zv 2 31 84 [.ref a0] [.ref a0] h := by
  refine Eq.trans (zv_next f31_66 rfl) ?_
  refine Eq.trans (zv_next f31_67 rfl) ?_
  refine Eq.trans (zs_geti f31_68 g0 g1) ?_
  refine Eq.trans (zv_next f31_71 rfl) ?_
  refine Eq.trans (zs_geti f31_72 g0 g1) ?_
  refine Eq.trans (zv_next f31_75 rfl) ?_
  refine Eq.trans (zs_ic f31_76 ic_2) ?_
  exact zs_icmp f31_77 rfl
theorem b31_80 {h : zi_Hp} {a0 : Nat} {t0 : Nat}  : zv 2 31 80 [.ref a0] [.ref t0] h = zv 2 31 85 [.ref a0] [.int 0, .ref t0] h := by
  refine Eq.trans (zs_ic f31_80 ic_0) ?_
  refine Eq.trans (zs_goto (tgt := 85) f31_81 rfl) ?_
  rfl
theorem b31_84 {h : zi_Hp} {a0 : Nat} {t0 : Nat}  : zv 2 31 84 [.ref a0] [.ref t0] h = zv 2 31 85 [.ref a0] [.int 3, .ref t0] h := by
  refine Eq.trans (zs_ic f31_84 ic_3) ?_
  rfl
theorem b31_85 {h : zi_Hp} {a0 : Nat} {t0 : Nat} {s1 : Int32} (g0 : t0 < zh_n h) (g1 : (zh_k h t0).1 = 3) : zv 2 31 85 [.ref a0] [.int s1, .ref t0] h = some (none, zh_wi h t0 2 s1) := by
  refine Eq.trans (zs_put f31_85 g0 g1 rfl) ?_
  exact zv_ret f31_88 rfl
set_option maxRecDepth 20000 in
theorem zq32 : zi_M[32]? = some zi_m32 := rfl
theorem zl32_0 {pc : Nat} (_ : 0 ≤ pc) : zi_fe 32 pc = zu32_0.lookup pc := zi_feA zq32 pc
theorem f32_0 : zi_fe 32 0 = some ((.aload_n 0), 1, 0, 0, 0, 0, 0) := (zl32_0 (Nat.le_of_ble_eq_true rfl)).trans rfl
theorem f32_1 : zi_fe 32 1 = some ((.getfield 29), 3, 3, 2, 0, 330, 0) := (zl32_0 (Nat.le_of_ble_eq_true rfl)).trans rfl
theorem f32_4 : zi_fe 32 4 = some ((.iconst 2), 1, 0, 0, 0, 0, 0) := (zl32_0 (Nat.le_of_ble_eq_true rfl)).trans rfl
theorem f32_5 : zi_fe 32 5 = some ((.if_icmp .ne 19), 3, 0, 0, 0, 0, 0) := (zl32_0 (Nat.le_of_ble_eq_true rfl)).trans rfl
theorem f32_8 : zi_fe 32 8 = some ((.aload_n 0), 1, 0, 0, 0, 0, 0) := (zl32_0 (Nat.le_of_ble_eq_true rfl)).trans rfl
theorem f32_9 : zi_fe 32 9 = some ((.getfield 19), 3, 3, 5, 0, 335, 0) := (zl32_0 (Nat.le_of_ble_eq_true rfl)).trans rfl
theorem f32_12 : zi_fe 32 12 = some ((.aload_n 0), 1, 0, 0, 0, 0, 0) := (zl32_0 (Nat.le_of_ble_eq_true rfl)).trans rfl
theorem f32_13 : zi_fe 32 13 = some ((.getfield 26), 3, 3, 3, 0, 331, 0) := (zl32_0 (Nat.le_of_ble_eq_true rfl)).trans rfl
theorem f32_16 : zi_fe 32 16 = some (.isub, 1, 0, 0, 0, 0, 0) := (zl32_0 (Nat.le_of_ble_eq_true rfl)).trans rfl
theorem f32_17 : zi_fe 32 17 = some ((.aload_n 1), 1, 0, 0, 0, 0, 0) := (zl32_0 (Nat.le_of_ble_eq_true rfl)).trans rfl
theorem f32_18 : zi_fe 32 18 = some ((.invokevirtual 45), 3, 0, 7, 0, 491, 1) := (zl32_0 (Nat.le_of_ble_eq_true rfl)).trans rfl
theorem f32_21 : zi_fe 32 21 = some ((.if_icmp .eq 5), 3, 0, 0, 0, 0, 0) := (zl32_0 (Nat.le_of_ble_eq_true rfl)).trans rfl
theorem zl32_1 {pc : Nat} (h : 24 ≤ pc) : zi_fe 32 pc = zu32_1.lookup pc := (zl32_0 (Nat.le_trans (Nat.le_of_ble_eq_true rfl) h)).trans (zi_lkA (a := zi_i32_0) (c := 24) rfl h)
theorem f32_24 : zi_fe 32 24 = some ((.iconst 0), 1, 0, 0, 0, 0, 0) := (zl32_1 (Nat.le_of_ble_eq_true rfl)).trans rfl
theorem f32_25 : zi_fe 32 25 = some (.ireturn, 1, 1, 0, 0, 0, 0) := (zl32_1 (Nat.le_of_ble_eq_true rfl)).trans rfl
theorem f32_26 : zi_fe 32 26 = some ((.iconst 0), 1, 0, 0, 0, 0, 0) := (zl32_1 (Nat.le_of_ble_eq_true rfl)).trans rfl
theorem f32_27 : zi_fe 32 27 = some ((.istore_n 2), 1, 0, 0, 0, 0, 0) := (zl32_1 (Nat.le_of_ble_eq_true rfl)).trans rfl
theorem f32_28 : zi_fe 32 28 = some ((.iload_n 2), 1, 0, 0, 0, 0, 0) := (zl32_1 (Nat.le_of_ble_eq_true rfl)).trans rfl
theorem f32_29 : zi_fe 32 29 = some ((.aload_n 1), 1, 0, 0, 0, 0, 0) := (zl32_1 (Nat.le_of_ble_eq_true rfl)).trans rfl
theorem f32_30 : zi_fe 32 30 = some ((.invokevirtual 45), 3, 0, 7, 0, 491, 1) := (zl32_1 (Nat.le_of_ble_eq_true rfl)).trans rfl
theorem f32_33 : zi_fe 32 33 = some ((.if_icmp .ge 29), 3, 0, 0, 0, 0, 0) := (zl32_1 (Nat.le_of_ble_eq_true rfl)).trans rfl
theorem f32_36 : zi_fe 32 36 = some ((.aload_n 0), 1, 0, 0, 0, 0, 0) := (zl32_1 (Nat.le_of_ble_eq_true rfl)).trans rfl
theorem f32_37 : zi_fe 32 37 = some ((.aload_n 0), 1, 0, 0, 0, 0, 0) := (zl32_1 (Nat.le_of_ble_eq_true rfl)).trans rfl
theorem f32_38 : zi_fe 32 38 = some ((.getfield 26), 3, 3, 3, 0, 331, 0) := (zl32_1 (Nat.le_of_ble_eq_true rfl)).trans rfl
theorem f32_41 : zi_fe 32 41 = some ((.iload_n 2), 1, 0, 0, 0, 0, 0) := (zl32_1 (Nat.le_of_ble_eq_true rfl)).trans rfl
theorem zl32_2 {pc : Nat} (h : 42 ≤ pc) : zi_fe 32 pc = zu32_2.lookup pc := (zl32_1 (Nat.le_trans (Nat.le_of_ble_eq_true rfl) h)).trans (zi_lkA (a := zi_i32_1) (c := 42) rfl h)
theorem f32_42 : zi_fe 32 42 = some (.iadd, 1, 0, 0, 0, 0, 0) := (zl32_2 (Nat.le_of_ble_eq_true rfl)).trans rfl
theorem f32_43 : zi_fe 32 43 = some ((.invokevirtual 22), 3, 33, 0, 3, 468, 2) := (zl32_2 (Nat.le_of_ble_eq_true rfl)).trans rfl
theorem f32_46 : zi_fe 32 46 = some ((.aload_n 1), 1, 0, 0, 0, 0, 0) := (zl32_2 (Nat.le_of_ble_eq_true rfl)).trans rfl
theorem f32_47 : zi_fe 32 47 = some ((.iload_n 2), 1, 0, 0, 0, 0, 0) := (zl32_2 (Nat.le_of_ble_eq_true rfl)).trans rfl
theorem f32_48 : zi_fe 32 48 = some ((.invokevirtual 50), 3, 0, 8, 0, 501, 2) := (zl32_2 (Nat.le_of_ble_eq_true rfl)).trans rfl
theorem f32_51 : zi_fe 32 51 = some ((.if_icmp .eq 5), 3, 0, 0, 0, 0, 0) := (zl32_2 (Nat.le_of_ble_eq_true rfl)).trans rfl
theorem f32_54 : zi_fe 32 54 = some ((.iconst 0), 1, 0, 0, 0, 0, 0) := (zl32_2 (Nat.le_of_ble_eq_true rfl)).trans rfl
theorem f32_55 : zi_fe 32 55 = some (.ireturn, 1, 1, 0, 0, 0, 0) := (zl32_2 (Nat.le_of_ble_eq_true rfl)).trans rfl
theorem f32_56 : zi_fe 32 56 = some ((.iinc 2 1), 3, 0, 0, 0, 0, 0) := (zl32_2 (Nat.le_of_ble_eq_true rfl)).trans rfl
theorem f32_59 : zi_fe 32 59 = some ((.goto (-31)), 3, 0, 0, 0, 0, 0) := (zl32_2 (Nat.le_of_ble_eq_true rfl)).trans rfl
theorem f32_62 : zi_fe 32 62 = some ((.iconst 1), 1, 0, 0, 0, 0, 0) := (zl32_2 (Nat.le_of_ble_eq_true rfl)).trans rfl
theorem f32_63 : zi_fe 32 63 = some (.ireturn, 1, 1, 0, 0, 0, 0) := (zl32_2 (Nat.le_of_ble_eq_true rfl)).trans rfl
theorem b32_0 {h : zi_Hp} {a0 : Nat} {k1 : Nat} {u2 : Value} (g0 : a0 < zh_n h) (g1 : (zh_k h a0).1 = 3) : zv 2 32 0 [.ref a0, .retAddr k1, u2] [] h = if (zh_i h a0 2) = 2 then zv 2 32 8 [.ref a0, .retAddr k1, u2] [] h else zv 2 32 24 [.ref a0, .retAddr k1, u2] [] h := by
  refine Eq.trans (zv_next f32_0 rfl) ?_
  refine Eq.trans (zs_geti f32_1 g0 g1) ?_
  refine Eq.trans (zs_ic f32_4 ic_2) ?_
  exact zs_icmp f32_5 rfl
theorem b32_8 {h : zi_Hp} {a0 : Nat} {k1 : Nat} {u2 : Value} (g0 : a0 < zh_n h) (g1 : (zh_k h a0).1 = 3) (g2 : 1 ≤ k1 ∧ k1 < 5) : zv 2 32 8 [.ref a0, .retAddr k1, u2] [] h = if ((zh_i h a0 5) - (zh_i h a0 3)) = (Int32.ofNat (zi_sl k1)) then zv 2 32 26 [.ref a0, .retAddr k1, u2] [] h else zv 2 32 24 [.ref a0, .retAddr k1, u2] [] h := by
  refine Eq.trans (zv_next f32_8 rfl) ?_
  refine Eq.trans (zs_geti f32_9 g0 g1) ?_
  refine Eq.trans (zv_next f32_12 rfl) ?_
  refine Eq.trans (zs_geti f32_13 g0 g1) ?_
  refine Eq.trans (zv_next f32_16 rfl) ?_
  refine Eq.trans (zs_alT f32_17 rfl g2.2) ?_
  refine Eq.trans (zs_slen f32_18 g2 (Nat.le_of_ble_eq_true rfl)) ?_
  exact zs_icmp f32_21 rfl
theorem b32_24 {h : zi_Hp} {a0 : Nat} {k1 : Nat} {u2 : Value}  : zv 2 32 24 [.ref a0, .retAddr k1, u2] [] h = some (some (.int 0), h) := by
  refine Eq.trans (zs_ic f32_24 ic_0) ?_
  exact zs_ret1 f32_25 (by decide)
theorem b32_26 {h : zi_Hp} {a0 : Nat} {k1 : Nat} {u2 : Value}  : zv 2 32 26 [.ref a0, .retAddr k1, u2] [] h = zv 2 32 28 [.ref a0, .retAddr k1, .int 0] [] h := by
  refine Eq.trans (zs_ic f32_26 ic_0) ?_
  refine Eq.trans (zv_next f32_27 rfl) ?_
  rfl
theorem b32_28 {h : zi_Hp} {a0 : Nat} {k1 : Nat} {x2 : Int32} (g0 : 1 ≤ k1 ∧ k1 < 5) : zv 2 32 28 [.ref a0, .retAddr k1, .int x2] [] h = if x2 < (Int32.ofNat (zi_sl k1)) then zv 2 32 36 [.ref a0, .retAddr k1, .int x2] [] h else zv 2 32 62 [.ref a0, .retAddr k1, .int x2] [] h := by
  refine Eq.trans (zv_next f32_28 rfl) ?_
  refine Eq.trans (zs_alT f32_29 rfl g0.2) ?_
  refine Eq.trans (zs_slen f32_30 g0 (Nat.le_of_ble_eq_true rfl)) ?_
  exact zs_icmp f32_33 rfl
theorem b32_36 {h : zi_Hp} {a0 : Nat} {k1 : Nat} {x2 : Int32} (g0 : a0 < zh_n h) (g1 : (zh_k h a0).1 = 3) : zv 2 32 36 [.ref a0, .retAddr k1, .int x2] [] h = (zv 1 33 0 [.ref a0, .int ((zh_i h a0 3) + x2)] [] h).bind fun r => zv 2 32 46 [.ref a0, .retAddr k1, .int x2] (r.1.toList ++ []) r.2 := by
  refine Eq.trans (zv_next f32_36 rfl) ?_
  refine Eq.trans (zv_next f32_37 rfl) ?_
  refine Eq.trans (zs_geti f32_38 g0 g1) ?_
  refine Eq.trans (zv_next f32_41 rfl) ?_
  refine Eq.trans (zv_next f32_42 rfl) ?_
  exact zs_callV f32_43 (Nat.le_of_ble_eq_true rfl) (Nat.le_of_ble_eq_true rfl) rfl g0 g1 me_33 (by decide) rfl
theorem b32_46 {h : zi_Hp} {a0 : Nat} {k1 : Nat} {x2 : Int32} {s0 : Int32} (g0 : 1 ≤ k1 ∧ k1 < 5) (g1 : ¬ (x2 < 0 ∨ zi_sl k1 ≤ x2.toNatClampNeg)) : zv 2 32 46 [.ref a0, .retAddr k1, .int x2] [.int s0] h = if s0 = (zi_sc k1 x2.toNatClampNeg) then zv 2 32 56 [.ref a0, .retAddr k1, .int x2] [] h else zv 2 32 54 [.ref a0, .retAddr k1, .int x2] [] h := by
  refine Eq.trans (zs_alT f32_46 rfl g0.2) ?_
  refine Eq.trans (zv_next f32_47 rfl) ?_
  refine Eq.trans (zs_sch f32_48 g0 g1 (Nat.le_of_ble_eq_true rfl)) ?_
  exact zs_icmp f32_51 rfl
theorem b32_54 {h : zi_Hp} {a0 : Nat} {k1 : Nat} {x2 : Int32}  : zv 2 32 54 [.ref a0, .retAddr k1, .int x2] [] h = some (some (.int 0), h) := by
  refine Eq.trans (zs_ic f32_54 ic_0) ?_
  exact zs_ret1 f32_55 (by decide)
theorem b32_56 {h : zi_Hp} {a0 : Nat} {k1 : Nat} {x2 : Int32}  : zv 2 32 56 [.ref a0, .retAddr k1, .int x2] [] h = zv 2 32 28 [.ref a0, .retAddr k1, .int (x2 + 1)] [] h := by
  refine Eq.trans (zs_inc f32_56 rfl ic_1 rfl) ?_
  refine Eq.trans (zs_goto (tgt := 28) f32_59 rfl) ?_
  rfl
theorem b32_62 {h : zi_Hp} {a0 : Nat} {k1 : Nat} {x2 : Int32}  : zv 2 32 62 [.ref a0, .retAddr k1, .int x2] [] h = some (some (.int 1), h) := by
  refine Eq.trans (zs_ic f32_62 ic_1) ?_
  exact zs_ret1 f32_63 (by decide)
set_option maxRecDepth 20000 in
theorem zq33 : zi_M[33]? = some zi_m33 := rfl
theorem zl33_0 {pc : Nat} (_ : 0 ≤ pc) : zi_fe 33 pc = zu33_0.lookup pc := zi_feA zq33 pc
theorem f33_0 : zi_fe 33 0 = some ((.iload_n 1), 1, 0, 0, 0, 0, 0) := (zl33_0 (Nat.le_of_ble_eq_true rfl)).trans rfl
theorem f33_1 : zi_fe 33 1 = some ((.ifCond .lt 27), 3, 0, 0, 0, 0, 0) := (zl33_0 (Nat.le_of_ble_eq_true rfl)).trans rfl
theorem f33_4 : zi_fe 33 4 = some ((.iload_n 1), 1, 0, 0, 0, 0, 0) := (zl33_0 (Nat.le_of_ble_eq_true rfl)).trans rfl
theorem f33_5 : zi_fe 33 5 = some ((.aload_n 0), 1, 0, 0, 0, 0, 0) := (zl33_0 (Nat.le_of_ble_eq_true rfl)).trans rfl
theorem f33_6 : zi_fe 33 6 = some ((.getfield 15), 3, 3, 1, 0, 327, 0) := (zl33_0 (Nat.le_of_ble_eq_true rfl)).trans rfl
theorem f33_9 : zi_fe 33 9 = some ((.if_icmp .ge 19), 3, 0, 0, 0, 0, 0) := (zl33_0 (Nat.le_of_ble_eq_true rfl)).trans rfl
theorem f33_12 : zi_fe 33 12 = some ((.iload_n 1), 1, 0, 0, 0, 0, 0) := (zl33_0 (Nat.le_of_ble_eq_true rfl)).trans rfl
theorem f33_13 : zi_fe 33 13 = some ((.sipush 160), 3, 0, 0, 0, 0, 0) := (zl33_0 (Nat.le_of_ble_eq_true rfl)).trans rfl
theorem f33_16 : zi_fe 33 16 = some ((.if_icmp .ge 12), 3, 0, 0, 0, 0, 0) := (zl33_0 (Nat.le_of_ble_eq_true rfl)).trans rfl
theorem f33_19 : zi_fe 33 19 = some ((.aload_n 0), 1, 0, 0, 0, 0, 0) := (zl33_0 (Nat.le_of_ble_eq_true rfl)).trans rfl
theorem f33_20 : zi_fe 33 20 = some ((.getfield 9), 3, 3, 0, 3, 326, 0) := (zl33_0 (Nat.le_of_ble_eq_true rfl)).trans rfl
theorem f33_23 : zi_fe 33 23 = some ((.iload_n 1), 1, 0, 0, 0, 0, 0) := (zl33_0 (Nat.le_of_ble_eq_true rfl)).trans rfl
theorem zl33_1 {pc : Nat} (h : 24 ≤ pc) : zi_fe 33 pc = zu33_1.lookup pc := (zl33_0 (Nat.le_trans (Nat.le_of_ble_eq_true rfl) h)).trans (zi_lkA (a := zi_i33_0) (c := 24) rfl h)
theorem f33_24 : zi_fe 33 24 = some (.iaload, 1, 0, 0, 0, 0, 0) := (zl33_1 (Nat.le_of_ble_eq_true rfl)).trans rfl
theorem f33_25 : zi_fe 33 25 = some ((.goto 5), 3, 0, 0, 0, 0, 0) := (zl33_1 (Nat.le_of_ble_eq_true rfl)).trans rfl
theorem f33_28 : zi_fe 33 28 = some ((.bipush (-4)), 2, 0, 0, 0, 0, 0) := (zl33_1 (Nat.le_of_ble_eq_true rfl)).trans rfl
theorem f33_30 : zi_fe 33 30 = some (.ireturn, 1, 0, 0, 0, 0, 0) := (zl33_1 (Nat.le_of_ble_eq_true rfl)).trans rfl
theorem b33_0 {h : zi_Hp} {a0 : Nat} {x1 : Int32}  : zv 1 33 0 [.ref a0, .int x1] [] h = if x1 < 0 then zv 1 33 28 [.ref a0, .int x1] [] h else zv 1 33 4 [.ref a0, .int x1] [] h := by
  refine Eq.trans (zv_next f33_0 rfl) ?_
  exact zs_if f33_1 rfl
theorem b33_4 {h : zi_Hp} {a0 : Nat} {x1 : Int32} (g0 : a0 < zh_n h) (g1 : (zh_k h a0).1 = 3) : zv 1 33 4 [.ref a0, .int x1] [] h = if x1 < (zh_i h a0 1) then zv 1 33 12 [.ref a0, .int x1] [] h else zv 1 33 28 [.ref a0, .int x1] [] h := by
  refine Eq.trans (zv_next f33_4 rfl) ?_
  refine Eq.trans (zv_next f33_5 rfl) ?_
  refine Eq.trans (zs_geti f33_6 g0 g1) ?_
  exact zs_icmp f33_9 rfl
theorem b33_12 {h : zi_Hp} {a0 : Nat} {x1 : Int32}  : zv 1 33 12 [.ref a0, .int x1] [] h = if x1 < 160 then zv 1 33 19 [.ref a0, .int x1] [] h else zv 1 33 28 [.ref a0, .int x1] [] h := by
  refine Eq.trans (zv_next f33_12 rfl) ?_
  refine Eq.trans (zs_sp f33_13 sp_160) ?_
  exact zs_icmp f33_16 rfl
theorem b33_19 {h : zi_Hp} {a0 : Nat} {x1 : Int32} (g0 : a0 < zh_n h) (g1 : (zh_k h a0).1 = 3) (g2 : zh_r h a0 0 = .ref (zq (zh_r h a0 0))) (g3 : (zq (zh_r h a0 0)) < zh_n h) (g4 : ¬ (x1 < 0 ∨ (zh_k h (zq (zh_r h a0 0))).2 ≤ x1.toNatClampNeg)) (g5 : (zh_k h (zq (zh_r h a0 0))).1 = 100) : zv 1 33 19 [.ref a0, .int x1] [] h = zv 1 33 30 [.ref a0, .int x1] [.int (zh_i h (zq (zh_r h a0 0)) x1.toNatClampNeg)] h := by
  refine Eq.trans (zv_next f33_19 rfl) ?_
  refine Eq.trans (zs_getr f33_20 g0 g1 g2) ?_
  refine Eq.trans (zv_next f33_23 rfl) ?_
  refine Eq.trans (zs_iald f33_24 g3 g5 g4) ?_
  refine Eq.trans (zs_goto (tgt := 30) f33_25 rfl) ?_
  rfl
theorem b33_28 {h : zi_Hp} {a0 : Nat} {x1 : Int32}  : zv 1 33 28 [.ref a0, .int x1] [] h = zv 1 33 30 [.ref a0, .int x1] [.int (-4)] h := by
  refine Eq.trans (zs_bp f33_28 bp_m4) ?_
  rfl
theorem b33_30 {h : zi_Hp} {a0 : Nat} {x1 : Int32} {s0 : Int32}  : zv 1 33 30 [.ref a0, .int x1] [.int s0] h = some (some (.int s0), h) := by
  exact zs_ret0 f33_30
set_option maxRecDepth 20000 in
theorem zq34 : zi_M[34]? = some zi_m34 := rfl
theorem zl34_0 {pc : Nat} (_ : 0 ≤ pc) : zi_fe 34 pc = zu34_0.lookup pc := zi_feA zq34 pc
theorem f34_0 : zi_fe 34 0 = some ((.iload_n 0), 1, 0, 0, 0, 0, 0) := (zl34_0 (Nat.le_of_ble_eq_true rfl)).trans rfl
theorem f34_1 : zi_fe 34 1 = some ((.bipush 97), 2, 0, 0, 0, 0, 0) := (zl34_0 (Nat.le_of_ble_eq_true rfl)).trans rfl
theorem f34_3 : zi_fe 34 3 = some ((.if_icmp .lt 13), 3, 0, 0, 0, 0, 0) := (zl34_0 (Nat.le_of_ble_eq_true rfl)).trans rfl
theorem f34_6 : zi_fe 34 6 = some ((.iload_n 0), 1, 0, 0, 0, 0, 0) := (zl34_0 (Nat.le_of_ble_eq_true rfl)).trans rfl
theorem f34_7 : zi_fe 34 7 = some ((.bipush 122), 2, 0, 0, 0, 0, 0) := (zl34_0 (Nat.le_of_ble_eq_true rfl)).trans rfl
theorem f34_9 : zi_fe 34 9 = some ((.if_icmp .gt 7), 3, 0, 0, 0, 0, 0) := (zl34_0 (Nat.le_of_ble_eq_true rfl)).trans rfl
theorem f34_12 : zi_fe 34 12 = some ((.iconst 1), 1, 0, 0, 0, 0, 0) := (zl34_0 (Nat.le_of_ble_eq_true rfl)).trans rfl
theorem f34_13 : zi_fe 34 13 = some ((.goto 4), 3, 0, 0, 0, 0, 0) := (zl34_0 (Nat.le_of_ble_eq_true rfl)).trans rfl
theorem f34_16 : zi_fe 34 16 = some ((.iconst 0), 1, 0, 0, 0, 0, 0) := (zl34_0 (Nat.le_of_ble_eq_true rfl)).trans rfl
theorem f34_17 : zi_fe 34 17 = some (.ireturn, 1, 1, 0, 0, 0, 0) := (zl34_0 (Nat.le_of_ble_eq_true rfl)).trans rfl
theorem b34_0 {h : zi_Hp} {x0 : Int32}  : zv 1 34 0 [.int x0] [] h = if x0 < 97 then zv 1 34 16 [.int x0] [] h else zv 1 34 6 [.int x0] [] h := by
  refine Eq.trans (zv_next f34_0 rfl) ?_
  refine Eq.trans (zs_bp f34_1 bp_97) ?_
  exact zs_icmp f34_3 rfl
theorem b34_6 {h : zi_Hp} {x0 : Int32}  : zv 1 34 6 [.int x0] [] h = if 122 < x0 then zv 1 34 16 [.int x0] [] h else zv 1 34 12 [.int x0] [] h := by
  refine Eq.trans (zv_next f34_6 rfl) ?_
  refine Eq.trans (zs_bp f34_7 bp_122) ?_
  exact zs_icmp f34_9 rfl
theorem b34_12 {h : zi_Hp} {x0 : Int32}  : zv 1 34 12 [.int x0] [] h = zv 1 34 17 [.int x0] [.int 1] h := by
  refine Eq.trans (zs_ic f34_12 ic_1) ?_
  refine Eq.trans (zs_goto (tgt := 17) f34_13 rfl) ?_
  rfl
theorem b34_16 {h : zi_Hp} {x0 : Int32}  : zv 1 34 16 [.int x0] [] h = zv 1 34 17 [.int x0] [.int 0] h := by
  refine Eq.trans (zs_ic f34_16 ic_0) ?_
  rfl
theorem b34_17 {h : zi_Hp} {x0 : Int32} {s0 : Int32} (g0 : s0 = 0 ∨ s0 = 1) : zv 1 34 17 [.int x0] [.int s0] h = some (some (.int s0), h) := by
  exact zs_ret1 f34_17 g0
set_option maxRecDepth 20000 in
theorem zq35 : zi_M[35]? = some zi_m35 := rfl
theorem zl35_0 {pc : Nat} (_ : 0 ≤ pc) : zi_fe 35 pc = zu35_0.lookup pc := zi_feA zq35 pc
theorem f35_0 : zi_fe 35 0 = some ((.iload_n 0), 1, 0, 0, 0, 0, 0) := (zl35_0 (Nat.le_of_ble_eq_true rfl)).trans rfl
theorem f35_1 : zi_fe 35 1 = some ((.bipush 48), 2, 0, 0, 0, 0, 0) := (zl35_0 (Nat.le_of_ble_eq_true rfl)).trans rfl
theorem f35_3 : zi_fe 35 3 = some ((.if_icmp .lt 13), 3, 0, 0, 0, 0, 0) := (zl35_0 (Nat.le_of_ble_eq_true rfl)).trans rfl
theorem f35_6 : zi_fe 35 6 = some ((.iload_n 0), 1, 0, 0, 0, 0, 0) := (zl35_0 (Nat.le_of_ble_eq_true rfl)).trans rfl
theorem f35_7 : zi_fe 35 7 = some ((.bipush 57), 2, 0, 0, 0, 0, 0) := (zl35_0 (Nat.le_of_ble_eq_true rfl)).trans rfl
theorem f35_9 : zi_fe 35 9 = some ((.if_icmp .gt 7), 3, 0, 0, 0, 0, 0) := (zl35_0 (Nat.le_of_ble_eq_true rfl)).trans rfl
theorem f35_12 : zi_fe 35 12 = some ((.iconst 1), 1, 0, 0, 0, 0, 0) := (zl35_0 (Nat.le_of_ble_eq_true rfl)).trans rfl
theorem f35_13 : zi_fe 35 13 = some ((.goto 4), 3, 0, 0, 0, 0, 0) := (zl35_0 (Nat.le_of_ble_eq_true rfl)).trans rfl
theorem f35_16 : zi_fe 35 16 = some ((.iconst 0), 1, 0, 0, 0, 0, 0) := (zl35_0 (Nat.le_of_ble_eq_true rfl)).trans rfl
theorem f35_17 : zi_fe 35 17 = some (.ireturn, 1, 1, 0, 0, 0, 0) := (zl35_0 (Nat.le_of_ble_eq_true rfl)).trans rfl
theorem b35_0 {h : zi_Hp} {x0 : Int32}  : zv 1 35 0 [.int x0] [] h = if x0 < 48 then zv 1 35 16 [.int x0] [] h else zv 1 35 6 [.int x0] [] h := by
  refine Eq.trans (zv_next f35_0 rfl) ?_
  refine Eq.trans (zs_bp f35_1 bp_48) ?_
  exact zs_icmp f35_3 rfl
theorem b35_6 {h : zi_Hp} {x0 : Int32}  : zv 1 35 6 [.int x0] [] h = if 57 < x0 then zv 1 35 16 [.int x0] [] h else zv 1 35 12 [.int x0] [] h := by
  refine Eq.trans (zv_next f35_6 rfl) ?_
  refine Eq.trans (zs_bp f35_7 bp_57) ?_
  exact zs_icmp f35_9 rfl
theorem b35_12 {h : zi_Hp} {x0 : Int32}  : zv 1 35 12 [.int x0] [] h = zv 1 35 17 [.int x0] [.int 1] h := by
  refine Eq.trans (zs_ic f35_12 ic_1) ?_
  refine Eq.trans (zs_goto (tgt := 17) f35_13 rfl) ?_
  rfl
theorem b35_16 {h : zi_Hp} {x0 : Int32}  : zv 1 35 16 [.int x0] [] h = zv 1 35 17 [.int x0] [.int 0] h := by
  refine Eq.trans (zs_ic f35_16 ic_0) ?_
  rfl
theorem b35_17 {h : zi_Hp} {x0 : Int32} {s0 : Int32} (g0 : s0 = 0 ∨ s0 = 1) : zv 1 35 17 [.int x0] [.int s0] h = some (some (.int s0), h) := by
  exact zs_ret1 f35_17 g0
set_option maxRecDepth 20000 in
theorem zq36 : zi_M[36]? = some zi_m36 := rfl
theorem zl36_0 {pc : Nat} (_ : 0 ≤ pc) : zi_fe 36 pc = zu36_0.lookup pc := zi_feA zq36 pc
theorem f36_0 : zi_fe 36 0 = some ((.aload_n 0), 1, 0, 0, 0, 0, 0) := (zl36_0 (Nat.le_of_ble_eq_true rfl)).trans rfl
theorem f36_1 : zi_fe 36 1 = some ((.invokespecial 3), 3, 0, 3, 0, 128, 1) := (zl36_0 (Nat.le_of_ble_eq_true rfl)).trans rfl
theorem f36_4 : zi_fe 36 4 = some ((.aload_n 0), 1, 0, 0, 0, 0, 0) := (zl36_0 (Nat.le_of_ble_eq_true rfl)).trans rfl
theorem f36_5 : zi_fe 36 5 = some ((.bipush 24), 2, 0, 0, 0, 0, 0) := (zl36_0 (Nat.le_of_ble_eq_true rfl)).trans rfl
theorem f36_7 : zi_fe 36 7 = some ((.newarray .int), 2, 100, 0, 0, 183, 0) := (zl36_0 (Nat.le_of_ble_eq_true rfl)).trans rfl
theorem f36_9 : zi_fe 36 9 = some ((.putfield 9), 3, 4, 3, 3, 147, 0) := (zl36_0 (Nat.le_of_ble_eq_true rfl)).trans rfl
theorem f36_12 : zi_fe 36 12 = some ((.aload_n 0), 1, 0, 0, 0, 0, 0) := (zl36_0 (Nat.le_of_ble_eq_true rfl)).trans rfl
theorem f36_13 : zi_fe 36 13 = some ((.bipush 24), 2, 0, 0, 0, 0, 0) := (zl36_0 (Nat.le_of_ble_eq_true rfl)).trans rfl
theorem f36_15 : zi_fe 36 15 = some ((.newarray .int), 2, 100, 0, 0, 183, 0) := (zl36_0 (Nat.le_of_ble_eq_true rfl)).trans rfl
theorem f36_17 : zi_fe 36 17 = some ((.putfield 15), 3, 4, 4, 3, 149, 0) := (zl36_0 (Nat.le_of_ble_eq_true rfl)).trans rfl
theorem f36_20 : zi_fe 36 20 = some ((.aload_n 0), 1, 0, 0, 0, 0, 0) := (zl36_0 (Nat.le_of_ble_eq_true rfl)).trans rfl
theorem f36_21 : zi_fe 36 21 = some ((.bipush 24), 2, 0, 0, 0, 0, 0) := (zl36_0 (Nat.le_of_ble_eq_true rfl)).trans rfl
theorem zl36_1 {pc : Nat} (h : 23 ≤ pc) : zi_fe 36 pc = zu36_1.lookup pc := (zl36_0 (Nat.le_trans (Nat.le_of_ble_eq_true rfl) h)).trans (zi_lkA (a := zi_i36_0) (c := 23) rfl h)
theorem f36_23 : zi_fe 36 23 = some ((.newarray .int), 2, 100, 0, 0, 183, 0) := (zl36_1 (Nat.le_of_ble_eq_true rfl)).trans rfl
theorem f36_25 : zi_fe 36 25 = some ((.putfield 18), 3, 4, 5, 3, 152, 0) := (zl36_1 (Nat.le_of_ble_eq_true rfl)).trans rfl
theorem f36_28 : zi_fe 36 28 = some ((.aload_n 0), 1, 0, 0, 0, 0, 0) := (zl36_1 (Nat.le_of_ble_eq_true rfl)).trans rfl
theorem f36_29 : zi_fe 36 29 = some ((.bipush 24), 2, 0, 0, 0, 0, 0) := (zl36_1 (Nat.le_of_ble_eq_true rfl)).trans rfl
theorem f36_31 : zi_fe 36 31 = some ((.newarray .int), 2, 100, 0, 0, 183, 0) := (zl36_1 (Nat.le_of_ble_eq_true rfl)).trans rfl
theorem f36_33 : zi_fe 36 33 = some ((.putfield 21), 3, 4, 6, 3, 154, 0) := (zl36_1 (Nat.le_of_ble_eq_true rfl)).trans rfl
theorem f36_36 : zi_fe 36 36 = some ((.aload_n 0), 1, 0, 0, 0, 0, 0) := (zl36_1 (Nat.le_of_ble_eq_true rfl)).trans rfl
theorem f36_37 : zi_fe 36 37 = some ((.bipush 24), 2, 0, 0, 0, 0, 0) := (zl36_1 (Nat.le_of_ble_eq_true rfl)).trans rfl
theorem f36_39 : zi_fe 36 39 = some ((.newarray .boolean), 2, 101, 0, 0, 184, 0) := (zl36_1 (Nat.le_of_ble_eq_true rfl)).trans rfl
theorem f36_41 : zi_fe 36 41 = some ((.putfield 24), 3, 4, 7, 3, 157, 0) := (zl36_1 (Nat.le_of_ble_eq_true rfl)).trans rfl
theorem f36_44 : zi_fe 36 44 = some ((.aload_n 0), 1, 0, 0, 0, 0, 0) := (zl36_1 (Nat.le_of_ble_eq_true rfl)).trans rfl
theorem f36_45 : zi_fe 36 45 = some ((.bipush 120), 2, 0, 0, 0, 0, 0) := (zl36_1 (Nat.le_of_ble_eq_true rfl)).trans rfl
theorem zl36_2 {pc : Nat} (h : 47 ≤ pc) : zi_fe 36 pc = zu36_2.lookup pc := (zl36_1 (Nat.le_trans (Nat.le_of_ble_eq_true rfl) h)).trans (zi_lkA (a := zi_i36_1) (c := 47) rfl h)
theorem f36_47 : zi_fe 36 47 = some ((.newarray .int), 2, 100, 0, 0, 183, 0) := (zl36_2 (Nat.le_of_ble_eq_true rfl)).trans rfl
theorem f36_49 : zi_fe 36 49 = some ((.putfield 28), 3, 4, 8, 3, 160, 0) := (zl36_2 (Nat.le_of_ble_eq_true rfl)).trans rfl
theorem f36_52 : zi_fe 36 52 = some ((.aload_n 0), 1, 0, 0, 0, 0, 0) := (zl36_2 (Nat.le_of_ble_eq_true rfl)).trans rfl
theorem f36_53 : zi_fe 36 53 = some ((.bipush 120), 2, 0, 0, 0, 0, 0) := (zl36_2 (Nat.le_of_ble_eq_true rfl)).trans rfl
theorem f36_55 : zi_fe 36 55 = some ((.newarray .int), 2, 100, 0, 0, 183, 0) := (zl36_2 (Nat.le_of_ble_eq_true rfl)).trans rfl
theorem f36_57 : zi_fe 36 57 = some ((.putfield 31), 3, 4, 9, 3, 161, 0) := (zl36_2 (Nat.le_of_ble_eq_true rfl)).trans rfl
theorem f36_60 : zi_fe 36 60 = some ((.aload_n 0), 1, 0, 0, 0, 0, 0) := (zl36_2 (Nat.le_of_ble_eq_true rfl)).trans rfl
theorem f36_61 : zi_fe 36 61 = some ((.invokevirtual 34), 3, 37, 0, 4, 129, 1) := (zl36_2 (Nat.le_of_ble_eq_true rfl)).trans rfl
theorem f36_64 : zi_fe 36 64 = some (.return_, 1, 0, 0, 0, 0, 0) := (zl36_2 (Nat.le_of_ble_eq_true rfl)).trans rfl
theorem b36_0 {h : zi_Hp} {a0 : Nat}  : zv 3 36 0 [.ref a0] [] h = zv 3 36 9 [.ref a0] [.ref (zh_n h), .ref a0] (zh_al h 100 24) := by
  refine Eq.trans (zv_next f36_0 rfl) ?_
  refine Eq.trans (zs_objI f36_1 (Nat.le_of_ble_eq_true rfl)) ?_
  refine Eq.trans (zv_next f36_4 rfl) ?_
  refine Eq.trans (zs_bp f36_5 bp_24) ?_
  refine Eq.trans (zs_newa (N := 24) f36_7 (by decide)) ?_
  rfl
theorem b36_9 {h : zi_Hp} {a0 : Nat} {t0 : Nat} {t1 : Nat} (g0 : t0 < zh_n h) (g1 : (zh_k h t0).1 = 4) : zv 3 36 9 [.ref a0] [.ref t1, .ref t0] h = zv 3 36 17 [.ref a0] [.ref (zh_n h), .ref a0] (zh_al (zh_wr h t0 3 (.ref t1)) 100 24) := by
  refine Eq.trans (zs_put f36_9 g0 g1 rfl) ?_
  refine Eq.trans (zv_next f36_12 rfl) ?_
  refine Eq.trans (zs_bp f36_13 bp_24) ?_
  refine Eq.trans (zs_newa (N := 24) f36_15 (by decide)) ?_
  rfl
theorem b36_17 {h : zi_Hp} {a0 : Nat} {t0 : Nat} {t1 : Nat} (g0 : t0 < zh_n h) (g1 : (zh_k h t0).1 = 4) : zv 3 36 17 [.ref a0] [.ref t1, .ref t0] h = zv 3 36 25 [.ref a0] [.ref (zh_n h), .ref a0] (zh_al (zh_wr h t0 4 (.ref t1)) 100 24) := by
  refine Eq.trans (zs_put f36_17 g0 g1 rfl) ?_
  refine Eq.trans (zv_next f36_20 rfl) ?_
  refine Eq.trans (zs_bp f36_21 bp_24) ?_
  refine Eq.trans (zs_newa (N := 24) f36_23 (by decide)) ?_
  rfl
theorem b36_25 {h : zi_Hp} {a0 : Nat} {t0 : Nat} {t1 : Nat} (g0 : t0 < zh_n h) (g1 : (zh_k h t0).1 = 4) : zv 3 36 25 [.ref a0] [.ref t1, .ref t0] h = zv 3 36 33 [.ref a0] [.ref (zh_n h), .ref a0] (zh_al (zh_wr h t0 5 (.ref t1)) 100 24) := by
  refine Eq.trans (zs_put f36_25 g0 g1 rfl) ?_
  refine Eq.trans (zv_next f36_28 rfl) ?_
  refine Eq.trans (zs_bp f36_29 bp_24) ?_
  refine Eq.trans (zs_newa (N := 24) f36_31 (by decide)) ?_
  rfl
theorem b36_33 {h : zi_Hp} {a0 : Nat} {t0 : Nat} {t1 : Nat} (g0 : t0 < zh_n h) (g1 : (zh_k h t0).1 = 4) : zv 3 36 33 [.ref a0] [.ref t1, .ref t0] h = zv 3 36 41 [.ref a0] [.ref (zh_n h), .ref a0] (zh_al (zh_wr h t0 6 (.ref t1)) 101 24) := by
  refine Eq.trans (zs_put f36_33 g0 g1 rfl) ?_
  refine Eq.trans (zv_next f36_36 rfl) ?_
  refine Eq.trans (zs_bp f36_37 bp_24) ?_
  refine Eq.trans (zs_newa (N := 24) f36_39 (by decide)) ?_
  rfl
theorem b36_41 {h : zi_Hp} {a0 : Nat} {t0 : Nat} {t1 : Nat} (g0 : t0 < zh_n h) (g1 : (zh_k h t0).1 = 4) : zv 3 36 41 [.ref a0] [.ref t1, .ref t0] h = zv 3 36 49 [.ref a0] [.ref (zh_n h), .ref a0] (zh_al (zh_wr h t0 7 (.ref t1)) 100 120) := by
  refine Eq.trans (zs_put f36_41 g0 g1 rfl) ?_
  refine Eq.trans (zv_next f36_44 rfl) ?_
  refine Eq.trans (zs_bp f36_45 bp_120) ?_
  refine Eq.trans (zs_newa (N := 120) f36_47 (by decide)) ?_
  rfl
theorem b36_49 {h : zi_Hp} {a0 : Nat} {t0 : Nat} {t1 : Nat} (g0 : t0 < zh_n h) (g1 : (zh_k h t0).1 = 4) : zv 3 36 49 [.ref a0] [.ref t1, .ref t0] h = zv 3 36 57 [.ref a0] [.ref (zh_n h), .ref a0] (zh_al (zh_wr h t0 8 (.ref t1)) 100 120) := by
  refine Eq.trans (zs_put f36_49 g0 g1 rfl) ?_
  refine Eq.trans (zv_next f36_52 rfl) ?_
  refine Eq.trans (zs_bp f36_53 bp_120) ?_
  refine Eq.trans (zs_newa (N := 120) f36_55 (by decide)) ?_
  rfl
theorem b36_57 {h : zi_Hp} {a0 : Nat} {t0 : Nat} {t1 : Nat} (g0 : t0 < zh_n h) (g1 : (zh_k h t0).1 = 4) (g2 : a0 < zh_n h) (g3 : (zh_k h a0).1 = 4) : zv 3 36 57 [.ref a0] [.ref t1, .ref t0] h = (zv 2 37 0 [.ref a0] [] (zh_wr h t0 9 (.ref t1))).bind fun r => zv 3 36 64 [.ref a0] (r.1.toList ++ []) r.2 := by
  refine Eq.trans (zs_put f36_57 g0 g1 rfl) ?_
  refine Eq.trans (zv_next f36_60 rfl) ?_
  exact zs_callV f36_61 (Nat.le_of_ble_eq_true rfl) (Nat.le_of_ble_eq_true rfl) rfl g2 g3 me_37 (by decide) rfl
theorem b36_64 {h : zi_Hp} {a0 : Nat}  : zv 3 36 64 [.ref a0] [] h = some (none, h) := by
  exact zv_ret f36_64 rfl
set_option maxRecDepth 20000 in
theorem zq37 : zi_M[37]? = some zi_m37 := rfl
theorem zl37_0 {pc : Nat} (_ : 0 ≤ pc) : zi_fe 37 pc = zu37_0.lookup pc := zi_feA zq37 pc
theorem f37_0 : zi_fe 37 0 = some ((.aload_n 0), 1, 0, 0, 0, 0, 0) := (zl37_0 (Nat.le_of_ble_eq_true rfl)).trans rfl
theorem f37_1 : zi_fe 37 1 = some ((.iconst 0), 1, 0, 0, 0, 0, 0) := (zl37_0 (Nat.le_of_ble_eq_true rfl)).trans rfl
theorem f37_2 : zi_fe 37 2 = some ((.putfield 37), 3, 4, 0, 0, 137, 0) := (zl37_0 (Nat.le_of_ble_eq_true rfl)).trans rfl
theorem f37_5 : zi_fe 37 5 = some ((.aload_n 0), 1, 0, 0, 0, 0, 0) := (zl37_0 (Nat.le_of_ble_eq_true rfl)).trans rfl
theorem f37_6 : zi_fe 37 6 = some ((.aload_n 0), 1, 0, 0, 0, 0, 0) := (zl37_0 (Nat.le_of_ble_eq_true rfl)).trans rfl
theorem f37_7 : zi_fe 37 7 = some ((.iconst 0), 1, 0, 0, 0, 0, 0) := (zl37_0 (Nat.le_of_ble_eq_true rfl)).trans rfl
theorem f37_8 : zi_fe 37 8 = some ((.invokevirtual 41), 3, 40, 0, 4, 133, 2) := (zl37_0 (Nat.le_of_ble_eq_true rfl)).trans rfl
theorem f37_11 : zi_fe 37 11 = some ((.putfield 45), 3, 4, 1, 0, 141, 0) := (zl37_0 (Nat.le_of_ble_eq_true rfl)).trans rfl
theorem f37_14 : zi_fe 37 14 = some ((.aload_n 0), 1, 0, 0, 0, 0, 0) := (zl37_0 (Nat.le_of_ble_eq_true rfl)).trans rfl
theorem f37_15 : zi_fe 37 15 = some ((.iconst 3), 1, 0, 0, 0, 0, 0) := (zl37_0 (Nat.le_of_ble_eq_true rfl)).trans rfl
theorem f37_16 : zi_fe 37 16 = some ((.putfield 48), 3, 4, 2, 0, 144, 0) := (zl37_0 (Nat.le_of_ble_eq_true rfl)).trans rfl
theorem f37_19 : zi_fe 37 19 = some (.return_, 1, 0, 0, 0, 0, 0) := (zl37_0 (Nat.le_of_ble_eq_true rfl)).trans rfl
theorem b37_0 {h : zi_Hp} {a0 : Nat} (g0 : a0 < zh_n h) (g1 : (zh_k h a0).1 = 4) : zv 2 37 0 [.ref a0] [] h = (zv 1 40 0 [.ref a0, .int 0, .double 0] [] (zh_wi h a0 0 0)).bind fun r => zv 2 37 11 [.ref a0] (r.1.toList ++ [.ref a0]) r.2 := by
  refine Eq.trans (zv_next f37_0 rfl) ?_
  refine Eq.trans (zs_ic f37_1 ic_0) ?_
  refine Eq.trans (zs_put f37_2 g0 g1 rfl) ?_
  refine Eq.trans (zv_next f37_5 rfl) ?_
  refine Eq.trans (zv_next f37_6 rfl) ?_
  refine Eq.trans (zs_ic f37_7 ic_0) ?_
  exact zs_callV f37_8 (Nat.le_of_ble_eq_true rfl) (Nat.le_of_ble_eq_true rfl) rfl g0 g1 me_40 (by decide) rfl
theorem b37_11 {h : zi_Hp} {a0 : Nat} {t0 : Nat} {s1 : Int32} (g0 : t0 < zh_n h) (g1 : (zh_k h t0).1 = 4) (g2 : a0 < zh_n h) (g3 : (zh_k h a0).1 = 4) : zv 2 37 11 [.ref a0] [.int s1, .ref t0] h = some (none, zh_wi (zh_wi h t0 1 s1) a0 2 3) := by
  refine Eq.trans (zs_put f37_11 g0 g1 rfl) ?_
  refine Eq.trans (zv_next f37_14 rfl) ?_
  refine Eq.trans (zs_ic f37_15 ic_3) ?_
  refine Eq.trans (zs_put f37_16 g2 g3 rfl) ?_
  exact zv_ret f37_19 rfl
set_option maxRecDepth 20000 in
theorem zq38 : zi_M[38]? = some zi_m38 := rfl
theorem zl38_0 {pc : Nat} (_ : 0 ≤ pc) : zi_fe 38 pc = zu38_0.lookup pc := zi_feA zq38 pc
theorem f38_0 : zi_fe 38 0 = some ((.aload_n 0), 1, 0, 0, 0, 0, 0) := (zl38_0 (Nat.le_of_ble_eq_true rfl)).trans rfl
theorem f38_1 : zi_fe 38 1 = some ((.aload_n 1), 1, 0, 0, 0, 0, 0) := (zl38_0 (Nat.le_of_ble_eq_true rfl)).trans rfl
theorem f38_2 : zi_fe 38 2 = some ((.getfield 37), 3, 4, 0, 0, 137, 0) := (zl38_0 (Nat.le_of_ble_eq_true rfl)).trans rfl
theorem f38_5 : zi_fe 38 5 = some ((.putfield 37), 3, 4, 0, 0, 137, 0) := (zl38_0 (Nat.le_of_ble_eq_true rfl)).trans rfl
theorem f38_8 : zi_fe 38 8 = some ((.aload_n 0), 1, 0, 0, 0, 0, 0) := (zl38_0 (Nat.le_of_ble_eq_true rfl)).trans rfl
theorem f38_9 : zi_fe 38 9 = some ((.aload_n 1), 1, 0, 0, 0, 0, 0) := (zl38_0 (Nat.le_of_ble_eq_true rfl)).trans rfl
theorem f38_10 : zi_fe 38 10 = some ((.getfield 45), 3, 4, 1, 0, 141, 0) := (zl38_0 (Nat.le_of_ble_eq_true rfl)).trans rfl
theorem f38_13 : zi_fe 38 13 = some ((.putfield 45), 3, 4, 1, 0, 141, 0) := (zl38_0 (Nat.le_of_ble_eq_true rfl)).trans rfl
theorem f38_16 : zi_fe 38 16 = some ((.aload_n 0), 1, 0, 0, 0, 0, 0) := (zl38_0 (Nat.le_of_ble_eq_true rfl)).trans rfl
theorem f38_17 : zi_fe 38 17 = some ((.aload_n 1), 1, 0, 0, 0, 0, 0) := (zl38_0 (Nat.le_of_ble_eq_true rfl)).trans rfl
theorem f38_18 : zi_fe 38 18 = some ((.getfield 48), 3, 4, 2, 0, 144, 0) := (zl38_0 (Nat.le_of_ble_eq_true rfl)).trans rfl
theorem f38_21 : zi_fe 38 21 = some ((.putfield 48), 3, 4, 2, 0, 144, 0) := (zl38_0 (Nat.le_of_ble_eq_true rfl)).trans rfl
theorem zl38_1 {pc : Nat} (h : 24 ≤ pc) : zi_fe 38 pc = zu38_1.lookup pc := (zl38_0 (Nat.le_trans (Nat.le_of_ble_eq_true rfl) h)).trans (zi_lkA (a := zi_i38_0) (c := 24) rfl h)
theorem f38_24 : zi_fe 38 24 = some ((.aload_n 1), 1, 0, 0, 0, 0, 0) := (zl38_1 (Nat.le_of_ble_eq_true rfl)).trans rfl
theorem f38_25 : zi_fe 38 25 = some ((.getfield 9), 3, 4, 3, 3, 147, 0) := (zl38_1 (Nat.le_of_ble_eq_true rfl)).trans rfl
theorem f38_28 : zi_fe 38 28 = some ((.iconst 0), 1, 0, 0, 0, 0, 0) := (zl38_1 (Nat.le_of_ble_eq_true rfl)).trans rfl
theorem f38_29 : zi_fe 38 29 = some ((.aload_n 0), 1, 0, 0, 0, 0, 0) := (zl38_1 (Nat.le_of_ble_eq_true rfl)).trans rfl
theorem f38_30 : zi_fe 38 30 = some ((.getfield 9), 3, 4, 3, 3, 147, 0) := (zl38_1 (Nat.le_of_ble_eq_true rfl)).trans rfl
theorem f38_33 : zi_fe 38 33 = some ((.iconst 0), 1, 0, 0, 0, 0, 0) := (zl38_1 (Nat.le_of_ble_eq_true rfl)).trans rfl
theorem f38_34 : zi_fe 38 34 = some ((.bipush 24), 2, 0, 0, 0, 0, 0) := (zl38_1 (Nat.le_of_ble_eq_true rfl)).trans rfl
theorem f38_36 : zi_fe 38 36 = some ((.invokestatic 51), 3, 0, 6, 0, 707, 5) := (zl38_1 (Nat.le_of_ble_eq_true rfl)).trans rfl
theorem f38_39 : zi_fe 38 39 = some ((.aload_n 1), 1, 0, 0, 0, 0, 0) := (zl38_1 (Nat.le_of_ble_eq_true rfl)).trans rfl
theorem f38_40 : zi_fe 38 40 = some ((.getfield 15), 3, 4, 4, 3, 149, 0) := (zl38_1 (Nat.le_of_ble_eq_true rfl)).trans rfl
theorem f38_43 : zi_fe 38 43 = some ((.iconst 0), 1, 0, 0, 0, 0, 0) := (zl38_1 (Nat.le_of_ble_eq_true rfl)).trans rfl
theorem f38_44 : zi_fe 38 44 = some ((.aload_n 0), 1, 0, 0, 0, 0, 0) := (zl38_1 (Nat.le_of_ble_eq_true rfl)).trans rfl
theorem zl38_2 {pc : Nat} (h : 45 ≤ pc) : zi_fe 38 pc = zu38_2.lookup pc := (zl38_1 (Nat.le_trans (Nat.le_of_ble_eq_true rfl) h)).trans (zi_lkA (a := zi_i38_1) (c := 45) rfl h)
theorem f38_45 : zi_fe 38 45 = some ((.getfield 15), 3, 4, 4, 3, 149, 0) := (zl38_2 (Nat.le_of_ble_eq_true rfl)).trans rfl
theorem f38_48 : zi_fe 38 48 = some ((.iconst 0), 1, 0, 0, 0, 0, 0) := (zl38_2 (Nat.le_of_ble_eq_true rfl)).trans rfl
theorem f38_49 : zi_fe 38 49 = some ((.bipush 24), 2, 0, 0, 0, 0, 0) := (zl38_2 (Nat.le_of_ble_eq_true rfl)).trans rfl
theorem f38_51 : zi_fe 38 51 = some ((.invokestatic 51), 3, 0, 6, 0, 707, 5) := (zl38_2 (Nat.le_of_ble_eq_true rfl)).trans rfl
theorem f38_54 : zi_fe 38 54 = some ((.aload_n 1), 1, 0, 0, 0, 0, 0) := (zl38_2 (Nat.le_of_ble_eq_true rfl)).trans rfl
theorem f38_55 : zi_fe 38 55 = some ((.getfield 18), 3, 4, 5, 3, 152, 0) := (zl38_2 (Nat.le_of_ble_eq_true rfl)).trans rfl
theorem f38_58 : zi_fe 38 58 = some ((.iconst 0), 1, 0, 0, 0, 0, 0) := (zl38_2 (Nat.le_of_ble_eq_true rfl)).trans rfl
theorem f38_59 : zi_fe 38 59 = some ((.aload_n 0), 1, 0, 0, 0, 0, 0) := (zl38_2 (Nat.le_of_ble_eq_true rfl)).trans rfl
theorem f38_60 : zi_fe 38 60 = some ((.getfield 18), 3, 4, 5, 3, 152, 0) := (zl38_2 (Nat.le_of_ble_eq_true rfl)).trans rfl
theorem f38_63 : zi_fe 38 63 = some ((.iconst 0), 1, 0, 0, 0, 0, 0) := (zl38_2 (Nat.le_of_ble_eq_true rfl)).trans rfl
theorem f38_64 : zi_fe 38 64 = some ((.bipush 24), 2, 0, 0, 0, 0, 0) := (zl38_2 (Nat.le_of_ble_eq_true rfl)).trans rfl
theorem f38_66 : zi_fe 38 66 = some ((.invokestatic 51), 3, 0, 6, 0, 707, 5) := (zl38_2 (Nat.le_of_ble_eq_true rfl)).trans rfl
theorem zl38_3 {pc : Nat} (h : 69 ≤ pc) : zi_fe 38 pc = zu38_3.lookup pc := (zl38_2 (Nat.le_trans (Nat.le_of_ble_eq_true rfl) h)).trans (zi_lkA (a := zi_i38_2) (c := 69) rfl h)
theorem f38_69 : zi_fe 38 69 = some ((.aload_n 1), 1, 0, 0, 0, 0, 0) := (zl38_3 (Nat.le_of_ble_eq_true rfl)).trans rfl
theorem f38_70 : zi_fe 38 70 = some ((.getfield 21), 3, 4, 6, 3, 154, 0) := (zl38_3 (Nat.le_of_ble_eq_true rfl)).trans rfl
theorem f38_73 : zi_fe 38 73 = some ((.iconst 0), 1, 0, 0, 0, 0, 0) := (zl38_3 (Nat.le_of_ble_eq_true rfl)).trans rfl
theorem f38_74 : zi_fe 38 74 = some ((.aload_n 0), 1, 0, 0, 0, 0, 0) := (zl38_3 (Nat.le_of_ble_eq_true rfl)).trans rfl
theorem f38_75 : zi_fe 38 75 = some ((.getfield 21), 3, 4, 6, 3, 154, 0) := (zl38_3 (Nat.le_of_ble_eq_true rfl)).trans rfl
theorem f38_78 : zi_fe 38 78 = some ((.iconst 0), 1, 0, 0, 0, 0, 0) := (zl38_3 (Nat.le_of_ble_eq_true rfl)).trans rfl
theorem f38_79 : zi_fe 38 79 = some ((.bipush 24), 2, 0, 0, 0, 0, 0) := (zl38_3 (Nat.le_of_ble_eq_true rfl)).trans rfl
theorem f38_81 : zi_fe 38 81 = some ((.invokestatic 51), 3, 0, 6, 0, 707, 5) := (zl38_3 (Nat.le_of_ble_eq_true rfl)).trans rfl
theorem f38_84 : zi_fe 38 84 = some ((.aload_n 1), 1, 0, 0, 0, 0, 0) := (zl38_3 (Nat.le_of_ble_eq_true rfl)).trans rfl
theorem f38_85 : zi_fe 38 85 = some ((.getfield 24), 3, 4, 7, 3, 157, 0) := (zl38_3 (Nat.le_of_ble_eq_true rfl)).trans rfl
theorem f38_88 : zi_fe 38 88 = some ((.iconst 0), 1, 0, 0, 0, 0, 0) := (zl38_3 (Nat.le_of_ble_eq_true rfl)).trans rfl
theorem f38_89 : zi_fe 38 89 = some ((.aload_n 0), 1, 0, 0, 0, 0, 0) := (zl38_3 (Nat.le_of_ble_eq_true rfl)).trans rfl
theorem zl38_4 {pc : Nat} (h : 90 ≤ pc) : zi_fe 38 pc = zu38_4.lookup pc := (zl38_3 (Nat.le_trans (Nat.le_of_ble_eq_true rfl) h)).trans (zi_lkA (a := zi_i38_3) (c := 90) rfl h)
theorem f38_90 : zi_fe 38 90 = some ((.getfield 24), 3, 4, 7, 3, 157, 0) := (zl38_4 (Nat.le_of_ble_eq_true rfl)).trans rfl
theorem f38_93 : zi_fe 38 93 = some ((.iconst 0), 1, 0, 0, 0, 0, 0) := (zl38_4 (Nat.le_of_ble_eq_true rfl)).trans rfl
theorem f38_94 : zi_fe 38 94 = some ((.bipush 24), 2, 0, 0, 0, 0, 0) := (zl38_4 (Nat.le_of_ble_eq_true rfl)).trans rfl
theorem f38_96 : zi_fe 38 96 = some ((.invokestatic 51), 3, 0, 6, 0, 707, 5) := (zl38_4 (Nat.le_of_ble_eq_true rfl)).trans rfl
theorem f38_99 : zi_fe 38 99 = some ((.aload_n 1), 1, 0, 0, 0, 0, 0) := (zl38_4 (Nat.le_of_ble_eq_true rfl)).trans rfl
theorem f38_100 : zi_fe 38 100 = some ((.getfield 28), 3, 4, 8, 3, 160, 0) := (zl38_4 (Nat.le_of_ble_eq_true rfl)).trans rfl
theorem f38_103 : zi_fe 38 103 = some ((.iconst 0), 1, 0, 0, 0, 0, 0) := (zl38_4 (Nat.le_of_ble_eq_true rfl)).trans rfl
theorem f38_104 : zi_fe 38 104 = some ((.aload_n 0), 1, 0, 0, 0, 0, 0) := (zl38_4 (Nat.le_of_ble_eq_true rfl)).trans rfl
theorem f38_105 : zi_fe 38 105 = some ((.getfield 28), 3, 4, 8, 3, 160, 0) := (zl38_4 (Nat.le_of_ble_eq_true rfl)).trans rfl
theorem f38_108 : zi_fe 38 108 = some ((.iconst 0), 1, 0, 0, 0, 0, 0) := (zl38_4 (Nat.le_of_ble_eq_true rfl)).trans rfl
theorem f38_109 : zi_fe 38 109 = some ((.bipush 120), 2, 0, 0, 0, 0, 0) := (zl38_4 (Nat.le_of_ble_eq_true rfl)).trans rfl
theorem f38_111 : zi_fe 38 111 = some ((.invokestatic 51), 3, 0, 6, 0, 707, 5) := (zl38_4 (Nat.le_of_ble_eq_true rfl)).trans rfl
theorem zl38_5 {pc : Nat} (h : 114 ≤ pc) : zi_fe 38 pc = zu38_5.lookup pc := (zl38_4 (Nat.le_trans (Nat.le_of_ble_eq_true rfl) h)).trans (zi_lkA (a := zi_i38_4) (c := 114) rfl h)
theorem f38_114 : zi_fe 38 114 = some ((.aload_n 1), 1, 0, 0, 0, 0, 0) := (zl38_5 (Nat.le_of_ble_eq_true rfl)).trans rfl
theorem f38_115 : zi_fe 38 115 = some ((.getfield 31), 3, 4, 9, 3, 161, 0) := (zl38_5 (Nat.le_of_ble_eq_true rfl)).trans rfl
theorem f38_118 : zi_fe 38 118 = some ((.iconst 0), 1, 0, 0, 0, 0, 0) := (zl38_5 (Nat.le_of_ble_eq_true rfl)).trans rfl
theorem f38_119 : zi_fe 38 119 = some ((.aload_n 0), 1, 0, 0, 0, 0, 0) := (zl38_5 (Nat.le_of_ble_eq_true rfl)).trans rfl
theorem f38_120 : zi_fe 38 120 = some ((.getfield 31), 3, 4, 9, 3, 161, 0) := (zl38_5 (Nat.le_of_ble_eq_true rfl)).trans rfl
theorem f38_123 : zi_fe 38 123 = some ((.iconst 0), 1, 0, 0, 0, 0, 0) := (zl38_5 (Nat.le_of_ble_eq_true rfl)).trans rfl
theorem f38_124 : zi_fe 38 124 = some ((.bipush 120), 2, 0, 0, 0, 0, 0) := (zl38_5 (Nat.le_of_ble_eq_true rfl)).trans rfl
theorem f38_126 : zi_fe 38 126 = some ((.invokestatic 51), 3, 0, 6, 0, 707, 5) := (zl38_5 (Nat.le_of_ble_eq_true rfl)).trans rfl
theorem f38_129 : zi_fe 38 129 = some (.return_, 1, 0, 0, 0, 0, 0) := (zl38_5 (Nat.le_of_ble_eq_true rfl)).trans rfl
theorem b38_0 {h : zi_Hp} {a0 : Nat} {a1 : Nat} (g0 : a1 < zh_n h) (g1 : (zh_k h a1).1 = 4) (g2 : a0 < zh_n h) (g3 : (zh_k h a0).1 = 4) : zv 1 38 0 [.ref a0, .ref a1] [] h = zv 1 38 10 [.ref a0, .ref a1] [.ref a1, .ref a0] (zh_wi h a0 0 (zh_i h a1 0)) := by
  refine Eq.trans (zv_next f38_0 rfl) ?_
  refine Eq.trans (zv_next f38_1 rfl) ?_
  refine Eq.trans (zs_geti f38_2 g0 g1) ?_
  refine Eq.trans (zs_put f38_5 g2 g3 rfl) ?_
  refine Eq.trans (zv_next f38_8 rfl) ?_
  refine Eq.trans (zv_next f38_9 rfl) ?_
  rfl
theorem b38_10 {h : zi_Hp} {a0 : Nat} {a1 : Nat} {t0 : Nat} {t1 : Nat} (g0 : t1 < zh_n h) (g1 : (zh_k h t1).1 = 4) (g2 : t0 < zh_n h) (g3 : (zh_k h t0).1 = 4) : zv 1 38 10 [.ref a0, .ref a1] [.ref t1, .ref t0] h = zv 1 38 18 [.ref a0, .ref a1] [.ref a1, .ref a0] (zh_wi h t0 1 (zh_i h t1 1)) := by
  refine Eq.trans (zs_geti f38_10 g0 g1) ?_
  refine Eq.trans (zs_put f38_13 g2 g3 rfl) ?_
  refine Eq.trans (zv_next f38_16 rfl) ?_
  refine Eq.trans (zv_next f38_17 rfl) ?_
  rfl
theorem b38_18 {h : zi_Hp} {a0 : Nat} {a1 : Nat} {t0 : Nat} {t1 : Nat} (g0 : t1 < zh_n h) (g1 : (zh_k h t1).1 = 4) (g2 : t0 < zh_n h) (g3 : (zh_k h t0).1 = 4) (g4 : a1 < zh_n h) (g5 : (zh_k h a1).1 = 4) (g6 : zh_r h a1 3 = .ref (zq (zh_r h a1 3))) (g7 : a0 < zh_n h) (g8 : (zh_k h a0).1 = 4) (g9 : zh_r h a0 3 = .ref (zq (zh_r h a0 3))) (g10 : zi_cpo h (zq (zh_r h a1 3)) 0 (zq (zh_r h a0 3)) 0 24) (g11 : (zh_k h (zq (zh_r h a1 3))).1 = 100) (g12 : (zh_k h (zq (zh_r h a0 3))).1 = 100) (g13 : zh_r h a1 4 = .ref (zq (zh_r h a1 4))) (g14 : zh_r h a0 4 = .ref (zq (zh_r h a0 4))) (g15 : zi_cpo h (zq (zh_r h a1 4)) 0 (zq (zh_r h a0 4)) 0 24) (g16 : (zh_k h (zq (zh_r h a1 4))).1 = 100) (g17 : (zh_k h (zq (zh_r h a0 4))).1 = 100) (g18 : zh_r h a1 5 = .ref (zq (zh_r h a1 5))) (g19 : zh_r h a0 5 = .ref (zq (zh_r h a0 5))) (g20 : zi_cpo h (zq (zh_r h a1 5)) 0 (zq (zh_r h a0 5)) 0 24) (g21 : (zh_k h (zq (zh_r h a1 5))).1 = 100) (g22 : (zh_k h (zq (zh_r h a0 5))).1 = 100) (g23 : zh_r h a1 6 = .ref (zq (zh_r h a1 6))) (g24 : zh_r h a0 6 = .ref (zq (zh_r h a0 6))) (g25 : zi_cpo h (zq (zh_r h a1 6)) 0 (zq (zh_r h a0 6)) 0 24) (g26 : (zh_k h (zq (zh_r h a1 6))).1 = 100) (g27 : (zh_k h (zq (zh_r h a0 6))).1 = 100) (g28 : zh_r h a1 7 = .ref (zq (zh_r h a1 7))) (g29 : zh_r h a0 7 = .ref (zq (zh_r h a0 7))) (g30 : zi_cpo h (zq (zh_r h a1 7)) 0 (zq (zh_r h a0 7)) 0 24) (g31 : (zh_k h (zq (zh_r h a1 7))).1 = 101) (g32 : (zh_k h (zq (zh_r h a0 7))).1 = 101) (g33 : zh_r h a1 8 = .ref (zq (zh_r h a1 8))) (g34 : zh_r h a0 8 = .ref (zq (zh_r h a0 8))) (g35 : zi_cpo h (zq (zh_r h a1 8)) 0 (zq (zh_r h a0 8)) 0 120) (g36 : (zh_k h (zq (zh_r h a1 8))).1 = 100) (g37 : (zh_k h (zq (zh_r h a0 8))).1 = 100) (g38 : zh_r h a1 9 = .ref (zq (zh_r h a1 9))) (g39 : zh_r h a0 9 = .ref (zq (zh_r h a0 9))) (g40 : zi_cpo h (zq (zh_r h a1 9)) 0 (zq (zh_r h a0 9)) 0 120) (g41 : (zh_k h (zq (zh_r h a1 9))).1 = 100) (g42 : (zh_k h (zq (zh_r h a0 9))).1 = 100) : zv 1 38 18 [.ref a0, .ref a1] [.ref t1, .ref t0] h = some (none, zh_ci (zh_ci (zh_cb (zh_ci (zh_ci (zh_ci (zh_ci (zh_wi h t0 2 (zh_i h t1 2)) (zq (zh_r h a1 3)) 0 (zq (zh_r h a0 3)) 0 24) (zq (zh_r h a1 4)) 0 (zq (zh_r h a0 4)) 0 24) (zq (zh_r h a1 5)) 0 (zq (zh_r h a0 5)) 0 24) (zq (zh_r h a1 6)) 0 (zq (zh_r h a0 6)) 0 24) (zq (zh_r h a1 7)) 0 (zq (zh_r h a0 7)) 0 24) (zq (zh_r h a1 8)) 0 (zq (zh_r h a0 8)) 0 120) (zq (zh_r h a1 9)) 0 (zq (zh_r h a0 9)) 0 120) := by
  refine Eq.trans (zs_geti f38_18 g0 g1) ?_
  refine Eq.trans (zs_put f38_21 g2 g3 rfl) ?_
  refine Eq.trans (zv_next f38_24 rfl) ?_
  refine Eq.trans (zs_getr f38_25 g4 g5 g6) ?_
  refine Eq.trans (zs_ic f38_28 ic_0) ?_
  refine Eq.trans (zv_next f38_29 rfl) ?_
  refine Eq.trans (zs_getr f38_30 g7 g8 g9) ?_
  refine Eq.trans (zs_ic f38_33 ic_0) ?_
  refine Eq.trans (zs_bp f38_34 bp_24) ?_
  refine Eq.trans (zs_cpi f38_36 (Nat.le_of_ble_eq_true rfl) g10 g11 g12) ?_
  refine Eq.trans (zv_next f38_39 rfl) ?_
  refine Eq.trans (zs_getr f38_40 g4 g5 g13) ?_
  refine Eq.trans (zs_ic f38_43 ic_0) ?_
  refine Eq.trans (zv_next f38_44 rfl) ?_
  refine Eq.trans (zs_getr f38_45 g7 g8 g14) ?_
  refine Eq.trans (zs_ic f38_48 ic_0) ?_
  refine Eq.trans (zs_bp f38_49 bp_24) ?_
  refine Eq.trans (zs_cpi f38_51 (Nat.le_of_ble_eq_true rfl) g15 g16 g17) ?_
  refine Eq.trans (zv_next f38_54 rfl) ?_
  refine Eq.trans (zs_getr f38_55 g4 g5 g18) ?_
  refine Eq.trans (zs_ic f38_58 ic_0) ?_
  refine Eq.trans (zv_next f38_59 rfl) ?_
  refine Eq.trans (zs_getr f38_60 g7 g8 g19) ?_
  refine Eq.trans (zs_ic f38_63 ic_0) ?_
  refine Eq.trans (zs_bp f38_64 bp_24) ?_
  refine Eq.trans (zs_cpi f38_66 (Nat.le_of_ble_eq_true rfl) g20 g21 g22) ?_
  refine Eq.trans (zv_next f38_69 rfl) ?_
  refine Eq.trans (zs_getr f38_70 g4 g5 g23) ?_
  refine Eq.trans (zs_ic f38_73 ic_0) ?_
  refine Eq.trans (zv_next f38_74 rfl) ?_
  refine Eq.trans (zs_getr f38_75 g7 g8 g24) ?_
  refine Eq.trans (zs_ic f38_78 ic_0) ?_
  refine Eq.trans (zs_bp f38_79 bp_24) ?_
  refine Eq.trans (zs_cpi f38_81 (Nat.le_of_ble_eq_true rfl) g25 g26 g27) ?_
  refine Eq.trans (zv_next f38_84 rfl) ?_
  refine Eq.trans (zs_getr f38_85 g4 g5 g28) ?_
  refine Eq.trans (zs_ic f38_88 ic_0) ?_
  refine Eq.trans (zv_next f38_89 rfl) ?_
  refine Eq.trans (zs_getr f38_90 g7 g8 g29) ?_
  refine Eq.trans (zs_ic f38_93 ic_0) ?_
  refine Eq.trans (zs_bp f38_94 bp_24) ?_
  refine Eq.trans (zs_cpb f38_96 (Nat.le_of_ble_eq_true rfl) g30 g31 g32) ?_
  refine Eq.trans (zv_next f38_99 rfl) ?_
  refine Eq.trans (zs_getr f38_100 g4 g5 g33) ?_
  refine Eq.trans (zs_ic f38_103 ic_0) ?_
  refine Eq.trans (zv_next f38_104 rfl) ?_
  refine Eq.trans (zs_getr f38_105 g7 g8 g34) ?_
  refine Eq.trans (zs_ic f38_108 ic_0) ?_
  refine Eq.trans (zs_bp f38_109 bp_120) ?_
  refine Eq.trans (zs_cpi f38_111 (Nat.le_of_ble_eq_true rfl) g35 g36 g37) ?_
  refine Eq.trans (zv_next f38_114 rfl) ?_
  refine Eq.trans (zs_getr f38_115 g4 g5 g38) ?_
  refine Eq.trans (zs_ic f38_118 ic_0) ?_
  refine Eq.trans (zv_next f38_119 rfl) ?_
  refine Eq.trans (zs_getr f38_120 g7 g8 g39) ?_
  refine Eq.trans (zs_ic f38_123 ic_0) ?_
  refine Eq.trans (zs_bp f38_124 bp_120) ?_
  refine Eq.trans (zs_cpi f38_126 (Nat.le_of_ble_eq_true rfl) g40 g41 g42) ?_
  exact zv_ret f38_129 rfl
set_option maxRecDepth 20000 in
theorem zq39 : zi_M[39]? = some zi_m39 := rfl
theorem zl39_0 {pc : Nat} (_ : 0 ≤ pc) : zi_fe 39 pc = zu39_0.lookup pc := zi_feA zq39 pc
theorem f39_0 : zi_fe 39 0 = some ((.aload_n 0), 1, 0, 0, 0, 0, 0) := (zl39_0 (Nat.le_of_ble_eq_true rfl)).trans rfl
theorem f39_1 : zi_fe 39 1 = some ((.getfield 37), 3, 4, 0, 0, 137, 0) := (zl39_0 (Nat.le_of_ble_eq_true rfl)).trans rfl
theorem f39_4 : zi_fe 39 4 = some ((.bipush 24), 2, 0, 0, 0, 0, 0) := (zl39_0 (Nat.le_of_ble_eq_true rfl)).trans rfl
theorem f39_6 : zi_fe 39 6 = some ((.if_icmp .lt 7), 3, 0, 0, 0, 0, 0) := (zl39_0 (Nat.le_of_ble_eq_true rfl)).trans rfl
theorem f39_9 : zi_fe 39 9 = some ((.iconst 1), 1, 0, 0, 0, 0, 0) := (zl39_0 (Nat.le_of_ble_eq_true rfl)).trans rfl
theorem f39_10 : zi_fe 39 10 = some ((.goto 4), 3, 0, 0, 0, 0, 0) := (zl39_0 (Nat.le_of_ble_eq_true rfl)).trans rfl
theorem f39_13 : zi_fe 39 13 = some ((.iconst 0), 1, 0, 0, 0, 0, 0) := (zl39_0 (Nat.le_of_ble_eq_true rfl)).trans rfl
theorem f39_14 : zi_fe 39 14 = some (.ireturn, 1, 1, 0, 0, 0, 0) := (zl39_0 (Nat.le_of_ble_eq_true rfl)).trans rfl
theorem b39_0 {h : zi_Hp} {a0 : Nat} (g0 : a0 < zh_n h) (g1 : (zh_k h a0).1 = 4) : zv 1 39 0 [.ref a0] [] h = if (zh_i h a0 0) < 24 then zv 1 39 13 [.ref a0] [] h else zv 1 39 9 [.ref a0] [] h := by
  refine Eq.trans (zv_next f39_0 rfl) ?_
  refine Eq.trans (zs_geti f39_1 g0 g1) ?_
  refine Eq.trans (zs_bp f39_4 bp_24) ?_
  exact zs_icmp f39_6 rfl
theorem b39_9 {h : zi_Hp} {a0 : Nat}  : zv 1 39 9 [.ref a0] [] h = zv 1 39 14 [.ref a0] [.int 1] h := by
  refine Eq.trans (zs_ic f39_9 ic_1) ?_
  refine Eq.trans (zs_goto (tgt := 14) f39_10 rfl) ?_
  rfl
theorem b39_13 {h : zi_Hp} {a0 : Nat}  : zv 1 39 13 [.ref a0] [] h = zv 1 39 14 [.ref a0] [.int 0] h := by
  refine Eq.trans (zs_ic f39_13 ic_0) ?_
  rfl
theorem b39_14 {h : zi_Hp} {a0 : Nat} {s0 : Int32} (g0 : s0 = 0 ∨ s0 = 1) : zv 1 39 14 [.ref a0] [.int s0] h = some (some (.int s0), h) := by
  exact zs_ret1 f39_14 g0
set_option maxRecDepth 20000 in
theorem zq40 : zi_M[40]? = some zi_m40 := rfl
theorem zl40_0 {pc : Nat} (_ : 0 ≤ pc) : zi_fe 40 pc = zu40_0.lookup pc := zi_feA zq40 pc
theorem f40_0 : zi_fe 40 0 = some ((.aload_n 0), 1, 0, 0, 0, 0, 0) := (zl40_0 (Nat.le_of_ble_eq_true rfl)).trans rfl
theorem f40_1 : zi_fe 40 1 = some ((.getfield 37), 3, 4, 0, 0, 137, 0) := (zl40_0 (Nat.le_of_ble_eq_true rfl)).trans rfl
theorem f40_4 : zi_fe 40 4 = some ((.ifCond .lt 12), 3, 0, 0, 0, 0, 0) := (zl40_0 (Nat.le_of_ble_eq_true rfl)).trans rfl
theorem f40_7 : zi_fe 40 7 = some ((.aload_n 0), 1, 0, 0, 0, 0, 0) := (zl40_0 (Nat.le_of_ble_eq_true rfl)).trans rfl
theorem f40_8 : zi_fe 40 8 = some ((.getfield 37), 3, 4, 0, 0, 137, 0) := (zl40_0 (Nat.le_of_ble_eq_true rfl)).trans rfl
theorem f40_11 : zi_fe 40 11 = some ((.bipush 24), 2, 0, 0, 0, 0, 0) := (zl40_0 (Nat.le_of_ble_eq_true rfl)).trans rfl
theorem f40_13 : zi_fe 40 13 = some ((.if_icmp .lt 6), 3, 0, 0, 0, 0, 0) := (zl40_0 (Nat.le_of_ble_eq_true rfl)).trans rfl
theorem f40_16 : zi_fe 40 16 = some ((.bipush (-4)), 2, 0, 0, 0, 0, 0) := (zl40_0 (Nat.le_of_ble_eq_true rfl)).trans rfl
theorem f40_18 : zi_fe 40 18 = some (.ireturn, 1, 0, 0, 0, 0, 0) := (zl40_0 (Nat.le_of_ble_eq_true rfl)).trans rfl
theorem f40_19 : zi_fe 40 19 = some ((.aload_n 0), 1, 0, 0, 0, 0, 0) := (zl40_0 (Nat.le_of_ble_eq_true rfl)).trans rfl
theorem f40_20 : zi_fe 40 20 = some ((.getfield 37), 3, 4, 0, 0, 137, 0) := (zl40_0 (Nat.le_of_ble_eq_true rfl)).trans rfl
theorem f40_23 : zi_fe 40 23 = some ((.istore_n 2), 1, 0, 0, 0, 0, 0) := (zl40_0 (Nat.le_of_ble_eq_true rfl)).trans rfl
theorem zl40_1 {pc : Nat} (h : 24 ≤ pc) : zi_fe 40 pc = zu40_1.lookup pc := (zl40_0 (Nat.le_trans (Nat.le_of_ble_eq_true rfl) h)).trans (zi_lkA (a := zi_i40_0) (c := 24) rfl h)
theorem f40_24 : zi_fe 40 24 = some ((.aload_n 0), 1, 0, 0, 0, 0, 0) := (zl40_1 (Nat.le_of_ble_eq_true rfl)).trans rfl
theorem f40_25 : zi_fe 40 25 = some (.dup, 1, 0, 0, 0, 0, 0) := (zl40_1 (Nat.le_of_ble_eq_true rfl)).trans rfl
theorem f40_26 : zi_fe 40 26 = some ((.getfield 37), 3, 4, 0, 0, 137, 0) := (zl40_1 (Nat.le_of_ble_eq_true rfl)).trans rfl
theorem f40_29 : zi_fe 40 29 = some ((.iconst 1), 1, 0, 0, 0, 0, 0) := (zl40_1 (Nat.le_of_ble_eq_true rfl)).trans rfl
theorem f40_30 : zi_fe 40 30 = some (.iadd, 1, 0, 0, 0, 0, 0) := (zl40_1 (Nat.le_of_ble_eq_true rfl)).trans rfl
theorem f40_31 : zi_fe 40 31 = some ((.putfield 37), 3, 4, 0, 0, 137, 0) := (zl40_1 (Nat.le_of_ble_eq_true rfl)).trans rfl
theorem f40_34 : zi_fe 40 34 = some ((.aload_n 0), 1, 0, 0, 0, 0, 0) := (zl40_1 (Nat.le_of_ble_eq_true rfl)).trans rfl
theorem f40_35 : zi_fe 40 35 = some ((.getfield 9), 3, 4, 3, 3, 147, 0) := (zl40_1 (Nat.le_of_ble_eq_true rfl)).trans rfl
theorem f40_38 : zi_fe 40 38 = some ((.iload_n 2), 1, 0, 0, 0, 0, 0) := (zl40_1 (Nat.le_of_ble_eq_true rfl)).trans rfl
theorem f40_39 : zi_fe 40 39 = some ((.iload_n 1), 1, 0, 0, 0, 0, 0) := (zl40_1 (Nat.le_of_ble_eq_true rfl)).trans rfl
theorem f40_40 : zi_fe 40 40 = some (.iastore, 1, 0, 0, 0, 0, 0) := (zl40_1 (Nat.le_of_ble_eq_true rfl)).trans rfl
theorem f40_41 : zi_fe 40 41 = some ((.aload_n 0), 1, 0, 0, 0, 0, 0) := (zl40_1 (Nat.le_of_ble_eq_true rfl)).trans rfl
theorem zl40_2 {pc : Nat} (h : 42 ≤ pc) : zi_fe 40 pc = zu40_2.lookup pc := (zl40_1 (Nat.le_trans (Nat.le_of_ble_eq_true rfl) h)).trans (zi_lkA (a := zi_i40_1) (c := 42) rfl h)
theorem f40_42 : zi_fe 40 42 = some ((.getfield 15), 3, 4, 4, 3, 149, 0) := (zl40_2 (Nat.le_of_ble_eq_true rfl)).trans rfl
theorem f40_45 : zi_fe 40 45 = some ((.iload_n 2), 1, 0, 0, 0, 0, 0) := (zl40_2 (Nat.le_of_ble_eq_true rfl)).trans rfl
theorem f40_46 : zi_fe 40 46 = some ((.iconst 0), 1, 0, 0, 0, 0, 0) := (zl40_2 (Nat.le_of_ble_eq_true rfl)).trans rfl
theorem f40_47 : zi_fe 40 47 = some (.iastore, 1, 0, 0, 0, 0, 0) := (zl40_2 (Nat.le_of_ble_eq_true rfl)).trans rfl
theorem f40_48 : zi_fe 40 48 = some ((.aload_n 0), 1, 0, 0, 0, 0, 0) := (zl40_2 (Nat.le_of_ble_eq_true rfl)).trans rfl
theorem f40_49 : zi_fe 40 49 = some ((.getfield 18), 3, 4, 5, 3, 152, 0) := (zl40_2 (Nat.le_of_ble_eq_true rfl)).trans rfl
theorem f40_52 : zi_fe 40 52 = some ((.iload_n 2), 1, 0, 0, 0, 0, 0) := (zl40_2 (Nat.le_of_ble_eq_true rfl)).trans rfl
theorem f40_53 : zi_fe 40 53 = some ((.bipush 100), 2, 0, 0, 0, 0, 0) := (zl40_2 (Nat.le_of_ble_eq_true rfl)).trans rfl
theorem f40_55 : zi_fe 40 55 = some (.iastore, 1, 0, 0, 0, 0, 0) := (zl40_2 (Nat.le_of_ble_eq_true rfl)).trans rfl
theorem f40_56 : zi_fe 40 56 = some ((.aload_n 0), 1, 0, 0, 0, 0, 0) := (zl40_2 (Nat.le_of_ble_eq_true rfl)).trans rfl
theorem f40_57 : zi_fe 40 57 = some ((.getfield 21), 3, 4, 6, 3, 154, 0) := (zl40_2 (Nat.le_of_ble_eq_true rfl)).trans rfl
theorem f40_60 : zi_fe 40 60 = some ((.iload_n 2), 1, 0, 0, 0, 0, 0) := (zl40_2 (Nat.le_of_ble_eq_true rfl)).trans rfl
theorem zl40_3 {pc : Nat} (h : 61 ≤ pc) : zi_fe 40 pc = zu40_3.lookup pc := (zl40_2 (Nat.le_trans (Nat.le_of_ble_eq_true rfl) h)).trans (zi_lkA (a := zi_i40_2) (c := 61) rfl h)
theorem f40_61 : zi_fe 40 61 = some ((.bipush (-4)), 2, 0, 0, 0, 0, 0) := (zl40_3 (Nat.le_of_ble_eq_true rfl)).trans rfl
theorem f40_63 : zi_fe 40 63 = some (.iastore, 1, 0, 0, 0, 0, 0) := (zl40_3 (Nat.le_of_ble_eq_true rfl)).trans rfl
theorem f40_64 : zi_fe 40 64 = some ((.aload_n 0), 1, 0, 0, 0, 0, 0) := (zl40_3 (Nat.le_of_ble_eq_true rfl)).trans rfl
theorem f40_65 : zi_fe 40 65 = some ((.getfield 24), 3, 4, 7, 3, 157, 0) := (zl40_3 (Nat.le_of_ble_eq_true rfl)).trans rfl
theorem f40_68 : zi_fe 40 68 = some ((.iload_n 2), 1, 0, 0, 0, 0, 0) := (zl40_3 (Nat.le_of_ble_eq_true rfl)).trans rfl
theorem f40_69 : zi_fe 40 69 = some ((.iconst 0), 1, 0, 0, 0, 0, 0) := (zl40_3 (Nat.le_of_ble_eq_true rfl)).trans rfl
theorem f40_70 : zi_fe 40 70 = some (.bastore, 1, 0, 0, 0, 0, 0) := (zl40_3 (Nat.le_of_ble_eq_true rfl)).trans rfl
theorem f40_71 : zi_fe 40 71 = some ((.iload_n 2), 1, 0, 0, 0, 0, 0) := (zl40_3 (Nat.le_of_ble_eq_true rfl)).trans rfl
theorem f40_72 : zi_fe 40 72 = some (.ireturn, 1, 0, 0, 0, 0, 0) := (zl40_3 (Nat.le_of_ble_eq_true rfl)).trans rfl
theorem b40_0 {h : zi_Hp} {a0 : Nat} {x1 : Int32} {u2 : Value} (g0 : a0 < zh_n h) (g1 : (zh_k h a0).1 = 4) : zv 1 40 0 [.ref a0, .int x1, u2] [] h = if (zh_i h a0 0) < 0 then zv 1 40 16 [.ref a0, .int x1, u2] [] h else zv 1 40 7 [.ref a0, .int x1, u2] [] h := by
  refine Eq.trans (zv_next f40_0 rfl) ?_
  refine Eq.trans (zs_geti f40_1 g0 g1) ?_
  exact zs_if f40_4 rfl
theorem b40_7 {h : zi_Hp} {a0 : Nat} {x1 : Int32} {u2 : Value} (g0 : a0 < zh_n h) (g1 : (zh_k h a0).1 = 4) : zv 1 40 7 [.ref a0, .int x1, u2] [] h = if (zh_i h a0 0) < 24 then zv 1 40 19 [.ref a0, .int x1, u2] [] h else zv 1 40 16 [.ref a0, .int x1, u2] [] h := by
  refine Eq.trans (zv_next f40_7 rfl) ?_
  refine Eq.trans (zs_geti f40_8 g0 g1) ?_
  refine Eq.trans (zs_bp f40_11 bp_24) ?_
  exact zs_icmp f40_13 rfl
theorem b40_16 {h : zi_Hp} {a0 : Nat} {x1 : Int32} {u2 : Value}  : zv 1 40 16 [.ref a0, .int x1, u2] [] h = some (some (.int (-4)), h) := by
  refine Eq.trans (zs_bp f40_16 bp_m4) ?_
  exact zs_ret0 f40_18
theorem b40_19 {h : zi_Hp} {a0 : Nat} {x1 : Int32} {u2 : Value} (g0 : a0 < zh_n h) (g1 : (zh_k h a0).1 = 4) (g2 : zh_r h a0 3 = .ref (zq (zh_r h a0 3))) (g3 : (zq (zh_r h a0 3)) < zh_n h) (g4 : ¬ ((zh_i h a0 0) < 0 ∨ (zh_k h (zq (zh_r h a0 3))).2 ≤ (zh_i h a0 0).toNatClampNeg)) (g5 : (zh_k h (zq (zh_r h a0 3))).1 = 100) (g6 : zh_r h a0 4 = .ref (zq (zh_r h a0 4))) (g7 : (zq (zh_r h a0 4)) < zh_n h) (g8 : ¬ ((zh_i h a0 0) < 0 ∨ (zh_k h (zq (zh_r h a0 4))).2 ≤ (zh_i h a0 0).toNatClampNeg)) (g9 : (zh_k h (zq (zh_r h a0 4))).1 = 100) (g10 : zh_r h a0 5 = .ref (zq (zh_r h a0 5))) (g11 : (zq (zh_r h a0 5)) < zh_n h) (g12 : ¬ ((zh_i h a0 0) < 0 ∨ (zh_k h (zq (zh_r h a0 5))).2 ≤ (zh_i h a0 0).toNatClampNeg)) (g13 : (zh_k h (zq (zh_r h a0 5))).1 = 100) (g14 : zh_r h a0 6 = .ref (zq (zh_r h a0 6))) (g15 : (zq (zh_r h a0 6)) < zh_n h) (g16 : ¬ ((zh_i h a0 0) < 0 ∨ (zh_k h (zq (zh_r h a0 6))).2 ≤ (zh_i h a0 0).toNatClampNeg)) (g17 : (zh_k h (zq (zh_r h a0 6))).1 = 100) (g18 : zh_r h a0 7 = .ref (zq (zh_r h a0 7))) (g19 : (zq (zh_r h a0 7)) < zh_n h) (g20 : ¬ ((zh_i h a0 0) < 0 ∨ (zh_k h (zq (zh_r h a0 7))).2 ≤ (zh_i h a0 0).toNatClampNeg)) (g21 : (zh_k h (zq (zh_r h a0 7))).1 = 101) : zv 1 40 19 [.ref a0, .int x1, u2] [] h = some (some (.int (zh_i h a0 0)), zh_wb (zh_wi (zh_wi (zh_wi (zh_wi (zh_wi h a0 0 ((zh_i h a0 0) + 1)) (zq (zh_r h a0 3)) (zh_i h a0 0).toNatClampNeg x1) (zq (zh_r h a0 4)) (zh_i h a0 0).toNatClampNeg 0) (zq (zh_r h a0 5)) (zh_i h a0 0).toNatClampNeg 100) (zq (zh_r h a0 6)) (zh_i h a0 0).toNatClampNeg (-4)) (zq (zh_r h a0 7)) (zh_i h a0 0).toNatClampNeg false) := by
  refine Eq.trans (zv_next f40_19 rfl) ?_
  refine Eq.trans (zs_geti f40_20 g0 g1) ?_
  refine Eq.trans (zv_next f40_23 rfl) ?_
  refine Eq.trans (zv_next f40_24 rfl) ?_
  refine Eq.trans (zv_next f40_25 rfl) ?_
  refine Eq.trans (zs_geti f40_26 g0 g1) ?_
  refine Eq.trans (zs_ic f40_29 ic_1) ?_
  refine Eq.trans (zv_next f40_30 rfl) ?_
  refine Eq.trans (zs_put f40_31 g0 g1 rfl) ?_
  refine Eq.trans (zv_next f40_34 rfl) ?_
  refine Eq.trans (zs_getr f40_35 g0 g1 g2) ?_
  refine Eq.trans (zv_next f40_38 rfl) ?_
  refine Eq.trans (zv_next f40_39 rfl) ?_
  refine Eq.trans (zs_iast f40_40 g3 g5 g4) ?_
  refine Eq.trans (zv_next f40_41 rfl) ?_
  refine Eq.trans (zs_getr f40_42 g0 g1 g6) ?_
  refine Eq.trans (zv_next f40_45 rfl) ?_
  refine Eq.trans (zs_ic f40_46 ic_0) ?_
  refine Eq.trans (zs_iast f40_47 g7 g9 g8) ?_
  refine Eq.trans (zv_next f40_48 rfl) ?_
  refine Eq.trans (zs_getr f40_49 g0 g1 g10) ?_
  refine Eq.trans (zv_next f40_52 rfl) ?_
  refine Eq.trans (zs_bp f40_53 bp_100) ?_
  refine Eq.trans (zs_iast f40_55 g11 g13 g12) ?_
  refine Eq.trans (zv_next f40_56 rfl) ?_
  refine Eq.trans (zs_getr f40_57 g0 g1 g14) ?_
  refine Eq.trans (zv_next f40_60 rfl) ?_
  refine Eq.trans (zs_bp f40_61 bp_m4) ?_
  refine Eq.trans (zs_iast f40_63 g15 g17 g16) ?_
  refine Eq.trans (zv_next f40_64 rfl) ?_
  refine Eq.trans (zs_getr f40_65 g0 g1 g18) ?_
  refine Eq.trans (zv_next f40_68 rfl) ?_
  refine Eq.trans (zs_ic f40_69 ic_0) ?_
  refine Eq.trans (zs_bast f40_70 g19 g21 g20 rfl) ?_
  refine Eq.trans (zv_next f40_71 rfl) ?_
  exact zs_ret0 f40_72
set_option maxRecDepth 20000 in
theorem zq41 : zi_M[41]? = some zi_m41 := rfl
theorem zl41_0 {pc : Nat} (_ : 0 ≤ pc) : zi_fe 41 pc = zu41_0.lookup pc := zi_feA zq41 pc
theorem f41_0 : zi_fe 41 0 = some ((.iload_n 1), 1, 0, 0, 0, 0, 0) := (zl41_0 (Nat.le_of_ble_eq_true rfl)).trans rfl
theorem f41_1 : zi_fe 41 1 = some ((.ifCond .lt 15), 3, 0, 0, 0, 0, 0) := (zl41_0 (Nat.le_of_ble_eq_true rfl)).trans rfl
theorem f41_4 : zi_fe 41 4 = some ((.iload_n 1), 1, 0, 0, 0, 0, 0) := (zl41_0 (Nat.le_of_ble_eq_true rfl)).trans rfl
theorem f41_5 : zi_fe 41 5 = some ((.aload_n 0), 1, 0, 0, 0, 0, 0) := (zl41_0 (Nat.le_of_ble_eq_true rfl)).trans rfl
theorem f41_6 : zi_fe 41 6 = some ((.getfield 37), 3, 4, 0, 0, 137, 0) := (zl41_0 (Nat.le_of_ble_eq_true rfl)).trans rfl
theorem f41_9 : zi_fe 41 9 = some ((.if_icmp .ge 7), 3, 0, 0, 0, 0, 0) := (zl41_0 (Nat.le_of_ble_eq_true rfl)).trans rfl
theorem f41_12 : zi_fe 41 12 = some ((.iconst 1), 1, 0, 0, 0, 0, 0) := (zl41_0 (Nat.le_of_ble_eq_true rfl)).trans rfl
theorem f41_13 : zi_fe 41 13 = some ((.goto 4), 3, 0, 0, 0, 0, 0) := (zl41_0 (Nat.le_of_ble_eq_true rfl)).trans rfl
theorem f41_16 : zi_fe 41 16 = some ((.iconst 0), 1, 0, 0, 0, 0, 0) := (zl41_0 (Nat.le_of_ble_eq_true rfl)).trans rfl
theorem f41_17 : zi_fe 41 17 = some (.ireturn, 1, 1, 0, 0, 0, 0) := (zl41_0 (Nat.le_of_ble_eq_true rfl)).trans rfl
theorem b41_0 {h : zi_Hp} {a0 : Nat} {x1 : Int32}  : zv 1 41 0 [.ref a0, .int x1] [] h = if x1 < 0 then zv 1 41 16 [.ref a0, .int x1] [] h else zv 1 41 4 [.ref a0, .int x1] [] h := by
  refine Eq.trans (zv_next f41_0 rfl) ?_
  exact zs_if f41_1 rfl
theorem b41_4 {h : zi_Hp} {a0 : Nat} {x1 : Int32} (g0 : a0 < zh_n h) (g1 : (zh_k h a0).1 = 4) : zv 1 41 4 [.ref a0, .int x1] [] h = if x1 < (zh_i h a0 0) then zv 1 41 12 [.ref a0, .int x1] [] h else zv 1 41 16 [.ref a0, .int x1] [] h := by
  refine Eq.trans (zv_next f41_4 rfl) ?_
  refine Eq.trans (zv_next f41_5 rfl) ?_
  refine Eq.trans (zs_geti f41_6 g0 g1) ?_
  exact zs_icmp f41_9 rfl
theorem b41_12 {h : zi_Hp} {a0 : Nat} {x1 : Int32}  : zv 1 41 12 [.ref a0, .int x1] [] h = zv 1 41 17 [.ref a0, .int x1] [.int 1] h := by
  refine Eq.trans (zs_ic f41_12 ic_1) ?_
  refine Eq.trans (zs_goto (tgt := 17) f41_13 rfl) ?_
  rfl
theorem b41_16 {h : zi_Hp} {a0 : Nat} {x1 : Int32}  : zv 1 41 16 [.ref a0, .int x1] [] h = zv 1 41 17 [.ref a0, .int x1] [.int 0] h := by
  refine Eq.trans (zs_ic f41_16 ic_0) ?_
  rfl
theorem b41_17 {h : zi_Hp} {a0 : Nat} {x1 : Int32} {s0 : Int32} (g0 : s0 = 0 ∨ s0 = 1) : zv 1 41 17 [.ref a0, .int x1] [.int s0] h = some (some (.int s0), h) := by
  exact zs_ret1 f41_17 g0
set_option maxRecDepth 20000 in
theorem zq42 : zi_M[42]? = some zi_m42 := rfl
theorem zl42_0 {pc : Nat} (_ : 0 ≤ pc) : zi_fe 42 pc = zu42_0.lookup pc := zi_feA zq42 pc
theorem f42_0 : zi_fe 42 0 = some ((.aload_n 0), 1, 0, 0, 0, 0, 0) := (zl42_0 (Nat.le_of_ble_eq_true rfl)).trans rfl
theorem f42_1 : zi_fe 42 1 = some ((.iload_n 1), 1, 0, 0, 0, 0, 0) := (zl42_0 (Nat.le_of_ble_eq_true rfl)).trans rfl
theorem f42_2 : zi_fe 42 2 = some ((.invokevirtual 57), 3, 41, 0, 4, 618, 2) := (zl42_0 (Nat.le_of_ble_eq_true rfl)).trans rfl
theorem f42_5 : zi_fe 42 5 = some ((.ifCond .eq 12), 3, 0, 0, 0, 0, 0) := (zl42_0 (Nat.le_of_ble_eq_true rfl)).trans rfl
theorem f42_8 : zi_fe 42 8 = some ((.aload_n 0), 1, 0, 0, 0, 0, 0) := (zl42_0 (Nat.le_of_ble_eq_true rfl)).trans rfl
theorem f42_9 : zi_fe 42 9 = some ((.getfield 9), 3, 4, 3, 3, 147, 0) := (zl42_0 (Nat.le_of_ble_eq_true rfl)).trans rfl
theorem f42_12 : zi_fe 42 12 = some ((.iload_n 1), 1, 0, 0, 0, 0, 0) := (zl42_0 (Nat.le_of_ble_eq_true rfl)).trans rfl
theorem f42_13 : zi_fe 42 13 = some (.iaload, 1, 0, 0, 0, 0, 0) := (zl42_0 (Nat.le_of_ble_eq_true rfl)).trans rfl
theorem f42_14 : zi_fe 42 14 = some ((.goto 5), 3, 0, 0, 0, 0, 0) := (zl42_0 (Nat.le_of_ble_eq_true rfl)).trans rfl
theorem f42_17 : zi_fe 42 17 = some ((.bipush (-4)), 2, 0, 0, 0, 0, 0) := (zl42_0 (Nat.le_of_ble_eq_true rfl)).trans rfl
theorem f42_19 : zi_fe 42 19 = some (.ireturn, 1, 0, 0, 0, 0, 0) := (zl42_0 (Nat.le_of_ble_eq_true rfl)).trans rfl
theorem b42_0 {h : zi_Hp} {a0 : Nat} {x1 : Int32} (g0 : a0 < zh_n h) (g1 : (zh_k h a0).1 = 4) : zv 2 42 0 [.ref a0, .int x1] [] h = (zv 1 41 0 [.ref a0, .int x1] [] h).bind fun r => zv 2 42 5 [.ref a0, .int x1] (r.1.toList ++ []) r.2 := by
  refine Eq.trans (zv_next f42_0 rfl) ?_
  refine Eq.trans (zv_next f42_1 rfl) ?_
  exact zs_callV f42_2 (Nat.le_of_ble_eq_true rfl) (Nat.le_of_ble_eq_true rfl) rfl g0 g1 me_41 (by decide) rfl
theorem b42_5 {h : zi_Hp} {a0 : Nat} {x1 : Int32} {s0 : Int32}  : zv 2 42 5 [.ref a0, .int x1] [.int s0] h = if s0 = 0 then zv 2 42 17 [.ref a0, .int x1] [] h else zv 2 42 8 [.ref a0, .int x1] [] h := by
  exact zs_if f42_5 rfl
theorem b42_8 {h : zi_Hp} {a0 : Nat} {x1 : Int32} (g0 : a0 < zh_n h) (g1 : (zh_k h a0).1 = 4) (g2 : zh_r h a0 3 = .ref (zq (zh_r h a0 3))) (g3 : (zq (zh_r h a0 3)) < zh_n h) (g4 : ¬ (x1 < 0 ∨ (zh_k h (zq (zh_r h a0 3))).2 ≤ x1.toNatClampNeg)) (g5 : (zh_k h (zq (zh_r h a0 3))).1 = 100) : zv 2 42 8 [.ref a0, .int x1] [] h = zv 2 42 19 [.ref a0, .int x1] [.int (zh_i h (zq (zh_r h a0 3)) x1.toNatClampNeg)] h := by
  refine Eq.trans (zv_next f42_8 rfl) ?_
  refine Eq.trans (zs_getr f42_9 g0 g1 g2) ?_
  refine Eq.trans (zv_next f42_12 rfl) ?_
  refine Eq.trans (zs_iald f42_13 g3 g5 g4) ?_
  refine Eq.trans (zs_goto (tgt := 19) f42_14 rfl) ?_
  rfl
theorem b42_17 {h : zi_Hp} {a0 : Nat} {x1 : Int32}  : zv 2 42 17 [.ref a0, .int x1] [] h = zv 2 42 19 [.ref a0, .int x1] [.int (-4)] h := by
  refine Eq.trans (zs_bp f42_17 bp_m4) ?_
  rfl
theorem b42_19 {h : zi_Hp} {a0 : Nat} {x1 : Int32} {s0 : Int32}  : zv 2 42 19 [.ref a0, .int x1] [.int s0] h = some (some (.int s0), h) := by
  exact zs_ret0 f42_19
set_option maxRecDepth 20000 in
theorem zq43 : zi_M[43]? = some zi_m43 := rfl
theorem zl43_0 {pc : Nat} (_ : 0 ≤ pc) : zi_fe 43 pc = zu43_0.lookup pc := zi_feA zq43 pc
theorem f43_0 : zi_fe 43 0 = some ((.aload_n 0), 1, 0, 0, 0, 0, 0) := (zl43_0 (Nat.le_of_ble_eq_true rfl)).trans rfl
theorem f43_1 : zi_fe 43 1 = some ((.iload_n 1), 1, 0, 0, 0, 0, 0) := (zl43_0 (Nat.le_of_ble_eq_true rfl)).trans rfl
theorem f43_2 : zi_fe 43 2 = some ((.invokevirtual 57), 3, 41, 0, 4, 618, 2) := (zl43_0 (Nat.le_of_ble_eq_true rfl)).trans rfl
theorem f43_5 : zi_fe 43 5 = some ((.ifCond .eq 12), 3, 0, 0, 0, 0, 0) := (zl43_0 (Nat.le_of_ble_eq_true rfl)).trans rfl
theorem f43_8 : zi_fe 43 8 = some ((.aload_n 0), 1, 0, 0, 0, 0, 0) := (zl43_0 (Nat.le_of_ble_eq_true rfl)).trans rfl
theorem f43_9 : zi_fe 43 9 = some ((.getfield 18), 3, 4, 5, 3, 152, 0) := (zl43_0 (Nat.le_of_ble_eq_true rfl)).trans rfl
theorem f43_12 : zi_fe 43 12 = some ((.iload_n 1), 1, 0, 0, 0, 0, 0) := (zl43_0 (Nat.le_of_ble_eq_true rfl)).trans rfl
theorem f43_13 : zi_fe 43 13 = some (.iaload, 1, 0, 0, 0, 0, 0) := (zl43_0 (Nat.le_of_ble_eq_true rfl)).trans rfl
theorem f43_14 : zi_fe 43 14 = some ((.goto 5), 3, 0, 0, 0, 0, 0) := (zl43_0 (Nat.le_of_ble_eq_true rfl)).trans rfl
theorem f43_17 : zi_fe 43 17 = some ((.bipush 100), 2, 0, 0, 0, 0, 0) := (zl43_0 (Nat.le_of_ble_eq_true rfl)).trans rfl
theorem f43_19 : zi_fe 43 19 = some (.ireturn, 1, 0, 0, 0, 0, 0) := (zl43_0 (Nat.le_of_ble_eq_true rfl)).trans rfl
theorem b43_0 {h : zi_Hp} {a0 : Nat} {x1 : Int32} (g0 : a0 < zh_n h) (g1 : (zh_k h a0).1 = 4) : zv 2 43 0 [.ref a0, .int x1] [] h = (zv 1 41 0 [.ref a0, .int x1] [] h).bind fun r => zv 2 43 5 [.ref a0, .int x1] (r.1.toList ++ []) r.2 := by
  refine Eq.trans (zv_next f43_0 rfl) ?_
  refine Eq.trans (zv_next f43_1 rfl) ?_
  exact zs_callV f43_2 (Nat.le_of_ble_eq_true rfl) (Nat.le_of_ble_eq_true rfl) rfl g0 g1 me_41 (by decide) rfl
theorem b43_5 {h : zi_Hp} {a0 : Nat} {x1 : Int32} {s0 : Int32}  : zv 2 43 5 [.ref a0, .int x1] [.int s0] h = if s0 = 0 then zv 2 43 17 [.ref a0, .int x1] [] h else zv 2 43 8 [.ref a0, .int x1] [] h := by
  exact zs_if f43_5 rfl
theorem b43_8 {h : zi_Hp} {a0 : Nat} {x1 : Int32} (g0 : a0 < zh_n h) (g1 : (zh_k h a0).1 = 4) (g2 : zh_r h a0 5 = .ref (zq (zh_r h a0 5))) (g3 : (zq (zh_r h a0 5)) < zh_n h) (g4 : ¬ (x1 < 0 ∨ (zh_k h (zq (zh_r h a0 5))).2 ≤ x1.toNatClampNeg)) (g5 : (zh_k h (zq (zh_r h a0 5))).1 = 100) : zv 2 43 8 [.ref a0, .int x1] [] h = zv 2 43 19 [.ref a0, .int x1] [.int (zh_i h (zq (zh_r h a0 5)) x1.toNatClampNeg)] h := by
  refine Eq.trans (zv_next f43_8 rfl) ?_
  refine Eq.trans (zs_getr f43_9 g0 g1 g2) ?_
  refine Eq.trans (zv_next f43_12 rfl) ?_
  refine Eq.trans (zs_iald f43_13 g3 g5 g4) ?_
  refine Eq.trans (zs_goto (tgt := 19) f43_14 rfl) ?_
  rfl
theorem b43_17 {h : zi_Hp} {a0 : Nat} {x1 : Int32}  : zv 2 43 17 [.ref a0, .int x1] [] h = zv 2 43 19 [.ref a0, .int x1] [.int 100] h := by
  refine Eq.trans (zs_bp f43_17 bp_100) ?_
  rfl
theorem b43_19 {h : zi_Hp} {a0 : Nat} {x1 : Int32} {s0 : Int32}  : zv 2 43 19 [.ref a0, .int x1] [.int s0] h = some (some (.int s0), h) := by
  exact zs_ret0 f43_19
