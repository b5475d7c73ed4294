set_option maxRecDepth 20000 in
theorem zq211 : zi_M[211]? = some zi_m211 := rfl
theorem zl211_0 {pc : Nat} (_ : 0 ≤ pc) : zi_fe 211 pc = zu211_0.lookup pc := zi_feA zq211 pc
theorem f211_0 : zi_fe 211 0 = some ((.iconst 0), 1, 0, 0, 0, 0, 0) := (zl211_0 (Nat.le_of_ble_eq_true rfl)).trans rfl
theorem f211_1 : zi_fe 211 1 = some ((.istore_n 2), 1, 0, 0, 0, 0, 0) := (zl211_0 (Nat.le_of_ble_eq_true rfl)).trans rfl
theorem f211_2 : zi_fe 211 2 = some ((.iload_n 2), 1, 0, 0, 0, 0, 0) := (zl211_0 (Nat.le_of_ble_eq_true rfl)).trans rfl
theorem f211_3 : zi_fe 211 3 = some ((.sipush 387), 3, 0, 0, 0, 0, 0) := (zl211_0 (Nat.le_of_ble_eq_true rfl)).trans rfl
theorem f211_6 : zi_fe 211 6 = some ((.if_icmp .ge 27), 3, 0, 0, 0, 0, 0) := (zl211_0 (Nat.le_of_ble_eq_true rfl)).trans rfl
theorem f211_9 : zi_fe 211 9 = some ((.aload_n 0), 1, 0, 0, 0, 0, 0) := (zl211_0 (Nat.le_of_ble_eq_true rfl)).trans rfl
theorem f211_10 : zi_fe 211 10 = some ((.getfield 38), 3, 8, 21, 3, 1086, 0) := (zl211_0 (Nat.le_of_ble_eq_true rfl)).trans rfl
theorem f211_13 : zi_fe 211 13 = some ((.sipush 387), 3, 0, 0, 0, 0, 0) := (zl211_0 (Nat.le_of_ble_eq_true rfl)).trans rfl
theorem f211_16 : zi_fe 211 16 = some ((.iload_n 1), 1, 0, 0, 0, 0, 0) := (zl211_0 (Nat.le_of_ble_eq_true rfl)).trans rfl
theorem f211_17 : zi_fe 211 17 = some (.imul, 1, 0, 0, 0, 0, 0) := (zl211_0 (Nat.le_of_ble_eq_true rfl)).trans rfl
theorem f211_18 : zi_fe 211 18 = some ((.iload_n 2), 1, 0, 0, 0, 0, 0) := (zl211_0 (Nat.le_of_ble_eq_true rfl)).trans rfl
theorem f211_19 : zi_fe 211 19 = some (.iadd, 1, 0, 0, 0, 0, 0) := (zl211_0 (Nat.le_of_ble_eq_true rfl)).trans rfl
theorem zl211_1 {pc : Nat} (h : 20 ≤ pc) : zi_fe 211 pc = zu211_1.lookup pc := (zl211_0 (Nat.le_trans (Nat.le_of_ble_eq_true rfl) h)).trans (zi_lkA (a := zi_i211_0) (c := 20) rfl h)
theorem f211_20 : zi_fe 211 20 = some ((.aload_n 0), 1, 0, 0, 0, 0, 0) := (zl211_1 (Nat.le_of_ble_eq_true rfl)).trans rfl
theorem f211_21 : zi_fe 211 21 = some ((.getfield 7), 3, 8, 0, 3, 1065, 0) := (zl211_1 (Nat.le_of_ble_eq_true rfl)).trans rfl
theorem f211_24 : zi_fe 211 24 = some ((.iload_n 2), 1, 0, 0, 0, 0, 0) := (zl211_1 (Nat.le_of_ble_eq_true rfl)).trans rfl
theorem f211_25 : zi_fe 211 25 = some (.iaload, 1, 0, 0, 0, 0, 0) := (zl211_1 (Nat.le_of_ble_eq_true rfl)).trans rfl
theorem f211_26 : zi_fe 211 26 = some (.iastore, 1, 0, 0, 0, 0, 0) := (zl211_1 (Nat.le_of_ble_eq_true rfl)).trans rfl
theorem f211_27 : zi_fe 211 27 = some ((.iinc 2 1), 3, 0, 0, 0, 0, 0) := (zl211_1 (Nat.le_of_ble_eq_true rfl)).trans rfl
theorem f211_30 : zi_fe 211 30 = some ((.goto (-28)), 3, 0, 0, 0, 0, 0) := (zl211_1 (Nat.le_of_ble_eq_true rfl)).trans rfl
theorem f211_33 : zi_fe 211 33 = some (.return_, 1, 0, 0, 0, 0, 0) := (zl211_1 (Nat.le_of_ble_eq_true rfl)).trans rfl
theorem b211_0 {h : zi_Hp} {a0 : Nat} {x1 : Int32} {u2 : Value}  : zv 1 211 0 [.ref a0, .int x1, u2] [] h = zv 1 211 2 [.ref a0, .int x1, .int 0] [] h := by
  refine Eq.trans (zs_ic f211_0 ic_0) ?_
  refine Eq.trans (zv_next f211_1 rfl) ?_
  rfl
theorem b211_2 {h : zi_Hp} {a0 : Nat} {x1 : Int32} {x2 : Int32}  : zv 1 211 2 [.ref a0, .int x1, .int x2] [] h = if x2 < 387 then zv 1 211 9 [.ref a0, .int x1, .int x2] [] h else zv 1 211 33 [.ref a0, .int x1, .int x2] [] h := by
  refine Eq.trans (zv_next f211_2 rfl) ?_
  refine Eq.trans (zs_sp f211_3 sp_387) ?_
  exact zs_icmp f211_6 rfl
theorem b211_9 {h : zi_Hp} {a0 : Nat} {x1 : Int32} {x2 : Int32} (g0 : a0 < zh_n h) (g1 : (zh_k h a0).1 = 8) (g2 : zh_r h a0 21 = .ref (zq (zh_r h a0 21))) (g3 : zh_r h a0 0 = .ref (zq (zh_r h a0 0))) (g4 : (zq (zh_r h a0 0)) < zh_n h) (g5 : ¬ (x2 < 0 ∨ (zh_k h (zq (zh_r h a0 0))).2 ≤ x2.toNatClampNeg)) (g6 : (zh_k h (zq (zh_r h a0 0))).1 = 100) (g7 : (zq (zh_r h a0 21)) < zh_n h) (g8 : ¬ (((387 * x1) + x2) < 0 ∨ (zh_k h (zq (zh_r h a0 21))).2 ≤ ((387 * x1) + x2).toNatClampNeg)) (g9 : (zh_k h (zq (zh_r h a0 21))).1 = 100) : zv 1 211 9 [.ref a0, .int x1, .int x2] [] h = zv 1 211 2 [.ref a0, .int x1, .int (x2 + 1)] [] (zh_wi h (zq (zh_r h a0 21)) ((387 * x1) + x2).toNatClampNeg (zh_i h (zq (zh_r h a0 0)) x2.toNatClampNeg)) := by
  refine Eq.trans (zv_next f211_9 rfl) ?_
  refine Eq.trans (zs_getr f211_10 g0 g1 g2) ?_
  refine Eq.trans (zs_sp f211_13 sp_387) ?_
  refine Eq.trans (zv_next f211_16 rfl) ?_
  refine Eq.trans (zv_next f211_17 rfl) ?_
  refine Eq.trans (zv_next f211_18 rfl) ?_
  refine Eq.trans (zv_next f211_19 rfl) ?_
  refine Eq.trans (zv_next f211_20 rfl) ?_
  refine Eq.trans (zs_getr f211_21 g0 g1 g3) ?_
  refine Eq.trans (zv_next f211_24 rfl) ?_
  refine Eq.trans (zs_iald f211_25 g4 g6 g5) ?_
  refine Eq.trans (zs_iast f211_26 g7 g9 g8) ?_
  refine Eq.trans (zs_inc f211_27 rfl ic_1 rfl) ?_
  refine Eq.trans (zs_goto (tgt := 2) f211_30 rfl) ?_
  rfl
theorem b211_33 {h : zi_Hp} {a0 : Nat} {x1 : Int32} {x2 : Int32}  : zv 1 211 33 [.ref a0, .int x1, .int x2] [] h = some (none, h) := by
  exact zv_ret f211_33 rfl
set_option maxRecDepth 20000 in
theorem zq212 : zi_M[212]? = some zi_m212 := rfl
theorem zl212_0 {pc : Nat} (_ : 0 ≤ pc) : zi_fe 212 pc = zu212_0.lookup pc := zi_feA zq212 pc
theorem f212_0 : zi_fe 212 0 = some ((.iconst 0), 1, 0, 0, 0, 0, 0) := (zl212_0 (Nat.le_of_ble_eq_true rfl)).trans rfl
theorem f212_1 : zi_fe 212 1 = some ((.istore_n 2), 1, 0, 0, 0, 0, 0) := (zl212_0 (Nat.le_of_ble_eq_true rfl)).trans rfl
theorem f212_2 : zi_fe 212 2 = some ((.iload_n 2), 1, 0, 0, 0, 0, 0) := (zl212_0 (Nat.le_of_ble_eq_true rfl)).trans rfl
theorem f212_3 : zi_fe 212 3 = some ((.sipush 387), 3, 0, 0, 0, 0, 0) := (zl212_0 (Nat.le_of_ble_eq_true rfl)).trans rfl
theorem f212_6 : zi_fe 212 6 = some ((.if_icmp .ge 27), 3, 0, 0, 0, 0, 0) := (zl212_0 (Nat.le_of_ble_eq_true rfl)).trans rfl
theorem f212_9 : zi_fe 212 9 = some ((.aload_n 0), 1, 0, 0, 0, 0, 0) := (zl212_0 (Nat.le_of_ble_eq_true rfl)).trans rfl
theorem f212_10 : zi_fe 212 10 = some ((.getfield 7), 3, 8, 0, 3, 1065, 0) := (zl212_0 (Nat.le_of_ble_eq_true rfl)).trans rfl
theorem f212_13 : zi_fe 212 13 = some ((.iload_n 2), 1, 0, 0, 0, 0, 0) := (zl212_0 (Nat.le_of_ble_eq_true rfl)).trans rfl
theorem f212_14 : zi_fe 212 14 = some ((.aload_n 0), 1, 0, 0, 0, 0, 0) := (zl212_0 (Nat.le_of_ble_eq_true rfl)).trans rfl
theorem f212_15 : zi_fe 212 15 = some ((.getfield 38), 3, 8, 21, 3, 1086, 0) := (zl212_0 (Nat.le_of_ble_eq_true rfl)).trans rfl
theorem f212_18 : zi_fe 212 18 = some ((.sipush 387), 3, 0, 0, 0, 0, 0) := (zl212_0 (Nat.le_of_ble_eq_true rfl)).trans rfl
theorem f212_21 : zi_fe 212 21 = some ((.iload_n 1), 1, 0, 0, 0, 0, 0) := (zl212_0 (Nat.le_of_ble_eq_true rfl)).trans rfl
theorem zl212_1 {pc : Nat} (h : 22 ≤ pc) : zi_fe 212 pc = zu212_1.lookup pc := (zl212_0 (Nat.le_trans (Nat.le_of_ble_eq_true rfl) h)).trans (zi_lkA (a := zi_i212_0) (c := 22) rfl h)
theorem f212_22 : zi_fe 212 22 = some (.imul, 1, 0, 0, 0, 0, 0) := (zl212_1 (Nat.le_of_ble_eq_true rfl)).trans rfl
theorem f212_23 : zi_fe 212 23 = some ((.iload_n 2), 1, 0, 0, 0, 0, 0) := (zl212_1 (Nat.le_of_ble_eq_true rfl)).trans rfl
theorem f212_24 : zi_fe 212 24 = some (.iadd, 1, 0, 0, 0, 0, 0) := (zl212_1 (Nat.le_of_ble_eq_true rfl)).trans rfl
theorem f212_25 : zi_fe 212 25 = some (.iaload, 1, 0, 0, 0, 0, 0) := (zl212_1 (Nat.le_of_ble_eq_true rfl)).trans rfl
theorem f212_26 : zi_fe 212 26 = some (.iastore, 1, 0, 0, 0, 0, 0) := (zl212_1 (Nat.le_of_ble_eq_true rfl)).trans rfl
theorem f212_27 : zi_fe 212 27 = some ((.iinc 2 1), 3, 0, 0, 0, 0, 0) := (zl212_1 (Nat.le_of_ble_eq_true rfl)).trans rfl
theorem f212_30 : zi_fe 212 30 = some ((.goto (-28)), 3, 0, 0, 0, 0, 0) := (zl212_1 (Nat.le_of_ble_eq_true rfl)).trans rfl
theorem f212_33 : zi_fe 212 33 = some (.return_, 1, 0, 0, 0, 0, 0) := (zl212_1 (Nat.le_of_ble_eq_true rfl)).trans rfl
theorem b212_0 {h : zi_Hp} {a0 : Nat} {x1 : Int32} {u2 : Value}  : zv 1 212 0 [.ref a0, .int x1, u2] [] h = zv 1 212 2 [.ref a0, .int x1, .int 0] [] h := by
  refine Eq.trans (zs_ic f212_0 ic_0) ?_
  refine Eq.trans (zv_next f212_1 rfl) ?_
  rfl
theorem b212_2 {h : zi_Hp} {a0 : Nat} {x1 : Int32} {x2 : Int32}  : zv 1 212 2 [.ref a0, .int x1, .int x2] [] h = if x2 < 387 then zv 1 212 9 [.ref a0, .int x1, .int x2] [] h else zv 1 212 33 [.ref a0, .int x1, .int x2] [] h := by
  refine Eq.trans (zv_next f212_2 rfl) ?_
  refine Eq.trans (zs_sp f212_3 sp_387) ?_
  exact zs_icmp f212_6 rfl
theorem b212_9 {h : zi_Hp} {a0 : Nat} {x1 : Int32} {x2 : Int32} (g0 : a0 < zh_n h) (g1 : (zh_k h a0).1 = 8) (g2 : zh_r h a0 0 = .ref (zq (zh_r h a0 0))) (g3 : zh_r h a0 21 = .ref (zq (zh_r h a0 21))) (g4 : (zq (zh_r h a0 21)) < zh_n h) (g5 : ¬ (((387 * x1) + x2) < 0 ∨ (zh_k h (zq (zh_r h a0 21))).2 ≤ ((387 * x1) + x2).toNatClampNeg)) (g6 : (zh_k h (zq (zh_r h a0 21))).1 = 100) (g7 : (zq (zh_r h a0 0)) < zh_n h) (g8 : ¬ (x2 < 0 ∨ (zh_k h (zq (zh_r h a0 0))).2 ≤ x2.toNatClampNeg)) (g9 : (zh_k h (zq (zh_r h a0 0))).1 = 100) : zv 1 212 9 [.ref a0, .int x1, .int x2] [] h = zv 1 212 2 [.ref a0, .int x1, .int (x2 + 1)] [] (zh_wi h (zq (zh_r h a0 0)) x2.toNatClampNeg (zh_i h (zq (zh_r h a0 21)) ((387 * x1) + x2).toNatClampNeg)) := by
  refine Eq.trans (zv_next f212_9 rfl) ?_
  refine Eq.trans (zs_getr f212_10 g0 g1 g2) ?_
  refine Eq.trans (zv_next f212_13 rfl) ?_
  refine Eq.trans (zv_next f212_14 rfl) ?_
  refine Eq.trans (zs_getr f212_15 g0 g1 g3) ?_
  refine Eq.trans (zs_sp f212_18 sp_387) ?_
  refine Eq.trans (zv_next f212_21 rfl) ?_
  refine Eq.trans (zv_next f212_22 rfl) ?_
  refine Eq.trans (zv_next f212_23 rfl) ?_
  refine Eq.trans (zv_next f212_24 rfl) ?_
  refine Eq.trans (zs_iald f212_25 g4 g6 g5) ?_
  refine Eq.trans (zs_iast f212_26 g7 g9 g8) ?_
  refine Eq.trans (zs_inc f212_27 rfl ic_1 rfl) ?_
  refine Eq.trans (zs_goto (tgt := 2) f212_30 rfl) ?_
  rfl
theorem b212_33 {h : zi_Hp} {a0 : Nat} {x1 : Int32} {x2 : Int32}  : zv 1 212 33 [.ref a0, .int x1, .int x2] [] h = some (none, h) := by
  exact zv_ret f212_33 rfl
set_option maxRecDepth 20000 in
theorem zq213 : zi_M[213]? = some zi_m213 := rfl
theorem zl213_0 {pc : Nat} (_ : 0 ≤ pc) : zi_fe 213 pc = zu213_0.lookup pc := zi_feA zq213 pc
theorem f213_0 : zi_fe 213 0 = some ((.iconst 1), 1, 0, 0, 0, 0, 0) := (zl213_0 (Nat.le_of_ble_eq_true rfl)).trans rfl
theorem f213_1 : zi_fe 213 1 = some ((.istore_n 2), 1, 0, 0, 0, 0, 0) := (zl213_0 (Nat.le_of_ble_eq_true rfl)).trans rfl
theorem f213_2 : zi_fe 213 2 = some ((.iconst 0), 1, 0, 0, 0, 0, 0) := (zl213_0 (Nat.le_of_ble_eq_true rfl)).trans rfl
theorem f213_3 : zi_fe 213 3 = some ((.istore_n 3), 1, 0, 0, 0, 0, 0) := (zl213_0 (Nat.le_of_ble_eq_true rfl)).trans rfl
theorem f213_4 : zi_fe 213 4 = some ((.aload_n 0), 1, 0, 0, 0, 0, 0) := (zl213_0 (Nat.le_of_ble_eq_true rfl)).trans rfl
theorem f213_5 : zi_fe 213 5 = some (.dup, 1, 0, 0, 0, 0, 0) := (zl213_0 (Nat.le_of_ble_eq_true rfl)).trans rfl
theorem f213_6 : zi_fe 213 6 = some ((.getfield 314), 3, 8, 27, 0, 1092, 0) := (zl213_0 (Nat.le_of_ble_eq_true rfl)).trans rfl
theorem f213_9 : zi_fe 213 9 = some ((.iconst 1), 1, 0, 0, 0, 0, 0) := (zl213_0 (Nat.le_of_ble_eq_true rfl)).trans rfl
theorem f213_10 : zi_fe 213 10 = some (.iadd, 1, 0, 0, 0, 0, 0) := (zl213_0 (Nat.le_of_ble_eq_true rfl)).trans rfl
theorem f213_11 : zi_fe 213 11 = some ((.putfield 314), 3, 8, 27, 0, 1092, 0) := (zl213_0 (Nat.le_of_ble_eq_true rfl)).trans rfl
theorem f213_14 : zi_fe 213 14 = some ((.aload_n 0), 1, 0, 0, 0, 0, 0) := (zl213_0 (Nat.le_of_ble_eq_true rfl)).trans rfl
theorem f213_15 : zi_fe 213 15 = some ((.aload_n 0), 1, 0, 0, 0, 0, 0) := (zl213_0 (Nat.le_of_ble_eq_true rfl)).trans rfl
theorem zl213_1 {pc : Nat} (h : 16 ≤ pc) : zi_fe 213 pc = zu213_1.lookup pc := (zl213_0 (Nat.le_trans (Nat.le_of_ble_eq_true rfl) h)).trans (zi_lkA (a := zi_i213_0) (c := 16) rfl h)
theorem f213_16 : zi_fe 213 16 = some ((.getfield 7), 3, 8, 0, 3, 1065, 0) := (zl213_1 (Nat.le_of_ble_eq_true rfl)).trans rfl
theorem f213_19 : zi_fe 213 19 = some ((.sipush 312), 3, 0, 0, 0, 0, 0) := (zl213_1 (Nat.le_of_ble_eq_true rfl)).trans rfl
theorem f213_22 : zi_fe 213 22 = some (.iaload, 1, 0, 0, 0, 0, 0) := (zl213_1 (Nat.le_of_ble_eq_true rfl)).trans rfl
theorem f213_23 : zi_fe 213 23 = some ((.aload_n 0), 1, 0, 0, 0, 0, 0) := (zl213_1 (Nat.le_of_ble_eq_true rfl)).trans rfl
theorem f213_24 : zi_fe 213 24 = some ((.getfield 317), 3, 8, 29, 0, 1094, 0) := (zl213_1 (Nat.le_of_ble_eq_true rfl)).trans rfl
theorem f213_27 : zi_fe 213 27 = some ((.if_icmp .le 14), 3, 0, 0, 0, 0, 0) := (zl213_1 (Nat.le_of_ble_eq_true rfl)).trans rfl
theorem f213_30 : zi_fe 213 30 = some ((.aload_n 0), 1, 0, 0, 0, 0, 0) := (zl213_1 (Nat.le_of_ble_eq_true rfl)).trans rfl
theorem f213_31 : zi_fe 213 31 = some ((.getfield 7), 3, 8, 0, 3, 1065, 0) := (zl213_1 (Nat.le_of_ble_eq_true rfl)).trans rfl
theorem f213_34 : zi_fe 213 34 = some ((.sipush 312), 3, 0, 0, 0, 0, 0) := (zl213_1 (Nat.le_of_ble_eq_true rfl)).trans rfl
theorem f213_37 : zi_fe 213 37 = some (.iaload, 1, 0, 0, 0, 0, 0) := (zl213_1 (Nat.le_of_ble_eq_true rfl)).trans rfl
theorem f213_38 : zi_fe 213 38 = some ((.goto 7), 3, 0, 0, 0, 0, 0) := (zl213_1 (Nat.le_of_ble_eq_true rfl)).trans rfl
theorem f213_41 : zi_fe 213 41 = some ((.aload_n 0), 1, 0, 0, 0, 0, 0) := (zl213_1 (Nat.le_of_ble_eq_true rfl)).trans rfl
theorem zl213_2 {pc : Nat} (h : 42 ≤ pc) : zi_fe 213 pc = zu213_2.lookup pc := (zl213_1 (Nat.le_trans (Nat.le_of_ble_eq_true rfl) h)).trans (zi_lkA (a := zi_i213_1) (c := 42) rfl h)
theorem f213_42 : zi_fe 213 42 = some ((.getfield 317), 3, 8, 29, 0, 1094, 0) := (zl213_2 (Nat.le_of_ble_eq_true rfl)).trans rfl
theorem f213_45 : zi_fe 213 45 = some ((.putfield 317), 3, 8, 29, 0, 1094, 0) := (zl213_2 (Nat.le_of_ble_eq_true rfl)).trans rfl
theorem f213_48 : zi_fe 213 48 = some ((.aload_n 0), 1, 0, 0, 0, 0, 0) := (zl213_2 (Nat.le_of_ble_eq_true rfl)).trans rfl
theorem f213_49 : zi_fe 213 49 = some ((.aload_n 0), 1, 0, 0, 0, 0, 0) := (zl213_2 (Nat.le_of_ble_eq_true rfl)).trans rfl
theorem f213_50 : zi_fe 213 50 = some ((.getfield 50), 3, 8, 25, 3, 1090, 0) := (zl213_2 (Nat.le_of_ble_eq_true rfl)).trans rfl
theorem f213_53 : zi_fe 213 53 = some ((.iload_n 1), 1, 0, 0, 0, 0, 0) := (zl213_2 (Nat.le_of_ble_eq_true rfl)).trans rfl
theorem f213_54 : zi_fe 213 54 = some (.iaload, 1, 0, 0, 0, 0, 0) := (zl213_2 (Nat.le_of_ble_eq_true rfl)).trans rfl
theorem f213_55 : zi_fe 213 55 = some ((.aload_n 0), 1, 0, 0, 0, 0, 0) := (zl213_2 (Nat.le_of_ble_eq_true rfl)).trans rfl
theorem f213_56 : zi_fe 213 56 = some ((.getfield 320), 3, 8, 30, 0, 1095, 0) := (zl213_2 (Nat.le_of_ble_eq_true rfl)).trans rfl
theorem f213_59 : zi_fe 213 59 = some ((.if_icmp .le 12), 3, 0, 0, 0, 0, 0) := (zl213_2 (Nat.le_of_ble_eq_true rfl)).trans rfl
theorem f213_62 : zi_fe 213 62 = some ((.aload_n 0), 1, 0, 0, 0, 0, 0) := (zl213_2 (Nat.le_of_ble_eq_true rfl)).trans rfl
theorem f213_63 : zi_fe 213 63 = some ((.getfield 50), 3, 8, 25, 3, 1090, 0) := (zl213_2 (Nat.le_of_ble_eq_true rfl)).trans rfl
theorem zl213_3 {pc : Nat} (h : 66 ≤ pc) : zi_fe 213 pc = zu213_3.lookup pc := (zl213_2 (Nat.le_trans (Nat.le_of_ble_eq_true rfl) h)).trans (zi_lkA (a := zi_i213_2) (c := 66) rfl h)
theorem f213_66 : zi_fe 213 66 = some ((.iload_n 1), 1, 0, 0, 0, 0, 0) := (zl213_3 (Nat.le_of_ble_eq_true rfl)).trans rfl
theorem f213_67 : zi_fe 213 67 = some (.iaload, 1, 0, 0, 0, 0, 0) := (zl213_3 (Nat.le_of_ble_eq_true rfl)).trans rfl
theorem f213_68 : zi_fe 213 68 = some ((.goto 7), 3, 0, 0, 0, 0, 0) := (zl213_3 (Nat.le_of_ble_eq_true rfl)).trans rfl
theorem f213_71 : zi_fe 213 71 = some ((.aload_n 0), 1, 0, 0, 0, 0, 0) := (zl213_3 (Nat.le_of_ble_eq_true rfl)).trans rfl
theorem f213_72 : zi_fe 213 72 = some ((.getfield 320), 3, 8, 30, 0, 1095, 0) := (zl213_3 (Nat.le_of_ble_eq_true rfl)).trans rfl
theorem f213_75 : zi_fe 213 75 = some ((.putfield 320), 3, 8, 30, 0, 1095, 0) := (zl213_3 (Nat.le_of_ble_eq_true rfl)).trans rfl
theorem f213_78 : zi_fe 213 78 = some ((.iconst 0), 1, 0, 0, 0, 0, 0) := (zl213_3 (Nat.le_of_ble_eq_true rfl)).trans rfl
theorem f213_79 : zi_fe 213 79 = some ((.istore 4), 2, 0, 0, 0, 0, 0) := (zl213_3 (Nat.le_of_ble_eq_true rfl)).trans rfl
theorem f213_81 : zi_fe 213 81 = some ((.iload 4), 2, 0, 0, 0, 0, 0) := (zl213_3 (Nat.le_of_ble_eq_true rfl)).trans rfl
theorem f213_83 : zi_fe 213 83 = some ((.iconst 3), 1, 0, 0, 0, 0, 0) := (zl213_3 (Nat.le_of_ble_eq_true rfl)).trans rfl
theorem f213_84 : zi_fe 213 84 = some ((.if_icmp .ge 171), 3, 0, 0, 0, 0, 0) := (zl213_3 (Nat.le_of_ble_eq_true rfl)).trans rfl
theorem f213_87 : zi_fe 213 87 = some ((.aload_n 0), 1, 0, 0, 0, 0, 0) := (zl213_3 (Nat.le_of_ble_eq_true rfl)).trans rfl
theorem zl213_4 {pc : Nat} (h : 88 ≤ pc) : zi_fe 213 pc = zu213_4.lookup pc := (zl213_3 (Nat.le_trans (Nat.le_of_ble_eq_true rfl) h)).trans (zi_lkA (a := zi_i213_3) (c := 88) rfl h)
theorem f213_88 : zi_fe 213 88 = some ((.iload 4), 2, 0, 0, 0, 0, 0) := (zl213_4 (Nat.le_of_ble_eq_true rfl)).trans rfl
theorem f213_90 : zi_fe 213 90 = some ((.iconst 0), 1, 0, 0, 0, 0, 0) := (zl213_4 (Nat.le_of_ble_eq_true rfl)).trans rfl
theorem f213_91 : zi_fe 213 91 = some ((.invokevirtual 83), 3, 146, 0, 8, 1276, 3) := (zl213_4 (Nat.le_of_ble_eq_true rfl)).trans rfl
theorem f213_94 : zi_fe 213 94 = some ((.istore 5), 2, 0, 0, 0, 0, 0) := (zl213_4 (Nat.le_of_ble_eq_true rfl)).trans rfl
theorem f213_96 : zi_fe 213 96 = some ((.aload_n 0), 1, 0, 0, 0, 0, 0) := (zl213_4 (Nat.le_of_ble_eq_true rfl)).trans rfl
theorem f213_97 : zi_fe 213 97 = some ((.iload 4), 2, 0, 0, 0, 0, 0) := (zl213_4 (Nat.le_of_ble_eq_true rfl)).trans rfl
theorem f213_99 : zi_fe 213 99 = some ((.iconst 4), 1, 0, 0, 0, 0, 0) := (zl213_4 (Nat.le_of_ble_eq_true rfl)).trans rfl
theorem f213_100 : zi_fe 213 100 = some ((.invokevirtual 83), 3, 146, 0, 8, 1276, 3) := (zl213_4 (Nat.le_of_ble_eq_true rfl)).trans rfl
theorem f213_103 : zi_fe 213 103 = some ((.istore 6), 2, 0, 0, 0, 0, 0) := (zl213_4 (Nat.le_of_ble_eq_true rfl)).trans rfl
theorem f213_105 : zi_fe 213 105 = some ((.iload_n 2), 1, 0, 0, 0, 0, 0) := (zl213_4 (Nat.le_of_ble_eq_true rfl)).trans rfl
theorem f213_106 : zi_fe 213 106 = some ((.ifCond .eq 15), 3, 0, 0, 0, 0, 0) := (zl213_4 (Nat.le_of_ble_eq_true rfl)).trans rfl
theorem f213_109 : zi_fe 213 109 = some ((.iload 5), 2, 0, 0, 0, 0, 0) := (zl213_4 (Nat.le_of_ble_eq_true rfl)).trans rfl
theorem zl213_5 {pc : Nat} (h : 111 ≤ pc) : zi_fe 213 pc = zu213_5.lookup pc := (zl213_4 (Nat.le_trans (Nat.le_of_ble_eq_true rfl) h)).trans (zi_lkA (a := zi_i213_4) (c := 111) rfl h)
theorem f213_111 : zi_fe 213 111 = some ((.invokestatic 172), 3, 173, 1, 8, 1280, 1) := (zl213_5 (Nat.le_of_ble_eq_true rfl)).trans rfl
theorem f213_114 : zi_fe 213 114 = some ((.ifCond .ne 7), 3, 0, 0, 0, 0, 0) := (zl213_5 (Nat.le_of_ble_eq_true rfl)).trans rfl
theorem f213_117 : zi_fe 213 117 = some ((.iconst 1), 1, 0, 0, 0, 0, 0) := (zl213_5 (Nat.le_of_ble_eq_true rfl)).trans rfl
theorem f213_118 : zi_fe 213 118 = some ((.goto 4), 3, 0, 0, 0, 0, 0) := (zl213_5 (Nat.le_of_ble_eq_true rfl)).trans rfl
theorem f213_121 : zi_fe 213 121 = some ((.iconst 0), 1, 0, 0, 0, 0, 0) := (zl213_5 (Nat.le_of_ble_eq_true rfl)).trans rfl
theorem f213_122 : zi_fe 213 122 = some ((.istore_n 2), 1, 0, 0, 0, 0, 0) := (zl213_5 (Nat.le_of_ble_eq_true rfl)).trans rfl
theorem f213_123 : zi_fe 213 123 = some ((.iload 5), 2, 0, 0, 0, 0, 0) := (zl213_5 (Nat.le_of_ble_eq_true rfl)).trans rfl
theorem f213_125 : zi_fe 213 125 = some ((.ifCond .eq 124), 3, 0, 0, 0, 0, 0) := (zl213_5 (Nat.le_of_ble_eq_true rfl)).trans rfl
theorem f213_128 : zi_fe 213 128 = some ((.iload 6), 2, 0, 0, 0, 0, 0) := (zl213_5 (Nat.le_of_ble_eq_true rfl)).trans rfl
theorem f213_130 : zi_fe 213 130 = some (.i2l, 1, 0, 0, 0, 0, 0) := (zl213_5 (Nat.le_of_ble_eq_true rfl)).trans rfl
theorem f213_131 : zi_fe 213 131 = some ((.lconst 0), 1, 0, 0, 0, 0, 0) := (zl213_5 (Nat.le_of_ble_eq_true rfl)).trans rfl
theorem f213_132 : zi_fe 213 132 = some ((.lconst 1), 1, 0, 0, 0, 0, 0) := (zl213_5 (Nat.le_of_ble_eq_true rfl)).trans rfl
theorem zl213_6 {pc : Nat} (h : 133 ≤ pc) : zi_fe 213 pc = zu213_6.lookup pc := (zl213_5 (Nat.le_trans (Nat.le_of_ble_eq_true rfl) h)).trans (zi_lkA (a := zi_i213_5) (c := 133) rfl h)
theorem f213_133 : zi_fe 213 133 = some ((.invokestatic 196), 3, 142, 1, 8, 1189, 3) := (zl213_6 (Nat.le_of_ble_eq_true rfl)).trans rfl
theorem f213_136 : zi_fe 213 136 = some ((.ifCond .eq 113), 3, 0, 0, 0, 0, 0) := (zl213_6 (Nat.le_of_ble_eq_true rfl)).trans rfl
theorem f213_139 : zi_fe 213 139 = some ((.iconst 2), 1, 0, 0, 0, 0, 0) := (zl213_6 (Nat.le_of_ble_eq_true rfl)).trans rfl
theorem f213_140 : zi_fe 213 140 = some ((.iload 4), 2, 0, 0, 0, 0, 0) := (zl213_6 (Nat.le_of_ble_eq_true rfl)).trans rfl
theorem f213_142 : zi_fe 213 142 = some (.imul, 1, 0, 0, 0, 0, 0) := (zl213_6 (Nat.le_of_ble_eq_true rfl)).trans rfl
theorem f213_143 : zi_fe 213 143 = some ((.iload 6), 2, 0, 0, 0, 0, 0) := (zl213_6 (Nat.le_of_ble_eq_true rfl)).trans rfl
theorem f213_145 : zi_fe 213 145 = some (.iadd, 1, 0, 0, 0, 0, 0) := (zl213_6 (Nat.le_of_ble_eq_true rfl)).trans rfl
theorem f213_146 : zi_fe 213 146 = some ((.istore 7), 2, 0, 0, 0, 0, 0) := (zl213_6 (Nat.le_of_ble_eq_true rfl)).trans rfl
theorem f213_148 : zi_fe 213 148 = some ((.aload_n 0), 1, 0, 0, 0, 0, 0) := (zl213_6 (Nat.le_of_ble_eq_true rfl)).trans rfl
theorem f213_149 : zi_fe 213 149 = some ((.getfield 60), 3, 8, 33, 3, 1098, 0) := (zl213_6 (Nat.le_of_ble_eq_true rfl)).trans rfl
theorem f213_152 : zi_fe 213 152 = some ((.iload 7), 2, 0, 0, 0, 0, 0) := (zl213_6 (Nat.le_of_ble_eq_true rfl)).trans rfl
theorem f213_154 : zi_fe 213 154 = some ((.aload_n 0), 1, 0, 0, 0, 0, 0) := (zl213_6 (Nat.le_of_ble_eq_true rfl)).trans rfl
theorem zl213_7 {pc : Nat} (h : 155 ≤ pc) : zi_fe 213 pc = zu213_7.lookup pc := (zl213_6 (Nat.le_trans (Nat.le_of_ble_eq_true rfl) h)).trans (zi_lkA (a := zi_i213_6) (c := 155) rfl h)
theorem f213_155 : zi_fe 213 155 = some ((.getfield 57), 3, 8, 32, 3, 1097, 0) := (zl213_7 (Nat.le_of_ble_eq_true rfl)).trans rfl
theorem f213_158 : zi_fe 213 158 = some ((.iload 7), 2, 0, 0, 0, 0, 0) := (zl213_7 (Nat.le_of_ble_eq_true rfl)).trans rfl
theorem f213_160 : zi_fe 213 160 = some (.iaload, 1, 0, 0, 0, 0, 0) := (zl213_7 (Nat.le_of_ble_eq_true rfl)).trans rfl
theorem f213_161 : zi_fe 213 161 = some ((.ifCond .ne 12), 3, 0, 0, 0, 0, 0) := (zl213_7 (Nat.le_of_ble_eq_true rfl)).trans rfl
theorem f213_164 : zi_fe 213 164 = some ((.aload_n 0), 1, 0, 0, 0, 0, 0) := (zl213_7 (Nat.le_of_ble_eq_true rfl)).trans rfl
theorem f213_165 : zi_fe 213 165 = some ((.getfield 47), 3, 8, 24, 3, 1089, 0) := (zl213_7 (Nat.le_of_ble_eq_true rfl)).trans rfl
theorem f213_168 : zi_fe 213 168 = some ((.iload_n 1), 1, 0, 0, 0, 0, 0) := (zl213_7 (Nat.le_of_ble_eq_true rfl)).trans rfl
theorem f213_169 : zi_fe 213 169 = some (.iaload, 1, 0, 0, 0, 0, 0) := (zl213_7 (Nat.le_of_ble_eq_true rfl)).trans rfl
theorem f213_170 : zi_fe 213 170 = some ((.goto 10), 3, 0, 0, 0, 0, 0) := (zl213_7 (Nat.le_of_ble_eq_true rfl)).trans rfl
theorem f213_173 : zi_fe 213 173 = some ((.aload_n 0), 1, 0, 0, 0, 0, 0) := (zl213_7 (Nat.le_of_ble_eq_true rfl)).trans rfl
theorem f213_174 : zi_fe 213 174 = some ((.getfield 60), 3, 8, 33, 3, 1098, 0) := (zl213_7 (Nat.le_of_ble_eq_true rfl)).trans rfl
theorem f213_177 : zi_fe 213 177 = some ((.iload 7), 2, 0, 0, 0, 0, 0) := (zl213_7 (Nat.le_of_ble_eq_true rfl)).trans rfl
theorem zl213_8 {pc : Nat} (h : 179 ≤ pc) : zi_fe 213 pc = zu213_8.lookup pc := (zl213_7 (Nat.le_trans (Nat.le_of_ble_eq_true rfl) h)).trans (zi_lkA (a := zi_i213_7) (c := 179) rfl h)
theorem f213_179 : zi_fe 213 179 = some (.iaload, 1, 0, 0, 0, 0, 0) := (zl213_8 (Nat.le_of_ble_eq_true rfl)).trans rfl
theorem f213_180 : zi_fe 213 180 = some (.iastore, 1, 0, 0, 0, 0, 0) := (zl213_8 (Nat.le_of_ble_eq_true rfl)).trans rfl
theorem f213_181 : zi_fe 213 181 = some ((.aload_n 0), 1, 0, 0, 0, 0, 0) := (zl213_8 (Nat.le_of_ble_eq_true rfl)).trans rfl
theorem f213_182 : zi_fe 213 182 = some ((.getfield 57), 3, 8, 32, 3, 1097, 0) := (zl213_8 (Nat.le_of_ble_eq_true rfl)).trans rfl
theorem f213_185 : zi_fe 213 185 = some ((.iload 7), 2, 0, 0, 0, 0, 0) := (zl213_8 (Nat.le_of_ble_eq_true rfl)).trans rfl
theorem f213_187 : zi_fe 213 187 = some (.dup2, 1, 0, 0, 0, 0, 0) := (zl213_8 (Nat.le_of_ble_eq_true rfl)).trans rfl
theorem f213_188 : zi_fe 213 188 = some (.iaload, 1, 0, 0, 0, 0, 0) := (zl213_8 (Nat.le_of_ble_eq_true rfl)).trans rfl
theorem f213_189 : zi_fe 213 189 = some ((.iconst 1), 1, 0, 0, 0, 0, 0) := (zl213_8 (Nat.le_of_ble_eq_true rfl)).trans rfl
theorem f213_190 : zi_fe 213 190 = some (.iadd, 1, 0, 0, 0, 0, 0) := (zl213_8 (Nat.le_of_ble_eq_true rfl)).trans rfl
theorem f213_191 : zi_fe 213 191 = some (.iastore, 1, 0, 0, 0, 0, 0) := (zl213_8 (Nat.le_of_ble_eq_true rfl)).trans rfl
theorem f213_192 : zi_fe 213 192 = some ((.aload_n 0), 1, 0, 0, 0, 0, 0) := (zl213_8 (Nat.le_of_ble_eq_true rfl)).trans rfl
theorem f213_193 : zi_fe 213 193 = some ((.getfield 63), 3, 8, 34, 3, 1099, 0) := (zl213_8 (Nat.le_of_ble_eq_true rfl)).trans rfl
theorem zl213_9 {pc : Nat} (h : 196 ≤ pc) : zi_fe 213 pc = zu213_9.lookup pc := (zl213_8 (Nat.le_trans (Nat.le_of_ble_eq_true rfl) h)).trans (zi_lkA (a := zi_i213_8) (c := 196) rfl h)
theorem f213_196 : zi_fe 213 196 = some ((.iload 7), 2, 0, 0, 0, 0, 0) := (zl213_9 (Nat.le_of_ble_eq_true rfl)).trans rfl
theorem f213_198 : zi_fe 213 198 = some (.dup2, 1, 0, 0, 0, 0, 0) := (zl213_9 (Nat.le_of_ble_eq_true rfl)).trans rfl
theorem f213_199 : zi_fe 213 199 = some (.laload, 1, 0, 0, 0, 0, 0) := (zl213_9 (Nat.le_of_ble_eq_true rfl)).trans rfl
theorem f213_200 : zi_fe 213 200 = some ((.aload_n 0), 1, 0, 0, 0, 0, 0) := (zl213_9 (Nat.le_of_ble_eq_true rfl)).trans rfl
theorem f213_201 : zi_fe 213 201 = some ((.getfield 53), 3, 8, 26, 3, 1091, 0) := (zl213_9 (Nat.le_of_ble_eq_true rfl)).trans rfl
theorem f213_204 : zi_fe 213 204 = some ((.iload_n 1), 1, 0, 0, 0, 0, 0) := (zl213_9 (Nat.le_of_ble_eq_true rfl)).trans rfl
theorem f213_205 : zi_fe 213 205 = some (.laload, 1, 0, 0, 0, 0, 0) := (zl213_9 (Nat.le_of_ble_eq_true rfl)).trans rfl
theorem f213_206 : zi_fe 213 206 = some (.ladd, 1, 0, 0, 0, 0, 0) := (zl213_9 (Nat.le_of_ble_eq_true rfl)).trans rfl
theorem f213_207 : zi_fe 213 207 = some (.lastore, 1, 0, 0, 0, 0, 0) := (zl213_9 (Nat.le_of_ble_eq_true rfl)).trans rfl
theorem f213_208 : zi_fe 213 208 = some ((.iload_n 3), 1, 0, 0, 0, 0, 0) := (zl213_9 (Nat.le_of_ble_eq_true rfl)).trans rfl
theorem f213_209 : zi_fe 213 209 = some ((.ifCond .ne 34), 3, 0, 0, 0, 0, 0) := (zl213_9 (Nat.le_of_ble_eq_true rfl)).trans rfl
theorem f213_212 : zi_fe 213 212 = some ((.iload 5), 2, 0, 0, 0, 0, 0) := (zl213_9 (Nat.le_of_ble_eq_true rfl)).trans rfl
theorem zl213_10 {pc : Nat} (h : 214 ≤ pc) : zi_fe 213 pc = zu213_10.lookup pc := (zl213_9 (Nat.le_trans (Nat.le_of_ble_eq_true rfl) h)).trans (zi_lkA (a := zi_i213_9) (c := 214) rfl h)
theorem f213_214 : zi_fe 213 214 = some ((.iconst 5), 1, 0, 0, 0, 0, 0) := (zl213_10 (Nat.le_of_ble_eq_true rfl)).trans rfl
theorem f213_215 : zi_fe 213 215 = some ((.if_icmp .ne 32), 3, 0, 0, 0, 0, 0) := (zl213_10 (Nat.le_of_ble_eq_true rfl)).trans rfl
theorem f213_218 : zi_fe 213 218 = some ((.aload_n 0), 1, 0, 0, 0, 0, 0) := (zl213_10 (Nat.le_of_ble_eq_true rfl)).trans rfl
theorem f213_219 : zi_fe 213 219 = some ((.iload 4), 2, 0, 0, 0, 0, 0) := (zl213_10 (Nat.le_of_ble_eq_true rfl)).trans rfl
theorem f213_221 : zi_fe 213 221 = some ((.iconst 1), 1, 0, 0, 0, 0, 0) := (zl213_10 (Nat.le_of_ble_eq_true rfl)).trans rfl
theorem f213_222 : zi_fe 213 222 = some ((.invokevirtual 83), 3, 146, 0, 8, 1276, 3) := (zl213_10 (Nat.le_of_ble_eq_true rfl)).trans rfl
theorem f213_225 : zi_fe 213 225 = some ((.ifCond .ne 22), 3, 0, 0, 0, 0, 0) := (zl213_10 (Nat.le_of_ble_eq_true rfl)).trans rfl
theorem f213_228 : zi_fe 213 228 = some ((.aload_n 0), 1, 0, 0, 0, 0, 0) := (zl213_10 (Nat.le_of_ble_eq_true rfl)).trans rfl
theorem f213_229 : zi_fe 213 229 = some ((.iload 4), 2, 0, 0, 0, 0, 0) := (zl213_10 (Nat.le_of_ble_eq_true rfl)).trans rfl
theorem f213_231 : zi_fe 213 231 = some ((.iconst 5), 1, 0, 0, 0, 0, 0) := (zl213_10 (Nat.le_of_ble_eq_true rfl)).trans rfl
theorem f213_232 : zi_fe 213 232 = some ((.invokevirtual 83), 3, 146, 0, 8, 1276, 3) := (zl213_10 (Nat.le_of_ble_eq_true rfl)).trans rfl
theorem f213_235 : zi_fe 213 235 = some ((.iload 6), 2, 0, 0, 0, 0, 0) := (zl213_10 (Nat.le_of_ble_eq_true rfl)).trans rfl
theorem zl213_11 {pc : Nat} (h : 237 ≤ pc) : zi_fe 213 pc = zu213_11.lookup pc := (zl213_10 (Nat.le_trans (Nat.le_of_ble_eq_true rfl) h)).trans (zi_lkA (a := zi_i213_10) (c := 237) rfl h)
theorem f213_237 : zi_fe 213 237 = some (.ishr, 1, 0, 0, 0, 0, 0) := (zl213_11 (Nat.le_of_ble_eq_true rfl)).trans rfl
theorem f213_238 : zi_fe 213 238 = some ((.iconst 1), 1, 0, 0, 0, 0, 0) := (zl213_11 (Nat.le_of_ble_eq_true rfl)).trans rfl
theorem f213_239 : zi_fe 213 239 = some (.iand, 1, 0, 0, 0, 0, 0) := (zl213_11 (Nat.le_of_ble_eq_true rfl)).trans rfl
theorem f213_240 : zi_fe 213 240 = some ((.ifCond .ne 7), 3, 0, 0, 0, 0, 0) := (zl213_11 (Nat.le_of_ble_eq_true rfl)).trans rfl
theorem f213_243 : zi_fe 213 243 = some ((.iconst 1), 1, 0, 0, 0, 0, 0) := (zl213_11 (Nat.le_of_ble_eq_true rfl)).trans rfl
theorem f213_244 : zi_fe 213 244 = some ((.goto 4), 3, 0, 0, 0, 0, 0) := (zl213_11 (Nat.le_of_ble_eq_true rfl)).trans rfl
theorem f213_247 : zi_fe 213 247 = some ((.iconst 0), 1, 0, 0, 0, 0, 0) := (zl213_11 (Nat.le_of_ble_eq_true rfl)).trans rfl
theorem f213_248 : zi_fe 213 248 = some ((.istore_n 3), 1, 0, 0, 0, 0, 0) := (zl213_11 (Nat.le_of_ble_eq_true rfl)).trans rfl
theorem f213_249 : zi_fe 213 249 = some ((.iinc 4 1), 3, 0, 0, 0, 0, 0) := (zl213_11 (Nat.le_of_ble_eq_true rfl)).trans rfl
theorem f213_252 : zi_fe 213 252 = some ((.goto (-171)), 3, 0, 0, 0, 0, 0) := (zl213_11 (Nat.le_of_ble_eq_true rfl)).trans rfl
theorem f213_255 : zi_fe 213 255 = some ((.aload_n 0), 1, 0, 0, 0, 0, 0) := (zl213_11 (Nat.le_of_ble_eq_true rfl)).trans rfl
theorem f213_256 : zi_fe 213 256 = some (.dup, 1, 0, 0, 0, 0, 0) := (zl213_11 (Nat.le_of_ble_eq_true rfl)).trans rfl
theorem zl213_12 {pc : Nat} (h : 257 ≤ pc) : zi_fe 213 pc = zu213_12.lookup pc := (zl213_11 (Nat.le_trans (Nat.le_of_ble_eq_true rfl) h)).trans (zi_lkA (a := zi_i213_11) (c := 257) rfl h)
theorem f213_257 : zi_fe 213 257 = some ((.getfield 323), 3, 8, 28, 0, 1093, 0) := (zl213_12 (Nat.le_of_ble_eq_true rfl)).trans rfl
theorem f213_260 : zi_fe 213 260 = some ((.iload_n 2), 1, 0, 0, 0, 0, 0) := (zl213_12 (Nat.le_of_ble_eq_true rfl)).trans rfl
theorem f213_261 : zi_fe 213 261 = some ((.invokestatic 94), 3, 143, 1, 8, 1269, 1) := (zl213_12 (Nat.le_of_ble_eq_true rfl)).trans rfl
theorem f213_264 : zi_fe 213 264 = some (.iadd, 1, 0, 0, 0, 0, 0) := (zl213_12 (Nat.le_of_ble_eq_true rfl)).trans rfl
theorem f213_265 : zi_fe 213 265 = some ((.putfield 323), 3, 8, 28, 0, 1093, 0) := (zl213_12 (Nat.le_of_ble_eq_true rfl)).trans rfl
theorem f213_268 : zi_fe 213 268 = some ((.aload_n 0), 1, 0, 0, 0, 0, 0) := (zl213_12 (Nat.le_of_ble_eq_true rfl)).trans rfl
theorem f213_269 : zi_fe 213 269 = some (.dup, 1, 0, 0, 0, 0, 0) := (zl213_12 (Nat.le_of_ble_eq_true rfl)).trans rfl
theorem f213_270 : zi_fe 213 270 = some ((.getfield 326), 3, 8, 31, 0, 1096, 0) := (zl213_12 (Nat.le_of_ble_eq_true rfl)).trans rfl
theorem f213_273 : zi_fe 213 273 = some ((.iload_n 3), 1, 0, 0, 0, 0, 0) := (zl213_12 (Nat.le_of_ble_eq_true rfl)).trans rfl
theorem f213_274 : zi_fe 213 274 = some ((.invokestatic 94), 3, 143, 1, 8, 1269, 1) := (zl213_12 (Nat.le_of_ble_eq_true rfl)).trans rfl
theorem f213_277 : zi_fe 213 277 = some (.iadd, 1, 0, 0, 0, 0, 0) := (zl213_12 (Nat.le_of_ble_eq_true rfl)).trans rfl
theorem f213_278 : zi_fe 213 278 = some ((.putfield 326), 3, 8, 31, 0, 1096, 0) := (zl213_12 (Nat.le_of_ble_eq_true rfl)).trans rfl
theorem zl213_13 {pc : Nat} (h : 281 ≤ pc) : zi_fe 213 pc = zu213_13.lookup pc := (zl213_12 (Nat.le_trans (Nat.le_of_ble_eq_true rfl) h)).trans (zi_lkA (a := zi_i213_12) (c := 281) rfl h)
theorem f213_281 : zi_fe 213 281 = some (.return_, 1, 0, 0, 0, 0, 0) := (zl213_13 (Nat.le_of_ble_eq_true rfl)).trans rfl
theorem b213_0 {h : zi_Hp} {a0 : Nat} {x1 : Int32} {u2 : Value} {u3 : Value} {u4 : Value} {u5 : Value} {u6 : Value} {u7 : Value} (g0 : a0 < zh_n h) (g1 : (zh_k h a0).1 = 8) (g2 : zh_r h a0 0 = .ref (zq (zh_r h a0 0))) : zv 2 213 0 [.ref a0, .int x1, u2, u3, u4, u5, u6, u7] [] h = zv 2 213 22 [.ref a0, .int x1, .int 1, .int 0, u4, u5, u6, u7] [.int 312, .ref (zq (zh_r h a0 0)), .ref a0] (zh_wi h a0 27 ((zh_i h a0 27) + 1)) := by
  refine Eq.trans (zs_ic f213_0 ic_1) ?_
  refine Eq.trans (zv_next f213_1 rfl) ?_
  refine Eq.trans (zs_ic f213_2 ic_0) ?_
  refine Eq.trans (zv_next f213_3 rfl) ?_
  refine Eq.trans (zv_next f213_4 rfl) ?_
  refine Eq.trans (zv_next f213_5 rfl) ?_
  refine Eq.trans (zs_geti f213_6 g0 g1) ?_
  refine Eq.trans (zs_ic f213_9 ic_1) ?_
  refine Eq.trans (zv_next f213_10 rfl) ?_
  refine Eq.trans (zs_put f213_11 g0 g1 rfl) ?_
  refine Eq.trans (zv_next f213_14 rfl) ?_
  refine Eq.trans (zv_next f213_15 rfl) ?_
  refine Eq.trans (zs_getr f213_16 g0 g1 g2) ?_
  refine Eq.trans (zs_sp f213_19 sp_312) ?_
  rfl
theorem b213_22 {h : zi_Hp} {a0 : Nat} {x1 : Int32} {x2 : Int32} {x3 : Int32} {u4 : Value} {u5 : Value} {u6 : Value} {u7 : Value} {t0 : Nat} {t1 : Nat} {s2 : Int32} (g0 : t1 < zh_n h) (g1 : ¬ (s2 < 0 ∨ (zh_k h t1).2 ≤ s2.toNatClampNeg)) (g2 : (zh_k h t1).1 = 100) (g3 : a0 < zh_n h) (g4 : (zh_k h a0).1 = 8) : zv 2 213 22 [.ref a0, .int x1, .int x2, .int x3, u4, u5, u6, u7] [.int s2, .ref t1, .ref t0] h = if (zh_i h a0 29) < (zh_i h t1 s2.toNatClampNeg) then zv 2 213 30 [.ref a0, .int x1, .int x2, .int x3, u4, u5, u6, u7] [.ref t0] h else zv 2 213 41 [.ref a0, .int x1, .int x2, .int x3, u4, u5, u6, u7] [.ref t0] h := by
  refine Eq.trans (zs_iald f213_22 g0 g2 g1) ?_
  refine Eq.trans (zv_next f213_23 rfl) ?_
  refine Eq.trans (zs_geti f213_24 g3 g4) ?_
  exact zs_icmp f213_27 rfl
theorem b213_30 {h : zi_Hp} {a0 : Nat} {x1 : Int32} {x2 : Int32} {x3 : Int32} {u4 : Value} {u5 : Value} {u6 : Value} {u7 : Value} {t0 : Nat} (g0 : a0 < zh_n h) (g1 : (zh_k h a0).1 = 8) (g2 : zh_r h a0 0 = .ref (zq (zh_r h a0 0))) (g3 : (zq (zh_r h a0 0)) < zh_n h) (g4 : 312 < (zh_k h (zq (zh_r h a0 0))).2) (g5 : (zh_k h (zq (zh_r h a0 0))).1 = 100) : zv 2 213 30 [.ref a0, .int x1, .int x2, .int x3, u4, u5, u6, u7] [.ref t0] h = zv 2 213 45 [.ref a0, .int x1, .int x2, .int x3, u4, u5, u6, u7] [.int (zh_i h (zq (zh_r h a0 0)) 312), .ref t0] h := by
  refine Eq.trans (zv_next f213_30 rfl) ?_
  refine Eq.trans (zs_getr f213_31 g0 g1 g2) ?_
  refine Eq.trans (zs_sp f213_34 sp_312) ?_
  refine Eq.trans (zs_iald f213_37 g3 g5 (zj_lit (by decide) g4)) ?_
  refine Eq.trans (zs_goto (tgt := 45) f213_38 rfl) ?_
  rfl
theorem b213_41 {h : zi_Hp} {a0 : Nat} {x1 : Int32} {x2 : Int32} {x3 : Int32} {u4 : Value} {u5 : Value} {u6 : Value} {u7 : Value} {t0 : Nat} (g0 : a0 < zh_n h) (g1 : (zh_k h a0).1 = 8) : zv 2 213 41 [.ref a0, .int x1, .int x2, .int x3, u4, u5, u6, u7] [.ref t0] h = zv 2 213 45 [.ref a0, .int x1, .int x2, .int x3, u4, u5, u6, u7] [.int (zh_i h a0 29), .ref t0] h := by
  refine Eq.trans (zv_next f213_41 rfl) ?_
  refine Eq.trans (zs_geti f213_42 g0 g1) ?_
  rfl
theorem b213_45 {h : zi_Hp} {a0 : Nat} {x1 : Int32} {x2 : Int32} {x3 : Int32} {u4 : Value} {u5 : Value} {u6 : Value} {u7 : Value} {t0 : Nat} {s1 : Int32} (g0 : t0 < zh_n h) (g1 : (zh_k h t0).1 = 8) (g2 : a0 < zh_n h) (g3 : (zh_k h a0).1 = 8) (g4 : zh_r h a0 25 = .ref (zq (zh_r h a0 25))) : zv 2 213 45 [.ref a0, .int x1, .int x2, .int x3, u4, u5, u6, u7] [.int s1, .ref t0] h = zv 2 213 54 [.ref a0, .int x1, .int x2, .int x3, u4, u5, u6, u7] [.int x1, .ref (zq (zh_r h a0 25)), .ref a0] (zh_wi h t0 29 s1) := by
  refine Eq.trans (zs_put f213_45 g0 g1 rfl) ?_
  refine Eq.trans (zv_next f213_48 rfl) ?_
  refine Eq.trans (zv_next f213_49 rfl) ?_
  refine Eq.trans (zs_getr f213_50 g2 g3 g4) ?_
  refine Eq.trans (zv_next f213_53 rfl) ?_
  rfl
theorem b213_54 {h : zi_Hp} {a0 : Nat} {x1 : Int32} {x2 : Int32} {x3 : Int32} {u4 : Value} {u5 : Value} {u6 : Value} {u7 : Value} {t0 : Nat} {t1 : Nat} {s2 : Int32} (g0 : t1 < zh_n h) (g1 : ¬ (s2 < 0 ∨ (zh_k h t1).2 ≤ s2.toNatClampNeg)) (g2 : (zh_k h t1).1 = 100) (g3 : a0 < zh_n h) (g4 : (zh_k h a0).1 = 8) : zv 2 213 54 [.ref a0, .int x1, .int x2, .int x3, u4, u5, u6, u7] [.int s2, .ref t1, .ref t0] h = if (zh_i h a0 30) < (zh_i h t1 s2.toNatClampNeg) then zv 2 213 62 [.ref a0, .int x1, .int x2, .int x3, u4, u5, u6, u7] [.ref t0] h else zv 2 213 71 [.ref a0, .int x1, .int x2, .int x3, u4, u5, u6, u7] [.ref t0] h := by
  refine Eq.trans (zs_iald f213_54 g0 g2 g1) ?_
  refine Eq.trans (zv_next f213_55 rfl) ?_
  refine Eq.trans (zs_geti f213_56 g3 g4) ?_
  exact zs_icmp f213_59 rfl
theorem b213_62 {h : zi_Hp} {a0 : Nat} {x1 : Int32} {x2 : Int32} {x3 : Int32} {u4 : Value} {u5 : Value} {u6 : Value} {u7 : Value} {t0 : Nat} (g0 : a0 < zh_n h) (g1 : (zh_k h a0).1 = 8) (g2 : zh_r h a0 25 = .ref (zq (zh_r h a0 25))) (g3 : (zq (zh_r h a0 25)) < zh_n h) (g4 : ¬ (x1 < 0 ∨ (zh_k h (zq (zh_r h a0 25))).2 ≤ x1.toNatClampNeg)) (g5 : (zh_k h (zq (zh_r h a0 25))).1 = 100) : zv 2 213 62 [.ref a0, .int x1, .int x2, .int x3, u4, u5, u6, u7] [.ref t0] h = zv 2 213 75 [.ref a0, .int x1, .int x2, .int x3, u4, u5, u6, u7] [.int (zh_i h (zq (zh_r h a0 25)) x1.toNatClampNeg), .ref t0] h := by
  refine Eq.trans (zv_next f213_62 rfl) ?_
  refine Eq.trans (zs_getr f213_63 g0 g1 g2) ?_
  refine Eq.trans (zv_next f213_66 rfl) ?_
  refine Eq.trans (zs_iald f213_67 g3 g5 g4) ?_
  refine Eq.trans (zs_goto (tgt := 75) f213_68 rfl) ?_
  rfl
theorem b213_71 {h : zi_Hp} {a0 : Nat} {x1 : Int32} {x2 : Int32} {x3 : Int32} {u4 : Value} {u5 : Value} {u6 : Value} {u7 : Value} {t0 : Nat} (g0 : a0 < zh_n h) (g1 : (zh_k h a0).1 = 8) : zv 2 213 71 [.ref a0, .int x1, .int x2, .int x3, u4, u5, u6, u7] [.ref t0] h = zv 2 213 75 [.ref a0, .int x1, .int x2, .int x3, u4, u5, u6, u7] [.int (zh_i h a0 30), .ref t0] h := by
  refine Eq.trans (zv_next f213_71 rfl) ?_
  refine Eq.trans (zs_geti f213_72 g0 g1) ?_
  rfl
theorem b213_75 {h : zi_Hp} {a0 : Nat} {x1 : Int32} {x2 : Int32} {x3 : Int32} {u4 : Value} {u5 : Value} {u6 : Value} {u7 : Value} {t0 : Nat} {s1 : Int32} (g0 : t0 < zh_n h) (g1 : (zh_k h t0).1 = 8) : zv 2 213 75 [.ref a0, .int x1, .int x2, .int x3, u4, u5, u6, u7] [.int s1, .ref t0] h = zv 2 213 81 [.ref a0, .int x1, .int x2, .int x3, .int 0, u5, u6, u7] [] (zh_wi h t0 30 s1) := by
  refine Eq.trans (zs_put f213_75 g0 g1 rfl) ?_
  refine Eq.trans (zs_ic f213_78 ic_0) ?_
  refine Eq.trans (zv_next f213_79 rfl) ?_
  rfl
theorem b213_81 {h : zi_Hp} {a0 : Nat} {x1 : Int32} {x2 : Int32} {x3 : Int32} {x4 : Int32} {u5 : Value} {u6 : Value} {u7 : Value}  : zv 2 213 81 [.ref a0, .int x1, .int x2, .int x3, .int x4, u5, u6, u7] [] h = if x4 < 3 then zv 2 213 87 [.ref a0, .int x1, .int x2, .int x3, .int x4, u5, u6, u7] [] h else zv 2 213 255 [.ref a0, .int x1, .int x2, .int x3, .int x4, u5, u6, u7] [] h := by
  refine Eq.trans (zv_next f213_81 rfl) ?_
  refine Eq.trans (zs_ic f213_83 ic_3) ?_
  exact zs_icmp f213_84 rfl
theorem b213_87 {h : zi_Hp} {a0 : Nat} {x1 : Int32} {x2 : Int32} {x3 : Int32} {x4 : Int32} {u5 : Value} {u6 : Value} {u7 : Value} (g0 : a0 < zh_n h) (g1 : (zh_k h a0).1 = 8) : zv 2 213 87 [.ref a0, .int x1, .int x2, .int x3, .int x4, u5, u6, u7] [] h = (zv 1 146 0 [.ref a0, .int x4, .int 0] [] h).bind fun r => zv 2 213 94 [.ref a0, .int x1, .int x2, .int x3, .int x4, u5, u6, u7] (r.1.toList ++ []) r.2 := by
  refine Eq.trans (zv_next f213_87 rfl) ?_
  refine Eq.trans (zv_next f213_88 rfl) ?_
  refine Eq.trans (zs_ic f213_90 ic_0) ?_
  exact zs_callV f213_91 (Nat.le_of_ble_eq_true rfl) (Nat.le_of_ble_eq_true rfl) rfl g0 g1 me_146 (by decide) rfl
theorem b213_94 {h : zi_Hp} {a0 : Nat} {x1 : Int32} {x2 : Int32} {x3 : Int32} {x4 : Int32} {u5 : Value} {u6 : Value} {u7 : Value} {s0 : Int32} (g0 : a0 < zh_n h) (g1 : (zh_k h a0).1 = 8) : zv 2 213 94 [.ref a0, .int x1, .int x2, .int x3, .int x4, u5, u6, u7] [.int s0] h = (zv 1 146 0 [.ref a0, .int x4, .int 4] [] h).bind fun r => zv 2 213 103 [.ref a0, .int x1, .int x2, .int x3, .int x4, .int s0, u6, u7] (r.1.toList ++ []) r.2 := by
  refine Eq.trans (zv_next f213_94 rfl) ?_
  refine Eq.trans (zv_next f213_96 rfl) ?_
  refine Eq.trans (zv_next f213_97 rfl) ?_
  refine Eq.trans (zs_ic f213_99 ic_4) ?_
  exact zs_callV f213_100 (Nat.le_of_ble_eq_true rfl) (Nat.le_of_ble_eq_true rfl) rfl g0 g1 me_146 (by decide) rfl
theorem b213_103 {h : zi_Hp} {a0 : Nat} {x1 : Int32} {x2 : Int32} {x3 : Int32} {x4 : Int32} {x5 : Int32} {u6 : Value} {u7 : Value} {s0 : Int32}  : zv 2 213 103 [.ref a0, .int x1, .int x2, .int x3, .int x4, .int x5, u6, u7] [.int s0] h = if x2 = 0 then zv 2 213 121 [.ref a0, .int x1, .int x2, .int x3, .int x4, .int x5, .int s0, u7] [] h else zv 2 213 109 [.ref a0, .int x1, .int x2, .int x3, .int x4, .int x5, .int s0, u7] [] h := by
  refine Eq.trans (zv_next f213_103 rfl) ?_
  refine Eq.trans (zv_next f213_105 rfl) ?_
  exact zs_if f213_106 rfl
theorem b213_109 {h : zi_Hp} {a0 : Nat} {x1 : Int32} {x2 : Int32} {x3 : Int32} {x4 : Int32} {x5 : Int32} {x6 : Int32} {u7 : Value}  : zv 2 213 109 [.ref a0, .int x1, .int x2, .int x3, .int x4, .int x5, .int x6, u7] [] h = (zv 1 173 0 [.int x5] [] h).bind fun r => zv 2 213 114 [.ref a0, .int x1, .int x2, .int x3, .int x4, .int x5, .int x6, u7] (r.1.toList ++ []) r.2 := by
  refine Eq.trans (zv_next f213_109 rfl) ?_
  exact zs_callS f213_111 (by decide) (Nat.le_of_ble_eq_true rfl) (Nat.le_of_ble_eq_true rfl) rfl me_173 (by decide) rfl
theorem b213_114 {h : zi_Hp} {a0 : Nat} {x1 : Int32} {x2 : Int32} {x3 : Int32} {x4 : Int32} {x5 : Int32} {x6 : Int32} {u7 : Value} {s0 : Int32}  : zv 2 213 114 [.ref a0, .int x1, .int x2, .int x3, .int x4, .int x5, .int x6, u7] [.int s0] h = if s0 = 0 then zv 2 213 117 [.ref a0, .int x1, .int x2, .int x3, .int x4, .int x5, .int x6, u7] [] h else zv 2 213 121 [.ref a0, .int x1, .int x2, .int x3, .int x4, .int x5, .int x6, u7] [] h := by
  exact zs_if f213_114 rfl
theorem b213_117 {h : zi_Hp} {a0 : Nat} {x1 : Int32} {x2 : Int32} {x3 : Int32} {x4 : Int32} {x5 : Int32} {x6 : Int32} {u7 : Value}  : zv 2 213 117 [.ref a0, .int x1, .int x2, .int x3, .int x4, .int x5, .int x6, u7] [] h = zv 2 213 122 [.ref a0, .int x1, .int x2, .int x3, .int x4, .int x5, .int x6, u7] [.int 1] h := by
  refine Eq.trans (zs_ic f213_117 ic_1) ?_
  refine Eq.trans (zs_goto (tgt := 122) f213_118 rfl) ?_
  rfl
theorem b213_121 {h : zi_Hp} {a0 : Nat} {x1 : Int32} {x2 : Int32} {x3 : Int32} {x4 : Int32} {x5 : Int32} {x6 : Int32} {u7 : Value}  : zv 2 213 121 [.ref a0, .int x1, .int x2, .int x3, .int x4, .int x5, .int x6, u7] [] h = zv 2 213 122 [.ref a0, .int x1, .int x2, .int x3, .int x4, .int x5, .int x6, u7] [.int 0] h := by
  refine Eq.trans (zs_ic f213_121 ic_0) ?_
  rfl
theorem b213_122 {h : zi_Hp} {a0 : Nat} {x1 : Int32} {x2 : Int32} {x3 : Int32} {x4 : Int32} {x5 : Int32} {x6 : Int32} {u7 : Value} {s0 : Int32}  : zv 2 213 122 [.ref a0, .int x1, .int x2, .int x3, .int x4, .int x5, .int x6, u7] [.int s0] h = if x5 = 0 then zv 2 213 249 [.ref a0, .int x1, .int s0, .int x3, .int x4, .int x5, .int x6, u7] [] h else zv 2 213 128 [.ref a0, .int x1, .int s0, .int x3, .int x4, .int x5, .int x6, u7] [] h := by
  refine Eq.trans (zv_next f213_122 rfl) ?_
  refine Eq.trans (zv_next f213_123 rfl) ?_
  exact zs_if f213_125 rfl
theorem b213_128 {h : zi_Hp} {a0 : Nat} {x1 : Int32} {x2 : Int32} {x3 : Int32} {x4 : Int32} {x5 : Int32} {x6 : Int32} {u7 : Value}  : zv 2 213 128 [.ref a0, .int x1, .int x2, .int x3, .int x4, .int x5, .int x6, u7] [] h = (zv 1 142 0 [.long ((x6).toInt64), .double 1, .long 0, .double 1, .long 1, .double 1] [] h).bind fun r => zv 2 213 136 [.ref a0, .int x1, .int x2, .int x3, .int x4, .int x5, .int x6, u7] (r.1.toList ++ []) r.2 := by
  refine Eq.trans (zv_next f213_128 rfl) ?_
  refine Eq.trans (zv_next f213_130 rfl) ?_
  refine Eq.trans (zs_lc f213_131 lc_0) ?_
  refine Eq.trans (zs_lc f213_132 lc_1) ?_
  exact zs_callS f213_133 (by decide) (Nat.le_of_ble_eq_true rfl) (Nat.le_of_ble_eq_true rfl) rfl me_142 (by decide) rfl
theorem b213_136 {h : zi_Hp} {a0 : Nat} {x1 : Int32} {x2 : Int32} {x3 : Int32} {x4 : Int32} {x5 : Int32} {x6 : Int32} {u7 : Value} {s0 : Int32}  : zv 2 213 136 [.ref a0, .int x1, .int x2, .int x3, .int x4, .int x5, .int x6, u7] [.int s0] h = if s0 = 0 then zv 2 213 249 [.ref a0, .int x1, .int x2, .int x3, .int x4, .int x5, .int x6, u7] [] h else zv 2 213 139 [.ref a0, .int x1, .int x2, .int x3, .int x4, .int x5, .int x6, u7] [] h := by
  exact zs_if f213_136 rfl
theorem b213_139 {h : zi_Hp} {a0 : Nat} {x1 : Int32} {x2 : Int32} {x3 : Int32} {x4 : Int32} {x5 : Int32} {x6 : Int32} {u7 : Value} (g0 : a0 < zh_n h) (g1 : (zh_k h a0).1 = 8) (g2 : zh_r h a0 33 = .ref (zq (zh_r h a0 33))) (g3 : zh_r h a0 32 = .ref (zq (zh_r h a0 32))) (g4 : (zq (zh_r h a0 32)) < zh_n h) (g5 : ¬ (((2 * x4) + x6) < 0 ∨ (zh_k h (zq (zh_r h a0 32))).2 ≤ ((2 * x4) + x6).toNatClampNeg)) (g6 : (zh_k h (zq (zh_r h a0 32))).1 = 100) : zv 2 213 139 [.ref a0, .int x1, .int x2, .int x3, .int x4, .int x5, .int x6, u7] [] h = if (zh_i h (zq (zh_r h a0 32)) ((2 * x4) + x6).toNatClampNeg) = 0 then zv 2 213 164 [.ref a0, .int x1, .int x2, .int x3, .int x4, .int x5, .int x6, .int ((2 * x4) + x6)] [.int ((2 * x4) + x6), .ref (zq (zh_r h a0 33))] h else zv 2 213 173 [.ref a0, .int x1, .int x2, .int x3, .int x4, .int x5, .int x6, .int ((2 * x4) + x6)] [.int ((2 * x4) + x6), .ref (zq (zh_r h a0 33))] h := by
  refine Eq.trans (zs_ic f213_139 ic_2) ?_
  refine Eq.trans (zv_next f213_140 rfl) ?_
  refine Eq.trans (zv_next f213_142 rfl) ?_
  refine Eq.trans (zv_next f213_143 rfl) ?_
  refine Eq.trans (zv_next f213_145 rfl) ?_
  refine Eq.trans (zv_next f213_146 rfl) ?_
  refine Eq.trans (zv_next f213_148 rfl) ?_
  refine Eq.trans (zs_getr f213_149 g0 g1 g2) ?_
  refine Eq.trans (zv_next f213_152 rfl) ?_
  refine Eq.trans (zv_next f213_154 rfl) ?_
  refine Eq.trans (zs_getr f213_155 g0 g1 g3) ?_
  refine Eq.trans (zv_next f213_158 rfl) ?_
  refine Eq.trans (zs_iald f213_160 g4 g6 g5) ?_
  exact zs_if f213_161 rfl
theorem b213_164 {h : zi_Hp} {a0 : Nat} {x1 : Int32} {x2 : Int32} {x3 : Int32} {x4 : Int32} {x5 : Int32} {x6 : Int32} {x7 : Int32} {t0 : Nat} {s1 : Int32} (g0 : a0 < zh_n h) (g1 : (zh_k h a0).1 = 8) (g2 : zh_r h a0 24 = .ref (zq (zh_r h a0 24))) (g3 : (zq (zh_r h a0 24)) < zh_n h) (g4 : ¬ (x1 < 0 ∨ (zh_k h (zq (zh_r h a0 24))).2 ≤ x1.toNatClampNeg)) (g5 : (zh_k h (zq (zh_r h a0 24))).1 = 100) : zv 2 213 164 [.ref a0, .int x1, .int x2, .int x3, .int x4, .int x5, .int x6, .int x7] [.int s1, .ref t0] h = zv 2 213 180 [.ref a0, .int x1, .int x2, .int x3, .int x4, .int x5, .int x6, .int x7] [.int (zh_i h (zq (zh_r h a0 24)) x1.toNatClampNeg), .int s1, .ref t0] h := by
  refine Eq.trans (zv_next f213_164 rfl) ?_
  refine Eq.trans (zs_getr f213_165 g0 g1 g2) ?_
  refine Eq.trans (zv_next f213_168 rfl) ?_
  refine Eq.trans (zs_iald f213_169 g3 g5 g4) ?_
  refine Eq.trans (zs_goto (tgt := 180) f213_170 rfl) ?_
  rfl
theorem b213_173 {h : zi_Hp} {a0 : Nat} {x1 : Int32} {x2 : Int32} {x3 : Int32} {x4 : Int32} {x5 : Int32} {x6 : Int32} {x7 : Int32} {t0 : Nat} {s1 : Int32} (g0 : a0 < zh_n h) (g1 : (zh_k h a0).1 = 8) (g2 : zh_r h a0 33 = .ref (zq (zh_r h a0 33))) (g3 : (zq (zh_r h a0 33)) < zh_n h) (g4 : ¬ (x7 < 0 ∨ (zh_k h (zq (zh_r h a0 33))).2 ≤ x7.toNatClampNeg)) (g5 : (zh_k h (zq (zh_r h a0 33))).1 = 100) : zv 2 213 173 [.ref a0, .int x1, .int x2, .int x3, .int x4, .int x5, .int x6, .int x7] [.int s1, .ref t0] h = zv 2 213 180 [.ref a0, .int x1, .int x2, .int x3, .int x4, .int x5, .int x6, .int x7] [.int (zh_i h (zq (zh_r h a0 33)) x7.toNatClampNeg), .int s1, .ref t0] h := by
  refine Eq.trans (zv_next f213_173 rfl) ?_
  refine Eq.trans (zs_getr f213_174 g0 g1 g2) ?_
  refine Eq.trans (zv_next f213_177 rfl) ?_
  refine Eq.trans (zs_iald f213_179 g3 g5 g4) ?_
  rfl
theorem b213_180 {h : zi_Hp} {a0 : Nat} {x1 : Int32} {x2 : Int32} {x3 : Int32} {x4 : Int32} {x5 : Int32} {x6 : Int32} {x7 : Int32} {t0 : Nat} {s1 : Int32} {s2 : Int32} (g0 : t0 < zh_n h) (g1 : ¬ (s1 < 0 ∨ (zh_k h t0).2 ≤ s1.toNatClampNeg)) (g2 : (zh_k h t0).1 = 100) (g3 : a0 < zh_n h) (g4 : (zh_k h a0).1 = 8) (g5 : zh_r h a0 32 = .ref (zq (zh_r h a0 32))) : zv 2 213 180 [.ref a0, .int x1, .int x2, .int x3, .int x4, .int x5, .int x6, .int x7] [.int s2, .int s1, .ref t0] h = zv 2 213 188 [.ref a0, .int x1, .int x2, .int x3, .int x4, .int x5, .int x6, .int x7] [.int x7, .ref (zq (zh_r h a0 32)), .int x7, .ref (zq (zh_r h a0 32))] (zh_wi h t0 s1.toNatClampNeg s2) := by
  refine Eq.trans (zs_iast f213_180 g0 g2 g1) ?_
  refine Eq.trans (zv_next f213_181 rfl) ?_
  refine Eq.trans (zs_getr f213_182 g3 g4 g5) ?_
  refine Eq.trans (zv_next f213_185 rfl) ?_
  refine Eq.trans (zv_next f213_187 rfl) ?_
  rfl
theorem b213_188 {h : zi_Hp} {a0 : Nat} {x1 : Int32} {x2 : Int32} {x3 : Int32} {x4 : Int32} {x5 : Int32} {x6 : Int32} {x7 : Int32} {t0 : Nat} {s1 : Int32} {t2 : Nat} {s3 : Int32} (g0 : t2 < zh_n h) (g1 : ¬ (s3 < 0 ∨ (zh_k h t2).2 ≤ s3.toNatClampNeg)) (g2 : (zh_k h t2).1 = 100) (g3 : t0 < zh_n h) (g4 : ¬ (s1 < 0 ∨ (zh_k h t0).2 ≤ s1.toNatClampNeg)) (g5 : (zh_k h t0).1 = 100) (g6 : a0 < zh_n h) (g7 : (zh_k h a0).1 = 8) (g8 : zh_r h a0 34 = .ref (zq (zh_r h a0 34))) : zv 2 213 188 [.ref a0, .int x1, .int x2, .int x3, .int x4, .int x5, .int x6, .int x7] [.int s3, .ref t2, .int s1, .ref t0] h = zv 2 213 199 [.ref a0, .int x1, .int x2, .int x3, .int x4, .int x5, .int x6, .int x7] [.int x7, .ref (zq (zh_r h a0 34)), .int x7, .ref (zq (zh_r h a0 34))] (zh_wi h t0 s1.toNatClampNeg ((zh_i h t2 s3.toNatClampNeg) + 1)) := by
  refine Eq.trans (zs_iald f213_188 g0 g2 g1) ?_
  refine Eq.trans (zs_ic f213_189 ic_1) ?_
  refine Eq.trans (zv_next f213_190 rfl) ?_
  refine Eq.trans (zs_iast f213_191 g3 g5 g4) ?_
  refine Eq.trans (zv_next f213_192 rfl) ?_
  refine Eq.trans (zs_getr f213_193 g6 g7 g8) ?_
  refine Eq.trans (zv_next f213_196 rfl) ?_
  refine Eq.trans (zv_next f213_198 rfl) ?_
  rfl
theorem b213_199 {h : zi_Hp} {a0 : Nat} {x1 : Int32} {x2 : Int32} {x3 : Int32} {x4 : Int32} {x5 : Int32} {x6 : Int32} {x7 : Int32} {t0 : Nat} {s1 : Int32} {t2 : Nat} {s3 : Int32} (g0 : t2 < zh_n h) (g1 : ¬ (s3 < 0 ∨ (zh_k h t2).2 ≤ s3.toNatClampNeg)) (g2 : (zh_k h t2).1 = 102) (g3 : a0 < zh_n h) (g4 : (zh_k h a0).1 = 8) (g5 : zh_r h a0 26 = .ref (zq (zh_r h a0 26))) (g6 : (zq (zh_r h a0 26)) < zh_n h) (g7 : ¬ (x1 < 0 ∨ (zh_k h (zq (zh_r h a0 26))).2 ≤ x1.toNatClampNeg)) (g8 : (zh_k h (zq (zh_r h a0 26))).1 = 102) (g9 : t0 < zh_n h) (g10 : ¬ (s1 < 0 ∨ (zh_k h t0).2 ≤ s1.toNatClampNeg)) (g11 : (zh_k h t0).1 = 102) : zv 2 213 199 [.ref a0, .int x1, .int x2, .int x3, .int x4, .int x5, .int x6, .int x7] [.int s3, .ref t2, .int s1, .ref t0] h = if x3 = 0 then zv 2 213 212 [.ref a0, .int x1, .int x2, .int x3, .int x4, .int x5, .int x6, .int x7] [] (zh_wl h t0 s1.toNatClampNeg ((zh_l h t2 s3.toNatClampNeg) + (zh_l h (zq (zh_r h a0 26)) x1.toNatClampNeg))) else zv 2 213 243 [.ref a0, .int x1, .int x2, .int x3, .int x4, .int x5, .int x6, .int x7] [] (zh_wl h t0 s1.toNatClampNeg ((zh_l h t2 s3.toNatClampNeg) + (zh_l h (zq (zh_r h a0 26)) x1.toNatClampNeg))) := by
  refine Eq.trans (zs_lald f213_199 g0 g2 g1) ?_
  refine Eq.trans (zv_next f213_200 rfl) ?_
  refine Eq.trans (zs_getr f213_201 g3 g4 g5) ?_
  refine Eq.trans (zv_next f213_204 rfl) ?_
  refine Eq.trans (zs_lald f213_205 g6 g8 g7) ?_
  refine Eq.trans (zv_next f213_206 rfl) ?_
  refine Eq.trans (zs_last f213_207 g9 g11 g10) ?_
  refine Eq.trans (zv_next f213_208 rfl) ?_
  exact zs_if f213_209 rfl
theorem b213_212 {h : zi_Hp} {a0 : Nat} {x1 : Int32} {x2 : Int32} {x3 : Int32} {x4 : Int32} {x5 : Int32} {x6 : Int32} {x7 : Int32}  : zv 2 213 212 [.ref a0, .int x1, .int x2, .int x3, .int x4, .int x5, .int x6, .int x7] [] h = if x5 = 5 then zv 2 213 218 [.ref a0, .int x1, .int x2, .int x3, .int x4, .int x5, .int x6, .int x7] [] h else zv 2 213 247 [.ref a0, .int x1, .int x2, .int x3, .int x4, .int x5, .int x6, .int x7] [] h := by
  refine Eq.trans (zv_next f213_212 rfl) ?_
  refine Eq.trans (zs_ic f213_214 ic_5) ?_
  exact zs_icmp f213_215 rfl
theorem b213_218 {h : zi_Hp} {a0 : Nat} {x1 : Int32} {x2 : Int32} {x3 : Int32} {x4 : Int32} {x5 : Int32} {x6 : Int32} {x7 : Int32} (g0 : a0 < zh_n h) (g1 : (zh_k h a0).1 = 8) : zv 2 213 218 [.ref a0, .int x1, .int x2, .int x3, .int x4, .int x5, .int x6, .int x7] [] h = (zv 1 146 0 [.ref a0, .int x4, .int 1] [] h).bind fun r => zv 2 213 225 [.ref a0, .int x1, .int x2, .int x3, .int x4, .int x5, .int x6, .int x7] (r.1.toList ++ []) r.2 := by
  refine Eq.trans (zv_next f213_218 rfl) ?_
  refine Eq.trans (zv_next f213_219 rfl) ?_
  refine Eq.trans (zs_ic f213_221 ic_1) ?_
  exact zs_callV f213_222 (Nat.le_of_ble_eq_true rfl) (Nat.le_of_ble_eq_true rfl) rfl g0 g1 me_146 (by decide) rfl
theorem b213_225 {h : zi_Hp} {a0 : Nat} {x1 : Int32} {x2 : Int32} {x3 : Int32} {x4 : Int32} {x5 : Int32} {x6 : Int32} {x7 : Int32} {s0 : Int32}  : zv 2 213 225 [.ref a0, .int x1, .int x2, .int x3, .int x4, .int x5, .int x6, .int x7] [.int s0] h = if s0 = 0 then zv 2 213 228 [.ref a0, .int x1, .int x2, .int x3, .int x4, .int x5, .int x6, .int x7] [] h else zv 2 213 247 [.ref a0, .int x1, .int x2, .int x3, .int x4, .int x5, .int x6, .int x7] [] h := by
  exact zs_if f213_225 rfl
theorem b213_228 {h : zi_Hp} {a0 : Nat} {x1 : Int32} {x2 : Int32} {x3 : Int32} {x4 : Int32} {x5 : Int32} {x6 : Int32} {x7 : Int32} (g0 : a0 < zh_n h) (g1 : (zh_k h a0).1 = 8) : zv 2 213 228 [.ref a0, .int x1, .int x2, .int x3, .int x4, .int x5, .int x6, .int x7] [] h = (zv 1 146 0 [.ref a0, .int x4, .int 5] [] h).bind fun r => zv 2 213 235 [.ref a0, .int x1, .int x2, .int x3, .int x4, .int x5, .int x6, .int x7] (r.1.toList ++ []) r.2 := by
  refine Eq.trans (zv_next f213_228 rfl) ?_
  refine Eq.trans (zv_next f213_229 rfl) ?_
  refine Eq.trans (zs_ic f213_231 ic_5) ?_
  exact zs_callV f213_232 (Nat.le_of_ble_eq_true rfl) (Nat.le_of_ble_eq_true rfl) rfl g0 g1 me_146 (by decide) rfl
theorem b213_235 {h : zi_Hp} {a0 : Nat} {x1 : Int32} {x2 : Int32} {x3 : Int32} {x4 : Int32} {x5 : Int32} {x6 : Int32} {x7 : Int32} {s0 : Int32}  : zv 2 213 235 [.ref a0, .int x1, .int x2, .int x3, .int x4, .int x5, .int x6, .int x7] [.int s0] h = if ((s0 >>> (x6 &&& 31)) &&& 1) = 0 then zv 2 213 243 [.ref a0, .int x1, .int x2, .int x3, .int x4, .int x5, .int x6, .int x7] [] h else zv 2 213 247 [.ref a0, .int x1, .int x2, .int x3, .int x4, .int x5, .int x6, .int x7] [] h := by
  refine Eq.trans (zv_next f213_235 rfl) ?_
  refine Eq.trans (zv_next f213_237 rfl) ?_
  refine Eq.trans (zs_ic f213_238 ic_1) ?_
  refine Eq.trans (zv_next f213_239 rfl) ?_
  exact zs_if f213_240 rfl
theorem b213_243 {h : zi_Hp} {a0 : Nat} {x1 : Int32} {x2 : Int32} {x3 : Int32} {x4 : Int32} {x5 : Int32} {x6 : Int32} {x7 : Int32}  : zv 2 213 243 [.ref a0, .int x1, .int x2, .int x3, .int x4, .int x5, .int x6, .int x7] [] h = zv 2 213 248 [.ref a0, .int x1, .int x2, .int x3, .int x4, .int x5, .int x6, .int x7] [.int 1] h := by
  refine Eq.trans (zs_ic f213_243 ic_1) ?_
  refine Eq.trans (zs_goto (tgt := 248) f213_244 rfl) ?_
  rfl
theorem b213_247 {h : zi_Hp} {a0 : Nat} {x1 : Int32} {x2 : Int32} {x3 : Int32} {x4 : Int32} {x5 : Int32} {x6 : Int32} {x7 : Int32}  : zv 2 213 247 [.ref a0, .int x1, .int x2, .int x3, .int x4, .int x5, .int x6, .int x7] [] h = zv 2 213 248 [.ref a0, .int x1, .int x2, .int x3, .int x4, .int x5, .int x6, .int x7] [.int 0] h := by
  refine Eq.trans (zs_ic f213_247 ic_0) ?_
  rfl
theorem b213_248 {h : zi_Hp} {a0 : Nat} {x1 : Int32} {x2 : Int32} {x3 : Int32} {x4 : Int32} {x5 : Int32} {x6 : Int32} {x7 : Int32} {s0 : Int32}  : zv 2 213 248 [.ref a0, .int x1, .int x2, .int x3, .int x4, .int x5, .int x6, .int x7] [.int s0] h = zv 2 213 249 [.ref a0, .int x1, .int x2, .int s0, .int x4, .int x5, .int x6, .int x7] [] h := by
  refine Eq.trans (zv_next f213_248 rfl) ?_
  rfl
theorem b213_249 {h : zi_Hp} {a0 : Nat} {x1 : Int32} {x2 : Int32} {x3 : Int32} {x4 : Int32} {x5 : Int32} {x6 : Int32} {u7 : Value}  : zv 2 213 249 [.ref a0, .int x1, .int x2, .int x3, .int x4, .int x5, .int x6, u7] [] h = zv 2 213 81 [.ref a0, .int x1, .int x2, .int x3, .int (x4 + 1), .int x5, .int x6, u7] [] h := by
  refine Eq.trans (zs_inc f213_249 rfl ic_1 rfl) ?_
  refine Eq.trans (zs_goto (tgt := 81) f213_252 rfl) ?_
  rfl
theorem b213_255 {h : zi_Hp} {a0 : Nat} {x1 : Int32} {x2 : Int32} {x3 : Int32} {x4 : Int32} {u5 : Value} {u6 : Value} {u7 : Value} (g0 : a0 < zh_n h) (g1 : (zh_k h a0).1 = 8) : zv 2 213 255 [.ref a0, .int x1, .int x2, .int x3, .int x4, u5, u6, u7] [] h = (zv 1 143 0 [.int x2] [] h).bind fun r => zv 2 213 264 [.ref a0, .int x1, .int x2, .int x3, .int x4, u5, u6, u7] (r.1.toList ++ [.int (zh_i h a0 28), .ref a0]) r.2 := by
  refine Eq.trans (zv_next f213_255 rfl) ?_
  refine Eq.trans (zv_next f213_256 rfl) ?_
  refine Eq.trans (zs_geti f213_257 g0 g1) ?_
  refine Eq.trans (zv_next f213_260 rfl) ?_
  exact zs_callS f213_261 (by decide) (Nat.le_of_ble_eq_true rfl) (Nat.le_of_ble_eq_true rfl) rfl me_143 (by decide) rfl
theorem b213_264 {h : zi_Hp} {a0 : Nat} {x1 : Int32} {x2 : Int32} {x3 : Int32} {x4 : Int32} {u5 : Value} {u6 : Value} {u7 : Value} {t0 : Nat} {s1 : Int32} {s2 : Int32} (g0 : t0 < zh_n h) (g1 : (zh_k h t0).1 = 8) : zv 2 213 264 [.ref a0, .int x1, .int x2, .int x3, .int x4, u5, u6, u7] [.int s2, .int s1, .ref t0] h = zv 2 213 270 [.ref a0, .int x1, .int x2, .int x3, .int x4, u5, u6, u7] [.ref a0, .ref a0] (zh_wi h t0 28 (s1 + s2)) := by
  refine Eq.trans (zv_next f213_264 rfl) ?_
  refine Eq.trans (zs_put f213_265 g0 g1 rfl) ?_
  refine Eq.trans (zv_next f213_268 rfl) ?_
  refine Eq.trans (zv_next f213_269 rfl) ?_
  rfl
theorem b213_270 {h : zi_Hp} {a0 : Nat} {x1 : Int32} {x2 : Int32} {x3 : Int32} {x4 : Int32} {u5 : Value} {u6 : Value} {u7 : Value} {t0 : Nat} {t1 : Nat} (g0 : t1 < zh_n h) (g1 : (zh_k h t1).1 = 8) : zv 2 213 270 [.ref a0, .int x1, .int x2, .int x3, .int x4, u5, u6, u7] [.ref t1, .ref t0] h = (zv 1 143 0 [.int x3] [] h).bind fun r => zv 2 213 277 [.ref a0, .int x1, .int x2, .int x3, .int x4, u5, u6, u7] (r.1.toList ++ [.int (zh_i h t1 31), .ref t0]) r.2 := by
  refine Eq.trans (zs_geti f213_270 g0 g1) ?_
  refine Eq.trans (zv_next f213_273 rfl) ?_
  exact zs_callS f213_274 (by decide) (Nat.le_of_ble_eq_true rfl) (Nat.le_of_ble_eq_true rfl) rfl me_143 (by decide) rfl
theorem b213_277 {h : zi_Hp} {a0 : Nat} {x1 : Int32} {x2 : Int32} {x3 : Int32} {x4 : Int32} {u5 : Value} {u6 : Value} {u7 : Value} {t0 : Nat} {s1 : Int32} {s2 : Int32} (g0 : t0 < zh_n h) (g1 : (zh_k h t0).1 = 8) : zv 2 213 277 [.ref a0, .int x1, .int x2, .int x3, .int x4, u5, u6, u7] [.int s2, .int s1, .ref t0] h = some (none, zh_wi h t0 31 (s1 + s2)) := by
  refine Eq.trans (zv_next f213_277 rfl) ?_
  refine Eq.trans (zs_put f213_278 g0 g1 rfl) ?_
  exact zv_ret f213_281 rfl
set_option maxRecDepth 20000 in
theorem zq214 : zi_M[214]? = some zi_m214 := rfl
theorem zl214_0 {pc : Nat} (_ : 0 ≤ pc) : zi_fe 214 pc = zu214_0.lookup pc := zi_feA zq214 pc
theorem f214_0 : zi_fe 214 0 = some ((.iload_n 0), 1, 0, 0, 0, 0, 0) := (zl214_0 (Nat.le_of_ble_eq_true rfl)).trans rfl
theorem f214_1 : zi_fe 214 1 = some ((.iconst 1), 1, 0, 0, 0, 0, 0) := (zl214_0 (Nat.le_of_ble_eq_true rfl)).trans rfl
theorem f214_2 : zi_fe 214 2 = some (.iand, 1, 0, 0, 0, 0, 0) := (zl214_0 (Nat.le_of_ble_eq_true rfl)).trans rfl
theorem f214_3 : zi_fe 214 3 = some ((.iload_n 0), 1, 0, 0, 0, 0, 0) := (zl214_0 (Nat.le_of_ble_eq_true rfl)).trans rfl
theorem f214_4 : zi_fe 214 4 = some ((.iconst 1), 1, 0, 0, 0, 0, 0) := (zl214_0 (Nat.le_of_ble_eq_true rfl)).trans rfl
theorem f214_5 : zi_fe 214 5 = some (.ishr, 1, 0, 0, 0, 0, 0) := (zl214_0 (Nat.le_of_ble_eq_true rfl)).trans rfl
theorem f214_6 : zi_fe 214 6 = some ((.iconst 1), 1, 0, 0, 0, 0, 0) := (zl214_0 (Nat.le_of_ble_eq_true rfl)).trans rfl
theorem f214_7 : zi_fe 214 7 = some (.iand, 1, 0, 0, 0, 0, 0) := (zl214_0 (Nat.le_of_ble_eq_true rfl)).trans rfl
theorem f214_8 : zi_fe 214 8 = some (.iadd, 1, 0, 0, 0, 0, 0) := (zl214_0 (Nat.le_of_ble_eq_true rfl)).trans rfl
theorem f214_9 : zi_fe 214 9 = some ((.iload_n 0), 1, 0, 0, 0, 0, 0) := (zl214_0 (Nat.le_of_ble_eq_true rfl)).trans rfl
theorem f214_10 : zi_fe 214 10 = some ((.iconst 2), 1, 0, 0, 0, 0, 0) := (zl214_0 (Nat.le_of_ble_eq_true rfl)).trans rfl
theorem f214_11 : zi_fe 214 11 = some (.ishr, 1, 0, 0, 0, 0, 0) := (zl214_0 (Nat.le_of_ble_eq_true rfl)).trans rfl
theorem zl214_1 {pc : Nat} (h : 12 ≤ pc) : zi_fe 214 pc = zu214_1.lookup pc := (zl214_0 (Nat.le_trans (Nat.le_of_ble_eq_true rfl) h)).trans (zi_lkA (a := zi_i214_0) (c := 12) rfl h)
theorem f214_12 : zi_fe 214 12 = some ((.iconst 1), 1, 0, 0, 0, 0, 0) := (zl214_1 (Nat.le_of_ble_eq_true rfl)).trans rfl
theorem f214_13 : zi_fe 214 13 = some (.iand, 1, 0, 0, 0, 0, 0) := (zl214_1 (Nat.le_of_ble_eq_true rfl)).trans rfl
theorem f214_14 : zi_fe 214 14 = some (.iadd, 1, 0, 0, 0, 0, 0) := (zl214_1 (Nat.le_of_ble_eq_true rfl)).trans rfl
theorem f214_15 : zi_fe 214 15 = some (.ireturn, 1, 0, 0, 0, 0, 0) := (zl214_1 (Nat.le_of_ble_eq_true rfl)).trans rfl
theorem b214_0 {h : zi_Hp} {x0 : Int32}  : zv 1 214 0 [.int x0] [] h = some (some (.int (((x0 &&& 1) + ((x0 >>> ((1 : Int32) &&& 31)) &&& 1)) + ((x0 >>> ((2 : Int32) &&& 31)) &&& 1))), h) := by
  refine Eq.trans (zv_next f214_0 rfl) ?_
  refine Eq.trans (zs_ic f214_1 ic_1) ?_
  refine Eq.trans (zv_next f214_2 rfl) ?_
  refine Eq.trans (zv_next f214_3 rfl) ?_
  refine Eq.trans (zs_ic f214_4 ic_1) ?_
  refine Eq.trans (zv_next f214_5 rfl) ?_
  refine Eq.trans (zs_ic f214_6 ic_1) ?_
  refine Eq.trans (zv_next f214_7 rfl) ?_
  refine Eq.trans (zv_next f214_8 rfl) ?_
  refine Eq.trans (zv_next f214_9 rfl) ?_
  refine Eq.trans (zs_ic f214_10 ic_2) ?_
  refine Eq.trans (zv_next f214_11 rfl) ?_
  refine Eq.trans (zs_ic f214_12 ic_1) ?_
  refine Eq.trans (zv_next f214_13 rfl) ?_
  refine Eq.trans (zv_next f214_14 rfl) ?_
  exact zs_ret0 f214_15
set_option maxRecDepth 20000 in
theorem zq215 : zi_M[215]? = some zi_m215 := rfl
theorem zl215_0 {pc : Nat} (_ : 0 ≤ pc) : zi_fe 215 pc = zu215_0.lookup pc := zi_feA zq215 pc
theorem f215_0 : zi_fe 215 0 = some ((.aload_n 0), 1, 0, 0, 0, 0, 0) := (zl215_0 (Nat.le_of_ble_eq_true rfl)).trans rfl
theorem f215_1 : zi_fe 215 1 = some ((.iload_n 1), 1, 0, 0, 0, 0, 0) := (zl215_0 (Nat.le_of_ble_eq_true rfl)).trans rfl
theorem f215_2 : zi_fe 215 2 = some ((.invokevirtual 329), 3, 211, 0, 8, 1475, 2) := (zl215_0 (Nat.le_of_ble_eq_true rfl)).trans rfl
theorem f215_5 : zi_fe 215 5 = some ((.aload_n 0), 1, 0, 0, 0, 0, 0) := (zl215_0 (Nat.le_of_ble_eq_true rfl)).trans rfl
theorem f215_6 : zi_fe 215 6 = some ((.getfield 44), 3, 8, 23, 3, 1088, 0) := (zl215_0 (Nat.le_of_ble_eq_true rfl)).trans rfl
theorem f215_9 : zi_fe 215 9 = some ((.iload_n 1), 1, 0, 0, 0, 0, 0) := (zl215_0 (Nat.le_of_ble_eq_true rfl)).trans rfl
theorem f215_10 : zi_fe 215 10 = some ((.iload_n 1), 1, 0, 0, 0, 0, 0) := (zl215_0 (Nat.le_of_ble_eq_true rfl)).trans rfl
theorem f215_11 : zi_fe 215 11 = some ((.iload_n 2), 1, 0, 0, 0, 0, 0) := (zl215_0 (Nat.le_of_ble_eq_true rfl)).trans rfl
theorem f215_12 : zi_fe 215 12 = some ((.if_icmp .ne 7), 3, 0, 0, 0, 0, 0) := (zl215_0 (Nat.le_of_ble_eq_true rfl)).trans rfl
theorem f215_15 : zi_fe 215 15 = some ((.iconst 0), 1, 0, 0, 0, 0, 0) := (zl215_0 (Nat.le_of_ble_eq_true rfl)).trans rfl
theorem f215_16 : zi_fe 215 16 = some ((.goto 7), 3, 0, 0, 0, 0, 0) := (zl215_0 (Nat.le_of_ble_eq_true rfl)).trans rfl
theorem f215_19 : zi_fe 215 19 = some ((.aload_n 0), 1, 0, 0, 0, 0, 0) := (zl215_0 (Nat.le_of_ble_eq_true rfl)).trans rfl
theorem zl215_1 {pc : Nat} (h : 20 ≤ pc) : zi_fe 215 pc = zu215_1.lookup pc := (zl215_0 (Nat.le_trans (Nat.le_of_ble_eq_true rfl) h)).trans (zi_lkA (a := zi_i215_0) (c := 20) rfl h)
theorem f215_20 : zi_fe 215 20 = some ((.invokevirtual 289), 3, 197, 0, 8, 1399, 1) := (zl215_1 (Nat.le_of_ble_eq_true rfl)).trans rfl
theorem f215_23 : zi_fe 215 23 = some (.iastore, 1, 0, 0, 0, 0, 0) := (zl215_1 (Nat.le_of_ble_eq_true rfl)).trans rfl
theorem f215_24 : zi_fe 215 24 = some ((.aload_n 0), 1, 0, 0, 0, 0, 0) := (zl215_1 (Nat.le_of_ble_eq_true rfl)).trans rfl
theorem f215_25 : zi_fe 215 25 = some ((.getfield 41), 3, 8, 22, 3, 1087, 0) := (zl215_1 (Nat.le_of_ble_eq_true rfl)).trans rfl
theorem f215_28 : zi_fe 215 28 = some ((.iload_n 1), 1, 0, 0, 0, 0, 0) := (zl215_1 (Nat.le_of_ble_eq_true rfl)).trans rfl
theorem f215_29 : zi_fe 215 29 = some ((.iconst 0), 1, 0, 0, 0, 0, 0) := (zl215_1 (Nat.le_of_ble_eq_true rfl)).trans rfl
theorem f215_30 : zi_fe 215 30 = some (.iastore, 1, 0, 0, 0, 0, 0) := (zl215_1 (Nat.le_of_ble_eq_true rfl)).trans rfl
theorem f215_31 : zi_fe 215 31 = some ((.aload_n 0), 1, 0, 0, 0, 0, 0) := (zl215_1 (Nat.le_of_ble_eq_true rfl)).trans rfl
theorem f215_32 : zi_fe 215 32 = some ((.getfield 44), 3, 8, 23, 3, 1088, 0) := (zl215_1 (Nat.le_of_ble_eq_true rfl)).trans rfl
theorem f215_35 : zi_fe 215 35 = some ((.iload_n 1), 1, 0, 0, 0, 0, 0) := (zl215_1 (Nat.le_of_ble_eq_true rfl)).trans rfl
theorem f215_36 : zi_fe 215 36 = some (.iaload, 1, 0, 0, 0, 0, 0) := (zl215_1 (Nat.le_of_ble_eq_true rfl)).trans rfl
theorem f215_37 : zi_fe 215 37 = some ((.ifCond .ne 10), 3, 0, 0, 0, 0, 0) := (zl215_1 (Nat.le_of_ble_eq_true rfl)).trans rfl
theorem zl215_2 {pc : Nat} (h : 40 ≤ pc) : zi_fe 215 pc = zu215_2.lookup pc := (zl215_1 (Nat.le_trans (Nat.le_of_ble_eq_true rfl) h)).trans (zi_lkA (a := zi_i215_1) (c := 40) rfl h)
theorem f215_40 : zi_fe 215 40 = some ((.aload_n 0), 1, 0, 0, 0, 0, 0) := (zl215_2 (Nat.le_of_ble_eq_true rfl)).trans rfl
theorem f215_41 : zi_fe 215 41 = some ((.iload_n 1), 1, 0, 0, 0, 0, 0) := (zl215_2 (Nat.le_of_ble_eq_true rfl)).trans rfl
theorem f215_42 : zi_fe 215 42 = some ((.invokevirtual 332), 3, 213, 0, 8, 1479, 2) := (zl215_2 (Nat.le_of_ble_eq_true rfl)).trans rfl
theorem f215_45 : zi_fe 215 45 = some ((.iconst 1), 1, 0, 0, 0, 0, 0) := (zl215_2 (Nat.le_of_ble_eq_true rfl)).trans rfl
theorem f215_46 : zi_fe 215 46 = some (.ireturn, 1, 1, 0, 0, 0, 0) := (zl215_2 (Nat.le_of_ble_eq_true rfl)).trans rfl
theorem f215_47 : zi_fe 215 47 = some ((.iconst 0), 1, 0, 0, 0, 0, 0) := (zl215_2 (Nat.le_of_ble_eq_true rfl)).trans rfl
theorem f215_48 : zi_fe 215 48 = some (.ireturn, 1, 1, 0, 0, 0, 0) := (zl215_2 (Nat.le_of_ble_eq_true rfl)).trans rfl
theorem b215_0 {h : zi_Hp} {a0 : Nat} {x1 : Int32} {x2 : Int32} (g0 : a0 < zh_n h) (g1 : (zh_k h a0).1 = 8) : zv 6 215 0 [.ref a0, .int x1, .int x2] [] h = (zv 1 211 0 [.ref a0, .int x1, .double 0] [] h).bind fun r => zv 6 215 5 [.ref a0, .int x1, .int x2] (r.1.toList ++ []) r.2 := by
  refine Eq.trans (zv_next f215_0 rfl) ?_
  refine Eq.trans (zv_next f215_1 rfl) ?_
  exact zs_callV f215_2 (Nat.le_of_ble_eq_true rfl) (Nat.le_of_ble_eq_true rfl) rfl g0 g1 me_211 (by decide) rfl
theorem b215_5 {h : zi_Hp} {a0 : Nat} {x1 : Int32} {x2 : Int32} (g0 : a0 < zh_n h) (g1 : (zh_k h a0).1 = 8) (g2 : zh_r h a0 23 = .ref (zq (zh_r h a0 23))) : zv 6 215 5 [.ref a0, .int x1, .int x2] [] h = if x1 = x2 then zv 6 215 15 [.ref a0, .int x1, .int x2] [.int x1, .ref (zq (zh_r h a0 23))] h else zv 6 215 19 [.ref a0, .int x1, .int x2] [.int x1, .ref (zq (zh_r h a0 23))] h := by
  refine Eq.trans (zv_next f215_5 rfl) ?_
  refine Eq.trans (zs_getr f215_6 g0 g1 g2) ?_
  refine Eq.trans (zv_next f215_9 rfl) ?_
  refine Eq.trans (zv_next f215_10 rfl) ?_
  refine Eq.trans (zv_next f215_11 rfl) ?_
  exact zs_icmp f215_12 rfl
theorem b215_15 {h : zi_Hp} {a0 : Nat} {x1 : Int32} {x2 : Int32} {t0 : Nat} {s1 : Int32}  : zv 6 215 15 [.ref a0, .int x1, .int x2] [.int s1, .ref t0] h = zv 6 215 23 [.ref a0, .int x1, .int x2] [.int 0, .int s1, .ref t0] h := by
  refine Eq.trans (zs_ic f215_15 ic_0) ?_
  refine Eq.trans (zs_goto (tgt := 23) f215_16 rfl) ?_
  rfl
theorem b215_19 {h : zi_Hp} {a0 : Nat} {x1 : Int32} {x2 : Int32} {t0 : Nat} {s1 : Int32} (g0 : a0 < zh_n h) (g1 : (zh_k h a0).1 = 8) : zv 6 215 19 [.ref a0, .int x1, .int x2] [.int s1, .ref t0] h = (zv 5 197 0 [.ref a0, .double 0, .double 0] [] h).bind fun r => zv 6 215 23 [.ref a0, .int x1, .int x2] (r.1.toList ++ [.int s1, .ref t0]) r.2 := by
  refine Eq.trans (zv_next f215_19 rfl) ?_
  exact zs_callV f215_20 (Nat.le_of_ble_eq_true rfl) (Nat.le_of_ble_eq_true rfl) rfl g0 g1 me_197 (by decide) rfl
theorem b215_23 {h : zi_Hp} {a0 : Nat} {x1 : Int32} {x2 : Int32} {t0 : Nat} {s1 : Int32} {s2 : Int32} (g0 : t0 < zh_n h) (g1 : ¬ (s1 < 0 ∨ (zh_k h t0).2 ≤ s1.toNatClampNeg)) (g2 : (zh_k h t0).1 = 100) (g3 : a0 < zh_n h) (g4 : (zh_k h a0).1 = 8) (g5 : zh_r h a0 22 = .ref (zq (zh_r h a0 22))) (g6 : (zq (zh_r h a0 22)) < zh_n h) (g7 : ¬ (x1 < 0 ∨ (zh_k h (zq (zh_r h a0 22))).2 ≤ x1.toNatClampNeg)) (g8 : (zh_k h (zq (zh_r h a0 22))).1 = 100) (g9 : zh_r h a0 23 = .ref (zq (zh_r h a0 23))) : zv 6 215 23 [.ref a0, .int x1, .int x2] [.int s2, .int s1, .ref t0] h = zv 6 215 36 [.ref a0, .int x1, .int x2] [.int x1, .ref (zq (zh_r h a0 23))] (zh_wi (zh_wi h t0 s1.toNatClampNeg s2) (zq (zh_r h a0 22)) x1.toNatClampNeg 0) := by
  refine Eq.trans (zs_iast f215_23 g0 g2 g1) ?_
  refine Eq.trans (zv_next f215_24 rfl) ?_
  refine Eq.trans (zs_getr f215_25 g3 g4 g5) ?_
  refine Eq.trans (zv_next f215_28 rfl) ?_
  refine Eq.trans (zs_ic f215_29 ic_0) ?_
  refine Eq.trans (zs_iast f215_30 g6 g8 g7) ?_
  refine Eq.trans (zv_next f215_31 rfl) ?_
  refine Eq.trans (zs_getr f215_32 g3 g4 g9) ?_
  refine Eq.trans (zv_next f215_35 rfl) ?_
  rfl
theorem b215_36 {h : zi_Hp} {a0 : Nat} {x1 : Int32} {x2 : Int32} {t0 : Nat} {s1 : Int32} (g0 : t0 < zh_n h) (g1 : ¬ (s1 < 0 ∨ (zh_k h t0).2 ≤ s1.toNatClampNeg)) (g2 : (zh_k h t0).1 = 100) : zv 6 215 36 [.ref a0, .int x1, .int x2] [.int s1, .ref t0] h = if (zh_i h t0 s1.toNatClampNeg) = 0 then zv 6 215 40 [.ref a0, .int x1, .int x2] [] h else zv 6 215 47 [.ref a0, .int x1, .int x2] [] h := by
  refine Eq.trans (zs_iald f215_36 g0 g2 g1) ?_
  exact zs_if f215_37 rfl
theorem b215_40 {h : zi_Hp} {a0 : Nat} {x1 : Int32} {x2 : Int32} (g0 : a0 < zh_n h) (g1 : (zh_k h a0).1 = 8) : zv 6 215 40 [.ref a0, .int x1, .int x2] [] h = (zv 2 213 0 [.ref a0, .int x1, .double 0, .double 0, .double 0, .double 0, .double 0, .double 0] [] h).bind fun r => zv 6 215 45 [.ref a0, .int x1, .int x2] (r.1.toList ++ []) r.2 := by
  refine Eq.trans (zv_next f215_40 rfl) ?_
  refine Eq.trans (zv_next f215_41 rfl) ?_
  exact zs_callV f215_42 (Nat.le_of_ble_eq_true rfl) (Nat.le_of_ble_eq_true rfl) rfl g0 g1 me_213 (by decide) rfl
theorem b215_45 {h : zi_Hp} {a0 : Nat} {x1 : Int32} {x2 : Int32}  : zv 6 215 45 [.ref a0, .int x1, .int x2] [] h = some (some (.int 1), h) := by
  refine Eq.trans (zs_ic f215_45 ic_1) ?_
  exact zs_ret1 f215_46 (by decide)
theorem b215_47 {h : zi_Hp} {a0 : Nat} {x1 : Int32} {x2 : Int32}  : zv 6 215 47 [.ref a0, .int x1, .int x2] [] h = some (some (.int 0), h) := by
  refine Eq.trans (zs_ic f215_47 ic_0) ?_
  exact zs_ret1 f215_48 (by decide)
set_option maxRecDepth 20000 in
theorem zq216 : zi_M[216]? = some zi_m216 := rfl
theorem zl216_0 {pc : Nat} (_ : 0 ≤ pc) : zi_fe 216 pc = zu216_0.lookup pc := zi_feA zq216 pc
theorem f216_0 : zi_fe 216 0 = some ((.aload_n 0), 1, 0, 0, 0, 0, 0) := (zl216_0 (Nat.le_of_ble_eq_true rfl)).trans rfl
theorem f216_1 : zi_fe 216 1 = some ((.iconst 0), 1, 0, 0, 0, 0, 0) := (zl216_0 (Nat.le_of_ble_eq_true rfl)).trans rfl
theorem f216_2 : zi_fe 216 2 = some ((.putfield 314), 3, 8, 27, 0, 1092, 0) := (zl216_0 (Nat.le_of_ble_eq_true rfl)).trans rfl
theorem f216_5 : zi_fe 216 5 = some ((.aload_n 0), 1, 0, 0, 0, 0, 0) := (zl216_0 (Nat.le_of_ble_eq_true rfl)).trans rfl
theorem f216_6 : zi_fe 216 6 = some ((.iconst 0), 1, 0, 0, 0, 0, 0) := (zl216_0 (Nat.le_of_ble_eq_true rfl)).trans rfl
theorem f216_7 : zi_fe 216 7 = some ((.putfield 323), 3, 8, 28, 0, 1093, 0) := (zl216_0 (Nat.le_of_ble_eq_true rfl)).trans rfl
theorem f216_10 : zi_fe 216 10 = some ((.aload_n 0), 1, 0, 0, 0, 0, 0) := (zl216_0 (Nat.le_of_ble_eq_true rfl)).trans rfl
theorem f216_11 : zi_fe 216 11 = some ((.iconst 0), 1, 0, 0, 0, 0, 0) := (zl216_0 (Nat.le_of_ble_eq_true rfl)).trans rfl
theorem f216_12 : zi_fe 216 12 = some ((.putfield 317), 3, 8, 29, 0, 1094, 0) := (zl216_0 (Nat.le_of_ble_eq_true rfl)).trans rfl
theorem f216_15 : zi_fe 216 15 = some ((.aload_n 0), 1, 0, 0, 0, 0, 0) := (zl216_0 (Nat.le_of_ble_eq_true rfl)).trans rfl
theorem f216_16 : zi_fe 216 16 = some ((.iconst 0), 1, 0, 0, 0, 0, 0) := (zl216_0 (Nat.le_of_ble_eq_true rfl)).trans rfl
theorem f216_17 : zi_fe 216 17 = some ((.putfield 320), 3, 8, 30, 0, 1095, 0) := (zl216_0 (Nat.le_of_ble_eq_true rfl)).trans rfl
theorem zl216_1 {pc : Nat} (h : 20 ≤ pc) : zi_fe 216 pc = zu216_1.lookup pc := (zl216_0 (Nat.le_trans (Nat.le_of_ble_eq_true rfl) h)).trans (zi_lkA (a := zi_i216_0) (c := 20) rfl h)
theorem f216_20 : zi_fe 216 20 = some ((.aload_n 0), 1, 0, 0, 0, 0, 0) := (zl216_1 (Nat.le_of_ble_eq_true rfl)).trans rfl
theorem f216_21 : zi_fe 216 21 = some ((.iconst 0), 1, 0, 0, 0, 0, 0) := (zl216_1 (Nat.le_of_ble_eq_true rfl)).trans rfl
theorem f216_22 : zi_fe 216 22 = some ((.putfield 326), 3, 8, 31, 0, 1096, 0) := (zl216_1 (Nat.le_of_ble_eq_true rfl)).trans rfl
theorem f216_25 : zi_fe 216 25 = some ((.iconst 0), 1, 0, 0, 0, 0, 0) := (zl216_1 (Nat.le_of_ble_eq_true rfl)).trans rfl
theorem f216_26 : zi_fe 216 26 = some ((.istore_n 2), 1, 0, 0, 0, 0, 0) := (zl216_1 (Nat.le_of_ble_eq_true rfl)).trans rfl
theorem f216_27 : zi_fe 216 27 = some ((.iload_n 2), 1, 0, 0, 0, 0, 0) := (zl216_1 (Nat.le_of_ble_eq_true rfl)).trans rfl
theorem f216_28 : zi_fe 216 28 = some ((.bipush 6), 2, 0, 0, 0, 0, 0) := (zl216_1 (Nat.le_of_ble_eq_true rfl)).trans rfl
theorem f216_30 : zi_fe 216 30 = some ((.if_icmp .ge 31), 3, 0, 0, 0, 0, 0) := (zl216_1 (Nat.le_of_ble_eq_true rfl)).trans rfl
theorem f216_33 : zi_fe 216 33 = some ((.aload_n 0), 1, 0, 0, 0, 0, 0) := (zl216_1 (Nat.le_of_ble_eq_true rfl)).trans rfl
theorem f216_34 : zi_fe 216 34 = some ((.getfield 57), 3, 8, 32, 3, 1097, 0) := (zl216_1 (Nat.le_of_ble_eq_true rfl)).trans rfl
theorem f216_37 : zi_fe 216 37 = some ((.iload_n 2), 1, 0, 0, 0, 0, 0) := (zl216_1 (Nat.le_of_ble_eq_true rfl)).trans rfl
theorem f216_38 : zi_fe 216 38 = some ((.iconst 0), 1, 0, 0, 0, 0, 0) := (zl216_1 (Nat.le_of_ble_eq_true rfl)).trans rfl
theorem zl216_2 {pc : Nat} (h : 39 ≤ pc) : zi_fe 216 pc = zu216_2.lookup pc := (zl216_1 (Nat.le_trans (Nat.le_of_ble_eq_true rfl) h)).trans (zi_lkA (a := zi_i216_1) (c := 39) rfl h)
theorem f216_39 : zi_fe 216 39 = some (.iastore, 1, 0, 0, 0, 0, 0) := (zl216_2 (Nat.le_of_ble_eq_true rfl)).trans rfl
theorem f216_40 : zi_fe 216 40 = some ((.aload_n 0), 1, 0, 0, 0, 0, 0) := (zl216_2 (Nat.le_of_ble_eq_true rfl)).trans rfl
theorem f216_41 : zi_fe 216 41 = some ((.getfield 60), 3, 8, 33, 3, 1098, 0) := (zl216_2 (Nat.le_of_ble_eq_true rfl)).trans rfl
theorem f216_44 : zi_fe 216 44 = some ((.iload_n 2), 1, 0, 0, 0, 0, 0) := (zl216_2 (Nat.le_of_ble_eq_true rfl)).trans rfl
theorem f216_45 : zi_fe 216 45 = some ((.bipush (-4)), 2, 0, 0, 0, 0, 0) := (zl216_2 (Nat.le_of_ble_eq_true rfl)).trans rfl
theorem f216_47 : zi_fe 216 47 = some (.iastore, 1, 0, 0, 0, 0, 0) := (zl216_2 (Nat.le_of_ble_eq_true rfl)).trans rfl
theorem f216_48 : zi_fe 216 48 = some ((.aload_n 0), 1, 0, 0, 0, 0, 0) := (zl216_2 (Nat.le_of_ble_eq_true rfl)).trans rfl
theorem f216_49 : zi_fe 216 49 = some ((.getfield 63), 3, 8, 34, 3, 1099, 0) := (zl216_2 (Nat.le_of_ble_eq_true rfl)).trans rfl
theorem f216_52 : zi_fe 216 52 = some ((.iload_n 2), 1, 0, 0, 0, 0, 0) := (zl216_2 (Nat.le_of_ble_eq_true rfl)).trans rfl
theorem f216_53 : zi_fe 216 53 = some ((.lconst 0), 1, 0, 0, 0, 0, 0) := (zl216_2 (Nat.le_of_ble_eq_true rfl)).trans rfl
theorem f216_54 : zi_fe 216 54 = some (.lastore, 1, 0, 0, 0, 0, 0) := (zl216_2 (Nat.le_of_ble_eq_true rfl)).trans rfl
theorem f216_55 : zi_fe 216 55 = some ((.iinc 2 1), 3, 0, 0, 0, 0, 0) := (zl216_2 (Nat.le_of_ble_eq_true rfl)).trans rfl
theorem zl216_3 {pc : Nat} (h : 58 ≤ pc) : zi_fe 216 pc = zu216_3.lookup pc := (zl216_2 (Nat.le_trans (Nat.le_of_ble_eq_true rfl) h)).trans (zi_lkA (a := zi_i216_2) (c := 58) rfl h)
theorem f216_58 : zi_fe 216 58 = some ((.goto (-31)), 3, 0, 0, 0, 0, 0) := (zl216_3 (Nat.le_of_ble_eq_true rfl)).trans rfl
theorem f216_61 : zi_fe 216 61 = some ((.aload_n 0), 1, 0, 0, 0, 0, 0) := (zl216_3 (Nat.le_of_ble_eq_true rfl)).trans rfl
theorem f216_62 : zi_fe 216 62 = some ((.getfield 53), 3, 8, 26, 3, 1091, 0) := (zl216_3 (Nat.le_of_ble_eq_true rfl)).trans rfl
theorem f216_65 : zi_fe 216 65 = some ((.iconst 0), 1, 0, 0, 0, 0, 0) := (zl216_3 (Nat.le_of_ble_eq_true rfl)).trans rfl
theorem f216_66 : zi_fe 216 66 = some ((.lconst 1), 1, 0, 0, 0, 0, 0) := (zl216_3 (Nat.le_of_ble_eq_true rfl)).trans rfl
theorem f216_67 : zi_fe 216 67 = some (.lastore, 1, 0, 0, 0, 0, 0) := (zl216_3 (Nat.le_of_ble_eq_true rfl)).trans rfl
theorem f216_68 : zi_fe 216 68 = some ((.iconst 0), 1, 0, 0, 0, 0, 0) := (zl216_3 (Nat.le_of_ble_eq_true rfl)).trans rfl
theorem f216_69 : zi_fe 216 69 = some ((.istore_n 2), 1, 0, 0, 0, 0, 0) := (zl216_3 (Nat.le_of_ble_eq_true rfl)).trans rfl
theorem f216_70 : zi_fe 216 70 = some ((.iload_n 2), 1, 0, 0, 0, 0, 0) := (zl216_3 (Nat.le_of_ble_eq_true rfl)).trans rfl
theorem f216_71 : zi_fe 216 71 = some ((.iload_n 1), 1, 0, 0, 0, 0, 0) := (zl216_3 (Nat.le_of_ble_eq_true rfl)).trans rfl
theorem f216_72 : zi_fe 216 72 = some ((.if_icmp .ge 21), 3, 0, 0, 0, 0, 0) := (zl216_3 (Nat.le_of_ble_eq_true rfl)).trans rfl
theorem f216_75 : zi_fe 216 75 = some ((.aload_n 0), 1, 0, 0, 0, 0, 0) := (zl216_3 (Nat.le_of_ble_eq_true rfl)).trans rfl
theorem zl216_4 {pc : Nat} (h : 76 ≤ pc) : zi_fe 216 pc = zu216_4.lookup pc := (zl216_3 (Nat.le_trans (Nat.le_of_ble_eq_true rfl) h)).trans (zi_lkA (a := zi_i216_3) (c := 76) rfl h)
theorem f216_76 : zi_fe 216 76 = some ((.getfield 53), 3, 8, 26, 3, 1091, 0) := (zl216_4 (Nat.le_of_ble_eq_true rfl)).trans rfl
theorem f216_79 : zi_fe 216 79 = some ((.iconst 0), 1, 0, 0, 0, 0, 0) := (zl216_4 (Nat.le_of_ble_eq_true rfl)).trans rfl
theorem f216_80 : zi_fe 216 80 = some (.dup2, 1, 0, 0, 0, 0, 0) := (zl216_4 (Nat.le_of_ble_eq_true rfl)).trans rfl
theorem f216_81 : zi_fe 216 81 = some (.laload, 1, 0, 0, 0, 0, 0) := (zl216_4 (Nat.le_of_ble_eq_true rfl)).trans rfl
theorem f216_82 : zi_fe 216 82 = some ((.ldc2_w 335), 3, 0, 0, 0, 1470, 6) := (zl216_4 (Nat.le_of_ble_eq_true rfl)).trans rfl
theorem f216_85 : zi_fe 216 85 = some (.lmul, 1, 0, 0, 0, 0, 0) := (zl216_4 (Nat.le_of_ble_eq_true rfl)).trans rfl
theorem f216_86 : zi_fe 216 86 = some (.lastore, 1, 0, 0, 0, 0, 0) := (zl216_4 (Nat.le_of_ble_eq_true rfl)).trans rfl
theorem f216_87 : zi_fe 216 87 = some ((.iinc 2 1), 3, 0, 0, 0, 0, 0) := (zl216_4 (Nat.le_of_ble_eq_true rfl)).trans rfl
theorem f216_90 : zi_fe 216 90 = some ((.goto (-20)), 3, 0, 0, 0, 0, 0) := (zl216_4 (Nat.le_of_ble_eq_true rfl)).trans rfl
theorem f216_93 : zi_fe 216 93 = some ((.aload_n 0), 1, 0, 0, 0, 0, 0) := (zl216_4 (Nat.le_of_ble_eq_true rfl)).trans rfl
theorem f216_94 : zi_fe 216 94 = some ((.getfield 47), 3, 8, 24, 3, 1089, 0) := (zl216_4 (Nat.le_of_ble_eq_true rfl)).trans rfl
theorem f216_97 : zi_fe 216 97 = some ((.iconst 0), 1, 0, 0, 0, 0, 0) := (zl216_4 (Nat.le_of_ble_eq_true rfl)).trans rfl
theorem zl216_5 {pc : Nat} (h : 98 ≤ pc) : zi_fe 216 pc = zu216_5.lookup pc := (zl216_4 (Nat.le_trans (Nat.le_of_ble_eq_true rfl) h)).trans (zi_lkA (a := zi_i216_4) (c := 98) rfl h)
theorem f216_98 : zi_fe 216 98 = some ((.iconst 1), 1, 0, 0, 0, 0, 0) := (zl216_5 (Nat.le_of_ble_eq_true rfl)).trans rfl
theorem f216_99 : zi_fe 216 99 = some (.iastore, 1, 0, 0, 0, 0, 0) := (zl216_5 (Nat.le_of_ble_eq_true rfl)).trans rfl
theorem f216_100 : zi_fe 216 100 = some ((.aload_n 0), 1, 0, 0, 0, 0, 0) := (zl216_5 (Nat.le_of_ble_eq_true rfl)).trans rfl
theorem f216_101 : zi_fe 216 101 = some ((.getfield 50), 3, 8, 25, 3, 1090, 0) := (zl216_5 (Nat.le_of_ble_eq_true rfl)).trans rfl
theorem f216_104 : zi_fe 216 104 = some ((.iconst 0), 1, 0, 0, 0, 0, 0) := (zl216_5 (Nat.le_of_ble_eq_true rfl)).trans rfl
theorem f216_105 : zi_fe 216 105 = some ((.iconst 0), 1, 0, 0, 0, 0, 0) := (zl216_5 (Nat.le_of_ble_eq_true rfl)).trans rfl
theorem f216_106 : zi_fe 216 106 = some (.iastore, 1, 0, 0, 0, 0, 0) := (zl216_5 (Nat.le_of_ble_eq_true rfl)).trans rfl
theorem f216_107 : zi_fe 216 107 = some (.return_, 1, 0, 0, 0, 0, 0) := (zl216_5 (Nat.le_of_ble_eq_true rfl)).trans rfl
theorem b216_0 {h : zi_Hp} {a0 : Nat} {x1 : Int32} {u2 : Value} (g0 : a0 < zh_n h) (g1 : (zh_k h a0).1 = 8) : zv 1 216 0 [.ref a0, .int x1, u2] [] h = zv 1 216 27 [.ref a0, .int x1, .int 0] [] (zh_wi (zh_wi (zh_wi (zh_wi (zh_wi h a0 27 0) a0 28 0) a0 29 0) a0 30 0) a0 31 0) := by
  refine Eq.trans (zv_next f216_0 rfl) ?_
  refine Eq.trans (zs_ic f216_1 ic_0) ?_
  refine Eq.trans (zs_put f216_2 g0 g1 rfl) ?_
  refine Eq.trans (zv_next f216_5 rfl) ?_
  refine Eq.trans (zs_ic f216_6 ic_0) ?_
  refine Eq.trans (zs_put f216_7 g0 g1 rfl) ?_
  refine Eq.trans (zv_next f216_10 rfl) ?_
  refine Eq.trans (zs_ic f216_11 ic_0) ?_
  refine Eq.trans (zs_put f216_12 g0 g1 rfl) ?_
  refine Eq.trans (zv_next f216_15 rfl) ?_
  refine Eq.trans (zs_ic f216_16 ic_0) ?_
  refine Eq.trans (zs_put f216_17 (zo_ni (zo_ni (zo_ni g0))) (zo_ki (zo_ki (zo_ki g1))) rfl) ?_
  refine Eq.trans (zv_next f216_20 rfl) ?_
  refine Eq.trans (zs_ic f216_21 ic_0) ?_
  refine Eq.trans (zs_put f216_22 (zo_ni (zo_ni (zo_ni (zo_ni g0)))) (zo_ki (zo_ki (zo_ki (zo_ki g1)))) rfl) ?_
  refine Eq.trans (zs_ic f216_25 ic_0) ?_
  refine Eq.trans (zv_next f216_26 rfl) ?_
  rfl
theorem b216_27 {h : zi_Hp} {a0 : Nat} {x1 : Int32} {x2 : Int32}  : zv 1 216 27 [.ref a0, .int x1, .int x2] [] h = if x2 < 6 then zv 1 216 33 [.ref a0, .int x1, .int x2] [] h else zv 1 216 61 [.ref a0, .int x1, .int x2] [] h := by
  refine Eq.trans (zv_next f216_27 rfl) ?_
  refine Eq.trans (zs_bp f216_28 bp_6) ?_
  exact zs_icmp f216_30 rfl
theorem b216_33 {h : zi_Hp} {a0 : Nat} {x1 : Int32} {x2 : Int32} (g0 : a0 < zh_n h) (g1 : (zh_k h a0).1 = 8) (g2 : zh_r h a0 32 = .ref (zq (zh_r h a0 32))) (g3 : (zq (zh_r h a0 32)) < zh_n h) (g4 : ¬ (x2 < 0 ∨ (zh_k h (zq (zh_r h a0 32))).2 ≤ x2.toNatClampNeg)) (g5 : (zh_k h (zq (zh_r h a0 32))).1 = 100) (g6 : zh_r h a0 33 = .ref (zq (zh_r h a0 33))) (g7 : (zq (zh_r h a0 33)) < zh_n h) (g8 : ¬ (x2 < 0 ∨ (zh_k h (zq (zh_r h a0 33))).2 ≤ x2.toNatClampNeg)) (g9 : (zh_k h (zq (zh_r h a0 33))).1 = 100) (g10 : zh_r h a0 34 = .ref (zq (zh_r h a0 34))) (g11 : (zq (zh_r h a0 34)) < zh_n h) (g12 : ¬ (x2 < 0 ∨ (zh_k h (zq (zh_r h a0 34))).2 ≤ x2.toNatClampNeg)) (g13 : (zh_k h (zq (zh_r h a0 34))).1 = 102) : zv 1 216 33 [.ref a0, .int x1, .int x2] [] h = zv 1 216 27 [.ref a0, .int x1, .int (x2 + 1)] [] (zh_wl (zh_wi (zh_wi h (zq (zh_r h a0 32)) x2.toNatClampNeg 0) (zq (zh_r h a0 33)) x2.toNatClampNeg (-4)) (zq (zh_r h a0 34)) x2.toNatClampNeg 0) := by
  refine Eq.trans (zv_next f216_33 rfl) ?_
  refine Eq.trans (zs_getr f216_34 g0 g1 g2) ?_
  refine Eq.trans (zv_next f216_37 rfl) ?_
  refine Eq.trans (zs_ic f216_38 ic_0) ?_
  refine Eq.trans (zs_iast f216_39 g3 g5 g4) ?_
  refine Eq.trans (zv_next f216_40 rfl) ?_
  refine Eq.trans (zs_getr f216_41 g0 g1 g6) ?_
  refine Eq.trans (zv_next f216_44 rfl) ?_
  refine Eq.trans (zs_bp f216_45 bp_m4) ?_
  refine Eq.trans (zs_iast f216_47 g7 g9 g8) ?_
  refine Eq.trans (zv_next f216_48 rfl) ?_
  refine Eq.trans (zs_getr f216_49 g0 g1 g10) ?_
  refine Eq.trans (zv_next f216_52 rfl) ?_
  refine Eq.trans (zs_lc f216_53 lc_0) ?_
  refine Eq.trans (zs_last f216_54 g11 g13 g12) ?_
  refine Eq.trans (zs_inc f216_55 rfl ic_1 rfl) ?_
  refine Eq.trans (zs_goto (tgt := 27) f216_58 rfl) ?_
  rfl
theorem b216_61 {h : zi_Hp} {a0 : Nat} {x1 : Int32} {x2 : Int32} (g0 : a0 < zh_n h) (g1 : (zh_k h a0).1 = 8) (g2 : zh_r h a0 26 = .ref (zq (zh_r h a0 26))) (g3 : (zq (zh_r h a0 26)) < zh_n h) (g4 : 0 < (zh_k h (zq (zh_r h a0 26))).2) (g5 : (zh_k h (zq (zh_r h a0 26))).1 = 102) : zv 1 216 61 [.ref a0, .int x1, .int x2] [] h = zv 1 216 70 [.ref a0, .int x1, .int 0] [] (zh_wl h (zq (zh_r h a0 26)) 0 1) := by
  refine Eq.trans (zv_next f216_61 rfl) ?_
  refine Eq.trans (zs_getr f216_62 g0 g1 g2) ?_
  refine Eq.trans (zs_ic f216_65 ic_0) ?_
  refine Eq.trans (zs_lc f216_66 lc_1) ?_
  refine Eq.trans (zs_last f216_67 g3 g5 (zj_lit (by decide) g4)) ?_
  refine Eq.trans (zs_ic f216_68 ic_0) ?_
  refine Eq.trans (zv_next f216_69 rfl) ?_
  rfl
theorem b216_70 {h : zi_Hp} {a0 : Nat} {x1 : Int32} {x2 : Int32}  : zv 1 216 70 [.ref a0, .int x1, .int x2] [] h = if x2 < x1 then zv 1 216 75 [.ref a0, .int x1, .int x2] [] h else zv 1 216 93 [.ref a0, .int x1, .int x2] [] h := by
  refine Eq.trans (zv_next f216_70 rfl) ?_
  refine Eq.trans (zv_next f216_71 rfl) ?_
  exact zs_icmp f216_72 rfl
theorem b216_75 {h : zi_Hp} {a0 : Nat} {x1 : Int32} {x2 : Int32} (g0 : a0 < zh_n h) (g1 : (zh_k h a0).1 = 8) (g2 : zh_r h a0 26 = .ref (zq (zh_r h a0 26))) (g3 : (zq (zh_r h a0 26)) < zh_n h) (g4 : 0 < (zh_k h (zq (zh_r h a0 26))).2) (g5 : (zh_k h (zq (zh_r h a0 26))).1 = 102) : zv 1 216 75 [.ref a0, .int x1, .int x2] [] h = zv 1 216 70 [.ref a0, .int x1, .int (x2 + 1)] [] (zh_wl h (zq (zh_r h a0 26)) 0 ((zh_l h (zq (zh_r h a0 26)) 0) * 6)) := by
  refine Eq.trans (zv_next f216_75 rfl) ?_
  refine Eq.trans (zs_getr f216_76 g0 g1 g2) ?_
  refine Eq.trans (zs_ic f216_79 ic_0) ?_
  refine Eq.trans (zv_next f216_80 rfl) ?_
  refine Eq.trans (zs_lald f216_81 g3 g5 (zj_lit (by decide) g4)) ?_
  refine Eq.trans (zs_l2 f216_82 l2_6) ?_
  refine Eq.trans (zv_next f216_85 rfl) ?_
  refine Eq.trans (zs_last f216_86 g3 g5 (zj_lit (by decide) g4)) ?_
  refine Eq.trans (zs_inc f216_87 rfl ic_1 rfl) ?_
  refine Eq.trans (zs_goto (tgt := 70) f216_90 rfl) ?_
  rfl
theorem b216_93 {h : zi_Hp} {a0 : Nat} {x1 : Int32} {x2 : Int32} (g0 : a0 < zh_n h) (g1 : (zh_k h a0).1 = 8) (g2 : zh_r h a0 24 = .ref (zq (zh_r h a0 24))) (g3 : (zq (zh_r h a0 24)) < zh_n h) (g4 : 0 < (zh_k h (zq (zh_r h a0 24))).2) (g5 : (zh_k h (zq (zh_r h a0 24))).1 = 100) (g6 : zh_r h a0 25 = .ref (zq (zh_r h a0 25))) (g7 : (zq (zh_r h a0 25)) < zh_n h) (g8 : 0 < (zh_k h (zq (zh_r h a0 25))).2) (g9 : (zh_k h (zq (zh_r h a0 25))).1 = 100) : zv 1 216 93 [.ref a0, .int x1, .int x2] [] h = some (none, zh_wi (zh_wi h (zq (zh_r h a0 24)) 0 1) (zq (zh_r h a0 25)) 0 0) := by
  refine Eq.trans (zv_next f216_93 rfl) ?_
  refine Eq.trans (zs_getr f216_94 g0 g1 g2) ?_
  refine Eq.trans (zs_ic f216_97 ic_0) ?_
  refine Eq.trans (zs_ic f216_98 ic_1) ?_
  refine Eq.trans (zs_iast f216_99 g3 g5 (zj_lit (by decide) g4)) ?_
  refine Eq.trans (zv_next f216_100 rfl) ?_
  refine Eq.trans (zs_getr f216_101 g0 g1 g6) ?_
  refine Eq.trans (zs_ic f216_104 ic_0) ?_
  refine Eq.trans (zs_ic f216_105 ic_0) ?_
  refine Eq.trans (zs_iast f216_106 g7 g9 (zj_lit (by decide) g8)) ?_
  exact zv_ret f216_107 rfl
set_option maxRecDepth 20000 in
theorem zq217 : zi_M[217]? = some zi_m217 := rfl
theorem zl217_0 {pc : Nat} (_ : 0 ≤ pc) : zi_fe 217 pc = zu217_0.lookup pc := zi_feA zq217 pc
theorem f217_0 : zi_fe 217 0 = some ((.aload_n 0), 1, 0, 0, 0, 0, 0) := (zl217_0 (Nat.le_of_ble_eq_true rfl)).trans rfl
theorem f217_1 : zi_fe 217 1 = some ((.iload_n 1), 1, 0, 0, 0, 0, 0) := (zl217_0 (Nat.le_of_ble_eq_true rfl)).trans rfl
theorem f217_2 : zi_fe 217 2 = some ((.invokevirtual 337), 3, 216, 0, 8, 1466, 2) := (zl217_0 (Nat.le_of_ble_eq_true rfl)).trans rfl
theorem f217_5 : zi_fe 217 5 = some ((.aload_n 0), 1, 0, 0, 0, 0, 0) := (zl217_0 (Nat.le_of_ble_eq_true rfl)).trans rfl
theorem f217_6 : zi_fe 217 6 = some ((.iconst 0), 1, 0, 0, 0, 0, 0) := (zl217_0 (Nat.le_of_ble_eq_true rfl)).trans rfl
theorem f217_7 : zi_fe 217 7 = some ((.iload_n 1), 1, 0, 0, 0, 0, 0) := (zl217_0 (Nat.le_of_ble_eq_true rfl)).trans rfl
theorem f217_8 : zi_fe 217 8 = some ((.invokevirtual 340), 3, 215, 0, 8, 1471, 3) := (zl217_0 (Nat.le_of_ble_eq_true rfl)).trans rfl
theorem f217_11 : zi_fe 217 11 = some ((.ifCond .eq 7), 3, 0, 0, 0, 0, 0) := (zl217_0 (Nat.le_of_ble_eq_true rfl)).trans rfl
theorem f217_14 : zi_fe 217 14 = some ((.iconst (-1)), 1, 0, 0, 0, 0, 0) := (zl217_0 (Nat.le_of_ble_eq_true rfl)).trans rfl
theorem f217_15 : zi_fe 217 15 = some ((.goto 4), 3, 0, 0, 0, 0, 0) := (zl217_0 (Nat.le_of_ble_eq_true rfl)).trans rfl
theorem f217_18 : zi_fe 217 18 = some ((.iconst 0), 1, 0, 0, 0, 0, 0) := (zl217_0 (Nat.le_of_ble_eq_true rfl)).trans rfl
theorem f217_19 : zi_fe 217 19 = some ((.istore_n 2), 1, 0, 0, 0, 0, 0) := (zl217_0 (Nat.le_of_ble_eq_true rfl)).trans rfl
theorem zl217_1 {pc : Nat} (h : 20 ≤ pc) : zi_fe 217 pc = zu217_1.lookup pc := (zl217_0 (Nat.le_trans (Nat.le_of_ble_eq_true rfl) h)).trans (zi_lkA (a := zi_i217_0) (c := 20) rfl h)
theorem f217_20 : zi_fe 217 20 = some ((.iload_n 2), 1, 0, 0, 0, 0, 0) := (zl217_1 (Nat.le_of_ble_eq_true rfl)).trans rfl
theorem f217_21 : zi_fe 217 21 = some ((.ifCond .lt 161), 3, 0, 0, 0, 0, 0) := (zl217_1 (Nat.le_of_ble_eq_true rfl)).trans rfl
theorem f217_24 : zi_fe 217 24 = some ((.aload_n 0), 1, 0, 0, 0, 0, 0) := (zl217_1 (Nat.le_of_ble_eq_true rfl)).trans rfl
theorem f217_25 : zi_fe 217 25 = some ((.getfield 41), 3, 8, 22, 3, 1087, 0) := (zl217_1 (Nat.le_of_ble_eq_true rfl)).trans rfl
theorem f217_28 : zi_fe 217 28 = some ((.iload_n 2), 1, 0, 0, 0, 0, 0) := (zl217_1 (Nat.le_of_ble_eq_true rfl)).trans rfl
theorem f217_29 : zi_fe 217 29 = some (.iaload, 1, 0, 0, 0, 0, 0) := (zl217_1 (Nat.le_of_ble_eq_true rfl)).trans rfl
theorem f217_30 : zi_fe 217 30 = some ((.istore_n 3), 1, 0, 0, 0, 0, 0) := (zl217_1 (Nat.le_of_ble_eq_true rfl)).trans rfl
theorem f217_31 : zi_fe 217 31 = some ((.iload_n 3), 1, 0, 0, 0, 0, 0) := (zl217_1 (Nat.le_of_ble_eq_true rfl)).trans rfl
theorem f217_32 : zi_fe 217 32 = some ((.iconst 3), 1, 0, 0, 0, 0, 0) := (zl217_1 (Nat.le_of_ble_eq_true rfl)).trans rfl
theorem f217_33 : zi_fe 217 33 = some ((.if_icmp .ge 22), 3, 0, 0, 0, 0, 0) := (zl217_1 (Nat.le_of_ble_eq_true rfl)).trans rfl
theorem f217_36 : zi_fe 217 36 = some ((.aload_n 0), 1, 0, 0, 0, 0, 0) := (zl217_1 (Nat.le_of_ble_eq_true rfl)).trans rfl
theorem f217_37 : zi_fe 217 37 = some ((.getfield 44), 3, 8, 23, 3, 1088, 0) := (zl217_1 (Nat.le_of_ble_eq_true rfl)).trans rfl
theorem zl217_2 {pc : Nat} (h : 40 ≤ pc) : zi_fe 217 pc = zu217_2.lookup pc := (zl217_1 (Nat.le_trans (Nat.le_of_ble_eq_true rfl) h)).trans (zi_lkA (a := zi_i217_1) (c := 40) rfl h)
theorem f217_40 : zi_fe 217 40 = some ((.iload_n 2), 1, 0, 0, 0, 0, 0) := (zl217_2 (Nat.le_of_ble_eq_true rfl)).trans rfl
theorem f217_41 : zi_fe 217 41 = some (.iaload, 1, 0, 0, 0, 0, 0) := (zl217_2 (Nat.le_of_ble_eq_true rfl)).trans rfl
theorem f217_42 : zi_fe 217 42 = some ((.iload_n 3), 1, 0, 0, 0, 0, 0) := (zl217_2 (Nat.le_of_ble_eq_true rfl)).trans rfl
theorem f217_43 : zi_fe 217 43 = some (.ishr, 1, 0, 0, 0, 0, 0) := (zl217_2 (Nat.le_of_ble_eq_true rfl)).trans rfl
theorem f217_44 : zi_fe 217 44 = some ((.iconst 1), 1, 0, 0, 0, 0, 0) := (zl217_2 (Nat.le_of_ble_eq_true rfl)).trans rfl
theorem f217_45 : zi_fe 217 45 = some (.iand, 1, 0, 0, 0, 0, 0) := (zl217_2 (Nat.le_of_ble_eq_true rfl)).trans rfl
theorem f217_46 : zi_fe 217 46 = some ((.ifCond .ne 9), 3, 0, 0, 0, 0, 0) := (zl217_2 (Nat.le_of_ble_eq_true rfl)).trans rfl
theorem f217_49 : zi_fe 217 49 = some ((.iinc 3 1), 3, 0, 0, 0, 0, 0) := (zl217_2 (Nat.le_of_ble_eq_true rfl)).trans rfl
theorem f217_52 : zi_fe 217 52 = some ((.goto (-21)), 3, 0, 0, 0, 0, 0) := (zl217_2 (Nat.le_of_ble_eq_true rfl)).trans rfl
theorem f217_55 : zi_fe 217 55 = some ((.aload_n 0), 1, 0, 0, 0, 0, 0) := (zl217_2 (Nat.le_of_ble_eq_true rfl)).trans rfl
theorem f217_56 : zi_fe 217 56 = some ((.getfield 41), 3, 8, 22, 3, 1087, 0) := (zl217_2 (Nat.le_of_ble_eq_true rfl)).trans rfl
theorem f217_59 : zi_fe 217 59 = some ((.iload_n 2), 1, 0, 0, 0, 0, 0) := (zl217_2 (Nat.le_of_ble_eq_true rfl)).trans rfl
theorem zl217_3 {pc : Nat} (h : 60 ≤ pc) : zi_fe 217 pc = zu217_3.lookup pc := (zl217_2 (Nat.le_trans (Nat.le_of_ble_eq_true rfl) h)).trans (zi_lkA (a := zi_i217_2) (c := 60) rfl h)
theorem f217_60 : zi_fe 217 60 = some ((.iload_n 3), 1, 0, 0, 0, 0, 0) := (zl217_3 (Nat.le_of_ble_eq_true rfl)).trans rfl
theorem f217_61 : zi_fe 217 61 = some ((.iconst 1), 1, 0, 0, 0, 0, 0) := (zl217_3 (Nat.le_of_ble_eq_true rfl)).trans rfl
theorem f217_62 : zi_fe 217 62 = some (.iadd, 1, 0, 0, 0, 0, 0) := (zl217_3 (Nat.le_of_ble_eq_true rfl)).trans rfl
theorem f217_63 : zi_fe 217 63 = some (.iastore, 1, 0, 0, 0, 0, 0) := (zl217_3 (Nat.le_of_ble_eq_true rfl)).trans rfl
theorem f217_64 : zi_fe 217 64 = some ((.iload_n 3), 1, 0, 0, 0, 0, 0) := (zl217_3 (Nat.le_of_ble_eq_true rfl)).trans rfl
theorem f217_65 : zi_fe 217 65 = some ((.iconst 3), 1, 0, 0, 0, 0, 0) := (zl217_3 (Nat.le_of_ble_eq_true rfl)).trans rfl
theorem f217_66 : zi_fe 217 66 = some ((.if_icmp .lt 9), 3, 0, 0, 0, 0, 0) := (zl217_3 (Nat.le_of_ble_eq_true rfl)).trans rfl
theorem f217_69 : zi_fe 217 69 = some ((.iinc 2 (-1)), 3, 0, 0, 0, 0, 0) := (zl217_3 (Nat.le_of_ble_eq_true rfl)).trans rfl
theorem f217_72 : zi_fe 217 72 = some ((.goto 107), 3, 0, 0, 0, 0, 0) := (zl217_3 (Nat.le_of_ble_eq_true rfl)).trans rfl
theorem f217_75 : zi_fe 217 75 = some ((.aload_n 0), 1, 0, 0, 0, 0, 0) := (zl217_3 (Nat.le_of_ble_eq_true rfl)).trans rfl
theorem f217_76 : zi_fe 217 76 = some ((.iload_n 2), 1, 0, 0, 0, 0, 0) := (zl217_3 (Nat.le_of_ble_eq_true rfl)).trans rfl
theorem f217_77 : zi_fe 217 77 = some ((.invokevirtual 343), 3, 212, 0, 8, 1483, 2) := (zl217_3 (Nat.le_of_ble_eq_true rfl)).trans rfl
theorem zl217_4 {pc : Nat} (h : 80 ≤ pc) : zi_fe 217 pc = zu217_4.lookup pc := (zl217_3 (Nat.le_trans (Nat.le_of_ble_eq_true rfl) h)).trans (zi_lkA (a := zi_i217_3) (c := 80) rfl h)
theorem f217_80 : zi_fe 217 80 = some ((.aload_n 0), 1, 0, 0, 0, 0, 0) := (zl217_4 (Nat.le_of_ble_eq_true rfl)).trans rfl
theorem f217_81 : zi_fe 217 81 = some ((.iload_n 3), 1, 0, 0, 0, 0, 0) := (zl217_4 (Nat.le_of_ble_eq_true rfl)).trans rfl
theorem f217_82 : zi_fe 217 82 = some ((.invokevirtual 188), 3, 174, 0, 8, 1291, 2) := (zl217_4 (Nat.le_of_ble_eq_true rfl)).trans rfl
theorem f217_85 : zi_fe 217 85 = some ((.istore 4), 2, 0, 0, 0, 0, 0) := (zl217_4 (Nat.le_of_ble_eq_true rfl)).trans rfl
theorem f217_87 : zi_fe 217 87 = some ((.aload_n 0), 1, 0, 0, 0, 0, 0) := (zl217_4 (Nat.le_of_ble_eq_true rfl)).trans rfl
theorem f217_88 : zi_fe 217 88 = some ((.getfield 47), 3, 8, 24, 3, 1089, 0) := (zl217_4 (Nat.le_of_ble_eq_true rfl)).trans rfl
theorem f217_91 : zi_fe 217 91 = some ((.iload_n 2), 1, 0, 0, 0, 0, 0) := (zl217_4 (Nat.le_of_ble_eq_true rfl)).trans rfl
theorem f217_92 : zi_fe 217 92 = some ((.iconst 1), 1, 0, 0, 0, 0, 0) := (zl217_4 (Nat.le_of_ble_eq_true rfl)).trans rfl
theorem f217_93 : zi_fe 217 93 = some (.iadd, 1, 0, 0, 0, 0, 0) := (zl217_4 (Nat.le_of_ble_eq_true rfl)).trans rfl
theorem f217_94 : zi_fe 217 94 = some ((.bipush 10), 2, 0, 0, 0, 0, 0) := (zl217_4 (Nat.le_of_ble_eq_true rfl)).trans rfl
theorem f217_96 : zi_fe 217 96 = some ((.aload_n 0), 1, 0, 0, 0, 0, 0) := (zl217_4 (Nat.le_of_ble_eq_true rfl)).trans rfl
theorem f217_97 : zi_fe 217 97 = some ((.getfield 47), 3, 8, 24, 3, 1089, 0) := (zl217_4 (Nat.le_of_ble_eq_true rfl)).trans rfl
theorem zl217_5 {pc : Nat} (h : 100 ≤ pc) : zi_fe 217 pc = zu217_5.lookup pc := (zl217_4 (Nat.le_trans (Nat.le_of_ble_eq_true rfl) h)).trans (zi_lkA (a := zi_i217_4) (c := 100) rfl h)
theorem f217_100 : zi_fe 217 100 = some ((.iload_n 2), 1, 0, 0, 0, 0, 0) := (zl217_5 (Nat.le_of_ble_eq_true rfl)).trans rfl
theorem f217_101 : zi_fe 217 101 = some (.iaload, 1, 0, 0, 0, 0, 0) := (zl217_5 (Nat.le_of_ble_eq_true rfl)).trans rfl
theorem f217_102 : zi_fe 217 102 = some (.imul, 1, 0, 0, 0, 0, 0) := (zl217_5 (Nat.le_of_ble_eq_true rfl)).trans rfl
theorem f217_103 : zi_fe 217 103 = some ((.iload_n 3), 1, 0, 0, 0, 0, 0) := (zl217_5 (Nat.le_of_ble_eq_true rfl)).trans rfl
theorem f217_104 : zi_fe 217 104 = some (.iadd, 1, 0, 0, 0, 0, 0) := (zl217_5 (Nat.le_of_ble_eq_true rfl)).trans rfl
theorem f217_105 : zi_fe 217 105 = some (.iastore, 1, 0, 0, 0, 0, 0) := (zl217_5 (Nat.le_of_ble_eq_true rfl)).trans rfl
theorem f217_106 : zi_fe 217 106 = some ((.aload_n 0), 1, 0, 0, 0, 0, 0) := (zl217_5 (Nat.le_of_ble_eq_true rfl)).trans rfl
theorem f217_107 : zi_fe 217 107 = some ((.getfield 50), 3, 8, 25, 3, 1090, 0) := (zl217_5 (Nat.le_of_ble_eq_true rfl)).trans rfl
theorem f217_110 : zi_fe 217 110 = some ((.iload_n 2), 1, 0, 0, 0, 0, 0) := (zl217_5 (Nat.le_of_ble_eq_true rfl)).trans rfl
theorem f217_111 : zi_fe 217 111 = some ((.iconst 1), 1, 0, 0, 0, 0, 0) := (zl217_5 (Nat.le_of_ble_eq_true rfl)).trans rfl
theorem f217_112 : zi_fe 217 112 = some (.iadd, 1, 0, 0, 0, 0, 0) := (zl217_5 (Nat.le_of_ble_eq_true rfl)).trans rfl
theorem f217_113 : zi_fe 217 113 = some ((.aload_n 0), 1, 0, 0, 0, 0, 0) := (zl217_5 (Nat.le_of_ble_eq_true rfl)).trans rfl
theorem zl217_6 {pc : Nat} (h : 114 ≤ pc) : zi_fe 217 pc = zu217_6.lookup pc := (zl217_5 (Nat.le_trans (Nat.le_of_ble_eq_true rfl) h)).trans (zi_lkA (a := zi_i217_5) (c := 114) rfl h)
theorem f217_114 : zi_fe 217 114 = some ((.getfield 50), 3, 8, 25, 3, 1090, 0) := (zl217_6 (Nat.le_of_ble_eq_true rfl)).trans rfl
theorem f217_117 : zi_fe 217 117 = some ((.iload_n 2), 1, 0, 0, 0, 0, 0) := (zl217_6 (Nat.le_of_ble_eq_true rfl)).trans rfl
theorem f217_118 : zi_fe 217 118 = some (.iaload, 1, 0, 0, 0, 0, 0) := (zl217_6 (Nat.le_of_ble_eq_true rfl)).trans rfl
theorem f217_119 : zi_fe 217 119 = some ((.iload 4), 2, 0, 0, 0, 0, 0) := (zl217_6 (Nat.le_of_ble_eq_true rfl)).trans rfl
theorem f217_121 : zi_fe 217 121 = some ((.iconst 1), 1, 0, 0, 0, 0, 0) := (zl217_6 (Nat.le_of_ble_eq_true rfl)).trans rfl
theorem f217_122 : zi_fe 217 122 = some ((.if_icmp .ne 7), 3, 0, 0, 0, 0, 0) := (zl217_6 (Nat.le_of_ble_eq_true rfl)).trans rfl
theorem f217_125 : zi_fe 217 125 = some ((.iconst 1), 1, 0, 0, 0, 0, 0) := (zl217_6 (Nat.le_of_ble_eq_true rfl)).trans rfl
theorem f217_126 : zi_fe 217 126 = some ((.goto 4), 3, 0, 0, 0, 0, 0) := (zl217_6 (Nat.le_of_ble_eq_true rfl)).trans rfl
theorem f217_129 : zi_fe 217 129 = some ((.iconst 0), 1, 0, 0, 0, 0, 0) := (zl217_6 (Nat.le_of_ble_eq_true rfl)).trans rfl
theorem f217_130 : zi_fe 217 130 = some ((.invokestatic 94), 3, 143, 1, 8, 1269, 1) := (zl217_6 (Nat.le_of_ble_eq_true rfl)).trans rfl
theorem f217_133 : zi_fe 217 133 = some (.iadd, 1, 0, 0, 0, 0, 0) := (zl217_6 (Nat.le_of_ble_eq_true rfl)).trans rfl
theorem f217_134 : zi_fe 217 134 = some (.iastore, 1, 0, 0, 0, 0, 0) := (zl217_6 (Nat.le_of_ble_eq_true rfl)).trans rfl
theorem zl217_7 {pc : Nat} (h : 135 ≤ pc) : zi_fe 217 pc = zu217_7.lookup pc := (zl217_6 (Nat.le_trans (Nat.le_of_ble_eq_true rfl) h)).trans (zi_lkA (a := zi_i217_6) (c := 135) rfl h)
theorem f217_135 : zi_fe 217 135 = some ((.aload_n 0), 1, 0, 0, 0, 0, 0) := (zl217_7 (Nat.le_of_ble_eq_true rfl)).trans rfl
theorem f217_136 : zi_fe 217 136 = some ((.getfield 53), 3, 8, 26, 3, 1091, 0) := (zl217_7 (Nat.le_of_ble_eq_true rfl)).trans rfl
theorem f217_139 : zi_fe 217 139 = some ((.iload_n 2), 1, 0, 0, 0, 0, 0) := (zl217_7 (Nat.le_of_ble_eq_true rfl)).trans rfl
theorem f217_140 : zi_fe 217 140 = some ((.iconst 1), 1, 0, 0, 0, 0, 0) := (zl217_7 (Nat.le_of_ble_eq_true rfl)).trans rfl
theorem f217_141 : zi_fe 217 141 = some (.iadd, 1, 0, 0, 0, 0, 0) := (zl217_7 (Nat.le_of_ble_eq_true rfl)).trans rfl
theorem f217_142 : zi_fe 217 142 = some ((.aload_n 0), 1, 0, 0, 0, 0, 0) := (zl217_7 (Nat.le_of_ble_eq_true rfl)).trans rfl
theorem f217_143 : zi_fe 217 143 = some ((.getfield 53), 3, 8, 26, 3, 1091, 0) := (zl217_7 (Nat.le_of_ble_eq_true rfl)).trans rfl
theorem f217_146 : zi_fe 217 146 = some ((.iload_n 2), 1, 0, 0, 0, 0, 0) := (zl217_7 (Nat.le_of_ble_eq_true rfl)).trans rfl
theorem f217_147 : zi_fe 217 147 = some (.laload, 1, 0, 0, 0, 0, 0) := (zl217_7 (Nat.le_of_ble_eq_true rfl)).trans rfl
theorem f217_148 : zi_fe 217 148 = some ((.aload_n 0), 1, 0, 0, 0, 0, 0) := (zl217_7 (Nat.le_of_ble_eq_true rfl)).trans rfl
theorem f217_149 : zi_fe 217 149 = some ((.getfield 44), 3, 8, 23, 3, 1088, 0) := (zl217_7 (Nat.le_of_ble_eq_true rfl)).trans rfl
theorem f217_152 : zi_fe 217 152 = some ((.iload_n 2), 1, 0, 0, 0, 0, 0) := (zl217_7 (Nat.le_of_ble_eq_true rfl)).trans rfl
theorem zl217_8 {pc : Nat} (h : 153 ≤ pc) : zi_fe 217 pc = zu217_8.lookup pc := (zl217_7 (Nat.le_trans (Nat.le_of_ble_eq_true rfl) h)).trans (zi_lkA (a := zi_i217_7) (c := 153) rfl h)
theorem f217_153 : zi_fe 217 153 = some (.iaload, 1, 0, 0, 0, 0, 0) := (zl217_8 (Nat.le_of_ble_eq_true rfl)).trans rfl
theorem f217_154 : zi_fe 217 154 = some ((.invokestatic 346), 3, 214, 1, 8, 1487, 1) := (zl217_8 (Nat.le_of_ble_eq_true rfl)).trans rfl
theorem f217_157 : zi_fe 217 157 = some (.i2l, 1, 0, 0, 0, 0, 0) := (zl217_8 (Nat.le_of_ble_eq_true rfl)).trans rfl
theorem f217_158 : zi_fe 217 158 = some (.ldiv, 1, 0, 0, 0, 0, 0) := (zl217_8 (Nat.le_of_ble_eq_true rfl)).trans rfl
theorem f217_159 : zi_fe 217 159 = some (.lastore, 1, 0, 0, 0, 0, 0) := (zl217_8 (Nat.le_of_ble_eq_true rfl)).trans rfl
theorem f217_160 : zi_fe 217 160 = some ((.iload_n 2), 1, 0, 0, 0, 0, 0) := (zl217_8 (Nat.le_of_ble_eq_true rfl)).trans rfl
theorem f217_161 : zi_fe 217 161 = some ((.aload_n 0), 1, 0, 0, 0, 0, 0) := (zl217_8 (Nat.le_of_ble_eq_true rfl)).trans rfl
theorem f217_162 : zi_fe 217 162 = some ((.iload_n 2), 1, 0, 0, 0, 0, 0) := (zl217_8 (Nat.le_of_ble_eq_true rfl)).trans rfl
theorem f217_163 : zi_fe 217 163 = some ((.iconst 1), 1, 0, 0, 0, 0, 0) := (zl217_8 (Nat.le_of_ble_eq_true rfl)).trans rfl
theorem f217_164 : zi_fe 217 164 = some (.iadd, 1, 0, 0, 0, 0, 0) := (zl217_8 (Nat.le_of_ble_eq_true rfl)).trans rfl
theorem f217_165 : zi_fe 217 165 = some ((.iload_n 1), 1, 0, 0, 0, 0, 0) := (zl217_8 (Nat.le_of_ble_eq_true rfl)).trans rfl
theorem f217_166 : zi_fe 217 166 = some ((.invokevirtual 340), 3, 215, 0, 8, 1471, 3) := (zl217_8 (Nat.le_of_ble_eq_true rfl)).trans rfl
theorem zl217_9 {pc : Nat} (h : 169 ≤ pc) : zi_fe 217 pc = zu217_9.lookup pc := (zl217_8 (Nat.le_trans (Nat.le_of_ble_eq_true rfl) h)).trans (zi_lkA (a := zi_i217_8) (c := 169) rfl h)
theorem f217_169 : zi_fe 217 169 = some ((.ifCond .eq 7), 3, 0, 0, 0, 0, 0) := (zl217_9 (Nat.le_of_ble_eq_true rfl)).trans rfl
theorem f217_172 : zi_fe 217 172 = some ((.iconst 0), 1, 0, 0, 0, 0, 0) := (zl217_9 (Nat.le_of_ble_eq_true rfl)).trans rfl
theorem f217_173 : zi_fe 217 173 = some ((.goto 4), 3, 0, 0, 0, 0, 0) := (zl217_9 (Nat.le_of_ble_eq_true rfl)).trans rfl
theorem f217_176 : zi_fe 217 176 = some ((.iconst 1), 1, 0, 0, 0, 0, 0) := (zl217_9 (Nat.le_of_ble_eq_true rfl)).trans rfl
theorem f217_177 : zi_fe 217 177 = some (.iadd, 1, 0, 0, 0, 0, 0) := (zl217_9 (Nat.le_of_ble_eq_true rfl)).trans rfl
theorem f217_178 : zi_fe 217 178 = some ((.istore_n 2), 1, 0, 0, 0, 0, 0) := (zl217_9 (Nat.le_of_ble_eq_true rfl)).trans rfl
theorem f217_179 : zi_fe 217 179 = some ((.goto (-159)), 3, 0, 0, 0, 0, 0) := (zl217_9 (Nat.le_of_ble_eq_true rfl)).trans rfl
theorem f217_182 : zi_fe 217 182 = some ((.aload_n 0), 1, 0, 0, 0, 0, 0) := (zl217_9 (Nat.le_of_ble_eq_true rfl)).trans rfl
theorem f217_183 : zi_fe 217 183 = some ((.iconst 0), 1, 0, 0, 0, 0, 0) := (zl217_9 (Nat.le_of_ble_eq_true rfl)).trans rfl
theorem f217_184 : zi_fe 217 184 = some ((.invokevirtual 343), 3, 212, 0, 8, 1483, 2) := (zl217_9 (Nat.le_of_ble_eq_true rfl)).trans rfl
theorem f217_187 : zi_fe 217 187 = some (.return_, 1, 0, 0, 0, 0, 0) := (zl217_9 (Nat.le_of_ble_eq_true rfl)).trans rfl
theorem b217_0 {h : zi_Hp} {a0 : Nat} {x1 : Int32} {u2 : Value} {u3 : Value} {u4 : Value} (g0 : a0 < zh_n h) (g1 : (zh_k h a0).1 = 8) : zv 7 217 0 [.ref a0, .int x1, u2, u3, u4] [] h = (zv 1 216 0 [.ref a0, .int x1, .double 0] [] h).bind fun r => zv 7 217 5 [.ref a0, .int x1, u2, u3, u4] (r.1.toList ++ []) r.2 := by
  refine Eq.trans (zv_next f217_0 rfl) ?_
  refine Eq.trans (zv_next f217_1 rfl) ?_
  exact zs_callV f217_2 (Nat.le_of_ble_eq_true rfl) (Nat.le_of_ble_eq_true rfl) rfl g0 g1 me_216 (by decide) rfl
theorem b217_5 {h : zi_Hp} {a0 : Nat} {x1 : Int32} {u2 : Value} {u3 : Value} {u4 : Value} (g0 : a0 < zh_n h) (g1 : (zh_k h a0).1 = 8) : zv 7 217 5 [.ref a0, .int x1, u2, u3, u4] [] h = (zv 6 215 0 [.ref a0, .int 0, .int x1] [] h).bind fun r => zv 7 217 11 [.ref a0, .int x1, u2, u3, u4] (r.1.toList ++ []) r.2 := by
  refine Eq.trans (zv_next f217_5 rfl) ?_
  refine Eq.trans (zs_ic f217_6 ic_0) ?_
  refine Eq.trans (zv_next f217_7 rfl) ?_
  exact zs_callV f217_8 (Nat.le_of_ble_eq_true rfl) (Nat.le_of_ble_eq_true rfl) rfl g0 g1 me_215 (by decide) rfl
theorem b217_11 {h : zi_Hp} {a0 : Nat} {x1 : Int32} {u2 : Value} {u3 : Value} {u4 : Value} {s0 : Int32}  : zv 7 217 11 [.ref a0, .int x1, u2, u3, u4] [.int s0] h = if s0 = 0 then zv 7 217 18 [.ref a0, .int x1, u2, u3, u4] [] h else zv 7 217 14 [.ref a0, .int x1, u2, u3, u4] [] h := by
  exact zs_if f217_11 rfl
theorem b217_14 {h : zi_Hp} {a0 : Nat} {x1 : Int32} {u2 : Value} {u3 : Value} {u4 : Value}  : zv 7 217 14 [.ref a0, .int x1, u2, u3, u4] [] h = zv 7 217 19 [.ref a0, .int x1, u2, u3, u4] [.int (-1)] h := by
  refine Eq.trans (zs_ic f217_14 ic_m1) ?_
  refine Eq.trans (zs_goto (tgt := 19) f217_15 rfl) ?_
  rfl
theorem b217_18 {h : zi_Hp} {a0 : Nat} {x1 : Int32} {u2 : Value} {u3 : Value} {u4 : Value}  : zv 7 217 18 [.ref a0, .int x1, u2, u3, u4] [] h = zv 7 217 19 [.ref a0, .int x1, u2, u3, u4] [.int 0] h := by
  refine Eq.trans (zs_ic f217_18 ic_0) ?_
  rfl
theorem b217_19 {h : zi_Hp} {a0 : Nat} {x1 : Int32} {u2 : Value} {u3 : Value} {u4 : Value} {s0 : Int32}  : zv 7 217 19 [.ref a0, .int x1, u2, u3, u4] [.int s0] h = zv 7 217 20 [.ref a0, .int x1, .int s0, u3, u4] [] h := by
  refine Eq.trans (zv_next f217_19 rfl) ?_
  rfl
theorem b217_20 {h : zi_Hp} {a0 : Nat} {x1 : Int32} {x2 : Int32} {u3 : Value} {u4 : Value}  : zv 7 217 20 [.ref a0, .int x1, .int x2, u3, u4] [] h = if x2 < 0 then zv 7 217 182 [.ref a0, .int x1, .int x2, u3, u4] [] h else zv 7 217 24 [.ref a0, .int x1, .int x2, u3, u4] [] h := by
  refine Eq.trans (zv_next f217_20 rfl) ?_
  exact zs_if f217_21 rfl
theorem b217_24 {h : zi_Hp} {a0 : Nat} {x1 : Int32} {x2 : Int32} {u3 : Value} {u4 : Value} (g0 : a0 < zh_n h) (g1 : (zh_k h a0).1 = 8) (g2 : zh_r h a0 22 = .ref (zq (zh_r h a0 22))) (g3 : (zq (zh_r h a0 22)) < zh_n h) (g4 : ¬ (x2 < 0 ∨ (zh_k h (zq (zh_r h a0 22))).2 ≤ x2.toNatClampNeg)) (g5 : (zh_k h (zq (zh_r h a0 22))).1 = 100) : zv 7 217 24 [.ref a0, .int x1, .int x2, u3, u4] [] h = zv 7 217 31 [.ref a0, .int x1, .int x2, .int (zh_i h (zq (zh_r h a0 22)) x2.toNatClampNeg), u4] [] h := by
  refine Eq.trans (zv_next f217_24 rfl) ?_
  refine Eq.trans (zs_getr f217_25 g0 g1 g2) ?_
  refine Eq.trans (zv_next f217_28 rfl) ?_
  refine Eq.trans (zs_iald f217_29 g3 g5 g4) ?_
  refine Eq.trans (zv_next f217_30 rfl) ?_
  rfl
theorem b217_31 {h : zi_Hp} {a0 : Nat} {x1 : Int32} {x2 : Int32} {x3 : Int32} {u4 : Value}  : zv 7 217 31 [.ref a0, .int x1, .int x2, .int x3, u4] [] h = if x3 < 3 then zv 7 217 36 [.ref a0, .int x1, .int x2, .int x3, u4] [] h else zv 7 217 55 [.ref a0, .int x1, .int x2, .int x3, u4] [] h := by
  refine Eq.trans (zv_next f217_31 rfl) ?_
  refine Eq.trans (zs_ic f217_32 ic_3) ?_
  exact zs_icmp f217_33 rfl
theorem b217_36 {h : zi_Hp} {a0 : Nat} {x1 : Int32} {x2 : Int32} {x3 : Int32} {u4 : Value} (g0 : a0 < zh_n h) (g1 : (zh_k h a0).1 = 8) (g2 : zh_r h a0 23 = .ref (zq (zh_r h a0 23))) (g3 : (zq (zh_r h a0 23)) < zh_n h) (g4 : ¬ (x2 < 0 ∨ (zh_k h (zq (zh_r h a0 23))).2 ≤ x2.toNatClampNeg)) (g5 : (zh_k h (zq (zh_r h a0 23))).1 = 100) : zv 7 217 36 [.ref a0, .int x1, .int x2, .int x3, u4] [] h = if (((zh_i h (zq (zh_r h a0 23)) x2.toNatClampNeg) >>> (x3 &&& 31)) &&& 1) = 0 then zv 7 217 49 [.ref a0, .int x1, .int x2, .int x3, u4] [] h else zv 7 217 55 [.ref a0, .int x1, .int x2, .int x3, u4] [] h := by
  refine Eq.trans (zv_next f217_36 rfl) ?_
  refine Eq.trans (zs_getr f217_37 g0 g1 g2) ?_
  refine Eq.trans (zv_next f217_40 rfl) ?_
  refine Eq.trans (zs_iald f217_41 g3 g5 g4) ?_
  refine Eq.trans (zv_next f217_42 rfl) ?_
  refine Eq.trans (zv_next f217_43 rfl) ?_
  refine Eq.trans (zs_ic f217_44 ic_1) ?_
  refine Eq.trans (zv_next f217_45 rfl) ?_
  exact zs_if f217_46 rfl
theorem b217_49 {h : zi_Hp} {a0 : Nat} {x1 : Int32} {x2 : Int32} {x3 : Int32} {u4 : Value}  : zv 7 217 49 [.ref a0, .int x1, .int x2, .int x3, u4] [] h = zv 7 217 31 [.ref a0, .int x1, .int x2, .int (x3 + 1), u4] [] h := by
  refine Eq.trans (zs_inc f217_49 rfl ic_1 rfl) ?_
  refine Eq.trans (zs_goto (tgt := 31) f217_52 rfl) ?_
  rfl
theorem b217_55 {h : zi_Hp} {a0 : Nat} {x1 : Int32} {x2 : Int32} {x3 : Int32} {u4 : Value} (g0 : a0 < zh_n h) (g1 : (zh_k h a0).1 = 8) (g2 : zh_r h a0 22 = .ref (zq (zh_r h a0 22))) (g3 : (zq (zh_r h a0 22)) < zh_n h) (g4 : ¬ (x2 < 0 ∨ (zh_k h (zq (zh_r h a0 22))).2 ≤ x2.toNatClampNeg)) (g5 : (zh_k h (zq (zh_r h a0 22))).1 = 100) : zv 7 217 55 [.ref a0, .int x1, .int x2, .int x3, u4] [] h = if x3 < 3 then zv 7 217 75 [.ref a0, .int x1, .int x2, .int x3, u4] [] (zh_wi h (zq (zh_r h a0 22)) x2.toNatClampNeg (x3 + 1)) else zv 7 217 69 [.ref a0, .int x1, .int x2, .int x3, u4] [] (zh_wi h (zq (zh_r h a0 22)) x2.toNatClampNeg (x3 + 1)) := by
  refine Eq.trans (zv_next f217_55 rfl) ?_
  refine Eq.trans (zs_getr f217_56 g0 g1 g2) ?_
  refine Eq.trans (zv_next f217_59 rfl) ?_
  refine Eq.trans (zv_next f217_60 rfl) ?_
  refine Eq.trans (zs_ic f217_61 ic_1) ?_
  refine Eq.trans (zv_next f217_62 rfl) ?_
  refine Eq.trans (zs_iast f217_63 g3 g5 g4) ?_
  refine Eq.trans (zv_next f217_64 rfl) ?_
  refine Eq.trans (zs_ic f217_65 ic_3) ?_
  exact zs_icmp f217_66 rfl
theorem b217_69 {h : zi_Hp} {a0 : Nat} {x1 : Int32} {x2 : Int32} {x3 : Int32} {u4 : Value}  : zv 7 217 69 [.ref a0, .int x1, .int x2, .int x3, u4] [] h = zv 7 217 179 [.ref a0, .int x1, .int (x2 + (-1)), .int x3, u4] [] h := by
  refine Eq.trans (zs_inc f217_69 rfl ic_m1 rfl) ?_
  refine Eq.trans (zs_goto (tgt := 179) f217_72 rfl) ?_
  rfl
theorem b217_75 {h : zi_Hp} {a0 : Nat} {x1 : Int32} {x2 : Int32} {x3 : Int32} {u4 : Value} (g0 : a0 < zh_n h) (g1 : (zh_k h a0).1 = 8) : zv 7 217 75 [.ref a0, .int x1, .int x2, .int x3, u4] [] h = (zv 1 212 0 [.ref a0, .int x2, .double 0] [] h).bind fun r => zv 7 217 80 [.ref a0, .int x1, .int x2, .int x3, u4] (r.1.toList ++ []) r.2 := by
  refine Eq.trans (zv_next f217_75 rfl) ?_
  refine Eq.trans (zv_next f217_76 rfl) ?_
  exact zs_callV f217_77 (Nat.le_of_ble_eq_true rfl) (Nat.le_of_ble_eq_true rfl) rfl g0 g1 me_212 (by decide) rfl
theorem b217_80 {h : zi_Hp} {a0 : Nat} {x1 : Int32} {x2 : Int32} {x3 : Int32} {u4 : Value} (g0 : a0 < zh_n h) (g1 : (zh_k h a0).1 = 8) : zv 7 217 80 [.ref a0, .int x1, .int x2, .int x3, u4] [] h = (zv 6 174 0 [.ref a0, .int x3, .double 0, .double 0] [] h).bind fun r => zv 7 217 85 [.ref a0, .int x1, .int x2, .int x3, u4] (r.1.toList ++ []) r.2 := by
  refine Eq.trans (zv_next f217_80 rfl) ?_
  refine Eq.trans (zv_next f217_81 rfl) ?_
  exact zs_callV f217_82 (Nat.le_of_ble_eq_true rfl) (Nat.le_of_ble_eq_true rfl) rfl g0 g1 me_174 (by decide) rfl
theorem b217_85 {h : zi_Hp} {a0 : Nat} {x1 : Int32} {x2 : Int32} {x3 : Int32} {u4 : Value} {s0 : Int32} (g0 : a0 < zh_n h) (g1 : (zh_k h a0).1 = 8) (g2 : zh_r h a0 24 = .ref (zq (zh_r h a0 24))) (g3 : (zq (zh_r h a0 24)) < zh_n h) (g4 : ¬ (x2 < 0 ∨ (zh_k h (zq (zh_r h a0 24))).2 ≤ x2.toNatClampNeg)) (g5 : (zh_k h (zq (zh_r h a0 24))).1 = 100) (g6 : ¬ ((x2 + 1) < 0 ∨ (zh_k h (zq (zh_r h a0 24))).2 ≤ (x2 + 1).toNatClampNeg)) (g7 : zh_r h a0 25 = .ref (zq (zh_r h a0 25))) : zv 7 217 85 [.ref a0, .int x1, .int x2, .int x3, u4] [.int s0] h = zv 7 217 118 [.ref a0, .int x1, .int x2, .int x3, .int s0] [.int x2, .ref (zq (zh_r h a0 25)), .int (x2 + 1), .ref (zq (zh_r h a0 25))] (zh_wi h (zq (zh_r h a0 24)) (x2 + 1).toNatClampNeg ((10 * (zh_i h (zq (zh_r h a0 24)) x2.toNatClampNeg)) + x3)) := by
  refine Eq.trans (zv_next f217_85 rfl) ?_
  refine Eq.trans (zv_next f217_87 rfl) ?_
  refine Eq.trans (zs_getr f217_88 g0 g1 g2) ?_
  refine Eq.trans (zv_next f217_91 rfl) ?_
  refine Eq.trans (zs_ic f217_92 ic_1) ?_
  refine Eq.trans (zv_next f217_93 rfl) ?_
  refine Eq.trans (zs_bp f217_94 bp_10) ?_
  refine Eq.trans (zv_next f217_96 rfl) ?_
  refine Eq.trans (zs_getr f217_97 g0 g1 g2) ?_
  refine Eq.trans (zv_next f217_100 rfl) ?_
  refine Eq.trans (zs_iald f217_101 g3 g5 g4) ?_
  refine Eq.trans (zv_next f217_102 rfl) ?_
  refine Eq.trans (zv_next f217_103 rfl) ?_
  refine Eq.trans (zv_next f217_104 rfl) ?_
  refine Eq.trans (zs_iast f217_105 g3 g5 g6) ?_
  refine Eq.trans (zv_next f217_106 rfl) ?_
  refine Eq.trans (zs_getr f217_107 g0 g1 g7) ?_
  refine Eq.trans (zv_next f217_110 rfl) ?_
  refine Eq.trans (zs_ic f217_111 ic_1) ?_
  refine Eq.trans (zv_next f217_112 rfl) ?_
  refine Eq.trans (zv_next f217_113 rfl) ?_
  refine Eq.trans (zs_getr f217_114 g0 g1 g7) ?_
  refine Eq.trans (zv_next f217_117 rfl) ?_
  rfl
theorem b217_118 {h : zi_Hp} {a0 : Nat} {x1 : Int32} {x2 : Int32} {x3 : Int32} {x4 : Int32} {t0 : Nat} {s1 : Int32} {t2 : Nat} {s3 : Int32} (g0 : t2 < zh_n h) (g1 : ¬ (s3 < 0 ∨ (zh_k h t2).2 ≤ s3.toNatClampNeg)) (g2 : (zh_k h t2).1 = 100) : zv 7 217 118 [.ref a0, .int x1, .int x2, .int x3, .int x4] [.int s3, .ref t2, .int s1, .ref t0] h = if x4 = 1 then zv 7 217 125 [.ref a0, .int x1, .int x2, .int x3, .int x4] [.int (zh_i h t2 s3.toNatClampNeg), .int s1, .ref t0] h else zv 7 217 129 [.ref a0, .int x1, .int x2, .int x3, .int x4] [.int (zh_i h t2 s3.toNatClampNeg), .int s1, .ref t0] h := by
  refine Eq.trans (zs_iald f217_118 g0 g2 g1) ?_
  refine Eq.trans (zv_next f217_119 rfl) ?_
  refine Eq.trans (zs_ic f217_121 ic_1) ?_
  exact zs_icmp f217_122 rfl
theorem b217_125 {h : zi_Hp} {a0 : Nat} {x1 : Int32} {x2 : Int32} {x3 : Int32} {x4 : Int32} {t0 : Nat} {s1 : Int32} {s2 : Int32}  : zv 7 217 125 [.ref a0, .int x1, .int x2, .int x3, .int x4] [.int s2, .int s1, .ref t0] h = zv 7 217 130 [.ref a0, .int x1, .int x2, .int x3, .int x4] [.int 1, .int s2, .int s1, .ref t0] h := by
  refine Eq.trans (zs_ic f217_125 ic_1) ?_
  refine Eq.trans (zs_goto (tgt := 130) f217_126 rfl) ?_
  rfl
theorem b217_129 {h : zi_Hp} {a0 : Nat} {x1 : Int32} {x2 : Int32} {x3 : Int32} {x4 : Int32} {t0 : Nat} {s1 : Int32} {s2 : Int32}  : zv 7 217 129 [.ref a0, .int x1, .int x2, .int x3, .int x4] [.int s2, .int s1, .ref t0] h = zv 7 217 130 [.ref a0, .int x1, .int x2, .int x3, .int x4] [.int 0, .int s2, .int s1, .ref t0] h := by
  refine Eq.trans (zs_ic f217_129 ic_0) ?_
  rfl
theorem b217_130 {h : zi_Hp} {a0 : Nat} {x1 : Int32} {x2 : Int32} {x3 : Int32} {x4 : Int32} {t0 : Nat} {s1 : Int32} {s2 : Int32} {s3 : Int32}  : zv 7 217 130 [.ref a0, .int x1, .int x2, .int x3, .int x4] [.int s3, .int s2, .int s1, .ref t0] h = (zv 1 143 0 [.int s3] [] h).bind fun r => zv 7 217 133 [.ref a0, .int x1, .int x2, .int x3, .int x4] (r.1.toList ++ [.int s2, .int s1, .ref t0]) r.2 := by
  exact zs_callS f217_130 (by decide) (Nat.le_of_ble_eq_true rfl) (Nat.le_of_ble_eq_true rfl) rfl me_143 (by decide) rfl
theorem b217_133 {h : zi_Hp} {a0 : Nat} {x1 : Int32} {x2 : Int32} {x3 : Int32} {x4 : Int32} {t0 : Nat} {s1 : Int32} {s2 : Int32} {s3 : Int32} (g0 : t0 < zh_n h) (g1 : ¬ (s1 < 0 ∨ (zh_k h t0).2 ≤ s1.toNatClampNeg)) (g2 : (zh_k h t0).1 = 100) (g3 : a0 < zh_n h) (g4 : (zh_k h a0).1 = 8) (g5 : zh_r h a0 26 = .ref (zq (zh_r h a0 26))) : zv 7 217 133 [.ref a0, .int x1, .int x2, .int x3, .int x4] [.int s3, .int s2, .int s1, .ref t0] h = zv 7 217 147 [.ref a0, .int x1, .int x2, .int x3, .int x4] [.int x2, .ref (zq (zh_r h a0 26)), .int (x2 + 1), .ref (zq (zh_r h a0 26))] (zh_wi h t0 s1.toNatClampNeg (s2 + s3)) := by
  refine Eq.trans (zv_next f217_133 rfl) ?_
  refine Eq.trans (zs_iast f217_134 g0 g2 g1) ?_
  refine Eq.trans (zv_next f217_135 rfl) ?_
  refine Eq.trans (zs_getr f217_136 g3 g4 g5) ?_
  refine Eq.trans (zv_next f217_139 rfl) ?_
  refine Eq.trans (zs_ic f217_140 ic_1) ?_
  refine Eq.trans (zv_next f217_141 rfl) ?_
  refine Eq.trans (zv_next f217_142 rfl) ?_
  refine Eq.trans (zs_getr f217_143 g3 g4 g5) ?_
  refine Eq.trans (zv_next f217_146 rfl) ?_
  rfl
theorem b217_147 {h : zi_Hp} {a0 : Nat} {x1 : Int32} {x2 : Int32} {x3 : Int32} {x4 : Int32} {t0 : Nat} {s1 : Int32} {t2 : Nat} {s3 : Int32} (g0 : t2 < zh_n h) (g1 : ¬ (s3 < 0 ∨ (zh_k h t2).2 ≤ s3.toNatClampNeg)) (g2 : (zh_k h t2).1 = 102) (g3 : a0 < zh_n h) (g4 : (zh_k h a0).1 = 8) (g5 : zh_r h a0 23 = .ref (zq (zh_r h a0 23))) (g6 : (zq (zh_r h a0 23)) < zh_n h) (g7 : ¬ (x2 < 0 ∨ (zh_k h (zq (zh_r h a0 23))).2 ≤ x2.toNatClampNeg)) (g8 : (zh_k h (zq (zh_r h a0 23))).1 = 100) : zv 7 217 147 [.ref a0, .int x1, .int x2, .int x3, .int x4] [.int s3, .ref t2, .int s1, .ref t0] h = (zv 1 214 0 [.int (zh_i h (zq (zh_r h a0 23)) x2.toNatClampNeg)] [] h).bind fun r => zv 7 217 157 [.ref a0, .int x1, .int x2, .int x3, .int x4] (r.1.toList ++ [.long (zh_l h t2 s3.toNatClampNeg), .int s1, .ref t0]) r.2 := by
  refine Eq.trans (zs_lald f217_147 g0 g2 g1) ?_
  refine Eq.trans (zv_next f217_148 rfl) ?_
  refine Eq.trans (zs_getr f217_149 g3 g4 g5) ?_
  refine Eq.trans (zv_next f217_152 rfl) ?_
  refine Eq.trans (zs_iald f217_153 g6 g8 g7) ?_
  exact zs_callS f217_154 (by decide) (Nat.le_of_ble_eq_true rfl) (Nat.le_of_ble_eq_true rfl) rfl me_214 (by decide) rfl
theorem b217_157 {h : zi_Hp} {a0 : Nat} {x1 : Int32} {x2 : Int32} {x3 : Int32} {x4 : Int32} {t0 : Nat} {s1 : Int32} {w2 : Int64} {s3 : Int32} (g0 : ¬ (((s3).toInt64) : Int64) = 0) (g1 : t0 < zh_n h) (g2 : ¬ (s1 < 0 ∨ (zh_k h t0).2 ≤ s1.toNatClampNeg)) (g3 : (zh_k h t0).1 = 102) (g4 : a0 < zh_n h) (g5 : (zh_k h a0).1 = 8) : zv 7 217 157 [.ref a0, .int x1, .int x2, .int x3, .int x4] [.int s3, .long w2, .int s1, .ref t0] h = (zv 6 215 0 [.ref a0, .int (x2 + 1), .int x1] [] (zh_wl h t0 s1.toNatClampNeg (w2 / ((s3).toInt64)))).bind fun r => zv 7 217 169 [.ref a0, .int x1, .int x2, .int x3, .int x4] (r.1.toList ++ [.int x2]) r.2 := by
  refine Eq.trans (zv_next f217_157 rfl) ?_
  refine Eq.trans (zs_ldiv f217_158 g0) ?_
  refine Eq.trans (zs_last f217_159 g1 g3 g2) ?_
  refine Eq.trans (zv_next f217_160 rfl) ?_
  refine Eq.trans (zv_next f217_161 rfl) ?_
  refine Eq.trans (zv_next f217_162 rfl) ?_
  refine Eq.trans (zs_ic f217_163 ic_1) ?_
  refine Eq.trans (zv_next f217_164 rfl) ?_
  refine Eq.trans (zv_next f217_165 rfl) ?_
  exact zs_callV f217_166 (Nat.le_of_ble_eq_true rfl) (Nat.le_of_ble_eq_true rfl) rfl g4 g5 me_215 (by decide) rfl
theorem b217_169 {h : zi_Hp} {a0 : Nat} {x1 : Int32} {x2 : Int32} {x3 : Int32} {x4 : Int32} {s0 : Int32} {s1 : Int32}  : zv 7 217 169 [.ref a0, .int x1, .int x2, .int x3, .int x4] [.int s1, .int s0] h = if s1 = 0 then zv 7 217 176 [.ref a0, .int x1, .int x2, .int x3, .int x4] [.int s0] h else zv 7 217 172 [.ref a0, .int x1, .int x2, .int x3, .int x4] [.int s0] h := by
  exact zs_if f217_169 rfl
theorem b217_172 {h : zi_Hp} {a0 : Nat} {x1 : Int32} {x2 : Int32} {x3 : Int32} {x4 : Int32} {s0 : Int32}  : zv 7 217 172 [.ref a0, .int x1, .int x2, .int x3, .int x4] [.int s0] h = zv 7 217 177 [.ref a0, .int x1, .int x2, .int x3, .int x4] [.int 0, .int s0] h := by
  refine Eq.trans (zs_ic f217_172 ic_0) ?_
  refine Eq.trans (zs_goto (tgt := 177) f217_173 rfl) ?_
  rfl
theorem b217_176 {h : zi_Hp} {a0 : Nat} {x1 : Int32} {x2 : Int32} {x3 : Int32} {x4 : Int32} {s0 : Int32}  : zv 7 217 176 [.ref a0, .int x1, .int x2, .int x3, .int x4] [.int s0] h = zv 7 217 177 [.ref a0, .int x1, .int x2, .int x3, .int x4] [.int 1, .int s0] h := by
  refine Eq.trans (zs_ic f217_176 ic_1) ?_
  rfl
theorem b217_177 {h : zi_Hp} {a0 : Nat} {x1 : Int32} {x2 : Int32} {x3 : Int32} {x4 : Int32} {s0 : Int32} {s1 : Int32}  : zv 7 217 177 [.ref a0, .int x1, .int x2, .int x3, .int x4] [.int s1, .int s0] h = zv 7 217 179 [.ref a0, .int x1, .int (s0 + s1), .int x3, .int x4] [] h := by
  refine Eq.trans (zv_next f217_177 rfl) ?_
  refine Eq.trans (zv_next f217_178 rfl) ?_
  rfl
theorem b217_179 {h : zi_Hp} {a0 : Nat} {x1 : Int32} {x2 : Int32} {x3 : Int32} {u4 : Value}  : zv 7 217 179 [.ref a0, .int x1, .int x2, .int x3, u4] [] h = zv 7 217 20 [.ref a0, .int x1, .int x2, .int x3, u4] [] h := by
  refine Eq.trans (zs_goto (tgt := 20) f217_179 rfl) ?_
  rfl
theorem b217_182 {h : zi_Hp} {a0 : Nat} {x1 : Int32} {x2 : Int32} {u3 : Value} {u4 : Value} (g0 : a0 < zh_n h) (g1 : (zh_k h a0).1 = 8) : zv 7 217 182 [.ref a0, .int x1, .int x2, u3, u4] [] h = (zv 1 212 0 [.ref a0, .int 0, .double 0] [] h).bind fun r => zv 7 217 187 [.ref a0, .int x1, .int x2, u3, u4] (r.1.toList ++ []) r.2 := by
  refine Eq.trans (zv_next f217_182 rfl) ?_
  refine Eq.trans (zs_ic f217_183 ic_0) ?_
  exact zs_callV f217_184 (Nat.le_of_ble_eq_true rfl) (Nat.le_of_ble_eq_true rfl) rfl g0 g1 me_212 (by decide) rfl
theorem b217_187 {h : zi_Hp} {a0 : Nat} {x1 : Int32} {x2 : Int32} {u3 : Value} {u4 : Value}  : zv 7 217 187 [.ref a0, .int x1, .int x2, u3, u4] [] h = some (none, h) := by
  exact zv_ret f217_187 rfl
set_option maxRecDepth 20000 in
theorem zq218 : zi_M[218]? = some zi_m218 := rfl
theorem zl218_0 {pc : Nat} (_ : 0 ≤ pc) : zi_fe 218 pc = zu218_0.lookup pc := zi_feA zq218 pc
theorem f218_0 : zi_fe 218 0 = some ((.iload_n 1), 1, 0, 0, 0, 0, 0) := (zl218_0 (Nat.le_of_ble_eq_true rfl)).trans rfl
theorem f218_1 : zi_fe 218 1 = some (.i2l, 1, 0, 0, 0, 0, 0) := (zl218_0 (Nat.le_of_ble_eq_true rfl)).trans rfl
theorem f218_2 : zi_fe 218 2 = some ((.lconst 0), 1, 0, 0, 0, 0, 0) := (zl218_0 (Nat.le_of_ble_eq_true rfl)).trans rfl
theorem f218_3 : zi_fe 218 3 = some ((.ldc2_w 303), 3, 0, 0, 0, 1426, 7) := (zl218_0 (Nat.le_of_ble_eq_true rfl)).trans rfl
theorem f218_6 : zi_fe 218 6 = some ((.invokestatic 196), 3, 142, 1, 8, 1189, 3) := (zl218_0 (Nat.le_of_ble_eq_true rfl)).trans rfl
theorem f218_9 : zi_fe 218 9 = some ((.ifCond .eq 15), 3, 0, 0, 0, 0, 0) := (zl218_0 (Nat.le_of_ble_eq_true rfl)).trans rfl
theorem f218_12 : zi_fe 218 12 = some ((.iload_n 2), 1, 0, 0, 0, 0, 0) := (zl218_0 (Nat.le_of_ble_eq_true rfl)).trans rfl
theorem f218_13 : zi_fe 218 13 = some (.i2l, 1, 0, 0, 0, 0, 0) := (zl218_0 (Nat.le_of_ble_eq_true rfl)).trans rfl
theorem f218_14 : zi_fe 218 14 = some ((.lconst 0), 1, 0, 0, 0, 0, 0) := (zl218_0 (Nat.le_of_ble_eq_true rfl)).trans rfl
theorem f218_15 : zi_fe 218 15 = some ((.ldc2_w 312), 3, 0, 0, 0, 1457, 4) := (zl218_0 (Nat.le_of_ble_eq_true rfl)).trans rfl
theorem f218_18 : zi_fe 218 18 = some ((.invokestatic 196), 3, 142, 1, 8, 1189, 3) := (zl218_0 (Nat.le_of_ble_eq_true rfl)).trans rfl
theorem f218_21 : zi_fe 218 21 = some ((.ifCond .ne 5), 3, 0, 0, 0, 0, 0) := (zl218_0 (Nat.le_of_ble_eq_true rfl)).trans rfl
theorem zl218_1 {pc : Nat} (h : 24 ≤ pc) : zi_fe 218 pc = zu218_1.lookup pc := (zl218_0 (Nat.le_trans (Nat.le_of_ble_eq_true rfl) h)).trans (zi_lkA (a := zi_i218_0) (c := 24) rfl h)
theorem f218_24 : zi_fe 218 24 = some ((.iconst (-1)), 1, 0, 0, 0, 0, 0) := (zl218_1 (Nat.le_of_ble_eq_true rfl)).trans rfl
theorem f218_25 : zi_fe 218 25 = some (.ireturn, 1, 0, 0, 0, 0, 0) := (zl218_1 (Nat.le_of_ble_eq_true rfl)).trans rfl
theorem f218_26 : zi_fe 218 26 = some ((.aload_n 0), 1, 0, 0, 0, 0, 0) := (zl218_1 (Nat.le_of_ble_eq_true rfl)).trans rfl
theorem f218_27 : zi_fe 218 27 = some ((.iload_n 1), 1, 0, 0, 0, 0, 0) := (zl218_1 (Nat.le_of_ble_eq_true rfl)).trans rfl
theorem f218_28 : zi_fe 218 28 = some ((.invokevirtual 349), 3, 217, 0, 8, 1462, 2) := (zl218_1 (Nat.le_of_ble_eq_true rfl)).trans rfl
theorem f218_31 : zi_fe 218 31 = some ((.iload_n 2), 1, 0, 0, 0, 0, 0) := (zl218_1 (Nat.le_of_ble_eq_true rfl)).trans rfl
theorem f218_32 : zi_fe 218 32 = some ((.tableswitch 52 0 3 #[32, 37, 42, 47]), 32, 0, 0, 0, 0, 0) := (zl218_1 (Nat.le_of_ble_eq_true rfl)).trans rfl
theorem f218_64 : zi_fe 218 64 = some ((.aload_n 0), 1, 0, 0, 0, 0, 0) := (zl218_1 (Nat.le_of_ble_eq_true rfl)).trans rfl
theorem f218_65 : zi_fe 218 65 = some ((.getfield 314), 3, 8, 27, 0, 1092, 0) := (zl218_1 (Nat.le_of_ble_eq_true rfl)).trans rfl
theorem f218_68 : zi_fe 218 68 = some (.ireturn, 1, 0, 0, 0, 0, 0) := (zl218_1 (Nat.le_of_ble_eq_true rfl)).trans rfl
theorem f218_69 : zi_fe 218 69 = some ((.aload_n 0), 1, 0, 0, 0, 0, 0) := (zl218_1 (Nat.le_of_ble_eq_true rfl)).trans rfl
theorem f218_70 : zi_fe 218 70 = some ((.getfield 323), 3, 8, 28, 0, 1093, 0) := (zl218_1 (Nat.le_of_ble_eq_true rfl)).trans rfl
theorem zl218_2 {pc : Nat} (h : 73 ≤ pc) : zi_fe 218 pc = zu218_2.lookup pc := (zl218_1 (Nat.le_trans (Nat.le_of_ble_eq_true rfl) h)).trans (zi_lkA (a := zi_i218_1) (c := 73) rfl h)
theorem f218_73 : zi_fe 218 73 = some (.ireturn, 1, 0, 0, 0, 0, 0) := (zl218_2 (Nat.le_of_ble_eq_true rfl)).trans rfl
theorem f218_74 : zi_fe 218 74 = some ((.aload_n 0), 1, 0, 0, 0, 0, 0) := (zl218_2 (Nat.le_of_ble_eq_true rfl)).trans rfl
theorem f218_75 : zi_fe 218 75 = some ((.getfield 317), 3, 8, 29, 0, 1094, 0) := (zl218_2 (Nat.le_of_ble_eq_true rfl)).trans rfl
theorem f218_78 : zi_fe 218 78 = some (.ireturn, 1, 0, 0, 0, 0, 0) := (zl218_2 (Nat.le_of_ble_eq_true rfl)).trans rfl
theorem f218_79 : zi_fe 218 79 = some ((.aload_n 0), 1, 0, 0, 0, 0, 0) := (zl218_2 (Nat.le_of_ble_eq_true rfl)).trans rfl
theorem f218_80 : zi_fe 218 80 = some ((.getfield 320), 3, 8, 30, 0, 1095, 0) := (zl218_2 (Nat.le_of_ble_eq_true rfl)).trans rfl
theorem f218_83 : zi_fe 218 83 = some (.ireturn, 1, 0, 0, 0, 0, 0) := (zl218_2 (Nat.le_of_ble_eq_true rfl)).trans rfl
theorem f218_84 : zi_fe 218 84 = some ((.aload_n 0), 1, 0, 0, 0, 0, 0) := (zl218_2 (Nat.le_of_ble_eq_true rfl)).trans rfl
theorem f218_85 : zi_fe 218 85 = some ((.getfield 326), 3, 8, 31, 0, 1096, 0) := (zl218_2 (Nat.le_of_ble_eq_true rfl)).trans rfl
theorem f218_88 : zi_fe 218 88 = some (.ireturn, 1, 0, 0, 0, 0, 0) := (zl218_2 (Nat.le_of_ble_eq_true rfl)).trans rfl
theorem b218_0 {h : zi_Hp} {a0 : Nat} {x1 : Int32} {x2 : Int32}  : zv 8 218 0 [.ref a0, .int x1, .int x2] [] h = (zv 1 142 0 [.long ((x1).toInt64), .double 1, .long 0, .double 1, .long 7, .double 1] [] h).bind fun r => zv 8 218 9 [.ref a0, .int x1, .int x2] (r.1.toList ++ []) r.2 := by
  refine Eq.trans (zv_next f218_0 rfl) ?_
  refine Eq.trans (zv_next f218_1 rfl) ?_
  refine Eq.trans (zs_lc f218_2 lc_0) ?_
  refine Eq.trans (zs_l2 f218_3 l2_7) ?_
  exact zs_callS f218_6 (by decide) (Nat.le_of_ble_eq_true rfl) (Nat.le_of_ble_eq_true rfl) rfl me_142 (by decide) rfl
theorem b218_9 {h : zi_Hp} {a0 : Nat} {x1 : Int32} {x2 : Int32} {s0 : Int32}  : zv 8 218 9 [.ref a0, .int x1, .int x2] [.int s0] h = if s0 = 0 then zv 8 218 24 [.ref a0, .int x1, .int x2] [] h else zv 8 218 12 [.ref a0, .int x1, .int x2] [] h := by
  exact zs_if f218_9 rfl
theorem b218_12 {h : zi_Hp} {a0 : Nat} {x1 : Int32} {x2 : Int32}  : zv 8 218 12 [.ref a0, .int x1, .int x2] [] h = (zv 1 142 0 [.long ((x2).toInt64), .double 1, .long 0, .double 1, .long 4, .double 1] [] h).bind fun r => zv 8 218 21 [.ref a0, .int x1, .int x2] (r.1.toList ++ []) r.2 := by
  refine Eq.trans (zv_next f218_12 rfl) ?_
  refine Eq.trans (zv_next f218_13 rfl) ?_
  refine Eq.trans (zs_lc f218_14 lc_0) ?_
  refine Eq.trans (zs_l2 f218_15 l2_4) ?_
  exact zs_callS f218_18 (by decide) (Nat.le_of_ble_eq_true rfl) (Nat.le_of_ble_eq_true rfl) rfl me_142 (by decide) rfl
theorem b218_21 {h : zi_Hp} {a0 : Nat} {x1 : Int32} {x2 : Int32} {s0 : Int32}  : zv 8 218 21 [.ref a0, .int x1, .int x2] [.int s0] h = if s0 = 0 then zv 8 218 24 [.ref a0, .int x1, .int x2] [] h else zv 8 218 26 [.ref a0, .int x1, .int x2] [] h := by
  exact zs_if f218_21 rfl
theorem b218_24 {h : zi_Hp} {a0 : Nat} {x1 : Int32} {x2 : Int32}  : zv 8 218 24 [.ref a0, .int x1, .int x2] [] h = some (some (.int (-1)), h) := by
  refine Eq.trans (zs_ic f218_24 ic_m1) ?_
  exact zs_ret0 f218_25
theorem b218_26 {h : zi_Hp} {a0 : Nat} {x1 : Int32} {x2 : Int32} (g0 : a0 < zh_n h) (g1 : (zh_k h a0).1 = 8) : zv 8 218 26 [.ref a0, .int x1, .int x2] [] h = (zv 7 217 0 [.ref a0, .int x1, .double 0, .double 0, .double 0] [] h).bind fun r => zv 8 218 31 [.ref a0, .int x1, .int x2] (r.1.toList ++ []) r.2 := by
  refine Eq.trans (zv_next f218_26 rfl) ?_
  refine Eq.trans (zv_next f218_27 rfl) ?_
  exact zs_callV f218_28 (Nat.le_of_ble_eq_true rfl) (Nat.le_of_ble_eq_true rfl) rfl g0 g1 me_217 (by decide) rfl
theorem b218_31_c0 {h : zi_Hp} {a0 : Nat} {x1 : Int32} {x2 : Int32}  (hx : x2 = 0) : zv 8 218 31 [.ref a0, .int x1, .int x2] [] h = zv 8 218 64 [.ref a0, .int x1, .int x2] [] h := by
  refine Eq.trans (zv_next f218_31 rfl) ?_
  exact zs_sw (off := 32) (v := 0) f218_32 (by decide) (by decide) rfl hx
theorem b218_31_c1 {h : zi_Hp} {a0 : Nat} {x1 : Int32} {x2 : Int32}  (hx : x2 = 1) : zv 8 218 31 [.ref a0, .int x1, .int x2] [] h = zv 8 218 69 [.ref a0, .int x1, .int x2] [] h := by
  refine Eq.trans (zv_next f218_31 rfl) ?_
  exact zs_sw (off := 37) (v := 1) f218_32 (by decide) (by decide) rfl hx
theorem b218_31_c2 {h : zi_Hp} {a0 : Nat} {x1 : Int32} {x2 : Int32}  (hx : x2 = 2) : zv 8 218 31 [.ref a0, .int x1, .int x2] [] h = zv 8 218 74 [.ref a0, .int x1, .int x2] [] h := by
  refine Eq.trans (zv_next f218_31 rfl) ?_
  exact zs_sw (off := 42) (v := 2) f218_32 (by decide) (by decide) rfl hx
theorem b218_31_c3 {h : zi_Hp} {a0 : Nat} {x1 : Int32} {x2 : Int32}  (hx : x2 = 3) : zv 8 218 31 [.ref a0, .int x1, .int x2] [] h = zv 8 218 79 [.ref a0, .int x1, .int x2] [] h := by
  refine Eq.trans (zv_next f218_31 rfl) ?_
  exact zs_sw (off := 47) (v := 3) f218_32 (by decide) (by decide) rfl hx
theorem b218_31_d {h : zi_Hp} {a0 : Nat} {x1 : Int32} {x2 : Int32}  (hx : (x2).toInt < 0 ∨ 3 < (x2).toInt) : zv 8 218 31 [.ref a0, .int x1, .int x2] [] h = zv 8 218 84 [.ref a0, .int x1, .int x2] [] h := by
  refine Eq.trans (zv_next f218_31 rfl) ?_
  exact zs_swO f218_32 rfl hx
theorem b218_64 {h : zi_Hp} {a0 : Nat} {x1 : Int32} {x2 : Int32} (g0 : a0 < zh_n h) (g1 : (zh_k h a0).1 = 8) : zv 8 218 64 [.ref a0, .int x1, .int x2] [] h = some (some (.int (zh_i h a0 27)), h) := by
  refine Eq.trans (zv_next f218_64 rfl) ?_
  refine Eq.trans (zs_geti f218_65 g0 g1) ?_
  exact zs_ret0 f218_68
theorem b218_69 {h : zi_Hp} {a0 : Nat} {x1 : Int32} {x2 : Int32} (g0 : a0 < zh_n h) (g1 : (zh_k h a0).1 = 8) : zv 8 218 69 [.ref a0, .int x1, .int x2] [] h = some (some (.int (zh_i h a0 28)), h) := by
  refine Eq.trans (zv_next f218_69 rfl) ?_
  refine Eq.trans (zs_geti f218_70 g0 g1) ?_
  exact zs_ret0 f218_73
theorem b218_74 {h : zi_Hp} {a0 : Nat} {x1 : Int32} {x2 : Int32} (g0 : a0 < zh_n h) (g1 : (zh_k h a0).1 = 8) : zv 8 218 74 [.ref a0, .int x1, .int x2] [] h = some (some (.int (zh_i h a0 29)), h) := by
  refine Eq.trans (zv_next f218_74 rfl) ?_
  refine Eq.trans (zs_geti f218_75 g0 g1) ?_
  exact zs_ret0 f218_78
theorem b218_79 {h : zi_Hp} {a0 : Nat} {x1 : Int32} {x2 : Int32} (g0 : a0 < zh_n h) (g1 : (zh_k h a0).1 = 8) : zv 8 218 79 [.ref a0, .int x1, .int x2] [] h = some (some (.int (zh_i h a0 30)), h) := by
  refine Eq.trans (zv_next f218_79 rfl) ?_
  refine Eq.trans (zs_geti f218_80 g0 g1) ?_
  exact zs_ret0 f218_83
theorem b218_84 {h : zi_Hp} {a0 : Nat} {x1 : Int32} {x2 : Int32} (g0 : a0 < zh_n h) (g1 : (zh_k h a0).1 = 8) : zv 8 218 84 [.ref a0, .int x1, .int x2] [] h = some (some (.int (zh_i h a0 31)), h) := by
  refine Eq.trans (zv_next f218_84 rfl) ?_
  refine Eq.trans (zs_geti f218_85 g0 g1) ?_
  exact zs_ret0 f218_88
set_option maxRecDepth 20000 in
theorem zq219 : zi_M[219]? = some zi_m219 := rfl
theorem zl219_0 {pc : Nat} (_ : 0 ≤ pc) : zi_fe 219 pc = zu219_0.lookup pc := zi_feA zq219 pc
theorem f219_0 : zi_fe 219 0 = some ((.iload_n 0), 1, 0, 0, 0, 0, 0) := (zl219_0 (Nat.le_of_ble_eq_true rfl)).trans rfl
theorem f219_1 : zi_fe 219 1 = some ((.invokestatic 300), 3, 195, 1, 8, 1423, 1) := (zl219_0 (Nat.le_of_ble_eq_true rfl)).trans rfl
theorem f219_4 : zi_fe 219 4 = some ((.ifCond .eq 29), 3, 0, 0, 0, 0, 0) := (zl219_0 (Nat.le_of_ble_eq_true rfl)).trans rfl
theorem f219_7 : zi_fe 219 7 = some ((.iload_n 1), 1, 0, 0, 0, 0, 0) := (zl219_0 (Nat.le_of_ble_eq_true rfl)).trans rfl
theorem f219_8 : zi_fe 219 8 = some (.i2l, 1, 0, 0, 0, 0, 0) := (zl219_0 (Nat.le_of_ble_eq_true rfl)).trans rfl
theorem f219_9 : zi_fe 219 9 = some ((.lconst 0), 1, 0, 0, 0, 0, 0) := (zl219_0 (Nat.le_of_ble_eq_true rfl)).trans rfl
theorem f219_10 : zi_fe 219 10 = some ((.ldc2_w 303), 3, 0, 0, 0, 1426, 7) := (zl219_0 (Nat.le_of_ble_eq_true rfl)).trans rfl
theorem f219_13 : zi_fe 219 13 = some ((.invokestatic 196), 3, 142, 1, 8, 1189, 3) := (zl219_0 (Nat.le_of_ble_eq_true rfl)).trans rfl
theorem f219_16 : zi_fe 219 16 = some ((.ifCond .eq 17), 3, 0, 0, 0, 0, 0) := (zl219_0 (Nat.le_of_ble_eq_true rfl)).trans rfl
theorem f219_19 : zi_fe 219 19 = some ((.iload_n 2), 1, 0, 0, 0, 0, 0) := (zl219_0 (Nat.le_of_ble_eq_true rfl)).trans rfl
theorem f219_20 : zi_fe 219 20 = some (.i2l, 1, 0, 0, 0, 0, 0) := (zl219_0 (Nat.le_of_ble_eq_true rfl)).trans rfl
theorem f219_21 : zi_fe 219 21 = some ((.lconst 0), 1, 0, 0, 0, 0, 0) := (zl219_0 (Nat.le_of_ble_eq_true rfl)).trans rfl
theorem zl219_1 {pc : Nat} (h : 22 ≤ pc) : zi_fe 219 pc = zu219_1.lookup pc := (zl219_0 (Nat.le_trans (Nat.le_of_ble_eq_true rfl) h)).trans (zi_lkA (a := zi_i219_0) (c := 22) rfl h)
theorem f219_22 : zi_fe 219 22 = some ((.lconst 1), 1, 0, 0, 0, 0, 0) := (zl219_1 (Nat.le_of_ble_eq_true rfl)).trans rfl
theorem f219_23 : zi_fe 219 23 = some ((.invokestatic 196), 3, 142, 1, 8, 1189, 3) := (zl219_1 (Nat.le_of_ble_eq_true rfl)).trans rfl
theorem f219_26 : zi_fe 219 26 = some ((.ifCond .eq 7), 3, 0, 0, 0, 0, 0) := (zl219_1 (Nat.le_of_ble_eq_true rfl)).trans rfl
theorem f219_29 : zi_fe 219 29 = some ((.iconst 1), 1, 0, 0, 0, 0, 0) := (zl219_1 (Nat.le_of_ble_eq_true rfl)).trans rfl
theorem f219_30 : zi_fe 219 30 = some ((.goto 4), 3, 0, 0, 0, 0, 0) := (zl219_1 (Nat.le_of_ble_eq_true rfl)).trans rfl
theorem f219_33 : zi_fe 219 33 = some ((.iconst 0), 1, 0, 0, 0, 0, 0) := (zl219_1 (Nat.le_of_ble_eq_true rfl)).trans rfl
theorem f219_34 : zi_fe 219 34 = some (.ireturn, 1, 1, 0, 0, 0, 0) := (zl219_1 (Nat.le_of_ble_eq_true rfl)).trans rfl
theorem b219_0 {h : zi_Hp} {x0 : Int32} {x1 : Int32} {x2 : Int32}  : zv 3 219 0 [.int x0, .int x1, .int x2] [] h = (zv 2 195 0 [.int x0] [] h).bind fun r => zv 3 219 4 [.int x0, .int x1, .int x2] (r.1.toList ++ []) r.2 := by
  refine Eq.trans (zv_next f219_0 rfl) ?_
  exact zs_callS f219_1 (by decide) (Nat.le_of_ble_eq_true rfl) (Nat.le_of_ble_eq_true rfl) rfl me_195 (by decide) rfl
theorem b219_4 {h : zi_Hp} {x0 : Int32} {x1 : Int32} {x2 : Int32} {s0 : Int32}  : zv 3 219 4 [.int x0, .int x1, .int x2] [.int s0] h = if s0 = 0 then zv 3 219 33 [.int x0, .int x1, .int x2] [] h else zv 3 219 7 [.int x0, .int x1, .int x2] [] h := by
  exact zs_if f219_4 rfl
theorem b219_7 {h : zi_Hp} {x0 : Int32} {x1 : Int32} {x2 : Int32}  : zv 3 219 7 [.int x0, .int x1, .int x2] [] h = (zv 1 142 0 [.long ((x1).toInt64), .double 1, .long 0, .double 1, .long 7, .double 1] [] h).bind fun r => zv 3 219 16 [.int x0, .int x1, .int x2] (r.1.toList ++ []) r.2 := by
  refine Eq.trans (zv_next f219_7 rfl) ?_
  refine Eq.trans (zv_next f219_8 rfl) ?_
  refine Eq.trans (zs_lc f219_9 lc_0) ?_
  refine Eq.trans (zs_l2 f219_10 l2_7) ?_
  exact zs_callS f219_13 (by decide) (Nat.le_of_ble_eq_true rfl) (Nat.le_of_ble_eq_true rfl) rfl me_142 (by decide) rfl
theorem b219_16 {h : zi_Hp} {x0 : Int32} {x1 : Int32} {x2 : Int32} {s0 : Int32}  : zv 3 219 16 [.int x0, .int x1, .int x2] [.int s0] h = if s0 = 0 then zv 3 219 33 [.int x0, .int x1, .int x2] [] h else zv 3 219 19 [.int x0, .int x1, .int x2] [] h := by
  exact zs_if f219_16 rfl
theorem b219_19 {h : zi_Hp} {x0 : Int32} {x1 : Int32} {x2 : Int32}  : zv 3 219 19 [.int x0, .int x1, .int x2] [] h = (zv 1 142 0 [.long ((x2).toInt64), .double 1, .long 0, .double 1, .long 1, .double 1] [] h).bind fun r => zv 3 219 26 [.int x0, .int x1, .int x2] (r.1.toList ++ []) r.2 := by
  refine Eq.trans (zv_next f219_19 rfl) ?_
  refine Eq.trans (zv_next f219_20 rfl) ?_
  refine Eq.trans (zs_lc f219_21 lc_0) ?_
  refine Eq.trans (zs_lc f219_22 lc_1) ?_
  exact zs_callS f219_23 (by decide) (Nat.le_of_ble_eq_true rfl) (Nat.le_of_ble_eq_true rfl) rfl me_142 (by decide) rfl
theorem b219_26 {h : zi_Hp} {x0 : Int32} {x1 : Int32} {x2 : Int32} {s0 : Int32}  : zv 3 219 26 [.int x0, .int x1, .int x2] [.int s0] h = if s0 = 0 then zv 3 219 33 [.int x0, .int x1, .int x2] [] h else zv 3 219 29 [.int x0, .int x1, .int x2] [] h := by
  exact zs_if f219_26 rfl
theorem b219_29 {h : zi_Hp} {x0 : Int32} {x1 : Int32} {x2 : Int32}  : zv 3 219 29 [.int x0, .int x1, .int x2] [] h = zv 3 219 34 [.int x0, .int x1, .int x2] [.int 1] h := by
  refine Eq.trans (zs_ic f219_29 ic_1) ?_
  refine Eq.trans (zs_goto (tgt := 34) f219_30 rfl) ?_
  rfl
theorem b219_33 {h : zi_Hp} {x0 : Int32} {x1 : Int32} {x2 : Int32}  : zv 3 219 33 [.int x0, .int x1, .int x2] [] h = zv 3 219 34 [.int x0, .int x1, .int x2] [.int 0] h := by
  refine Eq.trans (zs_ic f219_33 ic_0) ?_
  rfl
theorem b219_34 {h : zi_Hp} {x0 : Int32} {x1 : Int32} {x2 : Int32} {s0 : Int32} (g0 : s0 = 0 ∨ s0 = 1) : zv 3 219 34 [.int x0, .int x1, .int x2] [.int s0] h = some (some (.int s0), h) := by
  exact zs_ret1 f219_34 g0
set_option maxRecDepth 20000 in
theorem zq220 : zi_M[220]? = some zi_m220 := rfl
theorem zl220_0 {pc : Nat} (_ : 0 ≤ pc) : zi_fe 220 pc = zu220_0.lookup pc := zi_feA zq220 pc
theorem f220_0 : zi_fe 220 0 = some ((.iload_n 1), 1, 0, 0, 0, 0, 0) := (zl220_0 (Nat.le_of_ble_eq_true rfl)).trans rfl
theorem f220_1 : zi_fe 220 1 = some ((.iload_n 2), 1, 0, 0, 0, 0, 0) := (zl220_0 (Nat.le_of_ble_eq_true rfl)).trans rfl
theorem f220_2 : zi_fe 220 2 = some ((.iload_n 3), 1, 0, 0, 0, 0, 0) := (zl220_0 (Nat.le_of_ble_eq_true rfl)).trans rfl
theorem f220_3 : zi_fe 220 3 = some ((.invokestatic 352), 3, 219, 1, 8, 1494, 3) := (zl220_0 (Nat.le_of_ble_eq_true rfl)).trans rfl
theorem f220_6 : zi_fe 220 6 = some ((.ifCond .ne 5), 3, 0, 0, 0, 0, 0) := (zl220_0 (Nat.le_of_ble_eq_true rfl)).trans rfl
theorem f220_9 : zi_fe 220 9 = some ((.iconst (-1)), 1, 0, 0, 0, 0, 0) := (zl220_0 (Nat.le_of_ble_eq_true rfl)).trans rfl
theorem f220_10 : zi_fe 220 10 = some (.ireturn, 1, 0, 0, 0, 0, 0) := (zl220_0 (Nat.le_of_ble_eq_true rfl)).trans rfl
theorem f220_11 : zi_fe 220 11 = some ((.aload_n 0), 1, 0, 0, 0, 0, 0) := (zl220_0 (Nat.le_of_ble_eq_true rfl)).trans rfl
theorem f220_12 : zi_fe 220 12 = some ((.iload_n 2), 1, 0, 0, 0, 0, 0) := (zl220_0 (Nat.le_of_ble_eq_true rfl)).trans rfl
theorem f220_13 : zi_fe 220 13 = some ((.invokevirtual 349), 3, 217, 0, 8, 1462, 2) := (zl220_0 (Nat.le_of_ble_eq_true rfl)).trans rfl
theorem f220_16 : zi_fe 220 16 = some ((.aload_n 0), 1, 0, 0, 0, 0, 0) := (zl220_0 (Nat.le_of_ble_eq_true rfl)).trans rfl
theorem f220_17 : zi_fe 220 17 = some ((.getfield 57), 3, 8, 32, 3, 1097, 0) := (zl220_0 (Nat.le_of_ble_eq_true rfl)).trans rfl
theorem zl220_1 {pc : Nat} (h : 20 ≤ pc) : zi_fe 220 pc = zu220_1.lookup pc := (zl220_0 (Nat.le_trans (Nat.le_of_ble_eq_true rfl) h)).trans (zi_lkA (a := zi_i220_0) (c := 20) rfl h)
theorem f220_20 : zi_fe 220 20 = some ((.iconst 2), 1, 0, 0, 0, 0, 0) := (zl220_1 (Nat.le_of_ble_eq_true rfl)).trans rfl
theorem f220_21 : zi_fe 220 21 = some ((.iload_n 1), 1, 0, 0, 0, 0, 0) := (zl220_1 (Nat.le_of_ble_eq_true rfl)).trans rfl
theorem f220_22 : zi_fe 220 22 = some (.imul, 1, 0, 0, 0, 0, 0) := (zl220_1 (Nat.le_of_ble_eq_true rfl)).trans rfl
theorem f220_23 : zi_fe 220 23 = some ((.iload_n 3), 1, 0, 0, 0, 0, 0) := (zl220_1 (Nat.le_of_ble_eq_true rfl)).trans rfl
theorem f220_24 : zi_fe 220 24 = some (.iadd, 1, 0, 0, 0, 0, 0) := (zl220_1 (Nat.le_of_ble_eq_true rfl)).trans rfl
theorem f220_25 : zi_fe 220 25 = some (.iaload, 1, 0, 0, 0, 0, 0) := (zl220_1 (Nat.le_of_ble_eq_true rfl)).trans rfl
theorem f220_26 : zi_fe 220 26 = some (.ireturn, 1, 0, 0, 0, 0, 0) := (zl220_1 (Nat.le_of_ble_eq_true rfl)).trans rfl
theorem b220_0 {h : zi_Hp} {a0 : Nat} {x1 : Int32} {x2 : Int32} {x3 : Int32}  : zv 8 220 0 [.ref a0, .int x1, .int x2, .int x3] [] h = (zv 3 219 0 [.int x1, .int x2, .int x3] [] h).bind fun r => zv 8 220 6 [.ref a0, .int x1, .int x2, .int x3] (r.1.toList ++ []) r.2 := by
  refine Eq.trans (zv_next f220_0 rfl) ?_
  refine Eq.trans (zv_next f220_1 rfl) ?_
  refine Eq.trans (zv_next f220_2 rfl) ?_
  exact zs_callS f220_3 (by decide) (Nat.le_of_ble_eq_true rfl) (Nat.le_of_ble_eq_true rfl) rfl me_219 (by decide) rfl
theorem b220_6 {h : zi_Hp} {a0 : Nat} {x1 : Int32} {x2 : Int32} {x3 : Int32} {s0 : Int32}  : zv 8 220 6 [.ref a0, .int x1, .int x2, .int x3] [.int s0] h = if s0 = 0 then zv 8 220 9 [.ref a0, .int x1, .int x2, .int x3] [] h else zv 8 220 11 [.ref a0, .int x1, .int x2, .int x3] [] h := by
  exact zs_if f220_6 rfl
theorem b220_9 {h : zi_Hp} {a0 : Nat} {x1 : Int32} {x2 : Int32} {x3 : Int32}  : zv 8 220 9 [.ref a0, .int x1, .int x2, .int x3] [] h = some (some (.int (-1)), h) := by
  refine Eq.trans (zs_ic f220_9 ic_m1) ?_
  exact zs_ret0 f220_10
theorem b220_11 {h : zi_Hp} {a0 : Nat} {x1 : Int32} {x2 : Int32} {x3 : Int32} (g0 : a0 < zh_n h) (g1 : (zh_k h a0).1 = 8) : zv 8 220 11 [.ref a0, .int x1, .int x2, .int x3] [] h = (zv 7 217 0 [.ref a0, .int x2, .double 0, .double 0, .double 0] [] h).bind fun r => zv 8 220 16 [.ref a0, .int x1, .int x2, .int x3] (r.1.toList ++ []) r.2 := by
  refine Eq.trans (zv_next f220_11 rfl) ?_
  refine Eq.trans (zv_next f220_12 rfl) ?_
  exact zs_callV f220_13 (Nat.le_of_ble_eq_true rfl) (Nat.le_of_ble_eq_true rfl) rfl g0 g1 me_217 (by decide) rfl
theorem b220_16 {h : zi_Hp} {a0 : Nat} {x1 : Int32} {x2 : Int32} {x3 : Int32} (g0 : a0 < zh_n h) (g1 : (zh_k h a0).1 = 8) (g2 : zh_r h a0 32 = .ref (zq (zh_r h a0 32))) (g3 : (zq (zh_r h a0 32)) < zh_n h) (g4 : ¬ (((2 * x1) + x3) < 0 ∨ (zh_k h (zq (zh_r h a0 32))).2 ≤ ((2 * x1) + x3).toNatClampNeg)) (g5 : (zh_k h (zq (zh_r h a0 32))).1 = 100) : zv 8 220 16 [.ref a0, .int x1, .int x2, .int x3] [] h = some (some (.int (zh_i h (zq (zh_r h a0 32)) ((2 * x1) + x3).toNatClampNeg)), h) := by
  refine Eq.trans (zv_next f220_16 rfl) ?_
  refine Eq.trans (zs_getr f220_17 g0 g1 g2) ?_
  refine Eq.trans (zs_ic f220_20 ic_2) ?_
  refine Eq.trans (zv_next f220_21 rfl) ?_
  refine Eq.trans (zv_next f220_22 rfl) ?_
  refine Eq.trans (zv_next f220_23 rfl) ?_
  refine Eq.trans (zv_next f220_24 rfl) ?_
  refine Eq.trans (zs_iald f220_25 g3 g5 g4) ?_
  exact zs_ret0 f220_26
set_option maxRecDepth 20000 in
theorem zq221 : zi_M[221]? = some zi_m221 := rfl
theorem zl221_0 {pc : Nat} (_ : 0 ≤ pc) : zi_fe 221 pc = zu221_0.lookup pc := zi_feA zq221 pc
theorem f221_0 : zi_fe 221 0 = some ((.iload_n 1), 1, 0, 0, 0, 0, 0) := (zl221_0 (Nat.le_of_ble_eq_true rfl)).trans rfl
theorem f221_1 : zi_fe 221 1 = some ((.iload_n 2), 1, 0, 0, 0, 0, 0) := (zl221_0 (Nat.le_of_ble_eq_true rfl)).trans rfl
theorem f221_2 : zi_fe 221 2 = some ((.iload_n 3), 1, 0, 0, 0, 0, 0) := (zl221_0 (Nat.le_of_ble_eq_true rfl)).trans rfl
theorem f221_3 : zi_fe 221 3 = some ((.invokestatic 352), 3, 219, 1, 8, 1494, 3) := (zl221_0 (Nat.le_of_ble_eq_true rfl)).trans rfl
theorem f221_6 : zi_fe 221 6 = some ((.ifCond .ne 5), 3, 0, 0, 0, 0, 0) := (zl221_0 (Nat.le_of_ble_eq_true rfl)).trans rfl
theorem f221_9 : zi_fe 221 9 = some ((.iconst (-1)), 1, 0, 0, 0, 0, 0) := (zl221_0 (Nat.le_of_ble_eq_true rfl)).trans rfl
theorem f221_10 : zi_fe 221 10 = some (.ireturn, 1, 0, 0, 0, 0, 0) := (zl221_0 (Nat.le_of_ble_eq_true rfl)).trans rfl
theorem f221_11 : zi_fe 221 11 = some ((.aload_n 0), 1, 0, 0, 0, 0, 0) := (zl221_0 (Nat.le_of_ble_eq_true rfl)).trans rfl
theorem f221_12 : zi_fe 221 12 = some ((.iload_n 2), 1, 0, 0, 0, 0, 0) := (zl221_0 (Nat.le_of_ble_eq_true rfl)).trans rfl
theorem f221_13 : zi_fe 221 13 = some ((.invokevirtual 349), 3, 217, 0, 8, 1462, 2) := (zl221_0 (Nat.le_of_ble_eq_true rfl)).trans rfl
theorem f221_16 : zi_fe 221 16 = some ((.aload_n 0), 1, 0, 0, 0, 0, 0) := (zl221_0 (Nat.le_of_ble_eq_true rfl)).trans rfl
theorem f221_17 : zi_fe 221 17 = some ((.getfield 60), 3, 8, 33, 3, 1098, 0) := (zl221_0 (Nat.le_of_ble_eq_true rfl)).trans rfl
theorem zl221_1 {pc : Nat} (h : 20 ≤ pc) : zi_fe 221 pc = zu221_1.lookup pc := (zl221_0 (Nat.le_trans (Nat.le_of_ble_eq_true rfl) h)).trans (zi_lkA (a := zi_i221_0) (c := 20) rfl h)
theorem f221_20 : zi_fe 221 20 = some ((.iconst 2), 1, 0, 0, 0, 0, 0) := (zl221_1 (Nat.le_of_ble_eq_true rfl)).trans rfl
theorem f221_21 : zi_fe 221 21 = some ((.iload_n 1), 1, 0, 0, 0, 0, 0) := (zl221_1 (Nat.le_of_ble_eq_true rfl)).trans rfl
theorem f221_22 : zi_fe 221 22 = some (.imul, 1, 0, 0, 0, 0, 0) := (zl221_1 (Nat.le_of_ble_eq_true rfl)).trans rfl
theorem f221_23 : zi_fe 221 23 = some ((.iload_n 3), 1, 0, 0, 0, 0, 0) := (zl221_1 (Nat.le_of_ble_eq_true rfl)).trans rfl
theorem f221_24 : zi_fe 221 24 = some (.iadd, 1, 0, 0, 0, 0, 0) := (zl221_1 (Nat.le_of_ble_eq_true rfl)).trans rfl
theorem f221_25 : zi_fe 221 25 = some (.iaload, 1, 0, 0, 0, 0, 0) := (zl221_1 (Nat.le_of_ble_eq_true rfl)).trans rfl
theorem f221_26 : zi_fe 221 26 = some (.ireturn, 1, 0, 0, 0, 0, 0) := (zl221_1 (Nat.le_of_ble_eq_true rfl)).trans rfl
theorem b221_0 {h : zi_Hp} {a0 : Nat} {x1 : Int32} {x2 : Int32} {x3 : Int32}  : zv 8 221 0 [.ref a0, .int x1, .int x2, .int x3] [] h = (zv 3 219 0 [.int x1, .int x2, .int x3] [] h).bind fun r => zv 8 221 6 [.ref a0, .int x1, .int x2, .int x3] (r.1.toList ++ []) r.2 := by
  refine Eq.trans (zv_next f221_0 rfl) ?_
  refine Eq.trans (zv_next f221_1 rfl) ?_
  refine Eq.trans (zv_next f221_2 rfl) ?_
  exact zs_callS f221_3 (by decide) (Nat.le_of_ble_eq_true rfl) (Nat.le_of_ble_eq_true rfl) rfl me_219 (by decide) rfl
theorem b221_6 {h : zi_Hp} {a0 : Nat} {x1 : Int32} {x2 : Int32} {x3 : Int32} {s0 : Int32}  : zv 8 221 6 [.ref a0, .int x1, .int x2, .int x3] [.int s0] h = if s0 = 0 then zv 8 221 9 [.ref a0, .int x1, .int x2, .int x3] [] h else zv 8 221 11 [.ref a0, .int x1, .int x2, .int x3] [] h := by
  exact zs_if f221_6 rfl
theorem b221_9 {h : zi_Hp} {a0 : Nat} {x1 : Int32} {x2 : Int32} {x3 : Int32}  : zv 8 221 9 [.ref a0, .int x1, .int x2, .int x3] [] h = some (some (.int (-1)), h) := by
  refine Eq.trans (zs_ic f221_9 ic_m1) ?_
  exact zs_ret0 f221_10
theorem b221_11 {h : zi_Hp} {a0 : Nat} {x1 : Int32} {x2 : Int32} {x3 : Int32} (g0 : a0 < zh_n h) (g1 : (zh_k h a0).1 = 8) : zv 8 221 11 [.ref a0, .int x1, .int x2, .int x3] [] h = (zv 7 217 0 [.ref a0, .int x2, .double 0, .double 0, .double 0] [] h).bind fun r => zv 8 221 16 [.ref a0, .int x1, .int x2, .int x3] (r.1.toList ++ []) r.2 := by
  refine Eq.trans (zv_next f221_11 rfl) ?_
  refine Eq.trans (zv_next f221_12 rfl) ?_
  exact zs_callV f221_13 (Nat.le_of_ble_eq_true rfl) (Nat.le_of_ble_eq_true rfl) rfl g0 g1 me_217 (by decide) rfl
theorem b221_16 {h : zi_Hp} {a0 : Nat} {x1 : Int32} {x2 : Int32} {x3 : Int32} (g0 : a0 < zh_n h) (g1 : (zh_k h a0).1 = 8) (g2 : zh_r h a0 33 = .ref (zq (zh_r h a0 33))) (g3 : (zq (zh_r h a0 33)) < zh_n h) (g4 : ¬ (((2 * x1) + x3) < 0 ∨ (zh_k h (zq (zh_r h a0 33))).2 ≤ ((2 * x1) + x3).toNatClampNeg)) (g5 : (zh_k h (zq (zh_r h a0 33))).1 = 100) : zv 8 221 16 [.ref a0, .int x1, .int x2, .int x3] [] h = some (some (.int (zh_i h (zq (zh_r h a0 33)) ((2 * x1) + x3).toNatClampNeg)), h) := by
  refine Eq.trans (zv_next f221_16 rfl) ?_
  refine Eq.trans (zs_getr f221_17 g0 g1 g2) ?_
  refine Eq.trans (zs_ic f221_20 ic_2) ?_
  refine Eq.trans (zv_next f221_21 rfl) ?_
  refine Eq.trans (zv_next f221_22 rfl) ?_
  refine Eq.trans (zv_next f221_23 rfl) ?_
  refine Eq.trans (zv_next f221_24 rfl) ?_
  refine Eq.trans (zs_iald f221_25 g3 g5 g4) ?_
  exact zs_ret0 f221_26
set_option maxRecDepth 20000 in
theorem zq222 : zi_M[222]? = some zi_m222 := rfl
theorem zl222_0 {pc : Nat} (_ : 0 ≤ pc) : zi_fe 222 pc = zu222_0.lookup pc := zi_feA zq222 pc
theorem f222_0 : zi_fe 222 0 = some ((.lload_n 0), 1, 0, 0, 0, 0, 0) := (zl222_0 (Nat.le_of_ble_eq_true rfl)).trans rfl
theorem f222_1 : zi_fe 222 1 = some ((.lstore 4), 2, 0, 0, 0, 0, 0) := (zl222_0 (Nat.le_of_ble_eq_true rfl)).trans rfl
theorem f222_3 : zi_fe 222 3 = some ((.lload_n 2), 1, 0, 0, 0, 0, 0) := (zl222_0 (Nat.le_of_ble_eq_true rfl)).trans rfl
theorem f222_4 : zi_fe 222 4 = some ((.lstore 6), 2, 0, 0, 0, 0, 0) := (zl222_0 (Nat.le_of_ble_eq_true rfl)).trans rfl
theorem f222_6 : zi_fe 222 6 = some ((.lload 6), 2, 0, 0, 0, 0, 0) := (zl222_0 (Nat.le_of_ble_eq_true rfl)).trans rfl
theorem f222_8 : zi_fe 222 8 = some ((.lconst 0), 1, 0, 0, 0, 0, 0) := (zl222_0 (Nat.le_of_ble_eq_true rfl)).trans rfl
theorem f222_9 : zi_fe 222 9 = some (.lcmp, 1, 0, 0, 0, 0, 0) := (zl222_0 (Nat.le_of_ble_eq_true rfl)).trans rfl
theorem f222_10 : zi_fe 222 10 = some ((.ifCond .eq 21), 3, 0, 0, 0, 0, 0) := (zl222_0 (Nat.le_of_ble_eq_true rfl)).trans rfl
theorem f222_13 : zi_fe 222 13 = some ((.lload 4), 2, 0, 0, 0, 0, 0) := (zl222_0 (Nat.le_of_ble_eq_true rfl)).trans rfl
theorem f222_15 : zi_fe 222 15 = some ((.lload 6), 2, 0, 0, 0, 0, 0) := (zl222_0 (Nat.le_of_ble_eq_true rfl)).trans rfl
theorem f222_17 : zi_fe 222 17 = some (.lrem, 1, 0, 0, 0, 0, 0) := (zl222_0 (Nat.le_of_ble_eq_true rfl)).trans rfl
theorem f222_18 : zi_fe 222 18 = some ((.lstore 8), 2, 0, 0, 0, 0, 0) := (zl222_0 (Nat.le_of_ble_eq_true rfl)).trans rfl
theorem zl222_1 {pc : Nat} (h : 20 ≤ pc) : zi_fe 222 pc = zu222_1.lookup pc := (zl222_0 (Nat.le_trans (Nat.le_of_ble_eq_true rfl) h)).trans (zi_lkA (a := zi_i222_0) (c := 20) rfl h)
theorem f222_20 : zi_fe 222 20 = some ((.lload 6), 2, 0, 0, 0, 0, 0) := (zl222_1 (Nat.le_of_ble_eq_true rfl)).trans rfl
theorem f222_22 : zi_fe 222 22 = some ((.lstore 4), 2, 0, 0, 0, 0, 0) := (zl222_1 (Nat.le_of_ble_eq_true rfl)).trans rfl
theorem f222_24 : zi_fe 222 24 = some ((.lload 8), 2, 0, 0, 0, 0, 0) := (zl222_1 (Nat.le_of_ble_eq_true rfl)).trans rfl
theorem f222_26 : zi_fe 222 26 = some ((.lstore 6), 2, 0, 0, 0, 0, 0) := (zl222_1 (Nat.le_of_ble_eq_true rfl)).trans rfl
theorem f222_28 : zi_fe 222 28 = some ((.goto (-22)), 3, 0, 0, 0, 0, 0) := (zl222_1 (Nat.le_of_ble_eq_true rfl)).trans rfl
theorem f222_31 : zi_fe 222 31 = some ((.lload 4), 2, 0, 0, 0, 0, 0) := (zl222_1 (Nat.le_of_ble_eq_true rfl)).trans rfl
theorem f222_33 : zi_fe 222 33 = some (.lreturn, 1, 0, 0, 0, 0, 0) := (zl222_1 (Nat.le_of_ble_eq_true rfl)).trans rfl
theorem b222_0 {h : zi_Hp} {y0 : Int64} {y2 : Int64} {u4 : Value} {u5 : Value} {u6 : Value} {u7 : Value} {u8 : Value} {u9 : Value}  : zv 1 222 0 [.long y0, .double 1, .long y2, .double 1, u4, u5, u6, u7, u8, u9] [] h = zv 1 222 6 [.long y0, .double 1, .long y2, .double 1, .long y0, .double 1, .long y2, .double 1, u8, u9] [] h := by
  refine Eq.trans (zv_next f222_0 rfl) ?_
  refine Eq.trans (zv_next f222_1 rfl) ?_
  refine Eq.trans (zv_next f222_3 rfl) ?_
  refine Eq.trans (zv_next f222_4 rfl) ?_
  rfl
theorem b222_6 {h : zi_Hp} {y0 : Int64} {y2 : Int64} {y4 : Int64} {y6 : Int64} {u8 : Value} {u9 : Value}  : zv 1 222 6 [.long y0, .double 1, .long y2, .double 1, .long y4, .double 1, .long y6, .double 1, u8, u9] [] h = if (lg_cmp y6 0) = 0 then zv 1 222 31 [.long y0, .double 1, .long y2, .double 1, .long y4, .double 1, .long y6, .double 1, u8, u9] [] h else zv 1 222 13 [.long y0, .double 1, .long y2, .double 1, .long y4, .double 1, .long y6, .double 1, u8, u9] [] h := by
  refine Eq.trans (zv_next f222_6 rfl) ?_
  refine Eq.trans (zs_lc f222_8 lc_0) ?_
  refine Eq.trans (zv_next f222_9 rfl) ?_
  exact zs_if f222_10 rfl
theorem b222_13 {h : zi_Hp} {y0 : Int64} {y2 : Int64} {y4 : Int64} {y6 : Int64} {u8 : Value} {u9 : Value} (g0 : ¬ (y6 : Int64) = 0) : zv 1 222 13 [.long y0, .double 1, .long y2, .double 1, .long y4, .double 1, .long y6, .double 1, u8, u9] [] h = zv 1 222 6 [.long y0, .double 1, .long y2, .double 1, .long y6, .double 1, .long (y4 - y4 / y6 * y6), .double 1, .long (y4 - y4 / y6 * y6), .double 1] [] h := by
  refine Eq.trans (zv_next f222_13 rfl) ?_
  refine Eq.trans (zv_next f222_15 rfl) ?_
  refine Eq.trans (zs_lrem f222_17 g0) ?_
  refine Eq.trans (zv_next f222_18 rfl) ?_
  refine Eq.trans (zv_next f222_20 rfl) ?_
  refine Eq.trans (zv_next f222_22 rfl) ?_
  refine Eq.trans (zv_next f222_24 rfl) ?_
  refine Eq.trans (zv_next f222_26 rfl) ?_
  refine Eq.trans (zs_goto (tgt := 6) f222_28 rfl) ?_
  rfl
theorem b222_31 {h : zi_Hp} {y0 : Int64} {y2 : Int64} {y4 : Int64} {y6 : Int64} {u8 : Value} {u9 : Value}  : zv 1 222 31 [.long y0, .double 1, .long y2, .double 1, .long y4, .double 1, .long y6, .double 1, u8, u9] [] h = some (some (.long y4), h) := by
  refine Eq.trans (zv_next f222_31 rfl) ?_
  exact zv_ret f222_33 rfl
set_option maxRecDepth 20000 in
theorem zq223 : zi_M[223]? = some zi_m223 := rfl
theorem zl223_0 {pc : Nat} (_ : 0 ≤ pc) : zi_fe 223 pc = zu223_0.lookup pc := zi_feA zq223 pc
theorem f223_0 : zi_fe 223 0 = some ((.iload_n 1), 1, 0, 0, 0, 0, 0) := (zl223_0 (Nat.le_of_ble_eq_true rfl)).trans rfl
theorem f223_1 : zi_fe 223 1 = some ((.iload_n 2), 1, 0, 0, 0, 0, 0) := (zl223_0 (Nat.le_of_ble_eq_true rfl)).trans rfl
theorem f223_2 : zi_fe 223 2 = some ((.iload_n 3), 1, 0, 0, 0, 0, 0) := (zl223_0 (Nat.le_of_ble_eq_true rfl)).trans rfl
theorem f223_3 : zi_fe 223 3 = some ((.invokestatic 352), 3, 219, 1, 8, 1494, 3) := (zl223_0 (Nat.le_of_ble_eq_true rfl)).trans rfl
theorem f223_6 : zi_fe 223 6 = some ((.ifCond .eq 11), 3, 0, 0, 0, 0, 0) := (zl223_0 (Nat.le_of_ble_eq_true rfl)).trans rfl
theorem f223_9 : zi_fe 223 9 = some ((.iload 4), 2, 0, 0, 0, 0, 0) := (zl223_0 (Nat.le_of_ble_eq_true rfl)).trans rfl
theorem f223_11 : zi_fe 223 11 = some ((.invokestatic 297), 3, 196, 1, 8, 1416, 1) := (zl223_0 (Nat.le_of_ble_eq_true rfl)).trans rfl
theorem f223_14 : zi_fe 223 14 = some ((.ifCond .ne 7), 3, 0, 0, 0, 0, 0) := (zl223_0 (Nat.le_of_ble_eq_true rfl)).trans rfl
theorem f223_17 : zi_fe 223 17 = some ((.ldc2_w 356), 3, 0, 0, 0, 1505, -1) := (zl223_0 (Nat.le_of_ble_eq_true rfl)).trans rfl
theorem f223_20 : zi_fe 223 20 = some (.lreturn, 1, 0, 0, 0, 0, 0) := (zl223_0 (Nat.le_of_ble_eq_true rfl)).trans rfl
theorem f223_21 : zi_fe 223 21 = some ((.aload_n 0), 1, 0, 0, 0, 0, 0) := (zl223_0 (Nat.le_of_ble_eq_true rfl)).trans rfl
theorem f223_22 : zi_fe 223 22 = some ((.iload_n 2), 1, 0, 0, 0, 0, 0) := (zl223_0 (Nat.le_of_ble_eq_true rfl)).trans rfl
theorem zl223_1 {pc : Nat} (h : 23 ≤ pc) : zi_fe 223 pc = zu223_1.lookup pc := (zl223_0 (Nat.le_trans (Nat.le_of_ble_eq_true rfl) h)).trans (zi_lkA (a := zi_i223_0) (c := 23) rfl h)
theorem f223_23 : zi_fe 223 23 = some ((.invokevirtual 349), 3, 217, 0, 8, 1462, 2) := (zl223_1 (Nat.le_of_ble_eq_true rfl)).trans rfl
theorem f223_26 : zi_fe 223 26 = some ((.aload_n 0), 1, 0, 0, 0, 0, 0) := (zl223_1 (Nat.le_of_ble_eq_true rfl)).trans rfl
theorem f223_27 : zi_fe 223 27 = some ((.getfield 53), 3, 8, 26, 3, 1091, 0) := (zl223_1 (Nat.le_of_ble_eq_true rfl)).trans rfl
theorem f223_30 : zi_fe 223 30 = some ((.iconst 0), 1, 0, 0, 0, 0, 0) := (zl223_1 (Nat.le_of_ble_eq_true rfl)).trans rfl
theorem f223_31 : zi_fe 223 31 = some (.laload, 1, 0, 0, 0, 0, 0) := (zl223_1 (Nat.le_of_ble_eq_true rfl)).trans rfl
theorem f223_32 : zi_fe 223 32 = some ((.aload_n 0), 1, 0, 0, 0, 0, 0) := (zl223_1 (Nat.le_of_ble_eq_true rfl)).trans rfl
theorem f223_33 : zi_fe 223 33 = some ((.getfield 63), 3, 8, 34, 3, 1099, 0) := (zl223_1 (Nat.le_of_ble_eq_true rfl)).trans rfl
theorem f223_36 : zi_fe 223 36 = some ((.iconst 2), 1, 0, 0, 0, 0, 0) := (zl223_1 (Nat.le_of_ble_eq_true rfl)).trans rfl
theorem f223_37 : zi_fe 223 37 = some ((.iload_n 1), 1, 0, 0, 0, 0, 0) := (zl223_1 (Nat.le_of_ble_eq_true rfl)).trans rfl
theorem f223_38 : zi_fe 223 38 = some (.imul, 1, 0, 0, 0, 0, 0) := (zl223_1 (Nat.le_of_ble_eq_true rfl)).trans rfl
theorem f223_39 : zi_fe 223 39 = some ((.iload_n 3), 1, 0, 0, 0, 0, 0) := (zl223_1 (Nat.le_of_ble_eq_true rfl)).trans rfl
theorem f223_40 : zi_fe 223 40 = some (.iadd, 1, 0, 0, 0, 0, 0) := (zl223_1 (Nat.le_of_ble_eq_true rfl)).trans rfl
theorem zl223_2 {pc : Nat} (h : 41 ≤ pc) : zi_fe 223 pc = zu223_2.lookup pc := (zl223_1 (Nat.le_trans (Nat.le_of_ble_eq_true rfl) h)).trans (zi_lkA (a := zi_i223_1) (c := 41) rfl h)
theorem f223_41 : zi_fe 223 41 = some (.laload, 1, 0, 0, 0, 0, 0) := (zl223_2 (Nat.le_of_ble_eq_true rfl)).trans rfl
theorem f223_42 : zi_fe 223 42 = some ((.invokestatic 358), 3, 222, 1, 8, 1506, 2) := (zl223_2 (Nat.le_of_ble_eq_true rfl)).trans rfl
theorem f223_45 : zi_fe 223 45 = some ((.lstore 5), 2, 0, 0, 0, 0, 0) := (zl223_2 (Nat.le_of_ble_eq_true rfl)).trans rfl
theorem f223_47 : zi_fe 223 47 = some ((.iload 4), 2, 0, 0, 0, 0, 0) := (zl223_2 (Nat.le_of_ble_eq_true rfl)).trans rfl
theorem f223_49 : zi_fe 223 49 = some ((.ifCond .ne 19), 3, 0, 0, 0, 0, 0) := (zl223_2 (Nat.le_of_ble_eq_true rfl)).trans rfl
theorem f223_52 : zi_fe 223 52 = some ((.aload_n 0), 1, 0, 0, 0, 0, 0) := (zl223_2 (Nat.le_of_ble_eq_true rfl)).trans rfl
theorem f223_53 : zi_fe 223 53 = some ((.getfield 63), 3, 8, 34, 3, 1099, 0) := (zl223_2 (Nat.le_of_ble_eq_true rfl)).trans rfl
theorem f223_56 : zi_fe 223 56 = some ((.iconst 2), 1, 0, 0, 0, 0, 0) := (zl223_2 (Nat.le_of_ble_eq_true rfl)).trans rfl
theorem f223_57 : zi_fe 223 57 = some ((.iload_n 1), 1, 0, 0, 0, 0, 0) := (zl223_2 (Nat.le_of_ble_eq_true rfl)).trans rfl
theorem f223_58 : zi_fe 223 58 = some (.imul, 1, 0, 0, 0, 0, 0) := (zl223_2 (Nat.le_of_ble_eq_true rfl)).trans rfl
theorem f223_59 : zi_fe 223 59 = some ((.iload_n 3), 1, 0, 0, 0, 0, 0) := (zl223_2 (Nat.le_of_ble_eq_true rfl)).trans rfl
theorem f223_60 : zi_fe 223 60 = some (.iadd, 1, 0, 0, 0, 0, 0) := (zl223_2 (Nat.le_of_ble_eq_true rfl)).trans rfl
theorem zl223_3 {pc : Nat} (h : 61 ≤ pc) : zi_fe 223 pc = zu223_3.lookup pc := (zl223_2 (Nat.le_trans (Nat.le_of_ble_eq_true rfl) h)).trans (zi_lkA (a := zi_i223_2) (c := 61) rfl h)
theorem f223_61 : zi_fe 223 61 = some (.laload, 1, 0, 0, 0, 0, 0) := (zl223_3 (Nat.le_of_ble_eq_true rfl)).trans rfl
theorem f223_62 : zi_fe 223 62 = some ((.lload 5), 2, 0, 0, 0, 0, 0) := (zl223_3 (Nat.le_of_ble_eq_true rfl)).trans rfl
theorem f223_64 : zi_fe 223 64 = some (.ldiv, 1, 0, 0, 0, 0, 0) := (zl223_3 (Nat.le_of_ble_eq_true rfl)).trans rfl
theorem f223_65 : zi_fe 223 65 = some ((.goto 12), 3, 0, 0, 0, 0, 0) := (zl223_3 (Nat.le_of_ble_eq_true rfl)).trans rfl
theorem f223_68 : zi_fe 223 68 = some ((.aload_n 0), 1, 0, 0, 0, 0, 0) := (zl223_3 (Nat.le_of_ble_eq_true rfl)).trans rfl
theorem f223_69 : zi_fe 223 69 = some ((.getfield 53), 3, 8, 26, 3, 1091, 0) := (zl223_3 (Nat.le_of_ble_eq_true rfl)).trans rfl
theorem f223_72 : zi_fe 223 72 = some ((.iconst 0), 1, 0, 0, 0, 0, 0) := (zl223_3 (Nat.le_of_ble_eq_true rfl)).trans rfl
theorem f223_73 : zi_fe 223 73 = some (.laload, 1, 0, 0, 0, 0, 0) := (zl223_3 (Nat.le_of_ble_eq_true rfl)).trans rfl
theorem f223_74 : zi_fe 223 74 = some ((.lload 5), 2, 0, 0, 0, 0, 0) := (zl223_3 (Nat.le_of_ble_eq_true rfl)).trans rfl
theorem f223_76 : zi_fe 223 76 = some (.ldiv, 1, 0, 0, 0, 0, 0) := (zl223_3 (Nat.le_of_ble_eq_true rfl)).trans rfl
theorem f223_77 : zi_fe 223 77 = some (.lreturn, 1, 0, 0, 0, 0, 0) := (zl223_3 (Nat.le_of_ble_eq_true rfl)).trans rfl
theorem b223_0 {h : zi_Hp} {a0 : Nat} {x1 : Int32} {x2 : Int32} {x3 : Int32} {x4 : Int32} {u5 : Value} {u6 : Value}  : zv 8 223 0 [.ref a0, .int x1, .int x2, .int x3, .int x4, u5, u6] [] h = (zv 3 219 0 [.int x1, .int x2, .int x3] [] h).bind fun r => zv 8 223 6 [.ref a0, .int x1, .int x2, .int x3, .int x4, u5, u6] (r.1.toList ++ []) r.2 := by
  refine Eq.trans (zv_next f223_0 rfl) ?_
  refine Eq.trans (zv_next f223_1 rfl) ?_
  refine Eq.trans (zv_next f223_2 rfl) ?_
  exact zs_callS f223_3 (by decide) (Nat.le_of_ble_eq_true rfl) (Nat.le_of_ble_eq_true rfl) rfl me_219 (by decide) rfl
theorem b223_6 {h : zi_Hp} {a0 : Nat} {x1 : Int32} {x2 : Int32} {x3 : Int32} {x4 : Int32} {u5 : Value} {u6 : Value} {s0 : Int32}  : zv 8 223 6 [.ref a0, .int x1, .int x2, .int x3, .int x4, u5, u6] [.int s0] h = if s0 = 0 then zv 8 223 17 [.ref a0, .int x1, .int x2, .int x3, .int x4, u5, u6] [] h else zv 8 223 9 [.ref a0, .int x1, .int x2, .int x3, .int x4, u5, u6] [] h := by
  exact zs_if f223_6 rfl
theorem b223_9 {h : zi_Hp} {a0 : Nat} {x1 : Int32} {x2 : Int32} {x3 : Int32} {x4 : Int32} {u5 : Value} {u6 : Value}  : zv 8 223 9 [.ref a0, .int x1, .int x2, .int x3, .int x4, u5, u6] [] h = (zv 2 196 0 [.int x4] [] h).bind fun r => zv 8 223 14 [.ref a0, .int x1, .int x2, .int x3, .int x4, u5, u6] (r.1.toList ++ []) r.2 := by
  refine Eq.trans (zv_next f223_9 rfl) ?_
  exact zs_callS f223_11 (by decide) (Nat.le_of_ble_eq_true rfl) (Nat.le_of_ble_eq_true rfl) rfl me_196 (by decide) rfl
theorem b223_14 {h : zi_Hp} {a0 : Nat} {x1 : Int32} {x2 : Int32} {x3 : Int32} {x4 : Int32} {u5 : Value} {u6 : Value} {s0 : Int32}  : zv 8 223 14 [.ref a0, .int x1, .int x2, .int x3, .int x4, u5, u6] [.int s0] h = if s0 = 0 then zv 8 223 17 [.ref a0, .int x1, .int x2, .int x3, .int x4, u5, u6] [] h else zv 8 223 21 [.ref a0, .int x1, .int x2, .int x3, .int x4, u5, u6] [] h := by
  exact zs_if f223_14 rfl
theorem b223_17 {h : zi_Hp} {a0 : Nat} {x1 : Int32} {x2 : Int32} {x3 : Int32} {x4 : Int32} {u5 : Value} {u6 : Value}  : zv 8 223 17 [.ref a0, .int x1, .int x2, .int x3, .int x4, u5, u6] [] h = some (some (.long (-1)), h) := by
  refine Eq.trans (zs_l2 f223_17 l2_m1) ?_
  exact zv_ret f223_20 rfl
theorem b223_21 {h : zi_Hp} {a0 : Nat} {x1 : Int32} {x2 : Int32} {x3 : Int32} {x4 : Int32} {u5 : Value} {u6 : Value} (g0 : a0 < zh_n h) (g1 : (zh_k h a0).1 = 8) : zv 8 223 21 [.ref a0, .int x1, .int x2, .int x3, .int x4, u5, u6] [] h = (zv 7 217 0 [.ref a0, .int x2, .double 0, .double 0, .double 0] [] h).bind fun r => zv 8 223 26 [.ref a0, .int x1, .int x2, .int x3, .int x4, u5, u6] (r.1.toList ++ []) r.2 := by
  refine Eq.trans (zv_next f223_21 rfl) ?_
  refine Eq.trans (zv_next f223_22 rfl) ?_
  exact zs_callV f223_23 (Nat.le_of_ble_eq_true rfl) (Nat.le_of_ble_eq_true rfl) rfl g0 g1 me_217 (by decide) rfl
theorem b223_26 {h : zi_Hp} {a0 : Nat} {x1 : Int32} {x2 : Int32} {x3 : Int32} {x4 : Int32} {u5 : Value} {u6 : Value} (g0 : a0 < zh_n h) (g1 : (zh_k h a0).1 = 8) (g2 : zh_r h a0 26 = .ref (zq (zh_r h a0 26))) (g3 : (zq (zh_r h a0 26)) < zh_n h) (g4 : 0 < (zh_k h (zq (zh_r h a0 26))).2) (g5 : (zh_k h (zq (zh_r h a0 26))).1 = 102) (g6 : zh_r h a0 34 = .ref (zq (zh_r h a0 34))) (g7 : (zq (zh_r h a0 34)) < zh_n h) (g8 : ¬ (((2 * x1) + x3) < 0 ∨ (zh_k h (zq (zh_r h a0 34))).2 ≤ ((2 * x1) + x3).toNatClampNeg)) (g9 : (zh_k h (zq (zh_r h a0 34))).1 = 102) : zv 8 223 26 [.ref a0, .int x1, .int x2, .int x3, .int x4, u5, u6] [] h = (zv 1 222 0 [.long (zh_l h (zq (zh_r h a0 26)) 0), .double 1, .long (zh_l h (zq (zh_r h a0 34)) ((2 * x1) + x3).toNatClampNeg), .double 1, .double 0, .double 0, .double 0, .double 0, .double 0, .double 0] [] h).bind fun r => zv 8 223 45 [.ref a0, .int x1, .int x2, .int x3, .int x4, u5, u6] (r.1.toList ++ []) r.2 := by
  refine Eq.trans (zv_next f223_26 rfl) ?_
  refine Eq.trans (zs_getr f223_27 g0 g1 g2) ?_
  refine Eq.trans (zs_ic f223_30 ic_0) ?_
  refine Eq.trans (zs_lald f223_31 g3 g5 (zj_lit (by decide) g4)) ?_
  refine Eq.trans (zv_next f223_32 rfl) ?_
  refine Eq.trans (zs_getr f223_33 g0 g1 g6) ?_
  refine Eq.trans (zs_ic f223_36 ic_2) ?_
  refine Eq.trans (zv_next f223_37 rfl) ?_
  refine Eq.trans (zv_next f223_38 rfl) ?_
  refine Eq.trans (zv_next f223_39 rfl) ?_
  refine Eq.trans (zv_next f223_40 rfl) ?_
  refine Eq.trans (zs_lald f223_41 g7 g9 g8) ?_
  exact zs_callS f223_42 (by decide) (Nat.le_of_ble_eq_true rfl) (Nat.le_of_ble_eq_true rfl) rfl me_222 (by decide) rfl
theorem b223_45 {h : zi_Hp} {a0 : Nat} {x1 : Int32} {x2 : Int32} {x3 : Int32} {x4 : Int32} {u5 : Value} {u6 : Value} {w0 : Int64}  : zv 8 223 45 [.ref a0, .int x1, .int x2, .int x3, .int x4, u5, u6] [.long w0] h = if x4 = 0 then zv 8 223 52 [.ref a0, .int x1, .int x2, .int x3, .int x4, .long w0, .double 1] [] h else zv 8 223 68 [.ref a0, .int x1, .int x2, .int x3, .int x4, .long w0, .double 1] [] h := by
  refine Eq.trans (zv_next f223_45 rfl) ?_
  refine Eq.trans (zv_next f223_47 rfl) ?_
  exact zs_if f223_49 rfl
theorem b223_52 {h : zi_Hp} {a0 : Nat} {x1 : Int32} {x2 : Int32} {x3 : Int32} {x4 : Int32} {y5 : Int64} (g0 : a0 < zh_n h) (g1 : (zh_k h a0).1 = 8) (g2 : zh_r h a0 34 = .ref (zq (zh_r h a0 34))) (g3 : (zq (zh_r h a0 34)) < zh_n h) (g4 : ¬ (((2 * x1) + x3) < 0 ∨ (zh_k h (zq (zh_r h a0 34))).2 ≤ ((2 * x1) + x3).toNatClampNeg)) (g5 : (zh_k h (zq (zh_r h a0 34))).1 = 102) (g6 : ¬ (y5 : Int64) = 0) : zv 8 223 52 [.ref a0, .int x1, .int x2, .int x3, .int x4, .long y5, .double 1] [] h = zv 8 223 77 [.ref a0, .int x1, .int x2, .int x3, .int x4, .long y5, .double 1] [.long ((zh_l h (zq (zh_r h a0 34)) ((2 * x1) + x3).toNatClampNeg) / y5)] h := by
  refine Eq.trans (zv_next f223_52 rfl) ?_
  refine Eq.trans (zs_getr f223_53 g0 g1 g2) ?_
  refine Eq.trans (zs_ic f223_56 ic_2) ?_
  refine Eq.trans (zv_next f223_57 rfl) ?_
  refine Eq.trans (zv_next f223_58 rfl) ?_
  refine Eq.trans (zv_next f223_59 rfl) ?_
  refine Eq.trans (zv_next f223_60 rfl) ?_
  refine Eq.trans (zs_lald f223_61 g3 g5 g4) ?_
  refine Eq.trans (zv_next f223_62 rfl) ?_
  refine Eq.trans (zs_ldiv f223_64 g6) ?_
  refine Eq.trans (zs_goto (tgt := 77) f223_65 rfl) ?_
  rfl
theorem b223_68 {h : zi_Hp} {a0 : Nat} {x1 : Int32} {x2 : Int32} {x3 : Int32} {x4 : Int32} {y5 : Int64} (g0 : a0 < zh_n h) (g1 : (zh_k h a0).1 = 8) (g2 : zh_r h a0 26 = .ref (zq (zh_r h a0 26))) (g3 : (zq (zh_r h a0 26)) < zh_n h) (g4 : 0 < (zh_k h (zq (zh_r h a0 26))).2) (g5 : (zh_k h (zq (zh_r h a0 26))).1 = 102) (g6 : ¬ (y5 : Int64) = 0) : zv 8 223 68 [.ref a0, .int x1, .int x2, .int x3, .int x4, .long y5, .double 1] [] h = zv 8 223 77 [.ref a0, .int x1, .int x2, .int x3, .int x4, .long y5, .double 1] [.long ((zh_l h (zq (zh_r h a0 26)) 0) / y5)] h := by
  refine Eq.trans (zv_next f223_68 rfl) ?_
  refine Eq.trans (zs_getr f223_69 g0 g1 g2) ?_
  refine Eq.trans (zs_ic f223_72 ic_0) ?_
  refine Eq.trans (zs_lald f223_73 g3 g5 (zj_lit (by decide) g4)) ?_
  refine Eq.trans (zv_next f223_74 rfl) ?_
  refine Eq.trans (zs_ldiv f223_76 g6) ?_
  rfl
theorem b223_77 {h : zi_Hp} {a0 : Nat} {x1 : Int32} {x2 : Int32} {x3 : Int32} {x4 : Int32} {y5 : Int64} {w0 : Int64}  : zv 8 223 77 [.ref a0, .int x1, .int x2, .int x3, .int x4, .long y5, .double 1] [.long w0] h = some (some (.long w0), h) := by
  exact zv_ret f223_77 rfl
set_option maxRecDepth 20000 in
theorem zq224 : zi_M[224]? = some zi_m224 := rfl
theorem zl224_0 {pc : Nat} (_ : 0 ≤ pc) : zi_fe 224 pc = zu224_0.lookup pc := zi_feA zq224 pc
theorem f224_0 : zi_fe 224 0 = some ((.iconst 1), 1, 0, 0, 0, 0, 0) := (zl224_0 (Nat.le_of_ble_eq_true rfl)).trans rfl
theorem f224_1 : zi_fe 224 1 = some ((.istore_n 1), 1, 0, 0, 0, 0, 0) := (zl224_0 (Nat.le_of_ble_eq_true rfl)).trans rfl
theorem f224_2 : zi_fe 224 2 = some ((.iconst 0), 1, 0, 0, 0, 0, 0) := (zl224_0 (Nat.le_of_ble_eq_true rfl)).trans rfl
theorem f224_3 : zi_fe 224 3 = some ((.istore_n 2), 1, 0, 0, 0, 0, 0) := (zl224_0 (Nat.le_of_ble_eq_true rfl)).trans rfl
theorem f224_4 : zi_fe 224 4 = some ((.iload_n 2), 1, 0, 0, 0, 0, 0) := (zl224_0 (Nat.le_of_ble_eq_true rfl)).trans rfl
theorem f224_5 : zi_fe 224 5 = some ((.aload_n 0), 1, 0, 0, 0, 0, 0) := (zl224_0 (Nat.le_of_ble_eq_true rfl)).trans rfl
theorem f224_6 : zi_fe 224 6 = some ((.getfield 7), 3, 8, 0, 3, 1065, 0) := (zl224_0 (Nat.le_of_ble_eq_true rfl)).trans rfl
theorem f224_9 : zi_fe 224 9 = some ((.sipush 312), 3, 0, 0, 0, 0, 0) := (zl224_0 (Nat.le_of_ble_eq_true rfl)).trans rfl
theorem f224_12 : zi_fe 224 12 = some (.iaload, 1, 0, 0, 0, 0, 0) := (zl224_0 (Nat.le_of_ble_eq_true rfl)).trans rfl
theorem f224_13 : zi_fe 224 13 = some ((.if_icmp .ge 58), 3, 0, 0, 0, 0, 0) := (zl224_0 (Nat.le_of_ble_eq_true rfl)).trans rfl
theorem f224_16 : zi_fe 224 16 = some ((.iconst 1), 1, 0, 0, 0, 0, 0) := (zl224_0 (Nat.le_of_ble_eq_true rfl)).trans rfl
theorem f224_17 : zi_fe 224 17 = some ((.istore_n 3), 1, 0, 0, 0, 0, 0) := (zl224_0 (Nat.le_of_ble_eq_true rfl)).trans rfl
theorem zl224_1 {pc : Nat} (h : 18 ≤ pc) : zi_fe 224 pc = zu224_1.lookup pc := (zl224_0 (Nat.le_trans (Nat.le_of_ble_eq_true rfl) h)).trans (zi_lkA (a := zi_i224_0) (c := 18) rfl h)
theorem f224_18 : zi_fe 224 18 = some ((.iload_n 3), 1, 0, 0, 0, 0, 0) := (zl224_1 (Nat.le_of_ble_eq_true rfl)).trans rfl
theorem f224_19 : zi_fe 224 19 = some ((.aload_n 0), 1, 0, 0, 0, 0, 0) := (zl224_1 (Nat.le_of_ble_eq_true rfl)).trans rfl
theorem f224_20 : zi_fe 224 20 = some ((.iload_n 2), 1, 0, 0, 0, 0, 0) := (zl224_1 (Nat.le_of_ble_eq_true rfl)).trans rfl
theorem f224_21 : zi_fe 224 21 = some ((.iconst 1), 1, 0, 0, 0, 0, 0) := (zl224_1 (Nat.le_of_ble_eq_true rfl)).trans rfl
theorem f224_22 : zi_fe 224 22 = some ((.invokevirtual 87), 3, 144, 0, 8, 1261, 3) := (zl224_1 (Nat.le_of_ble_eq_true rfl)).trans rfl
theorem f224_25 : zi_fe 224 25 = some ((.if_icmp .ge 40), 3, 0, 0, 0, 0, 0) := (zl224_1 (Nat.le_of_ble_eq_true rfl)).trans rfl
theorem f224_28 : zi_fe 224 28 = some ((.iload_n 1), 1, 0, 0, 0, 0, 0) := (zl224_1 (Nat.le_of_ble_eq_true rfl)).trans rfl
theorem f224_29 : zi_fe 224 29 = some ((.ifCond .eq 28), 3, 0, 0, 0, 0, 0) := (zl224_1 (Nat.le_of_ble_eq_true rfl)).trans rfl
theorem f224_32 : zi_fe 224 32 = some ((.aload_n 0), 1, 0, 0, 0, 0, 0) := (zl224_1 (Nat.le_of_ble_eq_true rfl)).trans rfl
theorem f224_33 : zi_fe 224 33 = some ((.iload_n 2), 1, 0, 0, 0, 0, 0) := (zl224_1 (Nat.le_of_ble_eq_true rfl)).trans rfl
theorem f224_34 : zi_fe 224 34 = some ((.iconst 5), 1, 0, 0, 0, 0, 0) := (zl224_1 (Nat.le_of_ble_eq_true rfl)).trans rfl
theorem f224_35 : zi_fe 224 35 = some ((.iload_n 3), 1, 0, 0, 0, 0, 0) := (zl224_1 (Nat.le_of_ble_eq_true rfl)).trans rfl
theorem zl224_2 {pc : Nat} (h : 36 ≤ pc) : zi_fe 224 pc = zu224_2.lookup pc := (zl224_1 (Nat.le_trans (Nat.le_of_ble_eq_true rfl) h)).trans (zi_lkA (a := zi_i224_1) (c := 36) rfl h)
theorem f224_36 : zi_fe 224 36 = some (.iadd, 1, 0, 0, 0, 0, 0) := (zl224_2 (Nat.le_of_ble_eq_true rfl)).trans rfl
theorem f224_37 : zi_fe 224 37 = some ((.invokevirtual 87), 3, 144, 0, 8, 1261, 3) := (zl224_2 (Nat.le_of_ble_eq_true rfl)).trans rfl
theorem f224_40 : zi_fe 224 40 = some ((.aload_n 0), 1, 0, 0, 0, 0, 0) := (zl224_2 (Nat.le_of_ble_eq_true rfl)).trans rfl
theorem f224_41 : zi_fe 224 41 = some ((.iload_n 2), 1, 0, 0, 0, 0, 0) := (zl224_2 (Nat.le_of_ble_eq_true rfl)).trans rfl
theorem f224_42 : zi_fe 224 42 = some ((.iconst 5), 1, 0, 0, 0, 0, 0) := (zl224_2 (Nat.le_of_ble_eq_true rfl)).trans rfl
theorem f224_43 : zi_fe 224 43 = some ((.iload_n 3), 1, 0, 0, 0, 0, 0) := (zl224_2 (Nat.le_of_ble_eq_true rfl)).trans rfl
theorem f224_44 : zi_fe 224 44 = some (.iadd, 1, 0, 0, 0, 0, 0) := (zl224_2 (Nat.le_of_ble_eq_true rfl)).trans rfl
theorem f224_45 : zi_fe 224 45 = some ((.iconst 1), 1, 0, 0, 0, 0, 0) := (zl224_2 (Nat.le_of_ble_eq_true rfl)).trans rfl
theorem f224_46 : zi_fe 224 46 = some (.isub, 1, 0, 0, 0, 0, 0) := (zl224_2 (Nat.le_of_ble_eq_true rfl)).trans rfl
theorem f224_47 : zi_fe 224 47 = some ((.invokevirtual 87), 3, 144, 0, 8, 1261, 3) := (zl224_2 (Nat.le_of_ble_eq_true rfl)).trans rfl
theorem f224_50 : zi_fe 224 50 = some ((.if_icmp .le 7), 3, 0, 0, 0, 0, 0) := (zl224_2 (Nat.le_of_ble_eq_true rfl)).trans rfl
theorem f224_53 : zi_fe 224 53 = some ((.iconst 1), 1, 0, 0, 0, 0, 0) := (zl224_2 (Nat.le_of_ble_eq_true rfl)).trans rfl
theorem zl224_3 {pc : Nat} (h : 54 ≤ pc) : zi_fe 224 pc = zu224_3.lookup pc := (zl224_2 (Nat.le_trans (Nat.le_of_ble_eq_true rfl) h)).trans (zi_lkA (a := zi_i224_2) (c := 54) rfl h)
theorem f224_54 : zi_fe 224 54 = some ((.goto 4), 3, 0, 0, 0, 0, 0) := (zl224_3 (Nat.le_of_ble_eq_true rfl)).trans rfl
theorem f224_57 : zi_fe 224 57 = some ((.iconst 0), 1, 0, 0, 0, 0, 0) := (zl224_3 (Nat.le_of_ble_eq_true rfl)).trans rfl
theorem f224_58 : zi_fe 224 58 = some ((.istore_n 1), 1, 0, 0, 0, 0, 0) := (zl224_3 (Nat.le_of_ble_eq_true rfl)).trans rfl
theorem f224_59 : zi_fe 224 59 = some ((.iinc 3 1), 3, 0, 0, 0, 0, 0) := (zl224_3 (Nat.le_of_ble_eq_true rfl)).trans rfl
theorem f224_62 : zi_fe 224 62 = some ((.goto (-44)), 3, 0, 0, 0, 0, 0) := (zl224_3 (Nat.le_of_ble_eq_true rfl)).trans rfl
theorem f224_65 : zi_fe 224 65 = some ((.iinc 2 1), 3, 0, 0, 0, 0, 0) := (zl224_3 (Nat.le_of_ble_eq_true rfl)).trans rfl
theorem f224_68 : zi_fe 224 68 = some ((.goto (-64)), 3, 0, 0, 0, 0, 0) := (zl224_3 (Nat.le_of_ble_eq_true rfl)).trans rfl
theorem f224_71 : zi_fe 224 71 = some ((.iload_n 1), 1, 0, 0, 0, 0, 0) := (zl224_3 (Nat.le_of_ble_eq_true rfl)).trans rfl
theorem f224_72 : zi_fe 224 72 = some (.ireturn, 1, 1, 0, 0, 0, 0) := (zl224_3 (Nat.le_of_ble_eq_true rfl)).trans rfl
theorem b224_0 {h : zi_Hp} {a0 : Nat} {u1 : Value} {u2 : Value} {u3 : Value}  : zv 2 224 0 [.ref a0, u1, u2, u3] [] h = zv 2 224 4 [.ref a0, .int 1, .int 0, u3] [] h := by
  refine Eq.trans (zs_ic f224_0 ic_1) ?_
  refine Eq.trans (zv_next f224_1 rfl) ?_
  refine Eq.trans (zs_ic f224_2 ic_0) ?_
  refine Eq.trans (zv_next f224_3 rfl) ?_
  rfl
theorem b224_4 {h : zi_Hp} {a0 : Nat} {x1 : Int32} {x2 : Int32} {u3 : Value} (g0 : a0 < zh_n h) (g1 : (zh_k h a0).1 = 8) (g2 : zh_r h a0 0 = .ref (zq (zh_r h a0 0))) (g3 : (zq (zh_r h a0 0)) < zh_n h) (g4 : 312 < (zh_k h (zq (zh_r h a0 0))).2) (g5 : (zh_k h (zq (zh_r h a0 0))).1 = 100) : zv 2 224 4 [.ref a0, .int x1, .int x2, u3] [] h = if x2 < (zh_i h (zq (zh_r h a0 0)) 312) then zv 2 224 16 [.ref a0, .int x1, .int x2, u3] [] h else zv 2 224 71 [.ref a0, .int x1, .int x2, u3] [] h := by
  refine Eq.trans (zv_next f224_4 rfl) ?_
  refine Eq.trans (zv_next f224_5 rfl) ?_
  refine Eq.trans (zs_getr f224_6 g0 g1 g2) ?_
  refine Eq.trans (zs_sp f224_9 sp_312) ?_
  refine Eq.trans (zs_iald f224_12 g3 g5 (zj_lit (by decide) g4)) ?_
  exact zs_icmp f224_13 rfl
theorem b224_16 {h : zi_Hp} {a0 : Nat} {x1 : Int32} {x2 : Int32} {u3 : Value}  : zv 2 224 16 [.ref a0, .int x1, .int x2, u3] [] h = zv 2 224 18 [.ref a0, .int x1, .int x2, .int 1] [] h := by
  refine Eq.trans (zs_ic f224_16 ic_1) ?_
  refine Eq.trans (zv_next f224_17 rfl) ?_
  rfl
theorem b224_18 {h : zi_Hp} {a0 : Nat} {x1 : Int32} {x2 : Int32} {x3 : Int32} (g0 : a0 < zh_n h) (g1 : (zh_k h a0).1 = 8) : zv 2 224 18 [.ref a0, .int x1, .int x2, .int x3] [] h = (zv 1 144 0 [.ref a0, .int x2, .int 1] [] h).bind fun r => zv 2 224 25 [.ref a0, .int x1, .int x2, .int x3] (r.1.toList ++ [.int x3]) r.2 := by
  refine Eq.trans (zv_next f224_18 rfl) ?_
  refine Eq.trans (zv_next f224_19 rfl) ?_
  refine Eq.trans (zv_next f224_20 rfl) ?_
  refine Eq.trans (zs_ic f224_21 ic_1) ?_
  exact zs_callV f224_22 (Nat.le_of_ble_eq_true rfl) (Nat.le_of_ble_eq_true rfl) rfl g0 g1 me_144 (by decide) rfl
theorem b224_25 {h : zi_Hp} {a0 : Nat} {x1 : Int32} {x2 : Int32} {x3 : Int32} {s0 : Int32} {s1 : Int32}  : zv 2 224 25 [.ref a0, .int x1, .int x2, .int x3] [.int s1, .int s0] h = if s0 < s1 then zv 2 224 28 [.ref a0, .int x1, .int x2, .int x3] [] h else zv 2 224 65 [.ref a0, .int x1, .int x2, .int x3] [] h := by
  exact zs_icmp f224_25 rfl
theorem b224_28 {h : zi_Hp} {a0 : Nat} {x1 : Int32} {x2 : Int32} {x3 : Int32}  : zv 2 224 28 [.ref a0, .int x1, .int x2, .int x3] [] h = if x1 = 0 then zv 2 224 57 [.ref a0, .int x1, .int x2, .int x3] [] h else zv 2 224 32 [.ref a0, .int x1, .int x2, .int x3] [] h := by
  refine Eq.trans (zv_next f224_28 rfl) ?_
  exact zs_if f224_29 rfl
theorem b224_32 {h : zi_Hp} {a0 : Nat} {x1 : Int32} {x2 : Int32} {x3 : Int32} (g0 : a0 < zh_n h) (g1 : (zh_k h a0).1 = 8) : zv 2 224 32 [.ref a0, .int x1, .int x2, .int x3] [] h = (zv 1 144 0 [.ref a0, .int x2, .int (5 + x3)] [] h).bind fun r => zv 2 224 40 [.ref a0, .int x1, .int x2, .int x3] (r.1.toList ++ []) r.2 := by
  refine Eq.trans (zv_next f224_32 rfl) ?_
  refine Eq.trans (zv_next f224_33 rfl) ?_
  refine Eq.trans (zs_ic f224_34 ic_5) ?_
  refine Eq.trans (zv_next f224_35 rfl) ?_
  refine Eq.trans (zv_next f224_36 rfl) ?_
  exact zs_callV f224_37 (Nat.le_of_ble_eq_true rfl) (Nat.le_of_ble_eq_true rfl) rfl g0 g1 me_144 (by decide) rfl
theorem b224_40 {h : zi_Hp} {a0 : Nat} {x1 : Int32} {x2 : Int32} {x3 : Int32} {s0 : Int32} (g0 : a0 < zh_n h) (g1 : (zh_k h a0).1 = 8) : zv 2 224 40 [.ref a0, .int x1, .int x2, .int x3] [.int s0] h = (zv 1 144 0 [.ref a0, .int x2, .int ((5 + x3) - 1)] [] h).bind fun r => zv 2 224 50 [.ref a0, .int x1, .int x2, .int x3] (r.1.toList ++ [.int s0]) r.2 := by
  refine Eq.trans (zv_next f224_40 rfl) ?_
  refine Eq.trans (zv_next f224_41 rfl) ?_
  refine Eq.trans (zs_ic f224_42 ic_5) ?_
  refine Eq.trans (zv_next f224_43 rfl) ?_
  refine Eq.trans (zv_next f224_44 rfl) ?_
  refine Eq.trans (zs_ic f224_45 ic_1) ?_
  refine Eq.trans (zv_next f224_46 rfl) ?_
  exact zs_callV f224_47 (Nat.le_of_ble_eq_true rfl) (Nat.le_of_ble_eq_true rfl) rfl g0 g1 me_144 (by decide) rfl
theorem b224_50 {h : zi_Hp} {a0 : Nat} {x1 : Int32} {x2 : Int32} {x3 : Int32} {s0 : Int32} {s1 : Int32}  : zv 2 224 50 [.ref a0, .int x1, .int x2, .int x3] [.int s1, .int s0] h = if s1 < s0 then zv 2 224 53 [.ref a0, .int x1, .int x2, .int x3] [] h else zv 2 224 57 [.ref a0, .int x1, .int x2, .int x3] [] h := by
  exact zs_icmp f224_50 rfl
theorem b224_53 {h : zi_Hp} {a0 : Nat} {x1 : Int32} {x2 : Int32} {x3 : Int32}  : zv 2 224 53 [.ref a0, .int x1, .int x2, .int x3] [] h = zv 2 224 58 [.ref a0, .int x1, .int x2, .int x3] [.int 1] h := by
  refine Eq.trans (zs_ic f224_53 ic_1) ?_
  refine Eq.trans (zs_goto (tgt := 58) f224_54 rfl) ?_
  rfl
theorem b224_57 {h : zi_Hp} {a0 : Nat} {x1 : Int32} {x2 : Int32} {x3 : Int32}  : zv 2 224 57 [.ref a0, .int x1, .int x2, .int x3] [] h = zv 2 224 58 [.ref a0, .int x1, .int x2, .int x3] [.int 0] h := by
  refine Eq.trans (zs_ic f224_57 ic_0) ?_
  rfl
theorem b224_58 {h : zi_Hp} {a0 : Nat} {x1 : Int32} {x2 : Int32} {x3 : Int32} {s0 : Int32}  : zv 2 224 58 [.ref a0, .int x1, .int x2, .int x3] [.int s0] h = zv 2 224 18 [.ref a0, .int s0, .int x2, .int (x3 + 1)] [] h := by
  refine Eq.trans (zv_next f224_58 rfl) ?_
  refine Eq.trans (zs_inc f224_59 rfl ic_1 rfl) ?_
  refine Eq.trans (zs_goto (tgt := 18) f224_62 rfl) ?_
  rfl
theorem b224_65 {h : zi_Hp} {a0 : Nat} {x1 : Int32} {x2 : Int32} {x3 : Int32}  : zv 2 224 65 [.ref a0, .int x1, .int x2, .int x3] [] h = zv 2 224 4 [.ref a0, .int x1, .int (x2 + 1), .int x3] [] h := by
  refine Eq.trans (zs_inc f224_65 rfl ic_1 rfl) ?_
  refine Eq.trans (zs_goto (tgt := 4) f224_68 rfl) ?_
  rfl
theorem b224_71 {h : zi_Hp} {a0 : Nat} {x1 : Int32} {x2 : Int32} {u3 : Value} (g0 : x1 = 0 ∨ x1 = 1) : zv 2 224 71 [.ref a0, .int x1, .int x2, u3] [] h = some (some (.int x1), h) := by
  refine Eq.trans (zv_next f224_71 rfl) ?_
  exact zs_ret1 f224_72 g0
set_option maxRecDepth 20000 in
theorem zq225 : zi_M[225]? = some zi_m225 := rfl
theorem zl225_0 {pc : Nat} (_ : 0 ≤ pc) : zi_fe 225 pc = zu225_0.lookup pc := zi_feA zq225 pc
theorem f225_0 : zi_fe 225 0 = some ((.iconst 1), 1, 0, 0, 0, 0, 0) := (zl225_0 (Nat.le_of_ble_eq_true rfl)).trans rfl
theorem f225_1 : zi_fe 225 1 = some ((.istore_n 1), 1, 0, 0, 0, 0, 0) := (zl225_0 (Nat.le_of_ble_eq_true rfl)).trans rfl
theorem f225_2 : zi_fe 225 2 = some ((.iconst 0), 1, 0, 0, 0, 0, 0) := (zl225_0 (Nat.le_of_ble_eq_true rfl)).trans rfl
theorem f225_3 : zi_fe 225 3 = some ((.istore_n 2), 1, 0, 0, 0, 0, 0) := (zl225_0 (Nat.le_of_ble_eq_true rfl)).trans rfl
theorem f225_4 : zi_fe 225 4 = some ((.iload_n 2), 1, 0, 0, 0, 0, 0) := (zl225_0 (Nat.le_of_ble_eq_true rfl)).trans rfl
theorem f225_5 : zi_fe 225 5 = some ((.aload_n 0), 1, 0, 0, 0, 0, 0) := (zl225_0 (Nat.le_of_ble_eq_true rfl)).trans rfl
theorem f225_6 : zi_fe 225 6 = some ((.getfield 7), 3, 8, 0, 3, 1065, 0) := (zl225_0 (Nat.le_of_ble_eq_true rfl)).trans rfl
theorem f225_9 : zi_fe 225 9 = some ((.sipush 312), 3, 0, 0, 0, 0, 0) := (zl225_0 (Nat.le_of_ble_eq_true rfl)).trans rfl
theorem f225_12 : zi_fe 225 12 = some (.iaload, 1, 0, 0, 0, 0, 0) := (zl225_0 (Nat.le_of_ble_eq_true rfl)).trans rfl
theorem f225_13 : zi_fe 225 13 = some ((.if_icmp .ge 70), 3, 0, 0, 0, 0, 0) := (zl225_0 (Nat.le_of_ble_eq_true rfl)).trans rfl
theorem f225_16 : zi_fe 225 16 = some ((.aload_n 0), 1, 0, 0, 0, 0, 0) := (zl225_0 (Nat.le_of_ble_eq_true rfl)).trans rfl
theorem f225_17 : zi_fe 225 17 = some ((.iload_n 2), 1, 0, 0, 0, 0, 0) := (zl225_0 (Nat.le_of_ble_eq_true rfl)).trans rfl
theorem zl225_1 {pc : Nat} (h : 18 ≤ pc) : zi_fe 225 pc = zu225_1.lookup pc := (zl225_0 (Nat.le_trans (Nat.le_of_ble_eq_true rfl) h)).trans (zi_lkA (a := zi_i225_0) (c := 18) rfl h)
theorem f225_18 : zi_fe 225 18 = some ((.iconst 0), 1, 0, 0, 0, 0, 0) := (zl225_1 (Nat.le_of_ble_eq_true rfl)).trans rfl
theorem f225_19 : zi_fe 225 19 = some ((.invokevirtual 87), 3, 144, 0, 8, 1261, 3) := (zl225_1 (Nat.le_of_ble_eq_true rfl)).trans rfl
theorem f225_22 : zi_fe 225 22 = some ((.ifCond .ne 55), 3, 0, 0, 0, 0, 0) := (zl225_1 (Nat.le_of_ble_eq_true rfl)).trans rfl
theorem f225_25 : zi_fe 225 25 = some ((.aload_n 0), 1, 0, 0, 0, 0, 0) := (zl225_1 (Nat.le_of_ble_eq_true rfl)).trans rfl
theorem f225_26 : zi_fe 225 26 = some ((.iload_n 2), 1, 0, 0, 0, 0, 0) := (zl225_1 (Nat.le_of_ble_eq_true rfl)).trans rfl
theorem f225_27 : zi_fe 225 27 = some ((.iconst 4), 1, 0, 0, 0, 0, 0) := (zl225_1 (Nat.le_of_ble_eq_true rfl)).trans rfl
theorem f225_28 : zi_fe 225 28 = some ((.invokevirtual 87), 3, 144, 0, 8, 1261, 3) := (zl225_1 (Nat.le_of_ble_eq_true rfl)).trans rfl
theorem f225_31 : zi_fe 225 31 = some ((.ifCond .ne 46), 3, 0, 0, 0, 0, 0) := (zl225_1 (Nat.le_of_ble_eq_true rfl)).trans rfl
theorem f225_34 : zi_fe 225 34 = some ((.aload_n 0), 1, 0, 0, 0, 0, 0) := (zl225_1 (Nat.le_of_ble_eq_true rfl)).trans rfl
theorem f225_35 : zi_fe 225 35 = some ((.iload_n 2), 1, 0, 0, 0, 0, 0) := (zl225_1 (Nat.le_of_ble_eq_true rfl)).trans rfl
theorem f225_36 : zi_fe 225 36 = some ((.iconst 1), 1, 0, 0, 0, 0, 0) := (zl225_1 (Nat.le_of_ble_eq_true rfl)).trans rfl
theorem f225_37 : zi_fe 225 37 = some ((.invokevirtual 87), 3, 144, 0, 8, 1261, 3) := (zl225_1 (Nat.le_of_ble_eq_true rfl)).trans rfl
theorem zl225_2 {pc : Nat} (h : 40 ≤ pc) : zi_fe 225 pc = zu225_2.lookup pc := (zl225_1 (Nat.le_trans (Nat.le_of_ble_eq_true rfl) h)).trans (zi_lkA (a := zi_i225_1) (c := 40) rfl h)
theorem f225_40 : zi_fe 225 40 = some ((.ifCond .le 37), 3, 0, 0, 0, 0, 0) := (zl225_2 (Nat.le_of_ble_eq_true rfl)).trans rfl
theorem f225_43 : zi_fe 225 43 = some ((.iload_n 1), 1, 0, 0, 0, 0, 0) := (zl225_2 (Nat.le_of_ble_eq_true rfl)).trans rfl
theorem f225_44 : zi_fe 225 44 = some ((.ifCond .eq 31), 3, 0, 0, 0, 0, 0) := (zl225_2 (Nat.le_of_ble_eq_true rfl)).trans rfl
theorem f225_47 : zi_fe 225 47 = some ((.aload_n 0), 1, 0, 0, 0, 0, 0) := (zl225_2 (Nat.le_of_ble_eq_true rfl)).trans rfl
theorem f225_48 : zi_fe 225 48 = some ((.iload_n 2), 1, 0, 0, 0, 0, 0) := (zl225_2 (Nat.le_of_ble_eq_true rfl)).trans rfl
theorem f225_49 : zi_fe 225 49 = some ((.iconst 5), 1, 0, 0, 0, 0, 0) := (zl225_2 (Nat.le_of_ble_eq_true rfl)).trans rfl
theorem f225_50 : zi_fe 225 50 = some ((.aload_n 0), 1, 0, 0, 0, 0, 0) := (zl225_2 (Nat.le_of_ble_eq_true rfl)).trans rfl
theorem f225_51 : zi_fe 225 51 = some ((.iload_n 2), 1, 0, 0, 0, 0, 0) := (zl225_2 (Nat.le_of_ble_eq_true rfl)).trans rfl
theorem f225_52 : zi_fe 225 52 = some ((.iconst 1), 1, 0, 0, 0, 0, 0) := (zl225_2 (Nat.le_of_ble_eq_true rfl)).trans rfl
theorem f225_53 : zi_fe 225 53 = some ((.invokevirtual 87), 3, 144, 0, 8, 1261, 3) := (zl225_2 (Nat.le_of_ble_eq_true rfl)).trans rfl
theorem f225_56 : zi_fe 225 56 = some (.iadd, 1, 0, 0, 0, 0, 0) := (zl225_2 (Nat.le_of_ble_eq_true rfl)).trans rfl
theorem f225_57 : zi_fe 225 57 = some ((.iconst 1), 1, 0, 0, 0, 0, 0) := (zl225_2 (Nat.le_of_ble_eq_true rfl)).trans rfl
theorem zl225_3 {pc : Nat} (h : 58 ≤ pc) : zi_fe 225 pc = zu225_3.lookup pc := (zl225_2 (Nat.le_trans (Nat.le_of_ble_eq_true rfl) h)).trans (zi_lkA (a := zi_i225_2) (c := 58) rfl h)
theorem f225_58 : zi_fe 225 58 = some (.isub, 1, 0, 0, 0, 0, 0) := (zl225_3 (Nat.le_of_ble_eq_true rfl)).trans rfl
theorem f225_59 : zi_fe 225 59 = some ((.invokevirtual 87), 3, 144, 0, 8, 1261, 3) := (zl225_3 (Nat.le_of_ble_eq_true rfl)).trans rfl
theorem f225_62 : zi_fe 225 62 = some ((.aload_n 0), 1, 0, 0, 0, 0, 0) := (zl225_3 (Nat.le_of_ble_eq_true rfl)).trans rfl
theorem f225_63 : zi_fe 225 63 = some ((.iload_n 2), 1, 0, 0, 0, 0, 0) := (zl225_3 (Nat.le_of_ble_eq_true rfl)).trans rfl
theorem f225_64 : zi_fe 225 64 = some ((.iconst 2), 1, 0, 0, 0, 0, 0) := (zl225_3 (Nat.le_of_ble_eq_true rfl)).trans rfl
theorem f225_65 : zi_fe 225 65 = some ((.invokevirtual 87), 3, 144, 0, 8, 1261, 3) := (zl225_3 (Nat.le_of_ble_eq_true rfl)).trans rfl
theorem f225_68 : zi_fe 225 68 = some ((.if_icmp .gt 7), 3, 0, 0, 0, 0, 0) := (zl225_3 (Nat.le_of_ble_eq_true rfl)).trans rfl
theorem f225_71 : zi_fe 225 71 = some ((.iconst 1), 1, 0, 0, 0, 0, 0) := (zl225_3 (Nat.le_of_ble_eq_true rfl)).trans rfl
theorem f225_72 : zi_fe 225 72 = some ((.goto 4), 3, 0, 0, 0, 0, 0) := (zl225_3 (Nat.le_of_ble_eq_true rfl)).trans rfl
theorem f225_75 : zi_fe 225 75 = some ((.iconst 0), 1, 0, 0, 0, 0, 0) := (zl225_3 (Nat.le_of_ble_eq_true rfl)).trans rfl
theorem f225_76 : zi_fe 225 76 = some ((.istore_n 1), 1, 0, 0, 0, 0, 0) := (zl225_3 (Nat.le_of_ble_eq_true rfl)).trans rfl
theorem f225_77 : zi_fe 225 77 = some ((.iinc 2 1), 3, 0, 0, 0, 0, 0) := (zl225_3 (Nat.le_of_ble_eq_true rfl)).trans rfl
theorem zl225_4 {pc : Nat} (h : 80 ≤ pc) : zi_fe 225 pc = zu225_4.lookup pc := (zl225_3 (Nat.le_trans (Nat.le_of_ble_eq_true rfl) h)).trans (zi_lkA (a := zi_i225_3) (c := 80) rfl h)
theorem f225_80 : zi_fe 225 80 = some ((.goto (-76)), 3, 0, 0, 0, 0, 0) := (zl225_4 (Nat.le_of_ble_eq_true rfl)).trans rfl
theorem f225_83 : zi_fe 225 83 = some ((.iload_n 1), 1, 0, 0, 0, 0, 0) := (zl225_4 (Nat.le_of_ble_eq_true rfl)).trans rfl
theorem f225_84 : zi_fe 225 84 = some (.ireturn, 1, 1, 0, 0, 0, 0) := (zl225_4 (Nat.le_of_ble_eq_true rfl)).trans rfl
theorem b225_0 {h : zi_Hp} {a0 : Nat} {u1 : Value} {u2 : Value}  : zv 2 225 0 [.ref a0, u1, u2] [] h = zv 2 225 4 [.ref a0, .int 1, .int 0] [] h := by
  refine Eq.trans (zs_ic f225_0 ic_1) ?_
  refine Eq.trans (zv_next f225_1 rfl) ?_
  refine Eq.trans (zs_ic f225_2 ic_0) ?_
  refine Eq.trans (zv_next f225_3 rfl) ?_
  rfl
theorem b225_4 {h : zi_Hp} {a0 : Nat} {x1 : Int32} {x2 : Int32} (g0 : a0 < zh_n h) (g1 : (zh_k h a0).1 = 8) (g2 : zh_r h a0 0 = .ref (zq (zh_r h a0 0))) (g3 : (zq (zh_r h a0 0)) < zh_n h) (g4 : 312 < (zh_k h (zq (zh_r h a0 0))).2) (g5 : (zh_k h (zq (zh_r h a0 0))).1 = 100) : zv 2 225 4 [.ref a0, .int x1, .int x2] [] h = if x2 < (zh_i h (zq (zh_r h a0 0)) 312) then zv 2 225 16 [.ref a0, .int x1, .int x2] [] h else zv 2 225 83 [.ref a0, .int x1, .int x2] [] h := by
  refine Eq.trans (zv_next f225_4 rfl) ?_
  refine Eq.trans (zv_next f225_5 rfl) ?_
  refine Eq.trans (zs_getr f225_6 g0 g1 g2) ?_
  refine Eq.trans (zs_sp f225_9 sp_312) ?_
  refine Eq.trans (zs_iald f225_12 g3 g5 (zj_lit (by decide) g4)) ?_
  exact zs_icmp f225_13 rfl
theorem b225_16 {h : zi_Hp} {a0 : Nat} {x1 : Int32} {x2 : Int32} (g0 : a0 < zh_n h) (g1 : (zh_k h a0).1 = 8) : zv 2 225 16 [.ref a0, .int x1, .int x2] [] h = (zv 1 144 0 [.ref a0, .int x2, .int 0] [] h).bind fun r => zv 2 225 22 [.ref a0, .int x1, .int x2] (r.1.toList ++ []) r.2 := by
  refine Eq.trans (zv_next f225_16 rfl) ?_
  refine Eq.trans (zv_next f225_17 rfl) ?_
  refine Eq.trans (zs_ic f225_18 ic_0) ?_
  exact zs_callV f225_19 (Nat.le_of_ble_eq_true rfl) (Nat.le_of_ble_eq_true rfl) rfl g0 g1 me_144 (by decide) rfl
theorem b225_22 {h : zi_Hp} {a0 : Nat} {x1 : Int32} {x2 : Int32} {s0 : Int32}  : zv 2 225 22 [.ref a0, .int x1, .int x2] [.int s0] h = if s0 = 0 then zv 2 225 25 [.ref a0, .int x1, .int x2] [] h else zv 2 225 77 [.ref a0, .int x1, .int x2] [] h := by
  exact zs_if f225_22 rfl
theorem b225_25 {h : zi_Hp} {a0 : Nat} {x1 : Int32} {x2 : Int32} (g0 : a0 < zh_n h) (g1 : (zh_k h a0).1 = 8) : zv 2 225 25 [.ref a0, .int x1, .int x2] [] h = (zv 1 144 0 [.ref a0, .int x2, .int 4] [] h).bind fun r => zv 2 225 31 [.ref a0, .int x1, .int x2] (r.1.toList ++ []) r.2 := by
  refine Eq.trans (zv_next f225_25 rfl) ?_
  refine Eq.trans (zv_next f225_26 rfl) ?_
  refine Eq.trans (zs_ic f225_27 ic_4) ?_
  exact zs_callV f225_28 (Nat.le_of_ble_eq_true rfl) (Nat.le_of_ble_eq_true rfl) rfl g0 g1 me_144 (by decide) rfl
theorem b225_31 {h : zi_Hp} {a0 : Nat} {x1 : Int32} {x2 : Int32} {s0 : Int32}  : zv 2 225 31 [.ref a0, .int x1, .int x2] [.int s0] h = if s0 = 0 then zv 2 225 34 [.ref a0, .int x1, .int x2] [] h else zv 2 225 77 [.ref a0, .int x1, .int x2] [] h := by
  exact zs_if f225_31 rfl
theorem b225_34 {h : zi_Hp} {a0 : Nat} {x1 : Int32} {x2 : Int32} (g0 : a0 < zh_n h) (g1 : (zh_k h a0).1 = 8) : zv 2 225 34 [.ref a0, .int x1, .int x2] [] h = (zv 1 144 0 [.ref a0, .int x2, .int 1] [] h).bind fun r => zv 2 225 40 [.ref a0, .int x1, .int x2] (r.1.toList ++ []) r.2 := by
  refine Eq.trans (zv_next f225_34 rfl) ?_
  refine Eq.trans (zv_next f225_35 rfl) ?_
  refine Eq.trans (zs_ic f225_36 ic_1) ?_
  exact zs_callV f225_37 (Nat.le_of_ble_eq_true rfl) (Nat.le_of_ble_eq_true rfl) rfl g0 g1 me_144 (by decide) rfl
theorem b225_40 {h : zi_Hp} {a0 : Nat} {x1 : Int32} {x2 : Int32} {s0 : Int32}  : zv 2 225 40 [.ref a0, .int x1, .int x2] [.int s0] h = if 0 < s0 then zv 2 225 43 [.ref a0, .int x1, .int x2] [] h else zv 2 225 77 [.ref a0, .int x1, .int x2] [] h := by
  exact zs_if f225_40 rfl
theorem b225_43 {h : zi_Hp} {a0 : Nat} {x1 : Int32} {x2 : Int32}  : zv 2 225 43 [.ref a0, .int x1, .int x2] [] h = if x1 = 0 then zv 2 225 75 [.ref a0, .int x1, .int x2] [] h else zv 2 225 47 [.ref a0, .int x1, .int x2] [] h := by
  refine Eq.trans (zv_next f225_43 rfl) ?_
  exact zs_if f225_44 rfl
theorem b225_47 {h : zi_Hp} {a0 : Nat} {x1 : Int32} {x2 : Int32} (g0 : a0 < zh_n h) (g1 : (zh_k h a0).1 = 8) : zv 2 225 47 [.ref a0, .int x1, .int x2] [] h = (zv 1 144 0 [.ref a0, .int x2, .int 1] [] h).bind fun r => zv 2 225 56 [.ref a0, .int x1, .int x2] (r.1.toList ++ [.int 5, .int x2, .ref a0]) r.2 := by
  refine Eq.trans (zv_next f225_47 rfl) ?_
  refine Eq.trans (zv_next f225_48 rfl) ?_
  refine Eq.trans (zs_ic f225_49 ic_5) ?_
  refine Eq.trans (zv_next f225_50 rfl) ?_
  refine Eq.trans (zv_next f225_51 rfl) ?_
  refine Eq.trans (zs_ic f225_52 ic_1) ?_
  exact zs_callV f225_53 (Nat.le_of_ble_eq_true rfl) (Nat.le_of_ble_eq_true rfl) rfl g0 g1 me_144 (by decide) rfl
theorem b225_56 {h : zi_Hp} {a0 : Nat} {x1 : Int32} {x2 : Int32} {t0 : Nat} {s1 : Int32} {s2 : Int32} {s3 : Int32} (g0 : t0 < zh_n h) (g1 : (zh_k h t0).1 = 8) : zv 2 225 56 [.ref a0, .int x1, .int x2] [.int s3, .int s2, .int s1, .ref t0] h = (zv 1 144 0 [.ref t0, .int s1, .int ((s2 + s3) - 1)] [] h).bind fun r => zv 2 225 62 [.ref a0, .int x1, .int x2] (r.1.toList ++ []) r.2 := by
  refine Eq.trans (zv_next f225_56 rfl) ?_
  refine Eq.trans (zs_ic f225_57 ic_1) ?_
  refine Eq.trans (zv_next f225_58 rfl) ?_
  exact zs_callV f225_59 (Nat.le_of_ble_eq_true rfl) (Nat.le_of_ble_eq_true rfl) rfl g0 g1 me_144 (by decide) rfl
theorem b225_62 {h : zi_Hp} {a0 : Nat} {x1 : Int32} {x2 : Int32} {s0 : Int32} (g0 : a0 < zh_n h) (g1 : (zh_k h a0).1 = 8) : zv 2 225 62 [.ref a0, .int x1, .int x2] [.int s0] h = (zv 1 144 0 [.ref a0, .int x2, .int 2] [] h).bind fun r => zv 2 225 68 [.ref a0, .int x1, .int x2] (r.1.toList ++ [.int s0]) r.2 := by
  refine Eq.trans (zv_next f225_62 rfl) ?_
  refine Eq.trans (zv_next f225_63 rfl) ?_
  refine Eq.trans (zs_ic f225_64 ic_2) ?_
  exact zs_callV f225_65 (Nat.le_of_ble_eq_true rfl) (Nat.le_of_ble_eq_true rfl) rfl g0 g1 me_144 (by decide) rfl
theorem b225_68 {h : zi_Hp} {a0 : Nat} {x1 : Int32} {x2 : Int32} {s0 : Int32} {s1 : Int32}  : zv 2 225 68 [.ref a0, .int x1, .int x2] [.int s1, .int s0] h = if s1 < s0 then zv 2 225 75 [.ref a0, .int x1, .int x2] [] h else zv 2 225 71 [.ref a0, .int x1, .int x2] [] h := by
  exact zs_icmp f225_68 rfl
theorem b225_71 {h : zi_Hp} {a0 : Nat} {x1 : Int32} {x2 : Int32}  : zv 2 225 71 [.ref a0, .int x1, .int x2] [] h = zv 2 225 76 [.ref a0, .int x1, .int x2] [.int 1] h := by
  refine Eq.trans (zs_ic f225_71 ic_1) ?_
  refine Eq.trans (zs_goto (tgt := 76) f225_72 rfl) ?_
  rfl
theorem b225_75 {h : zi_Hp} {a0 : Nat} {x1 : Int32} {x2 : Int32}  : zv 2 225 75 [.ref a0, .int x1, .int x2] [] h = zv 2 225 76 [.ref a0, .int x1, .int x2] [.int 0] h := by
  refine Eq.trans (zs_ic f225_75 ic_0) ?_
  rfl
theorem b225_76 {h : zi_Hp} {a0 : Nat} {x1 : Int32} {x2 : Int32} {s0 : Int32}  : zv 2 225 76 [.ref a0, .int x1, .int x2] [.int s0] h = zv 2 225 77 [.ref a0, .int s0, .int x2] [] h := by
  refine Eq.trans (zv_next f225_76 rfl) ?_
  rfl
theorem b225_77 {h : zi_Hp} {a0 : Nat} {x1 : Int32} {x2 : Int32}  : zv 2 225 77 [.ref a0, .int x1, .int x2] [] h = zv 2 225 4 [.ref a0, .int x1, .int (x2 + 1)] [] h := by
  refine Eq.trans (zs_inc f225_77 rfl ic_1 rfl) ?_
  refine Eq.trans (zs_goto (tgt := 4) f225_80 rfl) ?_
  rfl
theorem b225_83 {h : zi_Hp} {a0 : Nat} {x1 : Int32} {x2 : Int32} (g0 : x1 = 0 ∨ x1 = 1) : zv 2 225 83 [.ref a0, .int x1, .int x2] [] h = some (some (.int x1), h) := by
  refine Eq.trans (zv_next f225_83 rfl) ?_
  exact zs_ret1 f225_84 g0
set_option maxRecDepth 20000 in
theorem zq226 : zi_M[226]? = some zi_m226 := rfl
theorem zl226_0 {pc : Nat} (_ : 0 ≤ pc) : zi_fe 226 pc = zu226_0.lookup pc := zi_feA zq226 pc
theorem f226_0 : zi_fe 226 0 = some ((.iconst 1), 1, 0, 0, 0, 0, 0) := (zl226_0 (Nat.le_of_ble_eq_true rfl)).trans rfl
theorem f226_1 : zi_fe 226 1 = some ((.istore_n 2), 1, 0, 0, 0, 0, 0) := (zl226_0 (Nat.le_of_ble_eq_true rfl)).trans rfl
theorem f226_2 : zi_fe 226 2 = some ((.iconst 0), 1, 0, 0, 0, 0, 0) := (zl226_0 (Nat.le_of_ble_eq_true rfl)).trans rfl
theorem f226_3 : zi_fe 226 3 = some ((.istore_n 3), 1, 0, 0, 0, 0, 0) := (zl226_0 (Nat.le_of_ble_eq_true rfl)).trans rfl
theorem f226_4 : zi_fe 226 4 = some ((.iload_n 3), 1, 0, 0, 0, 0, 0) := (zl226_0 (Nat.le_of_ble_eq_true rfl)).trans rfl
theorem f226_5 : zi_fe 226 5 = some ((.aload_n 0), 1, 0, 0, 0, 0, 0) := (zl226_0 (Nat.le_of_ble_eq_true rfl)).trans rfl
theorem f226_6 : zi_fe 226 6 = some ((.getfield 7), 3, 8, 0, 3, 1065, 0) := (zl226_0 (Nat.le_of_ble_eq_true rfl)).trans rfl
theorem f226_9 : zi_fe 226 9 = some ((.sipush 312), 3, 0, 0, 0, 0, 0) := (zl226_0 (Nat.le_of_ble_eq_true rfl)).trans rfl
theorem f226_12 : zi_fe 226 12 = some (.iaload, 1, 0, 0, 0, 0, 0) := (zl226_0 (Nat.le_of_ble_eq_true rfl)).trans rfl
theorem f226_13 : zi_fe 226 13 = some ((.if_icmp .ge 83), 3, 0, 0, 0, 0, 0) := (zl226_0 (Nat.le_of_ble_eq_true rfl)).trans rfl
theorem f226_16 : zi_fe 226 16 = some ((.aload_n 0), 1, 0, 0, 0, 0, 0) := (zl226_0 (Nat.le_of_ble_eq_true rfl)).trans rfl
theorem f226_17 : zi_fe 226 17 = some ((.iload_n 3), 1, 0, 0, 0, 0, 0) := (zl226_0 (Nat.le_of_ble_eq_true rfl)).trans rfl
theorem zl226_1 {pc : Nat} (h : 18 ≤ pc) : zi_fe 226 pc = zu226_1.lookup pc := (zl226_0 (Nat.le_trans (Nat.le_of_ble_eq_true rfl) h)).trans (zi_lkA (a := zi_i226_0) (c := 18) rfl h)
theorem f226_18 : zi_fe 226 18 = some ((.iconst 3), 1, 0, 0, 0, 0, 0) := (zl226_1 (Nat.le_of_ble_eq_true rfl)).trans rfl
theorem f226_19 : zi_fe 226 19 = some ((.invokevirtual 87), 3, 144, 0, 8, 1261, 3) := (zl226_1 (Nat.le_of_ble_eq_true rfl)).trans rfl
theorem f226_22 : zi_fe 226 22 = some ((.istore 4), 2, 0, 0, 0, 0, 0) := (zl226_1 (Nat.le_of_ble_eq_true rfl)).trans rfl
theorem f226_24 : zi_fe 226 24 = some ((.iload 4), 2, 0, 0, 0, 0, 0) := (zl226_1 (Nat.le_of_ble_eq_true rfl)).trans rfl
theorem f226_26 : zi_fe 226 26 = some ((.bipush (-4)), 2, 0, 0, 0, 0, 0) := (zl226_1 (Nat.le_of_ble_eq_true rfl)).trans rfl
theorem f226_28 : zi_fe 226 28 = some ((.if_icmp .eq 62), 3, 0, 0, 0, 0, 0) := (zl226_1 (Nat.le_of_ble_eq_true rfl)).trans rfl
theorem f226_31 : zi_fe 226 31 = some ((.iload_n 2), 1, 0, 0, 0, 0, 0) := (zl226_1 (Nat.le_of_ble_eq_true rfl)).trans rfl
theorem f226_32 : zi_fe 226 32 = some ((.ifCond .eq 56), 3, 0, 0, 0, 0, 0) := (zl226_1 (Nat.le_of_ble_eq_true rfl)).trans rfl
theorem f226_35 : zi_fe 226 35 = some ((.iload_n 1), 1, 0, 0, 0, 0, 0) := (zl226_1 (Nat.le_of_ble_eq_true rfl)).trans rfl
theorem f226_36 : zi_fe 226 36 = some ((.ifCond .eq 22), 3, 0, 0, 0, 0, 0) := (zl226_1 (Nat.le_of_ble_eq_true rfl)).trans rfl
theorem f226_39 : zi_fe 226 39 = some ((.aload_n 0), 1, 0, 0, 0, 0, 0) := (zl226_1 (Nat.le_of_ble_eq_true rfl)).trans rfl
theorem f226_40 : zi_fe 226 40 = some ((.iload_n 3), 1, 0, 0, 0, 0, 0) := (zl226_1 (Nat.le_of_ble_eq_true rfl)).trans rfl
theorem zl226_2 {pc : Nat} (h : 41 ≤ pc) : zi_fe 226 pc = zu226_2.lookup pc := (zl226_1 (Nat.le_trans (Nat.le_of_ble_eq_true rfl) h)).trans (zi_lkA (a := zi_i226_1) (c := 41) rfl h)
theorem f226_41 : zi_fe 226 41 = some ((.iconst 0), 1, 0, 0, 0, 0, 0) := (zl226_2 (Nat.le_of_ble_eq_true rfl)).trans rfl
theorem f226_42 : zi_fe 226 42 = some ((.invokevirtual 87), 3, 144, 0, 8, 1261, 3) := (zl226_2 (Nat.le_of_ble_eq_true rfl)).trans rfl
theorem f226_45 : zi_fe 226 45 = some ((.aload_n 0), 1, 0, 0, 0, 0, 0) := (zl226_2 (Nat.le_of_ble_eq_true rfl)).trans rfl
theorem f226_46 : zi_fe 226 46 = some ((.iload 4), 2, 0, 0, 0, 0, 0) := (zl226_2 (Nat.le_of_ble_eq_true rfl)).trans rfl
theorem f226_48 : zi_fe 226 48 = some ((.iconst 0), 1, 0, 0, 0, 0, 0) := (zl226_2 (Nat.le_of_ble_eq_true rfl)).trans rfl
theorem f226_49 : zi_fe 226 49 = some ((.invokevirtual 87), 3, 144, 0, 8, 1261, 3) := (zl226_2 (Nat.le_of_ble_eq_true rfl)).trans rfl
theorem f226_52 : zi_fe 226 52 = some ((.if_icmp .ne 36), 3, 0, 0, 0, 0, 0) := (zl226_2 (Nat.le_of_ble_eq_true rfl)).trans rfl
theorem f226_55 : zi_fe 226 55 = some ((.goto 29), 3, 0, 0, 0, 0, 0) := (zl226_2 (Nat.le_of_ble_eq_true rfl)).trans rfl
theorem f226_58 : zi_fe 226 58 = some ((.aload_n 0), 1, 0, 0, 0, 0, 0) := (zl226_2 (Nat.le_of_ble_eq_true rfl)).trans rfl
theorem f226_59 : zi_fe 226 59 = some ((.iload_n 3), 1, 0, 0, 0, 0, 0) := (zl226_2 (Nat.le_of_ble_eq_true rfl)).trans rfl
theorem f226_60 : zi_fe 226 60 = some ((.iconst 4), 1, 0, 0, 0, 0, 0) := (zl226_2 (Nat.le_of_ble_eq_true rfl)).trans rfl
theorem f226_61 : zi_fe 226 61 = some ((.invokevirtual 87), 3, 144, 0, 8, 1261, 3) := (zl226_2 (Nat.le_of_ble_eq_true rfl)).trans rfl
theorem zl226_3 {pc : Nat} (h : 64 ≤ pc) : zi_fe 226 pc = zu226_3.lookup pc := (zl226_2 (Nat.le_trans (Nat.le_of_ble_eq_true rfl) h)).trans (zi_lkA (a := zi_i226_2) (c := 64) rfl h)
theorem f226_64 : zi_fe 226 64 = some ((.iconst 1), 1, 0, 0, 0, 0, 0) := (zl226_3 (Nat.le_of_ble_eq_true rfl)).trans rfl
theorem f226_65 : zi_fe 226 65 = some ((.if_icmp .eq 19), 3, 0, 0, 0, 0, 0) := (zl226_3 (Nat.le_of_ble_eq_true rfl)).trans rfl
theorem f226_68 : zi_fe 226 68 = some ((.aload_n 0), 1, 0, 0, 0, 0, 0) := (zl226_3 (Nat.le_of_ble_eq_true rfl)).trans rfl
theorem f226_69 : zi_fe 226 69 = some ((.iload_n 3), 1, 0, 0, 0, 0, 0) := (zl226_3 (Nat.le_of_ble_eq_true rfl)).trans rfl
theorem f226_70 : zi_fe 226 70 = some ((.iconst 2), 1, 0, 0, 0, 0, 0) := (zl226_3 (Nat.le_of_ble_eq_true rfl)).trans rfl
theorem f226_71 : zi_fe 226 71 = some ((.invokevirtual 87), 3, 144, 0, 8, 1261, 3) := (zl226_3 (Nat.le_of_ble_eq_true rfl)).trans rfl
theorem f226_74 : zi_fe 226 74 = some ((.aload_n 0), 1, 0, 0, 0, 0, 0) := (zl226_3 (Nat.le_of_ble_eq_true rfl)).trans rfl
theorem f226_75 : zi_fe 226 75 = some ((.iload 4), 2, 0, 0, 0, 0, 0) := (zl226_3 (Nat.le_of_ble_eq_true rfl)).trans rfl
theorem f226_77 : zi_fe 226 77 = some ((.iconst 2), 1, 0, 0, 0, 0, 0) := (zl226_3 (Nat.le_of_ble_eq_true rfl)).trans rfl
theorem f226_78 : zi_fe 226 78 = some ((.invokevirtual 87), 3, 144, 0, 8, 1261, 3) := (zl226_3 (Nat.le_of_ble_eq_true rfl)).trans rfl
theorem f226_81 : zi_fe 226 81 = some ((.if_icmp .ge 7), 3, 0, 0, 0, 0, 0) := (zl226_3 (Nat.le_of_ble_eq_true rfl)).trans rfl
theorem f226_84 : zi_fe 226 84 = some ((.iconst 1), 1, 0, 0, 0, 0, 0) := (zl226_3 (Nat.le_of_ble_eq_true rfl)).trans rfl
theorem zl226_4 {pc : Nat} (h : 85 ≤ pc) : zi_fe 226 pc = zu226_4.lookup pc := (zl226_3 (Nat.le_trans (Nat.le_of_ble_eq_true rfl) h)).trans (zi_lkA (a := zi_i226_3) (c := 85) rfl h)
theorem f226_85 : zi_fe 226 85 = some ((.goto 4), 3, 0, 0, 0, 0, 0) := (zl226_4 (Nat.le_of_ble_eq_true rfl)).trans rfl
theorem f226_88 : zi_fe 226 88 = some ((.iconst 0), 1, 0, 0, 0, 0, 0) := (zl226_4 (Nat.le_of_ble_eq_true rfl)).trans rfl
theorem f226_89 : zi_fe 226 89 = some ((.istore_n 2), 1, 0, 0, 0, 0, 0) := (zl226_4 (Nat.le_of_ble_eq_true rfl)).trans rfl
theorem f226_90 : zi_fe 226 90 = some ((.iinc 3 1), 3, 0, 0, 0, 0, 0) := (zl226_4 (Nat.le_of_ble_eq_true rfl)).trans rfl
theorem f226_93 : zi_fe 226 93 = some ((.goto (-89)), 3, 0, 0, 0, 0, 0) := (zl226_4 (Nat.le_of_ble_eq_true rfl)).trans rfl
theorem f226_96 : zi_fe 226 96 = some ((.iload_n 2), 1, 0, 0, 0, 0, 0) := (zl226_4 (Nat.le_of_ble_eq_true rfl)).trans rfl
theorem f226_97 : zi_fe 226 97 = some (.ireturn, 1, 1, 0, 0, 0, 0) := (zl226_4 (Nat.le_of_ble_eq_true rfl)).trans rfl
theorem b226_0 {h : zi_Hp} {a0 : Nat} {x1 : Int32} {u2 : Value} {u3 : Value} {u4 : Value}  : zv 2 226 0 [.ref a0, .int x1, u2, u3, u4] [] h = zv 2 226 4 [.ref a0, .int x1, .int 1, .int 0, u4] [] h := by
  refine Eq.trans (zs_ic f226_0 ic_1) ?_
  refine Eq.trans (zv_next f226_1 rfl) ?_
  refine Eq.trans (zs_ic f226_2 ic_0) ?_
  refine Eq.trans (zv_next f226_3 rfl) ?_
  rfl
theorem b226_4 {h : zi_Hp} {a0 : Nat} {x1 : Int32} {x2 : Int32} {x3 : Int32} {u4 : Value} (g0 : a0 < zh_n h) (g1 : (zh_k h a0).1 = 8) (g2 : zh_r h a0 0 = .ref (zq (zh_r h a0 0))) (g3 : (zq (zh_r h a0 0)) < zh_n h) (g4 : 312 < (zh_k h (zq (zh_r h a0 0))).2) (g5 : (zh_k h (zq (zh_r h a0 0))).1 = 100) : zv 2 226 4 [.ref a0, .int x1, .int x2, .int x3, u4] [] h = if x3 < (zh_i h (zq (zh_r h a0 0)) 312) then zv 2 226 16 [.ref a0, .int x1, .int x2, .int x3, u4] [] h else zv 2 226 96 [.ref a0, .int x1, .int x2, .int x3, u4] [] h := by
  refine Eq.trans (zv_next f226_4 rfl) ?_
  refine Eq.trans (zv_next f226_5 rfl) ?_
  refine Eq.trans (zs_getr f226_6 g0 g1 g2) ?_
  refine Eq.trans (zs_sp f226_9 sp_312) ?_
  refine Eq.trans (zs_iald f226_12 g3 g5 (zj_lit (by decide) g4)) ?_
  exact zs_icmp f226_13 rfl
theorem b226_16 {h : zi_Hp} {a0 : Nat} {x1 : Int32} {x2 : Int32} {x3 : Int32} {u4 : Value} (g0 : a0 < zh_n h) (g1 : (zh_k h a0).1 = 8) : zv 2 226 16 [.ref a0, .int x1, .int x2, .int x3, u4] [] h = (zv 1 144 0 [.ref a0, .int x3, .int 3] [] h).bind fun r => zv 2 226 22 [.ref a0, .int x1, .int x2, .int x3, u4] (r.1.toList ++ []) r.2 := by
  refine Eq.trans (zv_next f226_16 rfl) ?_
  refine Eq.trans (zv_next f226_17 rfl) ?_
  refine Eq.trans (zs_ic f226_18 ic_3) ?_
  exact zs_callV f226_19 (Nat.le_of_ble_eq_true rfl) (Nat.le_of_ble_eq_true rfl) rfl g0 g1 me_144 (by decide) rfl
theorem b226_22 {h : zi_Hp} {a0 : Nat} {x1 : Int32} {x2 : Int32} {x3 : Int32} {u4 : Value} {s0 : Int32}  : zv 2 226 22 [.ref a0, .int x1, .int x2, .int x3, u4] [.int s0] h = if s0 = (-4) then zv 2 226 90 [.ref a0, .int x1, .int x2, .int x3, .int s0] [] h else zv 2 226 31 [.ref a0, .int x1, .int x2, .int x3, .int s0] [] h := by
  refine Eq.trans (zv_next f226_22 rfl) ?_
  refine Eq.trans (zv_next f226_24 rfl) ?_
  refine Eq.trans (zs_bp f226_26 bp_m4) ?_
  exact zs_icmp f226_28 rfl
theorem b226_31 {h : zi_Hp} {a0 : Nat} {x1 : Int32} {x2 : Int32} {x3 : Int32} {x4 : Int32}  : zv 2 226 31 [.ref a0, .int x1, .int x2, .int x3, .int x4] [] h = if x2 = 0 then zv 2 226 88 [.ref a0, .int x1, .int x2, .int x3, .int x4] [] h else zv 2 226 35 [.ref a0, .int x1, .int x2, .int x3, .int x4] [] h := by
  refine Eq.trans (zv_next f226_31 rfl) ?_
  exact zs_if f226_32 rfl
theorem b226_35 {h : zi_Hp} {a0 : Nat} {x1 : Int32} {x2 : Int32} {x3 : Int32} {x4 : Int32}  : zv 2 226 35 [.ref a0, .int x1, .int x2, .int x3, .int x4] [] h = if x1 = 0 then zv 2 226 58 [.ref a0, .int x1, .int x2, .int x3, .int x4] [] h else zv 2 226 39 [.ref a0, .int x1, .int x2, .int x3, .int x4] [] h := by
  refine Eq.trans (zv_next f226_35 rfl) ?_
  exact zs_if f226_36 rfl
theorem b226_39 {h : zi_Hp} {a0 : Nat} {x1 : Int32} {x2 : Int32} {x3 : Int32} {x4 : Int32} (g0 : a0 < zh_n h) (g1 : (zh_k h a0).1 = 8) : zv 2 226 39 [.ref a0, .int x1, .int x2, .int x3, .int x4] [] h = (zv 1 144 0 [.ref a0, .int x3, .int 0] [] h).bind fun r => zv 2 226 45 [.ref a0, .int x1, .int x2, .int x3, .int x4] (r.1.toList ++ []) r.2 := by
  refine Eq.trans (zv_next f226_39 rfl) ?_
  refine Eq.trans (zv_next f226_40 rfl) ?_
  refine Eq.trans (zs_ic f226_41 ic_0) ?_
  exact zs_callV f226_42 (Nat.le_of_ble_eq_true rfl) (Nat.le_of_ble_eq_true rfl) rfl g0 g1 me_144 (by decide) rfl
theorem b226_45 {h : zi_Hp} {a0 : Nat} {x1 : Int32} {x2 : Int32} {x3 : Int32} {x4 : Int32} {s0 : Int32} (g0 : a0 < zh_n h) (g1 : (zh_k h a0).1 = 8) : zv 2 226 45 [.ref a0, .int x1, .int x2, .int x3, .int x4] [.int s0] h = (zv 1 144 0 [.ref a0, .int x4, .int 0] [] h).bind fun r => zv 2 226 52 [.ref a0, .int x1, .int x2, .int x3, .int x4] (r.1.toList ++ [.int s0]) r.2 := by
  refine Eq.trans (zv_next f226_45 rfl) ?_
  refine Eq.trans (zv_next f226_46 rfl) ?_
  refine Eq.trans (zs_ic f226_48 ic_0) ?_
  exact zs_callV f226_49 (Nat.le_of_ble_eq_true rfl) (Nat.le_of_ble_eq_true rfl) rfl g0 g1 me_144 (by decide) rfl
theorem b226_52 {h : zi_Hp} {a0 : Nat} {x1 : Int32} {x2 : Int32} {x3 : Int32} {x4 : Int32} {s0 : Int32} {s1 : Int32}  : zv 2 226 52 [.ref a0, .int x1, .int x2, .int x3, .int x4] [.int s1, .int s0] h = if s0 = s1 then zv 2 226 55 [.ref a0, .int x1, .int x2, .int x3, .int x4] [] h else zv 2 226 88 [.ref a0, .int x1, .int x2, .int x3, .int x4] [] h := by
  exact zs_icmp f226_52 rfl
theorem b226_55 {h : zi_Hp} {a0 : Nat} {x1 : Int32} {x2 : Int32} {x3 : Int32} {x4 : Int32}  : zv 2 226 55 [.ref a0, .int x1, .int x2, .int x3, .int x4] [] h = zv 2 226 84 [.ref a0, .int x1, .int x2, .int x3, .int x4] [] h := by
  refine Eq.trans (zs_goto (tgt := 84) f226_55 rfl) ?_
  rfl
theorem b226_58 {h : zi_Hp} {a0 : Nat} {x1 : Int32} {x2 : Int32} {x3 : Int32} {x4 : Int32} (g0 : a0 < zh_n h) (g1 : (zh_k h a0).1 = 8) : zv 2 226 58 [.ref a0, .int x1, .int x2, .int x3, .int x4] [] h = (zv 1 144 0 [.ref a0, .int x3, .int 4] [] h).bind fun r => zv 2 226 64 [.ref a0, .int x1, .int x2, .int x3, .int x4] (r.1.toList ++ []) r.2 := by
  refine Eq.trans (zv_next f226_58 rfl) ?_
  refine Eq.trans (zv_next f226_59 rfl) ?_
  refine Eq.trans (zs_ic f226_60 ic_4) ?_
  exact zs_callV f226_61 (Nat.le_of_ble_eq_true rfl) (Nat.le_of_ble_eq_true rfl) rfl g0 g1 me_144 (by decide) rfl
theorem b226_64 {h : zi_Hp} {a0 : Nat} {x1 : Int32} {x2 : Int32} {x3 : Int32} {x4 : Int32} {s0 : Int32}  : zv 2 226 64 [.ref a0, .int x1, .int x2, .int x3, .int x4] [.int s0] h = if s0 = 1 then zv 2 226 84 [.ref a0, .int x1, .int x2, .int x3, .int x4] [] h else zv 2 226 68 [.ref a0, .int x1, .int x2, .int x3, .int x4] [] h := by
  refine Eq.trans (zs_ic f226_64 ic_1) ?_
  exact zs_icmp f226_65 rfl
theorem b226_68 {h : zi_Hp} {a0 : Nat} {x1 : Int32} {x2 : Int32} {x3 : Int32} {x4 : Int32} (g0 : a0 < zh_n h) (g1 : (zh_k h a0).1 = 8) : zv 2 226 68 [.ref a0, .int x1, .int x2, .int x3, .int x4] [] h = (zv 1 144 0 [.ref a0, .int x3, .int 2] [] h).bind fun r => zv 2 226 74 [.ref a0, .int x1, .int x2, .int x3, .int x4] (r.1.toList ++ []) r.2 := by
  refine Eq.trans (zv_next f226_68 rfl) ?_
  refine Eq.trans (zv_next f226_69 rfl) ?_
  refine Eq.trans (zs_ic f226_70 ic_2) ?_
  exact zs_callV f226_71 (Nat.le_of_ble_eq_true rfl) (Nat.le_of_ble_eq_true rfl) rfl g0 g1 me_144 (by decide) rfl
theorem b226_74 {h : zi_Hp} {a0 : Nat} {x1 : Int32} {x2 : Int32} {x3 : Int32} {x4 : Int32} {s0 : Int32} (g0 : a0 < zh_n h) (g1 : (zh_k h a0).1 = 8) : zv 2 226 74 [.ref a0, .int x1, .int x2, .int x3, .int x4] [.int s0] h = (zv 1 144 0 [.ref a0, .int x4, .int 2] [] h).bind fun r => zv 2 226 81 [.ref a0, .int x1, .int x2, .int x3, .int x4] (r.1.toList ++ [.int s0]) r.2 := by
  refine Eq.trans (zv_next f226_74 rfl) ?_
  refine Eq.trans (zv_next f226_75 rfl) ?_
  refine Eq.trans (zs_ic f226_77 ic_2) ?_
  exact zs_callV f226_78 (Nat.le_of_ble_eq_true rfl) (Nat.le_of_ble_eq_true rfl) rfl g0 g1 me_144 (by decide) rfl
theorem b226_81 {h : zi_Hp} {a0 : Nat} {x1 : Int32} {x2 : Int32} {x3 : Int32} {x4 : Int32} {s0 : Int32} {s1 : Int32}  : zv 2 226 81 [.ref a0, .int x1, .int x2, .int x3, .int x4] [.int s1, .int s0] h = if s0 < s1 then zv 2 226 84 [.ref a0, .int x1, .int x2, .int x3, .int x4] [] h else zv 2 226 88 [.ref a0, .int x1, .int x2, .int x3, .int x4] [] h := by
  exact zs_icmp f226_81 rfl
theorem b226_84 {h : zi_Hp} {a0 : Nat} {x1 : Int32} {x2 : Int32} {x3 : Int32} {x4 : Int32}  : zv 2 226 84 [.ref a0, .int x1, .int x2, .int x3, .int x4] [] h = zv 2 226 89 [.ref a0, .int x1, .int x2, .int x3, .int x4] [.int 1] h := by
  refine Eq.trans (zs_ic f226_84 ic_1) ?_
  refine Eq.trans (zs_goto (tgt := 89) f226_85 rfl) ?_
  rfl
theorem b226_88 {h : zi_Hp} {a0 : Nat} {x1 : Int32} {x2 : Int32} {x3 : Int32} {x4 : Int32}  : zv 2 226 88 [.ref a0, .int x1, .int x2, .int x3, .int x4] [] h = zv 2 226 89 [.ref a0, .int x1, .int x2, .int x3, .int x4] [.int 0] h := by
  refine Eq.trans (zs_ic f226_88 ic_0) ?_
  rfl
theorem b226_89 {h : zi_Hp} {a0 : Nat} {x1 : Int32} {x2 : Int32} {x3 : Int32} {x4 : Int32} {s0 : Int32}  : zv 2 226 89 [.ref a0, .int x1, .int x2, .int x3, .int x4] [.int s0] h = zv 2 226 90 [.ref a0, .int x1, .int s0, .int x3, .int x4] [] h := by
  refine Eq.trans (zv_next f226_89 rfl) ?_
  rfl
theorem b226_90 {h : zi_Hp} {a0 : Nat} {x1 : Int32} {x2 : Int32} {x3 : Int32} {x4 : Int32}  : zv 2 226 90 [.ref a0, .int x1, .int x2, .int x3, .int x4] [] h = zv 2 226 4 [.ref a0, .int x1, .int x2, .int (x3 + 1), .int x4] [] h := by
  refine Eq.trans (zs_inc f226_90 rfl ic_1 rfl) ?_
  refine Eq.trans (zs_goto (tgt := 4) f226_93 rfl) ?_
  rfl
theorem b226_96 {h : zi_Hp} {a0 : Nat} {x1 : Int32} {x2 : Int32} {x3 : Int32} {u4 : Value} (g0 : x2 = 0 ∨ x2 = 1) : zv 2 226 96 [.ref a0, .int x1, .int x2, .int x3, u4] [] h = some (some (.int x2), h) := by
  refine Eq.trans (zv_next f226_96 rfl) ?_
  exact zs_ret1 f226_97 g0
set_option maxRecDepth 20000 in
theorem zq227 : zi_M[227]? = some zi_m227 := rfl
theorem zl227_0 {pc : Nat} (_ : 0 ≤ pc) : zi_fe 227 pc = zu227_0.lookup pc := zi_feA zq227 pc
theorem f227_0 : zi_fe 227 0 = some ((.iconst 1), 1, 0, 0, 0, 0, 0) := (zl227_0 (Nat.le_of_ble_eq_true rfl)).trans rfl
theorem f227_1 : zi_fe 227 1 = some ((.istore_n 1), 1, 0, 0, 0, 0, 0) := (zl227_0 (Nat.le_of_ble_eq_true rfl)).trans rfl
theorem f227_2 : zi_fe 227 2 = some ((.iconst 0), 1, 0, 0, 0, 0, 0) := (zl227_0 (Nat.le_of_ble_eq_true rfl)).trans rfl
theorem f227_3 : zi_fe 227 3 = some ((.istore_n 2), 1, 0, 0, 0, 0, 0) := (zl227_0 (Nat.le_of_ble_eq_true rfl)).trans rfl
theorem f227_4 : zi_fe 227 4 = some ((.iload_n 2), 1, 0, 0, 0, 0, 0) := (zl227_0 (Nat.le_of_ble_eq_true rfl)).trans rfl
theorem f227_5 : zi_fe 227 5 = some ((.iconst 3), 1, 0, 0, 0, 0, 0) := (zl227_0 (Nat.le_of_ble_eq_true rfl)).trans rfl
theorem f227_6 : zi_fe 227 6 = some ((.if_icmp .ge 63), 3, 0, 0, 0, 0, 0) := (zl227_0 (Nat.le_of_ble_eq_true rfl)).trans rfl
theorem f227_9 : zi_fe 227 9 = some ((.aload_n 0), 1, 0, 0, 0, 0, 0) := (zl227_0 (Nat.le_of_ble_eq_true rfl)).trans rfl
theorem f227_10 : zi_fe 227 10 = some ((.iload_n 2), 1, 0, 0, 0, 0, 0) := (zl227_0 (Nat.le_of_ble_eq_true rfl)).trans rfl
theorem f227_11 : zi_fe 227 11 = some ((.iconst 0), 1, 0, 0, 0, 0, 0) := (zl227_0 (Nat.le_of_ble_eq_true rfl)).trans rfl
theorem f227_12 : zi_fe 227 12 = some ((.invokevirtual 83), 3, 146, 0, 8, 1276, 3) := (zl227_0 (Nat.le_of_ble_eq_true rfl)).trans rfl
theorem f227_15 : zi_fe 227 15 = some ((.iconst 2), 1, 0, 0, 0, 0, 0) := (zl227_0 (Nat.le_of_ble_eq_true rfl)).trans rfl
theorem zl227_1 {pc : Nat} (h : 16 ≤ pc) : zi_fe 227 pc = zu227_1.lookup pc := (zl227_0 (Nat.le_trans (Nat.le_of_ble_eq_true rfl) h)).trans (zi_lkA (a := zi_i227_0) (c := 16) rfl h)
theorem f227_16 : zi_fe 227 16 = some ((.if_icmp .eq 13), 3, 0, 0, 0, 0, 0) := (zl227_1 (Nat.le_of_ble_eq_true rfl)).trans rfl
theorem f227_19 : zi_fe 227 19 = some ((.aload_n 0), 1, 0, 0, 0, 0, 0) := (zl227_1 (Nat.le_of_ble_eq_true rfl)).trans rfl
theorem f227_20 : zi_fe 227 20 = some ((.iload_n 2), 1, 0, 0, 0, 0, 0) := (zl227_1 (Nat.le_of_ble_eq_true rfl)).trans rfl
theorem f227_21 : zi_fe 227 21 = some ((.iconst 0), 1, 0, 0, 0, 0, 0) := (zl227_1 (Nat.le_of_ble_eq_true rfl)).trans rfl
theorem f227_22 : zi_fe 227 22 = some ((.invokevirtual 83), 3, 146, 0, 8, 1276, 3) := (zl227_1 (Nat.le_of_ble_eq_true rfl)).trans rfl
theorem f227_25 : zi_fe 227 25 = some ((.iconst 4), 1, 0, 0, 0, 0, 0) := (zl227_1 (Nat.le_of_ble_eq_true rfl)).trans rfl
theorem f227_26 : zi_fe 227 26 = some ((.if_icmp .ne 7), 3, 0, 0, 0, 0, 0) := (zl227_1 (Nat.le_of_ble_eq_true rfl)).trans rfl
theorem f227_29 : zi_fe 227 29 = some ((.iconst 1), 1, 0, 0, 0, 0, 0) := (zl227_1 (Nat.le_of_ble_eq_true rfl)).trans rfl
theorem f227_30 : zi_fe 227 30 = some ((.goto 4), 3, 0, 0, 0, 0, 0) := (zl227_1 (Nat.le_of_ble_eq_true rfl)).trans rfl
theorem f227_33 : zi_fe 227 33 = some ((.iconst 0), 1, 0, 0, 0, 0, 0) := (zl227_1 (Nat.le_of_ble_eq_true rfl)).trans rfl
theorem f227_34 : zi_fe 227 34 = some ((.istore_n 3), 1, 0, 0, 0, 0, 0) := (zl227_1 (Nat.le_of_ble_eq_true rfl)).trans rfl
theorem f227_35 : zi_fe 227 35 = some ((.iload_n 1), 1, 0, 0, 0, 0, 0) := (zl227_1 (Nat.le_of_ble_eq_true rfl)).trans rfl
theorem zl227_2 {pc : Nat} (h : 36 ≤ pc) : zi_fe 227 pc = zu227_2.lookup pc := (zl227_1 (Nat.le_trans (Nat.le_of_ble_eq_true rfl) h)).trans (zi_lkA (a := zi_i227_1) (c := 36) rfl h)
theorem f227_36 : zi_fe 227 36 = some ((.ifCond .eq 25), 3, 0, 0, 0, 0, 0) := (zl227_2 (Nat.le_of_ble_eq_true rfl)).trans rfl
theorem f227_39 : zi_fe 227 39 = some ((.iload_n 3), 1, 0, 0, 0, 0, 0) := (zl227_2 (Nat.le_of_ble_eq_true rfl)).trans rfl
theorem f227_40 : zi_fe 227 40 = some ((.ifCond .eq 17), 3, 0, 0, 0, 0, 0) := (zl227_2 (Nat.le_of_ble_eq_true rfl)).trans rfl
theorem f227_43 : zi_fe 227 43 = some ((.aload_n 0), 1, 0, 0, 0, 0, 0) := (zl227_2 (Nat.le_of_ble_eq_true rfl)).trans rfl
theorem f227_44 : zi_fe 227 44 = some ((.aload_n 0), 1, 0, 0, 0, 0, 0) := (zl227_2 (Nat.le_of_ble_eq_true rfl)).trans rfl
theorem f227_45 : zi_fe 227 45 = some ((.iload_n 2), 1, 0, 0, 0, 0, 0) := (zl227_2 (Nat.le_of_ble_eq_true rfl)).trans rfl
theorem f227_46 : zi_fe 227 46 = some ((.iconst 3), 1, 0, 0, 0, 0, 0) := (zl227_2 (Nat.le_of_ble_eq_true rfl)).trans rfl
theorem f227_47 : zi_fe 227 47 = some ((.invokevirtual 83), 3, 146, 0, 8, 1276, 3) := (zl227_2 (Nat.le_of_ble_eq_true rfl)).trans rfl
theorem f227_50 : zi_fe 227 50 = some ((.invokevirtual 122), 3, 149, 0, 8, 1287, 2) := (zl227_2 (Nat.le_of_ble_eq_true rfl)).trans rfl
theorem f227_53 : zi_fe 227 53 = some ((.iload_n 2), 1, 0, 0, 0, 0, 0) := (zl227_2 (Nat.le_of_ble_eq_true rfl)).trans rfl
theorem f227_54 : zi_fe 227 54 = some ((.if_icmp .ne 7), 3, 0, 0, 0, 0, 0) := (zl227_2 (Nat.le_of_ble_eq_true rfl)).trans rfl
theorem f227_57 : zi_fe 227 57 = some ((.iconst 1), 1, 0, 0, 0, 0, 0) := (zl227_2 (Nat.le_of_ble_eq_true rfl)).trans rfl
theorem zl227_3 {pc : Nat} (h : 58 ≤ pc) : zi_fe 227 pc = zu227_3.lookup pc := (zl227_2 (Nat.le_trans (Nat.le_of_ble_eq_true rfl) h)).trans (zi_lkA (a := zi_i227_2) (c := 58) rfl h)
theorem f227_58 : zi_fe 227 58 = some ((.goto 4), 3, 0, 0, 0, 0, 0) := (zl227_3 (Nat.le_of_ble_eq_true rfl)).trans rfl
theorem f227_61 : zi_fe 227 61 = some ((.iconst 0), 1, 0, 0, 0, 0, 0) := (zl227_3 (Nat.le_of_ble_eq_true rfl)).trans rfl
theorem f227_62 : zi_fe 227 62 = some ((.istore_n 1), 1, 0, 0, 0, 0, 0) := (zl227_3 (Nat.le_of_ble_eq_true rfl)).trans rfl
theorem f227_63 : zi_fe 227 63 = some ((.iinc 2 1), 3, 0, 0, 0, 0, 0) := (zl227_3 (Nat.le_of_ble_eq_true rfl)).trans rfl
theorem f227_66 : zi_fe 227 66 = some ((.goto (-62)), 3, 0, 0, 0, 0, 0) := (zl227_3 (Nat.le_of_ble_eq_true rfl)).trans rfl
theorem f227_69 : zi_fe 227 69 = some ((.iload_n 1), 1, 0, 0, 0, 0, 0) := (zl227_3 (Nat.le_of_ble_eq_true rfl)).trans rfl
theorem f227_70 : zi_fe 227 70 = some (.ireturn, 1, 1, 0, 0, 0, 0) := (zl227_3 (Nat.le_of_ble_eq_true rfl)).trans rfl
theorem b227_0 {h : zi_Hp} {a0 : Nat} {u1 : Value} {u2 : Value} {u3 : Value}  : zv 3 227 0 [.ref a0, u1, u2, u3] [] h = zv 3 227 4 [.ref a0, .int 1, .int 0, u3] [] h := by
  refine Eq.trans (zs_ic f227_0 ic_1) ?_
  refine Eq.trans (zv_next f227_1 rfl) ?_
  refine Eq.trans (zs_ic f227_2 ic_0) ?_
  refine Eq.trans (zv_next f227_3 rfl) ?_
  rfl
theorem b227_4 {h : zi_Hp} {a0 : Nat} {x1 : Int32} {x2 : Int32} {u3 : Value}  : zv 3 227 4 [.ref a0, .int x1, .int x2, u3] [] h = if x2 < 3 then zv 3 227 9 [.ref a0, .int x1, .int x2, u3] [] h else zv 3 227 69 [.ref a0, .int x1, .int x2, u3] [] h := by
  refine Eq.trans (zv_next f227_4 rfl) ?_
  refine Eq.trans (zs_ic f227_5 ic_3) ?_
  exact zs_icmp f227_6 rfl
theorem b227_9 {h : zi_Hp} {a0 : Nat} {x1 : Int32} {x2 : Int32} {u3 : Value} (g0 : a0 < zh_n h) (g1 : (zh_k h a0).1 = 8) : zv 3 227 9 [.ref a0, .int x1, .int x2, u3] [] h = (zv 1 146 0 [.ref a0, .int x2, .int 0] [] h).bind fun r => zv 3 227 15 [.ref a0, .int x1, .int x2, u3] (r.1.toList ++ []) r.2 := by
  refine Eq.trans (zv_next f227_9 rfl) ?_
  refine Eq.trans (zv_next f227_10 rfl) ?_
  refine Eq.trans (zs_ic f227_11 ic_0) ?_
  exact zs_callV f227_12 (Nat.le_of_ble_eq_true rfl) (Nat.le_of_ble_eq_true rfl) rfl g0 g1 me_146 (by decide) rfl
theorem b227_15 {h : zi_Hp} {a0 : Nat} {x1 : Int32} {x2 : Int32} {u3 : Value} {s0 : Int32}  : zv 3 227 15 [.ref a0, .int x1, .int x2, u3] [.int s0] h = if s0 = 2 then zv 3 227 29 [.ref a0, .int x1, .int x2, u3] [] h else zv 3 227 19 [.ref a0, .int x1, .int x2, u3] [] h := by
  refine Eq.trans (zs_ic f227_15 ic_2) ?_
  exact zs_icmp f227_16 rfl
theorem b227_19 {h : zi_Hp} {a0 : Nat} {x1 : Int32} {x2 : Int32} {u3 : Value} (g0 : a0 < zh_n h) (g1 : (zh_k h a0).1 = 8) : zv 3 227 19 [.ref a0, .int x1, .int x2, u3] [] h = (zv 1 146 0 [.ref a0, .int x2, .int 0] [] h).bind fun r => zv 3 227 25 [.ref a0, .int x1, .int x2, u3] (r.1.toList ++ []) r.2 := by
  refine Eq.trans (zv_next f227_19 rfl) ?_
  refine Eq.trans (zv_next f227_20 rfl) ?_
  refine Eq.trans (zs_ic f227_21 ic_0) ?_
  exact zs_callV f227_22 (Nat.le_of_ble_eq_true rfl) (Nat.le_of_ble_eq_true rfl) rfl g0 g1 me_146 (by decide) rfl
theorem b227_25 {h : zi_Hp} {a0 : Nat} {x1 : Int32} {x2 : Int32} {u3 : Value} {s0 : Int32}  : zv 3 227 25 [.ref a0, .int x1, .int x2, u3] [.int s0] h = if s0 = 4 then zv 3 227 29 [.ref a0, .int x1, .int x2, u3] [] h else zv 3 227 33 [.ref a0, .int x1, .int x2, u3] [] h := by
  refine Eq.trans (zs_ic f227_25 ic_4) ?_
  exact zs_icmp f227_26 rfl
theorem b227_29 {h : zi_Hp} {a0 : Nat} {x1 : Int32} {x2 : Int32} {u3 : Value}  : zv 3 227 29 [.ref a0, .int x1, .int x2, u3] [] h = zv 3 227 34 [.ref a0, .int x1, .int x2, u3] [.int 1] h := by
  refine Eq.trans (zs_ic f227_29 ic_1) ?_
  refine Eq.trans (zs_goto (tgt := 34) f227_30 rfl) ?_
  rfl
theorem b227_33 {h : zi_Hp} {a0 : Nat} {x1 : Int32} {x2 : Int32} {u3 : Value}  : zv 3 227 33 [.ref a0, .int x1, .int x2, u3] [] h = zv 3 227 34 [.ref a0, .int x1, .int x2, u3] [.int 0] h := by
  refine Eq.trans (zs_ic f227_33 ic_0) ?_
  rfl
theorem b227_34 {h : zi_Hp} {a0 : Nat} {x1 : Int32} {x2 : Int32} {u3 : Value} {s0 : Int32}  : zv 3 227 34 [.ref a0, .int x1, .int x2, u3] [.int s0] h = if x1 = 0 then zv 3 227 61 [.ref a0, .int x1, .int x2, .int s0] [] h else zv 3 227 39 [.ref a0, .int x1, .int x2, .int s0] [] h := by
  refine Eq.trans (zv_next f227_34 rfl) ?_
  refine Eq.trans (zv_next f227_35 rfl) ?_
  exact zs_if f227_36 rfl
theorem b227_39 {h : zi_Hp} {a0 : Nat} {x1 : Int32} {x2 : Int32} {x3 : Int32}  : zv 3 227 39 [.ref a0, .int x1, .int x2, .int x3] [] h = if x3 = 0 then zv 3 227 57 [.ref a0, .int x1, .int x2, .int x3] [] h else zv 3 227 43 [.ref a0, .int x1, .int x2, .int x3] [] h := by
  refine Eq.trans (zv_next f227_39 rfl) ?_
  exact zs_if f227_40 rfl
theorem b227_43 {h : zi_Hp} {a0 : Nat} {x1 : Int32} {x2 : Int32} {x3 : Int32} (g0 : a0 < zh_n h) (g1 : (zh_k h a0).1 = 8) : zv 3 227 43 [.ref a0, .int x1, .int x2, .int x3] [] h = (zv 1 146 0 [.ref a0, .int x2, .int 3] [] h).bind fun r => zv 3 227 50 [.ref a0, .int x1, .int x2, .int x3] (r.1.toList ++ [.ref a0]) r.2 := by
  refine Eq.trans (zv_next f227_43 rfl) ?_
  refine Eq.trans (zv_next f227_44 rfl) ?_
  refine Eq.trans (zv_next f227_45 rfl) ?_
  refine Eq.trans (zs_ic f227_46 ic_3) ?_
  exact zs_callV f227_47 (Nat.le_of_ble_eq_true rfl) (Nat.le_of_ble_eq_true rfl) rfl g0 g1 me_146 (by decide) rfl
theorem b227_50 {h : zi_Hp} {a0 : Nat} {x1 : Int32} {x2 : Int32} {x3 : Int32} {t0 : Nat} {s1 : Int32} (g0 : t0 < zh_n h) (g1 : (zh_k h t0).1 = 8) : zv 3 227 50 [.ref a0, .int x1, .int x2, .int x3] [.int s1, .ref t0] h = (zv 2 149 0 [.ref t0, .int s1, .double 0, .double 0, .double 0] [] h).bind fun r => zv 3 227 53 [.ref a0, .int x1, .int x2, .int x3] (r.1.toList ++ []) r.2 := by
  exact zs_callV f227_50 (Nat.le_of_ble_eq_true rfl) (Nat.le_of_ble_eq_true rfl) rfl g0 g1 me_149 (by decide) rfl
theorem b227_53 {h : zi_Hp} {a0 : Nat} {x1 : Int32} {x2 : Int32} {x3 : Int32} {s0 : Int32}  : zv 3 227 53 [.ref a0, .int x1, .int x2, .int x3] [.int s0] h = if s0 = x2 then zv 3 227 57 [.ref a0, .int x1, .int x2, .int x3] [] h else zv 3 227 61 [.ref a0, .int x1, .int x2, .int x3] [] h := by
  refine Eq.trans (zv_next f227_53 rfl) ?_
  exact zs_icmp f227_54 rfl
theorem b227_57 {h : zi_Hp} {a0 : Nat} {x1 : Int32} {x2 : Int32} {x3 : Int32}  : zv 3 227 57 [.ref a0, .int x1, .int x2, .int x3] [] h = zv 3 227 62 [.ref a0, .int x1, .int x2, .int x3] [.int 1] h := by
  refine Eq.trans (zs_ic f227_57 ic_1) ?_
  refine Eq.trans (zs_goto (tgt := 62) f227_58 rfl) ?_
  rfl
theorem b227_61 {h : zi_Hp} {a0 : Nat} {x1 : Int32} {x2 : Int32} {x3 : Int32}  : zv 3 227 61 [.ref a0, .int x1, .int x2, .int x3] [] h = zv 3 227 62 [.ref a0, .int x1, .int x2, .int x3] [.int 0] h := by
  refine Eq.trans (zs_ic f227_61 ic_0) ?_
  rfl
theorem b227_62 {h : zi_Hp} {a0 : Nat} {x1 : Int32} {x2 : Int32} {x3 : Int32} {s0 : Int32}  : zv 3 227 62 [.ref a0, .int x1, .int x2, .int x3] [.int s0] h = zv 3 227 4 [.ref a0, .int s0, .int (x2 + 1), .int x3] [] h := by
  refine Eq.trans (zv_next f227_62 rfl) ?_
  refine Eq.trans (zs_inc f227_63 rfl ic_1 rfl) ?_
  refine Eq.trans (zs_goto (tgt := 4) f227_66 rfl) ?_
  rfl
theorem b227_69 {h : zi_Hp} {a0 : Nat} {x1 : Int32} {x2 : Int32} {u3 : Value} (g0 : x1 = 0 ∨ x1 = 1) : zv 3 227 69 [.ref a0, .int x1, .int x2, u3] [] h = some (some (.int x1), h) := by
  refine Eq.trans (zv_next f227_69 rfl) ?_
  exact zs_ret1 f227_70 g0
set_option maxRecDepth 20000 in
theorem zq228 : zi_M[228]? = some zi_m228 := rfl
theorem zl228_0 {pc : Nat} (_ : 0 ≤ pc) : zi_fe 228 pc = zu228_0.lookup pc := zi_feA zq228 pc
theorem f228_0 : zi_fe 228 0 = some ((.aload_n 0), 1, 0, 0, 0, 0, 0) := (zl228_0 (Nat.le_of_ble_eq_true rfl)).trans rfl
theorem f228_1 : zi_fe 228 1 = some ((.getfield 7), 3, 8, 0, 3, 1065, 0) := (zl228_0 (Nat.le_of_ble_eq_true rfl)).trans rfl
theorem f228_4 : zi_fe 228 4 = some ((.sipush 313), 3, 0, 0, 0, 0, 0) := (zl228_0 (Nat.le_of_ble_eq_true rfl)).trans rfl
theorem f228_7 : zi_fe 228 7 = some (.iaload, 1, 0, 0, 0, 0, 0) := (zl228_0 (Nat.le_of_ble_eq_true rfl)).trans rfl
theorem f228_8 : zi_fe 228 8 = some ((.istore_n 2), 1, 0, 0, 0, 0, 0) := (zl228_0 (Nat.le_of_ble_eq_true rfl)).trans rfl
theorem f228_9 : zi_fe 228 9 = some ((.aload_n 0), 1, 0, 0, 0, 0, 0) := (zl228_0 (Nat.le_of_ble_eq_true rfl)).trans rfl
theorem f228_10 : zi_fe 228 10 = some ((.iload_n 2), 1, 0, 0, 0, 0, 0) := (zl228_0 (Nat.le_of_ble_eq_true rfl)).trans rfl
theorem f228_11 : zi_fe 228 11 = some ((.iconst 4), 1, 0, 0, 0, 0, 0) := (zl228_0 (Nat.le_of_ble_eq_true rfl)).trans rfl
theorem f228_12 : zi_fe 228 12 = some ((.invokevirtual 87), 3, 144, 0, 8, 1261, 3) := (zl228_0 (Nat.le_of_ble_eq_true rfl)).trans rfl
theorem f228_15 : zi_fe 228 15 = some ((.iconst 1), 1, 0, 0, 0, 0, 0) := (zl228_0 (Nat.le_of_ble_eq_true rfl)).trans rfl
theorem f228_16 : zi_fe 228 16 = some ((.if_icmp .eq 22), 3, 0, 0, 0, 0, 0) := (zl228_0 (Nat.le_of_ble_eq_true rfl)).trans rfl
theorem f228_19 : zi_fe 228 19 = some ((.iload_n 1), 1, 0, 0, 0, 0, 0) := (zl228_0 (Nat.le_of_ble_eq_true rfl)).trans rfl
theorem zl228_1 {pc : Nat} (h : 20 ≤ pc) : zi_fe 228 pc = zu228_1.lookup pc := (zl228_0 (Nat.le_trans (Nat.le_of_ble_eq_true rfl) h)).trans (zi_lkA (a := zi_i228_0) (c := 20) rfl h)
theorem f228_20 : zi_fe 228 20 = some ((.aload_n 0), 1, 0, 0, 0, 0, 0) := (zl228_1 (Nat.le_of_ble_eq_true rfl)).trans rfl
theorem f228_21 : zi_fe 228 21 = some ((.iload_n 2), 1, 0, 0, 0, 0, 0) := (zl228_1 (Nat.le_of_ble_eq_true rfl)).trans rfl
theorem f228_22 : zi_fe 228 22 = some ((.iconst 2), 1, 0, 0, 0, 0, 0) := (zl228_1 (Nat.le_of_ble_eq_true rfl)).trans rfl
theorem f228_23 : zi_fe 228 23 = some ((.invokevirtual 87), 3, 144, 0, 8, 1261, 3) := (zl228_1 (Nat.le_of_ble_eq_true rfl)).trans rfl
theorem f228_26 : zi_fe 228 26 = some ((.if_icmp .gt 12), 3, 0, 0, 0, 0, 0) := (zl228_1 (Nat.le_of_ble_eq_true rfl)).trans rfl
theorem f228_29 : zi_fe 228 29 = some ((.aload_n 0), 1, 0, 0, 0, 0, 0) := (zl228_1 (Nat.le_of_ble_eq_true rfl)).trans rfl
theorem f228_30 : zi_fe 228 30 = some ((.iload_n 2), 1, 0, 0, 0, 0, 0) := (zl228_1 (Nat.le_of_ble_eq_true rfl)).trans rfl
theorem f228_31 : zi_fe 228 31 = some ((.iconst 0), 1, 0, 0, 0, 0, 0) := (zl228_1 (Nat.le_of_ble_eq_true rfl)).trans rfl
theorem f228_32 : zi_fe 228 32 = some ((.invokevirtual 87), 3, 144, 0, 8, 1261, 3) := (zl228_1 (Nat.le_of_ble_eq_true rfl)).trans rfl
theorem f228_35 : zi_fe 228 35 = some ((.ifCond .le 50), 3, 0, 0, 0, 0, 0) := (zl228_1 (Nat.le_of_ble_eq_true rfl)).trans rfl
theorem f228_38 : zi_fe 228 38 = some ((.aload_n 0), 1, 0, 0, 0, 0, 0) := (zl228_1 (Nat.le_of_ble_eq_true rfl)).trans rfl
theorem f228_39 : zi_fe 228 39 = some ((.iload_n 2), 1, 0, 0, 0, 0, 0) := (zl228_1 (Nat.le_of_ble_eq_true rfl)).trans rfl
theorem zl228_2 {pc : Nat} (h : 40 ≤ pc) : zi_fe 228 pc = zu228_2.lookup pc := (zl228_1 (Nat.le_trans (Nat.le_of_ble_eq_true rfl) h)).trans (zi_lkA (a := zi_i228_1) (c := 40) rfl h)
theorem f228_40 : zi_fe 228 40 = some ((.iconst 4), 1, 0, 0, 0, 0, 0) := (zl228_2 (Nat.le_of_ble_eq_true rfl)).trans rfl
theorem f228_41 : zi_fe 228 41 = some ((.invokevirtual 87), 3, 144, 0, 8, 1261, 3) := (zl228_2 (Nat.le_of_ble_eq_true rfl)).trans rfl
theorem f228_44 : zi_fe 228 44 = some ((.iconst 1), 1, 0, 0, 0, 0, 0) := (zl228_2 (Nat.le_of_ble_eq_true rfl)).trans rfl
theorem f228_45 : zi_fe 228 45 = some ((.if_icmp .eq 13), 3, 0, 0, 0, 0, 0) := (zl228_2 (Nat.le_of_ble_eq_true rfl)).trans rfl
theorem f228_48 : zi_fe 228 48 = some ((.iload_n 1), 1, 0, 0, 0, 0, 0) := (zl228_2 (Nat.le_of_ble_eq_true rfl)).trans rfl
theorem f228_49 : zi_fe 228 49 = some ((.aload_n 0), 1, 0, 0, 0, 0, 0) := (zl228_2 (Nat.le_of_ble_eq_true rfl)).trans rfl
theorem f228_50 : zi_fe 228 50 = some ((.iload_n 2), 1, 0, 0, 0, 0, 0) := (zl228_2 (Nat.le_of_ble_eq_true rfl)).trans rfl
theorem f228_51 : zi_fe 228 51 = some ((.iconst 2), 1, 0, 0, 0, 0, 0) := (zl228_2 (Nat.le_of_ble_eq_true rfl)).trans rfl
theorem f228_52 : zi_fe 228 52 = some ((.invokevirtual 87), 3, 144, 0, 8, 1261, 3) := (zl228_2 (Nat.le_of_ble_eq_true rfl)).trans rfl
theorem f228_55 : zi_fe 228 55 = some ((.if_icmp .le 12), 3, 0, 0, 0, 0, 0) := (zl228_2 (Nat.le_of_ble_eq_true rfl)).trans rfl
theorem f228_58 : zi_fe 228 58 = some ((.aload_n 0), 1, 0, 0, 0, 0, 0) := (zl228_2 (Nat.le_of_ble_eq_true rfl)).trans rfl
theorem f228_59 : zi_fe 228 59 = some ((.iload_n 2), 1, 0, 0, 0, 0, 0) := (zl228_2 (Nat.le_of_ble_eq_true rfl)).trans rfl
theorem zl228_3 {pc : Nat} (h : 60 ≤ pc) : zi_fe 228 pc = zu228_3.lookup pc := (zl228_2 (Nat.le_trans (Nat.le_of_ble_eq_true rfl) h)).trans (zi_lkA (a := zi_i228_2) (c := 60) rfl h)
theorem f228_60 : zi_fe 228 60 = some ((.iconst 3), 1, 0, 0, 0, 0, 0) := (zl228_3 (Nat.le_of_ble_eq_true rfl)).trans rfl
theorem f228_61 : zi_fe 228 61 = some ((.invokevirtual 87), 3, 144, 0, 8, 1261, 3) := (zl228_3 (Nat.le_of_ble_eq_true rfl)).trans rfl
theorem f228_64 : zi_fe 228 64 = some ((.goto 17), 3, 0, 0, 0, 0, 0) := (zl228_3 (Nat.le_of_ble_eq_true rfl)).trans rfl
theorem f228_67 : zi_fe 228 67 = some ((.aload_n 0), 1, 0, 0, 0, 0, 0) := (zl228_3 (Nat.le_of_ble_eq_true rfl)).trans rfl
theorem f228_68 : zi_fe 228 68 = some ((.iload_n 2), 1, 0, 0, 0, 0, 0) := (zl228_3 (Nat.le_of_ble_eq_true rfl)).trans rfl
theorem f228_69 : zi_fe 228 69 = some ((.bipush 9), 2, 0, 0, 0, 0, 0) := (zl228_3 (Nat.le_of_ble_eq_true rfl)).trans rfl
theorem f228_71 : zi_fe 228 71 = some ((.aload_n 0), 1, 0, 0, 0, 0, 0) := (zl228_3 (Nat.le_of_ble_eq_true rfl)).trans rfl
theorem f228_72 : zi_fe 228 72 = some ((.iload_n 2), 1, 0, 0, 0, 0, 0) := (zl228_3 (Nat.le_of_ble_eq_true rfl)).trans rfl
theorem f228_73 : zi_fe 228 73 = some ((.iload_n 1), 1, 0, 0, 0, 0, 0) := (zl228_3 (Nat.le_of_ble_eq_true rfl)).trans rfl
theorem f228_74 : zi_fe 228 74 = some ((.invokevirtual 119), 3, 152, 0, 8, 1311, 3) := (zl228_3 (Nat.le_of_ble_eq_true rfl)).trans rfl
theorem f228_77 : zi_fe 228 77 = some (.iadd, 1, 0, 0, 0, 0, 0) := (zl228_3 (Nat.le_of_ble_eq_true rfl)).trans rfl
theorem f228_78 : zi_fe 228 78 = some ((.invokevirtual 87), 3, 144, 0, 8, 1261, 3) := (zl228_3 (Nat.le_of_ble_eq_true rfl)).trans rfl
theorem zl228_4 {pc : Nat} (h : 81 ≤ pc) : zi_fe 228 pc = zu228_4.lookup pc := (zl228_3 (Nat.le_trans (Nat.le_of_ble_eq_true rfl) h)).trans (zi_lkA (a := zi_i228_3) (c := 81) rfl h)
theorem f228_81 : zi_fe 228 81 = some ((.istore_n 2), 1, 0, 0, 0, 0, 0) := (zl228_4 (Nat.le_of_ble_eq_true rfl)).trans rfl
theorem f228_82 : zi_fe 228 82 = some ((.goto (-73)), 3, 0, 0, 0, 0, 0) := (zl228_4 (Nat.le_of_ble_eq_true rfl)).trans rfl
theorem f228_85 : zi_fe 228 85 = some ((.aload_n 0), 1, 0, 0, 0, 0, 0) := (zl228_4 (Nat.le_of_ble_eq_true rfl)).trans rfl
theorem f228_86 : zi_fe 228 86 = some ((.iload_n 2), 1, 0, 0, 0, 0, 0) := (zl228_4 (Nat.le_of_ble_eq_true rfl)).trans rfl
theorem f228_87 : zi_fe 228 87 = some ((.iload_n 1), 1, 0, 0, 0, 0, 0) := (zl228_4 (Nat.le_of_ble_eq_true rfl)).trans rfl
theorem f228_88 : zi_fe 228 88 = some ((.invokevirtual 90), 3, 150, 0, 8, 1265, 3) := (zl228_4 (Nat.le_of_ble_eq_true rfl)).trans rfl
theorem f228_91 : zi_fe 228 91 = some (.ireturn, 1, 1, 0, 0, 0, 0) := (zl228_4 (Nat.le_of_ble_eq_true rfl)).trans rfl
theorem b228_0 {h : zi_Hp} {a0 : Nat} {x1 : Int32} {u2 : Value} (g0 : a0 < zh_n h) (g1 : (zh_k h a0).1 = 8) (g2 : zh_r h a0 0 = .ref (zq (zh_r h a0 0))) (g3 : (zq (zh_r h a0 0)) < zh_n h) (g4 : 313 < (zh_k h (zq (zh_r h a0 0))).2) (g5 : (zh_k h (zq (zh_r h a0 0))).1 = 100) : zv 3 228 0 [.ref a0, .int x1, u2] [] h = zv 3 228 9 [.ref a0, .int x1, .int (zh_i h (zq (zh_r h a0 0)) 313)] [] h := by
  refine Eq.trans (zv_next f228_0 rfl) ?_
  refine Eq.trans (zs_getr f228_1 g0 g1 g2) ?_
  refine Eq.trans (zs_sp f228_4 sp_313) ?_
  refine Eq.trans (zs_iald f228_7 g3 g5 (zj_lit (by decide) g4)) ?_
  refine Eq.trans (zv_next f228_8 rfl) ?_
  rfl
theorem b228_9 {h : zi_Hp} {a0 : Nat} {x1 : Int32} {x2 : Int32} (g0 : a0 < zh_n h) (g1 : (zh_k h a0).1 = 8) : zv 3 228 9 [.ref a0, .int x1, .int x2] [] h = (zv 1 144 0 [.ref a0, .int x2, .int 4] [] h).bind fun r => zv 3 228 15 [.ref a0, .int x1, .int x2] (r.1.toList ++ []) r.2 := by
  refine Eq.trans (zv_next f228_9 rfl) ?_
  refine Eq.trans (zv_next f228_10 rfl) ?_
  refine Eq.trans (zs_ic f228_11 ic_4) ?_
  exact zs_callV f228_12 (Nat.le_of_ble_eq_true rfl) (Nat.le_of_ble_eq_true rfl) rfl g0 g1 me_144 (by decide) rfl
theorem b228_15 {h : zi_Hp} {a0 : Nat} {x1 : Int32} {x2 : Int32} {s0 : Int32}  : zv 3 228 15 [.ref a0, .int x1, .int x2] [.int s0] h = if s0 = 1 then zv 3 228 38 [.ref a0, .int x1, .int x2] [] h else zv 3 228 19 [.ref a0, .int x1, .int x2] [] h := by
  refine Eq.trans (zs_ic f228_15 ic_1) ?_
  exact zs_icmp f228_16 rfl
theorem b228_19 {h : zi_Hp} {a0 : Nat} {x1 : Int32} {x2 : Int32} (g0 : a0 < zh_n h) (g1 : (zh_k h a0).1 = 8) : zv 3 228 19 [.ref a0, .int x1, .int x2] [] h = (zv 1 144 0 [.ref a0, .int x2, .int 2] [] h).bind fun r => zv 3 228 26 [.ref a0, .int x1, .int x2] (r.1.toList ++ [.int x1]) r.2 := by
  refine Eq.trans (zv_next f228_19 rfl) ?_
  refine Eq.trans (zv_next f228_20 rfl) ?_
  refine Eq.trans (zv_next f228_21 rfl) ?_
  refine Eq.trans (zs_ic f228_22 ic_2) ?_
  exact zs_callV f228_23 (Nat.le_of_ble_eq_true rfl) (Nat.le_of_ble_eq_true rfl) rfl g0 g1 me_144 (by decide) rfl
theorem b228_26 {h : zi_Hp} {a0 : Nat} {x1 : Int32} {x2 : Int32} {s0 : Int32} {s1 : Int32}  : zv 3 228 26 [.ref a0, .int x1, .int x2] [.int s1, .int s0] h = if s1 < s0 then zv 3 228 38 [.ref a0, .int x1, .int x2] [] h else zv 3 228 29 [.ref a0, .int x1, .int x2] [] h := by
  exact zs_icmp f228_26 rfl
theorem b228_29 {h : zi_Hp} {a0 : Nat} {x1 : Int32} {x2 : Int32} (g0 : a0 < zh_n h) (g1 : (zh_k h a0).1 = 8) : zv 3 228 29 [.ref a0, .int x1, .int x2] [] h = (zv 1 144 0 [.ref a0, .int x2, .int 0] [] h).bind fun r => zv 3 228 35 [.ref a0, .int x1, .int x2] (r.1.toList ++ []) r.2 := by
  refine Eq.trans (zv_next f228_29 rfl) ?_
  refine Eq.trans (zv_next f228_30 rfl) ?_
  refine Eq.trans (zs_ic f228_31 ic_0) ?_
  exact zs_callV f228_32 (Nat.le_of_ble_eq_true rfl) (Nat.le_of_ble_eq_true rfl) rfl g0 g1 me_144 (by decide) rfl
theorem b228_35 {h : zi_Hp} {a0 : Nat} {x1 : Int32} {x2 : Int32} {s0 : Int32}  : zv 3 228 35 [.ref a0, .int x1, .int x2] [.int s0] h = if 0 < s0 then zv 3 228 38 [.ref a0, .int x1, .int x2] [] h else zv 3 228 85 [.ref a0, .int x1, .int x2] [] h := by
  exact zs_if f228_35 rfl
theorem b228_38 {h : zi_Hp} {a0 : Nat} {x1 : Int32} {x2 : Int32} (g0 : a0 < zh_n h) (g1 : (zh_k h a0).1 = 8) : zv 3 228 38 [.ref a0, .int x1, .int x2] [] h = (zv 1 144 0 [.ref a0, .int x2, .int 4] [] h).bind fun r => zv 3 228 44 [.ref a0, .int x1, .int x2] (r.1.toList ++ []) r.2 := by
  refine Eq.trans (zv_next f228_38 rfl) ?_
  refine Eq.trans (zv_next f228_39 rfl) ?_
  refine Eq.trans (zs_ic f228_40 ic_4) ?_
  exact zs_callV f228_41 (Nat.le_of_ble_eq_true rfl) (Nat.le_of_ble_eq_true rfl) rfl g0 g1 me_144 (by decide) rfl
theorem b228_44 {h : zi_Hp} {a0 : Nat} {x1 : Int32} {x2 : Int32} {s0 : Int32}  : zv 3 228 44 [.ref a0, .int x1, .int x2] [.int s0] h = if s0 = 1 then zv 3 228 58 [.ref a0, .int x1, .int x2] [] h else zv 3 228 48 [.ref a0, .int x1, .int x2] [] h := by
  refine Eq.trans (zs_ic f228_44 ic_1) ?_
  exact zs_icmp f228_45 rfl
theorem b228_48 {h : zi_Hp} {a0 : Nat} {x1 : Int32} {x2 : Int32} (g0 : a0 < zh_n h) (g1 : (zh_k h a0).1 = 8) : zv 3 228 48 [.ref a0, .int x1, .int x2] [] h = (zv 1 144 0 [.ref a0, .int x2, .int 2] [] h).bind fun r => zv 3 228 55 [.ref a0, .int x1, .int x2] (r.1.toList ++ [.int x1]) r.2 := by
  refine Eq.trans (zv_next f228_48 rfl) ?_
  refine Eq.trans (zv_next f228_49 rfl) ?_
  refine Eq.trans (zv_next f228_50 rfl) ?_
  refine Eq.trans (zs_ic f228_51 ic_2) ?_
  exact zs_callV f228_52 (Nat.le_of_ble_eq_true rfl) (Nat.le_of_ble_eq_true rfl) rfl g0 g1 me_144 (by decide) rfl
theorem b228_55 {h : zi_Hp} {a0 : Nat} {x1 : Int32} {x2 : Int32} {s0 : Int32} {s1 : Int32}  : zv 3 228 55 [.ref a0, .int x1, .int x2] [.int s1, .int s0] h = if s1 < s0 then zv 3 228 58 [.ref a0, .int x1, .int x2] [] h else zv 3 228 67 [.ref a0, .int x1, .int x2] [] h := by
  exact zs_icmp f228_55 rfl
theorem b228_58 {h : zi_Hp} {a0 : Nat} {x1 : Int32} {x2 : Int32} (g0 : a0 < zh_n h) (g1 : (zh_k h a0).1 = 8) : zv 3 228 58 [.ref a0, .int x1, .int x2] [] h = (zv 1 144 0 [.ref a0, .int x2, .int 3] [] h).bind fun r => zv 3 228 64 [.ref a0, .int x1, .int x2] (r.1.toList ++ []) r.2 := by
  refine Eq.trans (zv_next f228_58 rfl) ?_
  refine Eq.trans (zv_next f228_59 rfl) ?_
  refine Eq.trans (zs_ic f228_60 ic_3) ?_
  exact zs_callV f228_61 (Nat.le_of_ble_eq_true rfl) (Nat.le_of_ble_eq_true rfl) rfl g0 g1 me_144 (by decide) rfl
theorem b228_64 {h : zi_Hp} {a0 : Nat} {x1 : Int32} {x2 : Int32} {s0 : Int32}  : zv 3 228 64 [.ref a0, .int x1, .int x2] [.int s0] h = zv 3 228 81 [.ref a0, .int x1, .int x2] [.int s0] h := by
  refine Eq.trans (zs_goto (tgt := 81) f228_64 rfl) ?_
  rfl
theorem b228_67 {h : zi_Hp} {a0 : Nat} {x1 : Int32} {x2 : Int32} (g0 : a0 < zh_n h) (g1 : (zh_k h a0).1 = 8) : zv 3 228 67 [.ref a0, .int x1, .int x2] [] h = (zv 2 152 0 [.ref a0, .int x2, .int x1, .double 0] [] h).bind fun r => zv 3 228 77 [.ref a0, .int x1, .int x2] (r.1.toList ++ [.int 9, .int x2, .ref a0]) r.2 := by
  refine Eq.trans (zv_next f228_67 rfl) ?_
  refine Eq.trans (zv_next f228_68 rfl) ?_
  refine Eq.trans (zs_bp f228_69 bp_9) ?_
  refine Eq.trans (zv_next f228_71 rfl) ?_
  refine Eq.trans (zv_next f228_72 rfl) ?_
  refine Eq.trans (zv_next f228_73 rfl) ?_
  exact zs_callV f228_74 (Nat.le_of_ble_eq_true rfl) (Nat.le_of_ble_eq_true rfl) rfl g0 g1 me_152 (by decide) rfl
theorem b228_77 {h : zi_Hp} {a0 : Nat} {x1 : Int32} {x2 : Int32} {t0 : Nat} {s1 : Int32} {s2 : Int32} {s3 : Int32} (g0 : t0 < zh_n h) (g1 : (zh_k h t0).1 = 8) : zv 3 228 77 [.ref a0, .int x1, .int x2] [.int s3, .int s2, .int s1, .ref t0] h = (zv 1 144 0 [.ref t0, .int s1, .int (s2 + s3)] [] h).bind fun r => zv 3 228 81 [.ref a0, .int x1, .int x2] (r.1.toList ++ []) r.2 := by
  refine Eq.trans (zv_next f228_77 rfl) ?_
  exact zs_callV f228_78 (Nat.le_of_ble_eq_true rfl) (Nat.le_of_ble_eq_true rfl) rfl g0 g1 me_144 (by decide) rfl
theorem b228_81 {h : zi_Hp} {a0 : Nat} {x1 : Int32} {x2 : Int32} {s0 : Int32}  : zv 3 228 81 [.ref a0, .int x1, .int x2] [.int s0] h = zv 3 228 9 [.ref a0, .int x1, .int s0] [] h := by
  refine Eq.trans (zv_next f228_81 rfl) ?_
  refine Eq.trans (zs_goto (tgt := 9) f228_82 rfl) ?_
  rfl
theorem b228_85 {h : zi_Hp} {a0 : Nat} {x1 : Int32} {x2 : Int32} (g0 : a0 < zh_n h) (g1 : (zh_k h a0).1 = 8) : zv 3 228 85 [.ref a0, .int x1, .int x2] [] h = (zv 2 150 0 [.ref a0, .int x2, .int x1, .double 0, .double 0] [] h).bind fun r => zv 3 228 91 [.ref a0, .int x1, .int x2] (r.1.toList ++ []) r.2 := by
  refine Eq.trans (zv_next f228_85 rfl) ?_
  refine Eq.trans (zv_next f228_86 rfl) ?_
  refine Eq.trans (zv_next f228_87 rfl) ?_
  exact zs_callV f228_88 (Nat.le_of_ble_eq_true rfl) (Nat.le_of_ble_eq_true rfl) rfl g0 g1 me_150 (by decide) rfl
theorem b228_91 {h : zi_Hp} {a0 : Nat} {x1 : Int32} {x2 : Int32} {s0 : Int32} (g0 : s0 = 0 ∨ s0 = 1) : zv 3 228 91 [.ref a0, .int x1, .int x2] [.int s0] h = some (some (.int s0), h) := by
  exact zs_ret1 f228_91 g0
set_option maxRecDepth 20000 in
theorem zq229 : zi_M[229]? = some zi_m229 := rfl
theorem zl229_0 {pc : Nat} (_ : 0 ≤ pc) : zi_fe 229 pc = zu229_0.lookup pc := zi_feA zq229 pc
theorem f229_0 : zi_fe 229 0 = some ((.iconst 1), 1, 0, 0, 0, 0, 0) := (zl229_0 (Nat.le_of_ble_eq_true rfl)).trans rfl
theorem f229_1 : zi_fe 229 1 = some ((.istore_n 1), 1, 0, 0, 0, 0, 0) := (zl229_0 (Nat.le_of_ble_eq_true rfl)).trans rfl
theorem f229_2 : zi_fe 229 2 = some ((.iconst 0), 1, 0, 0, 0, 0, 0) := (zl229_0 (Nat.le_of_ble_eq_true rfl)).trans rfl
theorem f229_3 : zi_fe 229 3 = some ((.istore_n 2), 1, 0, 0, 0, 0, 0) := (zl229_0 (Nat.le_of_ble_eq_true rfl)).trans rfl
theorem f229_4 : zi_fe 229 4 = some ((.iload_n 2), 1, 0, 0, 0, 0, 0) := (zl229_0 (Nat.le_of_ble_eq_true rfl)).trans rfl
theorem f229_5 : zi_fe 229 5 = some ((.bipush 99), 2, 0, 0, 0, 0, 0) := (zl229_0 (Nat.le_of_ble_eq_true rfl)).trans rfl
theorem f229_7 : zi_fe 229 7 = some ((.if_icmp .gt 35), 3, 0, 0, 0, 0, 0) := (zl229_0 (Nat.le_of_ble_eq_true rfl)).trans rfl
theorem f229_10 : zi_fe 229 10 = some ((.iload_n 1), 1, 0, 0, 0, 0, 0) := (zl229_0 (Nat.le_of_ble_eq_true rfl)).trans rfl
theorem f229_11 : zi_fe 229 11 = some ((.ifCond .eq 23), 3, 0, 0, 0, 0, 0) := (zl229_0 (Nat.le_of_ble_eq_true rfl)).trans rfl
theorem f229_14 : zi_fe 229 14 = some ((.aload_n 0), 1, 0, 0, 0, 0, 0) := (zl229_0 (Nat.le_of_ble_eq_true rfl)).trans rfl
theorem f229_15 : zi_fe 229 15 = some ((.iload_n 2), 1, 0, 0, 0, 0, 0) := (zl229_0 (Nat.le_of_ble_eq_true rfl)).trans rfl
theorem f229_16 : zi_fe 229 16 = some ((.invokevirtual 179), 3, 151, 0, 8, 1257, 2) := (zl229_0 (Nat.le_of_ble_eq_true rfl)).trans rfl
theorem zl229_1 {pc : Nat} (h : 19 ≤ pc) : zi_fe 229 pc = zu229_1.lookup pc := (zl229_0 (Nat.le_trans (Nat.le_of_ble_eq_true rfl) h)).trans (zi_lkA (a := zi_i229_0) (c := 19) rfl h)
theorem f229_19 : zi_fe 229 19 = some ((.ifCond .eq 11), 3, 0, 0, 0, 0, 0) := (zl229_1 (Nat.le_of_ble_eq_true rfl)).trans rfl
theorem f229_22 : zi_fe 229 22 = some ((.aload_n 0), 1, 0, 0, 0, 0, 0) := (zl229_1 (Nat.le_of_ble_eq_true rfl)).trans rfl
theorem f229_23 : zi_fe 229 23 = some ((.iload_n 2), 1, 0, 0, 0, 0, 0) := (zl229_1 (Nat.le_of_ble_eq_true rfl)).trans rfl
theorem f229_24 : zi_fe 229 24 = some ((.invokevirtual 362), 3, 228, 0, 8, 1533, 2) := (zl229_1 (Nat.le_of_ble_eq_true rfl)).trans rfl
theorem f229_27 : zi_fe 229 27 = some ((.ifCond .eq 7), 3, 0, 0, 0, 0, 0) := (zl229_1 (Nat.le_of_ble_eq_true rfl)).trans rfl
theorem f229_30 : zi_fe 229 30 = some ((.iconst 1), 1, 0, 0, 0, 0, 0) := (zl229_1 (Nat.le_of_ble_eq_true rfl)).trans rfl
theorem f229_31 : zi_fe 229 31 = some ((.goto 4), 3, 0, 0, 0, 0, 0) := (zl229_1 (Nat.le_of_ble_eq_true rfl)).trans rfl
theorem f229_34 : zi_fe 229 34 = some ((.iconst 0), 1, 0, 0, 0, 0, 0) := (zl229_1 (Nat.le_of_ble_eq_true rfl)).trans rfl
theorem f229_35 : zi_fe 229 35 = some ((.istore_n 1), 1, 0, 0, 0, 0, 0) := (zl229_1 (Nat.le_of_ble_eq_true rfl)).trans rfl
theorem f229_36 : zi_fe 229 36 = some ((.iinc 2 1), 3, 0, 0, 0, 0, 0) := (zl229_1 (Nat.le_of_ble_eq_true rfl)).trans rfl
theorem f229_39 : zi_fe 229 39 = some ((.goto (-35)), 3, 0, 0, 0, 0, 0) := (zl229_1 (Nat.le_of_ble_eq_true rfl)).trans rfl
theorem f229_42 : zi_fe 229 42 = some ((.iload_n 1), 1, 0, 0, 0, 0, 0) := (zl229_1 (Nat.le_of_ble_eq_true rfl)).trans rfl
theorem zl229_2 {pc : Nat} (h : 43 ≤ pc) : zi_fe 229 pc = zu229_2.lookup pc := (zl229_1 (Nat.le_trans (Nat.le_of_ble_eq_true rfl) h)).trans (zi_lkA (a := zi_i229_1) (c := 43) rfl h)
theorem f229_43 : zi_fe 229 43 = some (.ireturn, 1, 1, 0, 0, 0, 0) := (zl229_2 (Nat.le_of_ble_eq_true rfl)).trans rfl
theorem b229_0 {h : zi_Hp} {a0 : Nat} {u1 : Value} {u2 : Value}  : zv 4 229 0 [.ref a0, u1, u2] [] h = zv 4 229 4 [.ref a0, .int 1, .int 0] [] h := by
  refine Eq.trans (zs_ic f229_0 ic_1) ?_
  refine Eq.trans (zv_next f229_1 rfl) ?_
  refine Eq.trans (zs_ic f229_2 ic_0) ?_
  refine Eq.trans (zv_next f229_3 rfl) ?_
  rfl
theorem b229_4 {h : zi_Hp} {a0 : Nat} {x1 : Int32} {x2 : Int32}  : zv 4 229 4 [.ref a0, .int x1, .int x2] [] h = if 99 < x2 then zv 4 229 42 [.ref a0, .int x1, .int x2] [] h else zv 4 229 10 [.ref a0, .int x1, .int x2] [] h := by
  refine Eq.trans (zv_next f229_4 rfl) ?_
  refine Eq.trans (zs_bp f229_5 bp_99) ?_
  exact zs_icmp f229_7 rfl
theorem b229_10 {h : zi_Hp} {a0 : Nat} {x1 : Int32} {x2 : Int32}  : zv 4 229 10 [.ref a0, .int x1, .int x2] [] h = if x1 = 0 then zv 4 229 34 [.ref a0, .int x1, .int x2] [] h else zv 4 229 14 [.ref a0, .int x1, .int x2] [] h := by
  refine Eq.trans (zv_next f229_10 rfl) ?_
  exact zs_if f229_11 rfl
theorem b229_14 {h : zi_Hp} {a0 : Nat} {x1 : Int32} {x2 : Int32} (g0 : a0 < zh_n h) (g1 : (zh_k h a0).1 = 8) : zv 4 229 14 [.ref a0, .int x1, .int x2] [] h = (zv 3 151 0 [.ref a0, .int x2, .double 0, .double 0] [] h).bind fun r => zv 4 229 19 [.ref a0, .int x1, .int x2] (r.1.toList ++ []) r.2 := by
  refine Eq.trans (zv_next f229_14 rfl) ?_
  refine Eq.trans (zv_next f229_15 rfl) ?_
  exact zs_callV f229_16 (Nat.le_of_ble_eq_true rfl) (Nat.le_of_ble_eq_true rfl) rfl g0 g1 me_151 (by decide) rfl
theorem b229_19 {h : zi_Hp} {a0 : Nat} {x1 : Int32} {x2 : Int32} {s0 : Int32}  : zv 4 229 19 [.ref a0, .int x1, .int x2] [.int s0] h = if s0 = 0 then zv 4 229 30 [.ref a0, .int x1, .int x2] [] h else zv 4 229 22 [.ref a0, .int x1, .int x2] [] h := by
  exact zs_if f229_19 rfl
theorem b229_22 {h : zi_Hp} {a0 : Nat} {x1 : Int32} {x2 : Int32} (g0 : a0 < zh_n h) (g1 : (zh_k h a0).1 = 8) : zv 4 229 22 [.ref a0, .int x1, .int x2] [] h = (zv 3 228 0 [.ref a0, .int x2, .double 0] [] h).bind fun r => zv 4 229 27 [.ref a0, .int x1, .int x2] (r.1.toList ++ []) r.2 := by
  refine Eq.trans (zv_next f229_22 rfl) ?_
  refine Eq.trans (zv_next f229_23 rfl) ?_
  exact zs_callV f229_24 (Nat.le_of_ble_eq_true rfl) (Nat.le_of_ble_eq_true rfl) rfl g0 g1 me_228 (by decide) rfl
theorem b229_27 {h : zi_Hp} {a0 : Nat} {x1 : Int32} {x2 : Int32} {s0 : Int32}  : zv 4 229 27 [.ref a0, .int x1, .int x2] [.int s0] h = if s0 = 0 then zv 4 229 34 [.ref a0, .int x1, .int x2] [] h else zv 4 229 30 [.ref a0, .int x1, .int x2] [] h := by
  exact zs_if f229_27 rfl
theorem b229_30 {h : zi_Hp} {a0 : Nat} {x1 : Int32} {x2 : Int32}  : zv 4 229 30 [.ref a0, .int x1, .int x2] [] h = zv 4 229 35 [.ref a0, .int x1, .int x2] [.int 1] h := by
  refine Eq.trans (zs_ic f229_30 ic_1) ?_
  refine Eq.trans (zs_goto (tgt := 35) f229_31 rfl) ?_
  rfl
theorem b229_34 {h : zi_Hp} {a0 : Nat} {x1 : Int32} {x2 : Int32}  : zv 4 229 34 [.ref a0, .int x1, .int x2] [] h = zv 4 229 35 [.ref a0, .int x1, .int x2] [.int 0] h := by
  refine Eq.trans (zs_ic f229_34 ic_0) ?_
  rfl
theorem b229_35 {h : zi_Hp} {a0 : Nat} {x1 : Int32} {x2 : Int32} {s0 : Int32}  : zv 4 229 35 [.ref a0, .int x1, .int x2] [.int s0] h = zv 4 229 4 [.ref a0, .int s0, .int (x2 + 1)] [] h := by
  refine Eq.trans (zv_next f229_35 rfl) ?_
  refine Eq.trans (zs_inc f229_36 rfl ic_1 rfl) ?_
  refine Eq.trans (zs_goto (tgt := 4) f229_39 rfl) ?_
  rfl
theorem b229_42 {h : zi_Hp} {a0 : Nat} {x1 : Int32} {x2 : Int32} (g0 : x1 = 0 ∨ x1 = 1) : zv 4 229 42 [.ref a0, .int x1, .int x2] [] h = some (some (.int x1), h) := by
  refine Eq.trans (zv_next f229_42 rfl) ?_
  exact zs_ret1 f229_43 g0
set_option maxRecDepth 20000 in
theorem zq230 : zi_M[230]? = some zi_m230 := rfl
theorem zl230_0 {pc : Nat} (_ : 0 ≤ pc) : zi_fe 230 pc = zu230_0.lookup pc := zi_feA zq230 pc
theorem f230_0 : zi_fe 230 0 = some ((.aload_n 0), 1, 0, 0, 0, 0, 0) := (zl230_0 (Nat.le_of_ble_eq_true rfl)).trans rfl
theorem f230_1 : zi_fe 230 1 = some ((.invokevirtual 365), 3, 224, 0, 8, 1513, 1) := (zl230_0 (Nat.le_of_ble_eq_true rfl)).trans rfl
theorem f230_4 : zi_fe 230 4 = some ((.ifCond .ne 5), 3, 0, 0, 0, 0, 0) := (zl230_0 (Nat.le_of_ble_eq_true rfl)).trans rfl
theorem f230_7 : zi_fe 230 7 = some ((.iconst 1), 1, 0, 0, 0, 0, 0) := (zl230_0 (Nat.le_of_ble_eq_true rfl)).trans rfl
theorem f230_8 : zi_fe 230 8 = some (.ireturn, 1, 0, 0, 0, 0, 0) := (zl230_0 (Nat.le_of_ble_eq_true rfl)).trans rfl
theorem f230_9 : zi_fe 230 9 = some ((.aload_n 0), 1, 0, 0, 0, 0, 0) := (zl230_0 (Nat.le_of_ble_eq_true rfl)).trans rfl
theorem f230_10 : zi_fe 230 10 = some ((.invokevirtual 369), 3, 225, 0, 8, 1517, 1) := (zl230_0 (Nat.le_of_ble_eq_true rfl)).trans rfl
theorem f230_13 : zi_fe 230 13 = some ((.ifCond .ne 5), 3, 0, 0, 0, 0, 0) := (zl230_0 (Nat.le_of_ble_eq_true rfl)).trans rfl
theorem f230_16 : zi_fe 230 16 = some ((.iconst 2), 1, 0, 0, 0, 0, 0) := (zl230_0 (Nat.le_of_ble_eq_true rfl)).trans rfl
theorem f230_17 : zi_fe 230 17 = some (.ireturn, 1, 0, 0, 0, 0, 0) := (zl230_0 (Nat.le_of_ble_eq_true rfl)).trans rfl
theorem f230_18 : zi_fe 230 18 = some ((.aload_n 0), 1, 0, 0, 0, 0, 0) := (zl230_0 (Nat.le_of_ble_eq_true rfl)).trans rfl
theorem f230_19 : zi_fe 230 19 = some ((.iconst 0), 1, 0, 0, 0, 0, 0) := (zl230_0 (Nat.le_of_ble_eq_true rfl)).trans rfl
theorem zl230_1 {pc : Nat} (h : 20 ≤ pc) : zi_fe 230 pc = zu230_1.lookup pc := (zl230_0 (Nat.le_trans (Nat.le_of_ble_eq_true rfl) h)).trans (zi_lkA (a := zi_i230_0) (c := 20) rfl h)
theorem f230_20 : zi_fe 230 20 = some ((.invokevirtual 372), 3, 226, 0, 8, 1521, 2) := (zl230_1 (Nat.le_of_ble_eq_true rfl)).trans rfl
theorem f230_23 : zi_fe 230 23 = some ((.ifCond .ne 5), 3, 0, 0, 0, 0, 0) := (zl230_1 (Nat.le_of_ble_eq_true rfl)).trans rfl
theorem f230_26 : zi_fe 230 26 = some ((.iconst 3), 1, 0, 0, 0, 0, 0) := (zl230_1 (Nat.le_of_ble_eq_true rfl)).trans rfl
theorem f230_27 : zi_fe 230 27 = some (.ireturn, 1, 0, 0, 0, 0, 0) := (zl230_1 (Nat.le_of_ble_eq_true rfl)).trans rfl
theorem f230_28 : zi_fe 230 28 = some ((.aload_n 0), 1, 0, 0, 0, 0, 0) := (zl230_1 (Nat.le_of_ble_eq_true rfl)).trans rfl
theorem f230_29 : zi_fe 230 29 = some ((.iconst 1), 1, 0, 0, 0, 0, 0) := (zl230_1 (Nat.le_of_ble_eq_true rfl)).trans rfl
theorem f230_30 : zi_fe 230 30 = some ((.invokevirtual 372), 3, 226, 0, 8, 1521, 2) := (zl230_1 (Nat.le_of_ble_eq_true rfl)).trans rfl
theorem f230_33 : zi_fe 230 33 = some ((.ifCond .ne 5), 3, 0, 0, 0, 0, 0) := (zl230_1 (Nat.le_of_ble_eq_true rfl)).trans rfl
theorem f230_36 : zi_fe 230 36 = some ((.iconst 4), 1, 0, 0, 0, 0, 0) := (zl230_1 (Nat.le_of_ble_eq_true rfl)).trans rfl
theorem f230_37 : zi_fe 230 37 = some (.ireturn, 1, 0, 0, 0, 0, 0) := (zl230_1 (Nat.le_of_ble_eq_true rfl)).trans rfl
theorem f230_38 : zi_fe 230 38 = some ((.aload_n 0), 1, 0, 0, 0, 0, 0) := (zl230_1 (Nat.le_of_ble_eq_true rfl)).trans rfl
theorem f230_39 : zi_fe 230 39 = some ((.invokevirtual 376), 3, 227, 0, 8, 1525, 1) := (zl230_1 (Nat.le_of_ble_eq_true rfl)).trans rfl
theorem zl230_2 {pc : Nat} (h : 42 ≤ pc) : zi_fe 230 pc = zu230_2.lookup pc := (zl230_1 (Nat.le_trans (Nat.le_of_ble_eq_true rfl) h)).trans (zi_lkA (a := zi_i230_1) (c := 42) rfl h)
theorem f230_42 : zi_fe 230 42 = some ((.ifCond .ne 7), 3, 0, 0, 0, 0, 0) := (zl230_2 (Nat.le_of_ble_eq_true rfl)).trans rfl
theorem f230_45 : zi_fe 230 45 = some ((.iconst 5), 1, 0, 0, 0, 0, 0) := (zl230_2 (Nat.le_of_ble_eq_true rfl)).trans rfl
theorem f230_46 : zi_fe 230 46 = some ((.goto 16), 3, 0, 0, 0, 0, 0) := (zl230_2 (Nat.le_of_ble_eq_true rfl)).trans rfl
theorem f230_49 : zi_fe 230 49 = some ((.aload_n 0), 1, 0, 0, 0, 0, 0) := (zl230_2 (Nat.le_of_ble_eq_true rfl)).trans rfl
theorem f230_50 : zi_fe 230 50 = some ((.invokevirtual 379), 3, 229, 0, 8, 1529, 1) := (zl230_2 (Nat.le_of_ble_eq_true rfl)).trans rfl
theorem f230_53 : zi_fe 230 53 = some ((.ifCond .ne 8), 3, 0, 0, 0, 0, 0) := (zl230_2 (Nat.le_of_ble_eq_true rfl)).trans rfl
theorem f230_56 : zi_fe 230 56 = some ((.bipush 6), 2, 0, 0, 0, 0, 0) := (zl230_2 (Nat.le_of_ble_eq_true rfl)).trans rfl
theorem f230_58 : zi_fe 230 58 = some ((.goto 4), 3, 0, 0, 0, 0, 0) := (zl230_2 (Nat.le_of_ble_eq_true rfl)).trans rfl
theorem f230_61 : zi_fe 230 61 = some ((.iconst 0), 1, 0, 0, 0, 0, 0) := (zl230_2 (Nat.le_of_ble_eq_true rfl)).trans rfl
theorem f230_62 : zi_fe 230 62 = some (.ireturn, 1, 0, 0, 0, 0, 0) := (zl230_2 (Nat.le_of_ble_eq_true rfl)).trans rfl
theorem b230_0 {h : zi_Hp} {a0 : Nat} (g0 : a0 < zh_n h) (g1 : (zh_k h a0).1 = 8) : zv 5 230 0 [.ref a0] [] h = (zv 2 224 0 [.ref a0, .double 0, .double 0, .double 0] [] h).bind fun r => zv 5 230 4 [.ref a0] (r.1.toList ++ []) r.2 := by
  refine Eq.trans (zv_next f230_0 rfl) ?_
  exact zs_callV f230_1 (Nat.le_of_ble_eq_true rfl) (Nat.le_of_ble_eq_true rfl) rfl g0 g1 me_224 (by decide) rfl
theorem b230_4 {h : zi_Hp} {a0 : Nat} {s0 : Int32}  : zv 5 230 4 [.ref a0] [.int s0] h = if s0 = 0 then zv 5 230 7 [.ref a0] [] h else zv 5 230 9 [.ref a0] [] h := by
  exact zs_if f230_4 rfl
theorem b230_7 {h : zi_Hp} {a0 : Nat}  : zv 5 230 7 [.ref a0] [] h = some (some (.int 1), h) := by
  refine Eq.trans (zs_ic f230_7 ic_1) ?_
  exact zs_ret0 f230_8
theorem b230_9 {h : zi_Hp} {a0 : Nat} (g0 : a0 < zh_n h) (g1 : (zh_k h a0).1 = 8) : zv 5 230 9 [.ref a0] [] h = (zv 2 225 0 [.ref a0, .double 0, .double 0] [] h).bind fun r => zv 5 230 13 [.ref a0] (r.1.toList ++ []) r.2 := by
  refine Eq.trans (zv_next f230_9 rfl) ?_
  exact zs_callV f230_10 (Nat.le_of_ble_eq_true rfl) (Nat.le_of_ble_eq_true rfl) rfl g0 g1 me_225 (by decide) rfl
theorem b230_13 {h : zi_Hp} {a0 : Nat} {s0 : Int32}  : zv 5 230 13 [.ref a0] [.int s0] h = if s0 = 0 then zv 5 230 16 [.ref a0] [] h else zv 5 230 18 [.ref a0] [] h := by
  exact zs_if f230_13 rfl
theorem b230_16 {h : zi_Hp} {a0 : Nat}  : zv 5 230 16 [.ref a0] [] h = some (some (.int 2), h) := by
  refine Eq.trans (zs_ic f230_16 ic_2) ?_
  exact zs_ret0 f230_17
theorem b230_18 {h : zi_Hp} {a0 : Nat} (g0 : a0 < zh_n h) (g1 : (zh_k h a0).1 = 8) : zv 5 230 18 [.ref a0] [] h = (zv 2 226 0 [.ref a0, .int 0, .double 0, .double 0, .double 0] [] h).bind fun r => zv 5 230 23 [.ref a0] (r.1.toList ++ []) r.2 := by
  refine Eq.trans (zv_next f230_18 rfl) ?_
  refine Eq.trans (zs_ic f230_19 ic_0) ?_
  exact zs_callV f230_20 (Nat.le_of_ble_eq_true rfl) (Nat.le_of_ble_eq_true rfl) rfl g0 g1 me_226 (by decide) rfl
theorem b230_23 {h : zi_Hp} {a0 : Nat} {s0 : Int32}  : zv 5 230 23 [.ref a0] [.int s0] h = if s0 = 0 then zv 5 230 26 [.ref a0] [] h else zv 5 230 28 [.ref a0] [] h := by
  exact zs_if f230_23 rfl
theorem b230_26 {h : zi_Hp} {a0 : Nat}  : zv 5 230 26 [.ref a0] [] h = some (some (.int 3), h) := by
  refine Eq.trans (zs_ic f230_26 ic_3) ?_
  exact zs_ret0 f230_27
theorem b230_28 {h : zi_Hp} {a0 : Nat} (g0 : a0 < zh_n h) (g1 : (zh_k h a0).1 = 8) : zv 5 230 28 [.ref a0] [] h = (zv 2 226 0 [.ref a0, .int 1, .double 0, .double 0, .double 0] [] h).bind fun r => zv 5 230 33 [.ref a0] (r.1.toList ++ []) r.2 := by
  refine Eq.trans (zv_next f230_28 rfl) ?_
  refine Eq.trans (zs_ic f230_29 ic_1) ?_
  exact zs_callV f230_30 (Nat.le_of_ble_eq_true rfl) (Nat.le_of_ble_eq_true rfl) rfl g0 g1 me_226 (by decide) rfl
theorem b230_33 {h : zi_Hp} {a0 : Nat} {s0 : Int32}  : zv 5 230 33 [.ref a0] [.int s0] h = if s0 = 0 then zv 5 230 36 [.ref a0] [] h else zv 5 230 38 [.ref a0] [] h := by
  exact zs_if f230_33 rfl
theorem b230_36 {h : zi_Hp} {a0 : Nat}  : zv 5 230 36 [.ref a0] [] h = some (some (.int 4), h) := by
  refine Eq.trans (zs_ic f230_36 ic_4) ?_
  exact zs_ret0 f230_37
theorem b230_38 {h : zi_Hp} {a0 : Nat} (g0 : a0 < zh_n h) (g1 : (zh_k h a0).1 = 8) : zv 5 230 38 [.ref a0] [] h = (zv 3 227 0 [.ref a0, .double 0, .double 0, .double 0] [] h).bind fun r => zv 5 230 42 [.ref a0] (r.1.toList ++ []) r.2 := by
  refine Eq.trans (zv_next f230_38 rfl) ?_
  exact zs_callV f230_39 (Nat.le_of_ble_eq_true rfl) (Nat.le_of_ble_eq_true rfl) rfl g0 g1 me_227 (by decide) rfl
theorem b230_42 {h : zi_Hp} {a0 : Nat} {s0 : Int32}  : zv 5 230 42 [.ref a0] [.int s0] h = if s0 = 0 then zv 5 230 45 [.ref a0] [] h else zv 5 230 49 [.ref a0] [] h := by
  exact zs_if f230_42 rfl
theorem b230_45 {h : zi_Hp} {a0 : Nat}  : zv 5 230 45 [.ref a0] [] h = zv 5 230 62 [.ref a0] [.int 5] h := by
  refine Eq.trans (zs_ic f230_45 ic_5) ?_
  refine Eq.trans (zs_goto (tgt := 62) f230_46 rfl) ?_
  rfl
theorem b230_49 {h : zi_Hp} {a0 : Nat} (g0 : a0 < zh_n h) (g1 : (zh_k h a0).1 = 8) : zv 5 230 49 [.ref a0] [] h = (zv 4 229 0 [.ref a0, .double 0, .double 0] [] h).bind fun r => zv 5 230 53 [.ref a0] (r.1.toList ++ []) r.2 := by
  refine Eq.trans (zv_next f230_49 rfl) ?_
  exact zs_callV f230_50 (Nat.le_of_ble_eq_true rfl) (Nat.le_of_ble_eq_true rfl) rfl g0 g1 me_229 (by decide) rfl
theorem b230_53 {h : zi_Hp} {a0 : Nat} {s0 : Int32}  : zv 5 230 53 [.ref a0] [.int s0] h = if s0 = 0 then zv 5 230 56 [.ref a0] [] h else zv 5 230 61 [.ref a0] [] h := by
  exact zs_if f230_53 rfl
theorem b230_56 {h : zi_Hp} {a0 : Nat}  : zv 5 230 56 [.ref a0] [] h = zv 5 230 62 [.ref a0] [.int 6] h := by
  refine Eq.trans (zs_bp f230_56 bp_6) ?_
  refine Eq.trans (zs_goto (tgt := 62) f230_58 rfl) ?_
  rfl
theorem b230_61 {h : zi_Hp} {a0 : Nat}  : zv 5 230 61 [.ref a0] [] h = zv 5 230 62 [.ref a0] [.int 0] h := by
  refine Eq.trans (zs_ic f230_61 ic_0) ?_
  rfl
theorem b230_62 {h : zi_Hp} {a0 : Nat} {s0 : Int32}  : zv 5 230 62 [.ref a0] [.int s0] h = some (some (.int s0), h) := by
  exact zs_ret0 f230_62
set_option maxRecDepth 20000 in
theorem zq231 : zi_M[231]? = some zi_m231 := rfl
theorem zl231_0 {pc : Nat} (_ : 0 ≤ pc) : zi_fe 231 pc = zu231_0.lookup pc := zi_feA zq231 pc
theorem f231_0 : zi_fe 231 0 = some ((.iload_n 1), 1, 0, 0, 0, 0, 0) := (zl231_0 (Nat.le_of_ble_eq_true rfl)).trans rfl
theorem f231_1 : zi_fe 231 1 = some ((.ifCond .ge 5), 3, 0, 0, 0, 0, 0) := (zl231_0 (Nat.le_of_ble_eq_true rfl)).trans rfl
theorem f231_4 : zi_fe 231 4 = some ((.iconst (-1)), 1, 0, 0, 0, 0, 0) := (zl231_0 (Nat.le_of_ble_eq_true rfl)).trans rfl
theorem f231_5 : zi_fe 231 5 = some (.ireturn, 1, 0, 0, 0, 0, 0) := (zl231_0 (Nat.le_of_ble_eq_true rfl)).trans rfl
theorem f231_6 : zi_fe 231 6 = some ((.iconst 0), 1, 0, 0, 0, 0, 0) := (zl231_0 (Nat.le_of_ble_eq_true rfl)).trans rfl
theorem f231_7 : zi_fe 231 7 = some ((.istore_n 2), 1, 0, 0, 0, 0, 0) := (zl231_0 (Nat.le_of_ble_eq_true rfl)).trans rfl
theorem f231_8 : zi_fe 231 8 = some ((.iconst 0), 1, 0, 0, 0, 0, 0) := (zl231_0 (Nat.le_of_ble_eq_true rfl)).trans rfl
theorem f231_9 : zi_fe 231 9 = some ((.istore_n 3), 1, 0, 0, 0, 0, 0) := (zl231_0 (Nat.le_of_ble_eq_true rfl)).trans rfl
theorem f231_10 : zi_fe 231 10 = some ((.iload_n 3), 1, 0, 0, 0, 0, 0) := (zl231_0 (Nat.le_of_ble_eq_true rfl)).trans rfl
theorem f231_11 : zi_fe 231 11 = some ((.iload_n 1), 1, 0, 0, 0, 0, 0) := (zl231_0 (Nat.le_of_ble_eq_true rfl)).trans rfl
theorem f231_12 : zi_fe 231 12 = some ((.if_icmp .ge 22), 3, 0, 0, 0, 0, 0) := (zl231_0 (Nat.le_of_ble_eq_true rfl)).trans rfl
theorem f231_15 : zi_fe 231 15 = some ((.iload_n 2), 1, 0, 0, 0, 0, 0) := (zl231_0 (Nat.le_of_ble_eq_true rfl)).trans rfl
theorem zl231_1 {pc : Nat} (h : 16 ≤ pc) : zi_fe 231 pc = zu231_1.lookup pc := (zl231_0 (Nat.le_trans (Nat.le_of_ble_eq_true rfl) h)).trans (zi_lkA (a := zi_i231_0) (c := 16) rfl h)
theorem f231_16 : zi_fe 231 16 = some ((.bipush (-4)), 2, 0, 0, 0, 0, 0) := (zl231_1 (Nat.le_of_ble_eq_true rfl)).trans rfl
theorem f231_18 : zi_fe 231 18 = some ((.if_icmp .eq 16), 3, 0, 0, 0, 0, 0) := (zl231_1 (Nat.le_of_ble_eq_true rfl)).trans rfl
theorem f231_21 : zi_fe 231 21 = some ((.aload_n 0), 1, 0, 0, 0, 0, 0) := (zl231_1 (Nat.le_of_ble_eq_true rfl)).trans rfl
theorem f231_22 : zi_fe 231 22 = some ((.iload_n 2), 1, 0, 0, 0, 0, 0) := (zl231_1 (Nat.le_of_ble_eq_true rfl)).trans rfl
theorem f231_23 : zi_fe 231 23 = some ((.iconst 3), 1, 0, 0, 0, 0, 0) := (zl231_1 (Nat.le_of_ble_eq_true rfl)).trans rfl
theorem f231_24 : zi_fe 231 24 = some ((.invokevirtual 87), 3, 144, 0, 8, 1261, 3) := (zl231_1 (Nat.le_of_ble_eq_true rfl)).trans rfl
theorem f231_27 : zi_fe 231 27 = some ((.istore_n 2), 1, 0, 0, 0, 0, 0) := (zl231_1 (Nat.le_of_ble_eq_true rfl)).trans rfl
theorem f231_28 : zi_fe 231 28 = some ((.iinc 3 1), 3, 0, 0, 0, 0, 0) := (zl231_1 (Nat.le_of_ble_eq_true rfl)).trans rfl
theorem f231_31 : zi_fe 231 31 = some ((.goto (-21)), 3, 0, 0, 0, 0, 0) := (zl231_1 (Nat.le_of_ble_eq_true rfl)).trans rfl
theorem f231_34 : zi_fe 231 34 = some ((.iload_n 2), 1, 0, 0, 0, 0, 0) := (zl231_1 (Nat.le_of_ble_eq_true rfl)).trans rfl
theorem f231_35 : zi_fe 231 35 = some (.ireturn, 1, 0, 0, 0, 0, 0) := (zl231_1 (Nat.le_of_ble_eq_true rfl)).trans rfl
theorem b231_0 {h : zi_Hp} {a0 : Nat} {x1 : Int32} {u2 : Value} {u3 : Value}  : zv 2 231 0 [.ref a0, .int x1, u2, u3] [] h = if x1 < 0 then zv 2 231 4 [.ref a0, .int x1, u2, u3] [] h else zv 2 231 6 [.ref a0, .int x1, u2, u3] [] h := by
  refine Eq.trans (zv_next f231_0 rfl) ?_
  exact zs_if f231_1 rfl
theorem b231_4 {h : zi_Hp} {a0 : Nat} {x1 : Int32} {u2 : Value} {u3 : Value}  : zv 2 231 4 [.ref a0, .int x1, u2, u3] [] h = some (some (.int (-1)), h) := by
  refine Eq.trans (zs_ic f231_4 ic_m1) ?_
  exact zs_ret0 f231_5
theorem b231_6 {h : zi_Hp} {a0 : Nat} {x1 : Int32} {u2 : Value} {u3 : Value}  : zv 2 231 6 [.ref a0, .int x1, u2, u3] [] h = zv 2 231 10 [.ref a0, .int x1, .int 0, .int 0] [] h := by
  refine Eq.trans (zs_ic f231_6 ic_0) ?_
  refine Eq.trans (zv_next f231_7 rfl) ?_
  refine Eq.trans (zs_ic f231_8 ic_0) ?_
  refine Eq.trans (zv_next f231_9 rfl) ?_
  rfl
theorem b231_10 {h : zi_Hp} {a0 : Nat} {x1 : Int32} {x2 : Int32} {x3 : Int32}  : zv 2 231 10 [.ref a0, .int x1, .int x2, .int x3] [] h = if x3 < x1 then zv 2 231 15 [.ref a0, .int x1, .int x2, .int x3] [] h else zv 2 231 34 [.ref a0, .int x1, .int x2, .int x3] [] h := by
  refine Eq.trans (zv_next f231_10 rfl) ?_
  refine Eq.trans (zv_next f231_11 rfl) ?_
  exact zs_icmp f231_12 rfl
theorem b231_15 {h : zi_Hp} {a0 : Nat} {x1 : Int32} {x2 : Int32} {x3 : Int32}  : zv 2 231 15 [.ref a0, .int x1, .int x2, .int x3] [] h = if x2 = (-4) then zv 2 231 34 [.ref a0, .int x1, .int x2, .int x3] [] h else zv 2 231 21 [.ref a0, .int x1, .int x2, .int x3] [] h := by
  refine Eq.trans (zv_next f231_15 rfl) ?_
  refine Eq.trans (zs_bp f231_16 bp_m4) ?_
  exact zs_icmp f231_18 rfl
theorem b231_21 {h : zi_Hp} {a0 : Nat} {x1 : Int32} {x2 : Int32} {x3 : Int32} (g0 : a0 < zh_n h) (g1 : (zh_k h a0).1 = 8) : zv 2 231 21 [.ref a0, .int x1, .int x2, .int x3] [] h = (zv 1 144 0 [.ref a0, .int x2, .int 3] [] h).bind fun r => zv 2 231 27 [.ref a0, .int x1, .int x2, .int x3] (r.1.toList ++ []) r.2 := by
  refine Eq.trans (zv_next f231_21 rfl) ?_
  refine Eq.trans (zv_next f231_22 rfl) ?_
  refine Eq.trans (zs_ic f231_23 ic_3) ?_
  exact zs_callV f231_24 (Nat.le_of_ble_eq_true rfl) (Nat.le_of_ble_eq_true rfl) rfl g0 g1 me_144 (by decide) rfl
theorem b231_27 {h : zi_Hp} {a0 : Nat} {x1 : Int32} {x2 : Int32} {x3 : Int32} {s0 : Int32}  : zv 2 231 27 [.ref a0, .int x1, .int x2, .int x3] [.int s0] h = zv 2 231 10 [.ref a0, .int x1, .int s0, .int (x3 + 1)] [] h := by
  refine Eq.trans (zv_next f231_27 rfl) ?_
  refine Eq.trans (zs_inc f231_28 rfl ic_1 rfl) ?_
  refine Eq.trans (zs_goto (tgt := 10) f231_31 rfl) ?_
  rfl
theorem b231_34 {h : zi_Hp} {a0 : Nat} {x1 : Int32} {x2 : Int32} {x3 : Int32}  : zv 2 231 34 [.ref a0, .int x1, .int x2, .int x3] [] h = some (some (.int x2), h) := by
  refine Eq.trans (zv_next f231_34 rfl) ?_
  exact zs_ret0 f231_35
set_option maxRecDepth 20000 in
theorem zq232 : zi_M[232]? = some zi_m232 := rfl
theorem zl232_0 {pc : Nat} (_ : 0 ≤ pc) : zi_fe 232 pc = zu232_0.lookup pc := zi_feA zq232 pc
theorem f232_0 : zi_fe 232 0 = some ((.iload_n 1), 1, 0, 0, 0, 0, 0) := (zl232_0 (Nat.le_of_ble_eq_true rfl)).trans rfl
theorem f232_1 : zi_fe 232 1 = some (.i2l, 1, 0, 0, 0, 0, 0) := (zl232_0 (Nat.le_of_ble_eq_true rfl)).trans rfl
theorem f232_2 : zi_fe 232 2 = some ((.lconst 0), 1, 0, 0, 0, 0, 0) := (zl232_0 (Nat.le_of_ble_eq_true rfl)).trans rfl
theorem f232_3 : zi_fe 232 3 = some ((.lconst 1), 1, 0, 0, 0, 0, 0) := (zl232_0 (Nat.le_of_ble_eq_true rfl)).trans rfl
theorem f232_4 : zi_fe 232 4 = some ((.invokestatic 196), 3, 142, 1, 8, 1189, 3) := (zl232_0 (Nat.le_of_ble_eq_true rfl)).trans rfl
theorem f232_7 : zi_fe 232 7 = some ((.ifCond .ne 5), 3, 0, 0, 0, 0, 0) := (zl232_0 (Nat.le_of_ble_eq_true rfl)).trans rfl
theorem f232_10 : zi_fe 232 10 = some ((.iconst (-1)), 1, 0, 0, 0, 0, 0) := (zl232_0 (Nat.le_of_ble_eq_true rfl)).trans rfl
theorem f232_11 : zi_fe 232 11 = some (.ireturn, 1, 0, 0, 0, 0, 0) := (zl232_0 (Nat.le_of_ble_eq_true rfl)).trans rfl
theorem f232_12 : zi_fe 232 12 = some ((.aload_n 0), 1, 0, 0, 0, 0, 0) := (zl232_0 (Nat.le_of_ble_eq_true rfl)).trans rfl
theorem f232_13 : zi_fe 232 13 = some ((.getfield 16), 3, 8, 2, 3, 1067, 0) := (zl232_0 (Nat.le_of_ble_eq_true rfl)).trans rfl
theorem f232_16 : zi_fe 232 16 = some ((.iload_n 1), 1, 0, 0, 0, 0, 0) := (zl232_0 (Nat.le_of_ble_eq_true rfl)).trans rfl
theorem f232_17 : zi_fe 232 17 = some (.baload, 1, 0, 0, 0, 0, 0) := (zl232_0 (Nat.le_of_ble_eq_true rfl)).trans rfl
theorem zl232_1 {pc : Nat} (h : 18 ≤ pc) : zi_fe 232 pc = zu232_1.lookup pc := (zl232_0 (Nat.le_trans (Nat.le_of_ble_eq_true rfl) h)).trans (zi_lkA (a := zi_i232_0) (c := 18) rfl h)
theorem f232_18 : zi_fe 232 18 = some ((.invokestatic 94), 3, 143, 1, 8, 1269, 1) := (zl232_1 (Nat.le_of_ble_eq_true rfl)).trans rfl
theorem f232_21 : zi_fe 232 21 = some ((.istore_n 2), 1, 0, 0, 0, 0, 0) := (zl232_1 (Nat.le_of_ble_eq_true rfl)).trans rfl
theorem f232_22 : zi_fe 232 22 = some ((.aload_n 0), 1, 0, 0, 0, 0, 0) := (zl232_1 (Nat.le_of_ble_eq_true rfl)).trans rfl
theorem f232_23 : zi_fe 232 23 = some ((.getfield 16), 3, 8, 2, 3, 1067, 0) := (zl232_1 (Nat.le_of_ble_eq_true rfl)).trans rfl
theorem f232_26 : zi_fe 232 26 = some ((.iload_n 1), 1, 0, 0, 0, 0, 0) := (zl232_1 (Nat.le_of_ble_eq_true rfl)).trans rfl
theorem f232_27 : zi_fe 232 27 = some ((.iconst 1), 1, 0, 0, 0, 0, 0) := (zl232_1 (Nat.le_of_ble_eq_true rfl)).trans rfl
theorem f232_28 : zi_fe 232 28 = some (.bastore, 1, 0, 0, 0, 0, 0) := (zl232_1 (Nat.le_of_ble_eq_true rfl)).trans rfl
theorem f232_29 : zi_fe 232 29 = some ((.iconst 0), 1, 0, 0, 0, 0, 0) := (zl232_1 (Nat.le_of_ble_eq_true rfl)).trans rfl
theorem f232_30 : zi_fe 232 30 = some ((.istore_n 3), 1, 0, 0, 0, 0, 0) := (zl232_1 (Nat.le_of_ble_eq_true rfl)).trans rfl
theorem f232_31 : zi_fe 232 31 = some ((.iload_n 3), 1, 0, 0, 0, 0, 0) := (zl232_1 (Nat.le_of_ble_eq_true rfl)).trans rfl
theorem f232_32 : zi_fe 232 32 = some ((.sipush 387), 3, 0, 0, 0, 0, 0) := (zl232_1 (Nat.le_of_ble_eq_true rfl)).trans rfl
theorem f232_35 : zi_fe 232 35 = some ((.if_icmp .ge 27), 3, 0, 0, 0, 0, 0) := (zl232_1 (Nat.le_of_ble_eq_true rfl)).trans rfl
theorem zl232_2 {pc : Nat} (h : 38 ≤ pc) : zi_fe 232 pc = zu232_2.lookup pc := (zl232_1 (Nat.le_trans (Nat.le_of_ble_eq_true rfl) h)).trans (zi_lkA (a := zi_i232_1) (c := 38) rfl h)
theorem f232_38 : zi_fe 232 38 = some ((.aload_n 0), 1, 0, 0, 0, 0, 0) := (zl232_2 (Nat.le_of_ble_eq_true rfl)).trans rfl
theorem f232_39 : zi_fe 232 39 = some ((.getfield 13), 3, 8, 1, 3, 1066, 0) := (zl232_2 (Nat.le_of_ble_eq_true rfl)).trans rfl
theorem f232_42 : zi_fe 232 42 = some ((.sipush 387), 3, 0, 0, 0, 0, 0) := (zl232_2 (Nat.le_of_ble_eq_true rfl)).trans rfl
theorem f232_45 : zi_fe 232 45 = some ((.iload_n 1), 1, 0, 0, 0, 0, 0) := (zl232_2 (Nat.le_of_ble_eq_true rfl)).trans rfl
theorem f232_46 : zi_fe 232 46 = some (.imul, 1, 0, 0, 0, 0, 0) := (zl232_2 (Nat.le_of_ble_eq_true rfl)).trans rfl
theorem f232_47 : zi_fe 232 47 = some ((.iload_n 3), 1, 0, 0, 0, 0, 0) := (zl232_2 (Nat.le_of_ble_eq_true rfl)).trans rfl
theorem f232_48 : zi_fe 232 48 = some (.iadd, 1, 0, 0, 0, 0, 0) := (zl232_2 (Nat.le_of_ble_eq_true rfl)).trans rfl
theorem f232_49 : zi_fe 232 49 = some ((.aload_n 0), 1, 0, 0, 0, 0, 0) := (zl232_2 (Nat.le_of_ble_eq_true rfl)).trans rfl
theorem f232_50 : zi_fe 232 50 = some ((.getfield 7), 3, 8, 0, 3, 1065, 0) := (zl232_2 (Nat.le_of_ble_eq_true rfl)).trans rfl
theorem f232_53 : zi_fe 232 53 = some ((.iload_n 3), 1, 0, 0, 0, 0, 0) := (zl232_2 (Nat.le_of_ble_eq_true rfl)).trans rfl
theorem f232_54 : zi_fe 232 54 = some (.iaload, 1, 0, 0, 0, 0, 0) := (zl232_2 (Nat.le_of_ble_eq_true rfl)).trans rfl
theorem f232_55 : zi_fe 232 55 = some (.iastore, 1, 0, 0, 0, 0, 0) := (zl232_2 (Nat.le_of_ble_eq_true rfl)).trans rfl
theorem zl232_3 {pc : Nat} (h : 56 ≤ pc) : zi_fe 232 pc = zu232_3.lookup pc := (zl232_2 (Nat.le_trans (Nat.le_of_ble_eq_true rfl) h)).trans (zi_lkA (a := zi_i232_2) (c := 56) rfl h)
theorem f232_56 : zi_fe 232 56 = some ((.iinc 3 1), 3, 0, 0, 0, 0, 0) := (zl232_3 (Nat.le_of_ble_eq_true rfl)).trans rfl
theorem f232_59 : zi_fe 232 59 = some ((.goto (-28)), 3, 0, 0, 0, 0, 0) := (zl232_3 (Nat.le_of_ble_eq_true rfl)).trans rfl
theorem f232_62 : zi_fe 232 62 = some ((.iload_n 2), 1, 0, 0, 0, 0, 0) := (zl232_3 (Nat.le_of_ble_eq_true rfl)).trans rfl
theorem f232_63 : zi_fe 232 63 = some (.ireturn, 1, 0, 0, 0, 0, 0) := (zl232_3 (Nat.le_of_ble_eq_true rfl)).trans rfl
theorem b232_0 {h : zi_Hp} {a0 : Nat} {x1 : Int32} {u2 : Value} {u3 : Value}  : zv 2 232 0 [.ref a0, .int x1, u2, u3] [] h = (zv 1 142 0 [.long ((x1).toInt64), .double 1, .long 0, .double 1, .long 1, .double 1] [] h).bind fun r => zv 2 232 7 [.ref a0, .int x1, u2, u3] (r.1.toList ++ []) r.2 := by
  refine Eq.trans (zv_next f232_0 rfl) ?_
  refine Eq.trans (zv_next f232_1 rfl) ?_
  refine Eq.trans (zs_lc f232_2 lc_0) ?_
  refine Eq.trans (zs_lc f232_3 lc_1) ?_
  exact zs_callS f232_4 (by decide) (Nat.le_of_ble_eq_true rfl) (Nat.le_of_ble_eq_true rfl) rfl me_142 (by decide) rfl
theorem b232_7 {h : zi_Hp} {a0 : Nat} {x1 : Int32} {u2 : Value} {u3 : Value} {s0 : Int32}  : zv 2 232 7 [.ref a0, .int x1, u2, u3] [.int s0] h = if s0 = 0 then zv 2 232 10 [.ref a0, .int x1, u2, u3] [] h else zv 2 232 12 [.ref a0, .int x1, u2, u3] [] h := by
  exact zs_if f232_7 rfl
theorem b232_10 {h : zi_Hp} {a0 : Nat} {x1 : Int32} {u2 : Value} {u3 : Value}  : zv 2 232 10 [.ref a0, .int x1, u2, u3] [] h = some (some (.int (-1)), h) := by
  refine Eq.trans (zs_ic f232_10 ic_m1) ?_
  exact zs_ret0 f232_11
theorem b232_12 {h : zi_Hp} {a0 : Nat} {x1 : Int32} {u2 : Value} {u3 : Value} (g0 : a0 < zh_n h) (g1 : (zh_k h a0).1 = 8) (g2 : zh_r h a0 2 = .ref (zq (zh_r h a0 2))) (g3 : (zq (zh_r h a0 2)) < zh_n h) (g4 : ¬ (x1 < 0 ∨ (zh_k h (zq (zh_r h a0 2))).2 ≤ x1.toNatClampNeg)) (g5 : (zh_k h (zq (zh_r h a0 2))).1 = 101) : zv 2 232 12 [.ref a0, .int x1, u2, u3] [] h = (zv 1 143 0 [.int (zi_bI (zh_b h (zq (zh_r h a0 2)) x1.toNatClampNeg))] [] h).bind fun r => zv 2 232 21 [.ref a0, .int x1, u2, u3] (r.1.toList ++ []) r.2 := by
  refine Eq.trans (zv_next f232_12 rfl) ?_
  refine Eq.trans (zs_getr f232_13 g0 g1 g2) ?_
  refine Eq.trans (zv_next f232_16 rfl) ?_
  refine Eq.trans (zs_bald f232_17 g3 g5 g4) ?_
  exact zs_callS f232_18 (by decide) (Nat.le_of_ble_eq_true rfl) (Nat.le_of_ble_eq_true rfl) rfl me_143 (by decide) rfl
theorem b232_21 {h : zi_Hp} {a0 : Nat} {x1 : Int32} {u2 : Value} {u3 : Value} {s0 : Int32} (g0 : a0 < zh_n h) (g1 : (zh_k h a0).1 = 8) (g2 : zh_r h a0 2 = .ref (zq (zh_r h a0 2))) (g3 : (zq (zh_r h a0 2)) < zh_n h) (g4 : ¬ (x1 < 0 ∨ (zh_k h (zq (zh_r h a0 2))).2 ≤ x1.toNatClampNeg)) (g5 : (zh_k h (zq (zh_r h a0 2))).1 = 101) : zv 2 232 21 [.ref a0, .int x1, u2, u3] [.int s0] h = zv 2 232 31 [.ref a0, .int x1, .int s0, .int 0] [] (zh_wb h (zq (zh_r h a0 2)) x1.toNatClampNeg true) := by
  refine Eq.trans (zv_next f232_21 rfl) ?_
  refine Eq.trans (zv_next f232_22 rfl) ?_
  refine Eq.trans (zs_getr f232_23 g0 g1 g2) ?_
  refine Eq.trans (zv_next f232_26 rfl) ?_
  refine Eq.trans (zs_ic f232_27 ic_1) ?_
  refine Eq.trans (zs_bast f232_28 g3 g5 g4 rfl) ?_
  refine Eq.trans (zs_ic f232_29 ic_0) ?_
  refine Eq.trans (zv_next f232_30 rfl) ?_
  rfl
theorem b232_31 {h : zi_Hp} {a0 : Nat} {x1 : Int32} {x2 : Int32} {x3 : Int32}  : zv 2 232 31 [.ref a0, .int x1, .int x2, .int x3] [] h = if x3 < 387 then zv 2 232 38 [.ref a0, .int x1, .int x2, .int x3] [] h else zv 2 232 62 [.ref a0, .int x1, .int x2, .int x3] [] h := by
  refine Eq.trans (zv_next f232_31 rfl) ?_
  refine Eq.trans (zs_sp f232_32 sp_387) ?_
  exact zs_icmp f232_35 rfl
theorem b232_38 {h : zi_Hp} {a0 : Nat} {x1 : Int32} {x2 : Int32} {x3 : Int32} (g0 : a0 < zh_n h) (g1 : (zh_k h a0).1 = 8) (g2 : zh_r h a0 1 = .ref (zq (zh_r h a0 1))) (g3 : zh_r h a0 0 = .ref (zq (zh_r h a0 0))) (g4 : (zq (zh_r h a0 0)) < zh_n h) (g5 : ¬ (x3 < 0 ∨ (zh_k h (zq (zh_r h a0 0))).2 ≤ x3.toNatClampNeg)) (g6 : (zh_k h (zq (zh_r h a0 0))).1 = 100) (g7 : (zq (zh_r h a0 1)) < zh_n h) (g8 : ¬ (((387 * x1) + x3) < 0 ∨ (zh_k h (zq (zh_r h a0 1))).2 ≤ ((387 * x1) + x3).toNatClampNeg)) (g9 : (zh_k h (zq (zh_r h a0 1))).1 = 100) : zv 2 232 38 [.ref a0, .int x1, .int x2, .int x3] [] h = zv 2 232 31 [.ref a0, .int x1, .int x2, .int (x3 + 1)] [] (zh_wi h (zq (zh_r h a0 1)) ((387 * x1) + x3).toNatClampNeg (zh_i h (zq (zh_r h a0 0)) x3.toNatClampNeg)) := by
  refine Eq.trans (zv_next f232_38 rfl) ?_
  refine Eq.trans (zs_getr f232_39 g0 g1 g2) ?_
  refine Eq.trans (zs_sp f232_42 sp_387) ?_
  refine Eq.trans (zv_next f232_45 rfl) ?_
  refine Eq.trans (zv_next f232_46 rfl) ?_
  refine Eq.trans (zv_next f232_47 rfl) ?_
  refine Eq.trans (zv_next f232_48 rfl) ?_
  refine Eq.trans (zv_next f232_49 rfl) ?_
  refine Eq.trans (zs_getr f232_50 g0 g1 g3) ?_
  refine Eq.trans (zv_next f232_53 rfl) ?_
  refine Eq.trans (zs_iald f232_54 g4 g6 g5) ?_
  refine Eq.trans (zs_iast f232_55 g7 g9 g8) ?_
  refine Eq.trans (zs_inc f232_56 rfl ic_1 rfl) ?_
  refine Eq.trans (zs_goto (tgt := 31) f232_59 rfl) ?_
  rfl
theorem b232_62 {h : zi_Hp} {a0 : Nat} {x1 : Int32} {x2 : Int32} {x3 : Int32}  : zv 2 232 62 [.ref a0, .int x1, .int x2, .int x3] [] h = some (some (.int x2), h) := by
  refine Eq.trans (zv_next f232_62 rfl) ?_
  exact zs_ret0 f232_63
set_option maxRecDepth 20000 in
theorem zq233 : zi_M[233]? = some zi_m233 := rfl
theorem zl233_0 {pc : Nat} (_ : 0 ≤ pc) : zi_fe 233 pc = zu233_0.lookup pc := zi_feA zq233 pc
theorem f233_0 : zi_fe 233 0 = some ((.iload_n 1), 1, 0, 0, 0, 0, 0) := (zl233_0 (Nat.le_of_ble_eq_true rfl)).trans rfl
theorem f233_1 : zi_fe 233 1 = some (.i2l, 1, 0, 0, 0, 0, 0) := (zl233_0 (Nat.le_of_ble_eq_true rfl)).trans rfl
theorem f233_2 : zi_fe 233 2 = some ((.lconst 0), 1, 0, 0, 0, 0, 0) := (zl233_0 (Nat.le_of_ble_eq_true rfl)).trans rfl
theorem f233_3 : zi_fe 233 3 = some ((.lconst 1), 1, 0, 0, 0, 0, 0) := (zl233_0 (Nat.le_of_ble_eq_true rfl)).trans rfl
theorem f233_4 : zi_fe 233 4 = some ((.invokestatic 196), 3, 142, 1, 8, 1189, 3) := (zl233_0 (Nat.le_of_ble_eq_true rfl)).trans rfl
theorem f233_7 : zi_fe 233 7 = some ((.ifCond .ne 5), 3, 0, 0, 0, 0, 0) := (zl233_0 (Nat.le_of_ble_eq_true rfl)).trans rfl
theorem f233_10 : zi_fe 233 10 = some ((.iconst (-1)), 1, 0, 0, 0, 0, 0) := (zl233_0 (Nat.le_of_ble_eq_true rfl)).trans rfl
theorem f233_11 : zi_fe 233 11 = some (.ireturn, 1, 0, 0, 0, 0, 0) := (zl233_0 (Nat.le_of_ble_eq_true rfl)).trans rfl
theorem f233_12 : zi_fe 233 12 = some ((.aload_n 0), 1, 0, 0, 0, 0, 0) := (zl233_0 (Nat.le_of_ble_eq_true rfl)).trans rfl
theorem f233_13 : zi_fe 233 13 = some ((.getfield 16), 3, 8, 2, 3, 1067, 0) := (zl233_0 (Nat.le_of_ble_eq_true rfl)).trans rfl
theorem f233_16 : zi_fe 233 16 = some ((.iload_n 1), 1, 0, 0, 0, 0, 0) := (zl233_0 (Nat.le_of_ble_eq_true rfl)).trans rfl
theorem f233_17 : zi_fe 233 17 = some (.baload, 1, 0, 0, 0, 0, 0) := (zl233_0 (Nat.le_of_ble_eq_true rfl)).trans rfl
theorem zl233_1 {pc : Nat} (h : 18 ≤ pc) : zi_fe 233 pc = zu233_1.lookup pc := (zl233_0 (Nat.le_trans (Nat.le_of_ble_eq_true rfl) h)).trans (zi_lkA (a := zi_i233_0) (c := 18) rfl h)
theorem f233_18 : zi_fe 233 18 = some ((.ifCond .ne 6), 3, 0, 0, 0, 0, 0) := (zl233_1 (Nat.le_of_ble_eq_true rfl)).trans rfl
theorem f233_21 : zi_fe 233 21 = some ((.bipush (-2)), 2, 0, 0, 0, 0, 0) := (zl233_1 (Nat.le_of_ble_eq_true rfl)).trans rfl
theorem f233_23 : zi_fe 233 23 = some (.ireturn, 1, 0, 0, 0, 0, 0) := (zl233_1 (Nat.le_of_ble_eq_true rfl)).trans rfl
theorem f233_24 : zi_fe 233 24 = some ((.iconst 0), 1, 0, 0, 0, 0, 0) := (zl233_1 (Nat.le_of_ble_eq_true rfl)).trans rfl
theorem f233_25 : zi_fe 233 25 = some ((.istore_n 2), 1, 0, 0, 0, 0, 0) := (zl233_1 (Nat.le_of_ble_eq_true rfl)).trans rfl
theorem f233_26 : zi_fe 233 26 = some ((.iload_n 2), 1, 0, 0, 0, 0, 0) := (zl233_1 (Nat.le_of_ble_eq_true rfl)).trans rfl
theorem f233_27 : zi_fe 233 27 = some ((.sipush 387), 3, 0, 0, 0, 0, 0) := (zl233_1 (Nat.le_of_ble_eq_true rfl)).trans rfl
theorem f233_30 : zi_fe 233 30 = some ((.if_icmp .ge 27), 3, 0, 0, 0, 0, 0) := (zl233_1 (Nat.le_of_ble_eq_true rfl)).trans rfl
theorem f233_33 : zi_fe 233 33 = some ((.aload_n 0), 1, 0, 0, 0, 0, 0) := (zl233_1 (Nat.le_of_ble_eq_true rfl)).trans rfl
theorem f233_34 : zi_fe 233 34 = some ((.getfield 7), 3, 8, 0, 3, 1065, 0) := (zl233_1 (Nat.le_of_ble_eq_true rfl)).trans rfl
theorem f233_37 : zi_fe 233 37 = some ((.iload_n 2), 1, 0, 0, 0, 0, 0) := (zl233_1 (Nat.le_of_ble_eq_true rfl)).trans rfl
theorem f233_38 : zi_fe 233 38 = some ((.aload_n 0), 1, 0, 0, 0, 0, 0) := (zl233_1 (Nat.le_of_ble_eq_true rfl)).trans rfl
theorem zl233_2 {pc : Nat} (h : 39 ≤ pc) : zi_fe 233 pc = zu233_2.lookup pc := (zl233_1 (Nat.le_trans (Nat.le_of_ble_eq_true rfl) h)).trans (zi_lkA (a := zi_i233_1) (c := 39) rfl h)
theorem f233_39 : zi_fe 233 39 = some ((.getfield 13), 3, 8, 1, 3, 1066, 0) := (zl233_2 (Nat.le_of_ble_eq_true rfl)).trans rfl
theorem f233_42 : zi_fe 233 42 = some ((.sipush 387), 3, 0, 0, 0, 0, 0) := (zl233_2 (Nat.le_of_ble_eq_true rfl)).trans rfl
theorem f233_45 : zi_fe 233 45 = some ((.iload_n 1), 1, 0, 0, 0, 0, 0) := (zl233_2 (Nat.le_of_ble_eq_true rfl)).trans rfl
theorem f233_46 : zi_fe 233 46 = some (.imul, 1, 0, 0, 0, 0, 0) := (zl233_2 (Nat.le_of_ble_eq_true rfl)).trans rfl
theorem f233_47 : zi_fe 233 47 = some ((.iload_n 2), 1, 0, 0, 0, 0, 0) := (zl233_2 (Nat.le_of_ble_eq_true rfl)).trans rfl
theorem f233_48 : zi_fe 233 48 = some (.iadd, 1, 0, 0, 0, 0, 0) := (zl233_2 (Nat.le_of_ble_eq_true rfl)).trans rfl
theorem f233_49 : zi_fe 233 49 = some (.iaload, 1, 0, 0, 0, 0, 0) := (zl233_2 (Nat.le_of_ble_eq_true rfl)).trans rfl
theorem f233_50 : zi_fe 233 50 = some (.iastore, 1, 0, 0, 0, 0, 0) := (zl233_2 (Nat.le_of_ble_eq_true rfl)).trans rfl
theorem f233_51 : zi_fe 233 51 = some ((.iinc 2 1), 3, 0, 0, 0, 0, 0) := (zl233_2 (Nat.le_of_ble_eq_true rfl)).trans rfl
theorem f233_54 : zi_fe 233 54 = some ((.goto (-28)), 3, 0, 0, 0, 0, 0) := (zl233_2 (Nat.le_of_ble_eq_true rfl)).trans rfl
theorem f233_57 : zi_fe 233 57 = some ((.aload_n 0), 1, 0, 0, 0, 0, 0) := (zl233_2 (Nat.le_of_ble_eq_true rfl)).trans rfl
theorem f233_58 : zi_fe 233 58 = some ((.getfield 7), 3, 8, 0, 3, 1065, 0) := (zl233_2 (Nat.le_of_ble_eq_true rfl)).trans rfl
theorem zl233_3 {pc : Nat} (h : 61 ≤ pc) : zi_fe 233 pc = zu233_3.lookup pc := (zl233_2 (Nat.le_trans (Nat.le_of_ble_eq_true rfl) h)).trans (zi_lkA (a := zi_i233_2) (c := 61) rfl h)
theorem f233_61 : zi_fe 233 61 = some ((.sipush 312), 3, 0, 0, 0, 0, 0) := (zl233_3 (Nat.le_of_ble_eq_true rfl)).trans rfl
theorem f233_64 : zi_fe 233 64 = some (.iaload, 1, 0, 0, 0, 0, 0) := (zl233_3 (Nat.le_of_ble_eq_true rfl)).trans rfl
theorem f233_65 : zi_fe 233 65 = some (.ireturn, 1, 0, 0, 0, 0, 0) := (zl233_3 (Nat.le_of_ble_eq_true rfl)).trans rfl
theorem b233_0 {h : zi_Hp} {a0 : Nat} {x1 : Int32} {u2 : Value}  : zv 2 233 0 [.ref a0, .int x1, u2] [] h = (zv 1 142 0 [.long ((x1).toInt64), .double 1, .long 0, .double 1, .long 1, .double 1] [] h).bind fun r => zv 2 233 7 [.ref a0, .int x1, u2] (r.1.toList ++ []) r.2 := by
  refine Eq.trans (zv_next f233_0 rfl) ?_
  refine Eq.trans (zv_next f233_1 rfl) ?_
  refine Eq.trans (zs_lc f233_2 lc_0) ?_
  refine Eq.trans (zs_lc f233_3 lc_1) ?_
  exact zs_callS f233_4 (by decide) (Nat.le_of_ble_eq_true rfl) (Nat.le_of_ble_eq_true rfl) rfl me_142 (by decide) rfl
theorem b233_7 {h : zi_Hp} {a0 : Nat} {x1 : Int32} {u2 : Value} {s0 : Int32}  : zv 2 233 7 [.ref a0, .int x1, u2] [.int s0] h = if s0 = 0 then zv 2 233 10 [.ref a0, .int x1, u2] [] h else zv 2 233 12 [.ref a0, .int x1, u2] [] h := by
  exact zs_if f233_7 rfl
theorem b233_10 {h : zi_Hp} {a0 : Nat} {x1 : Int32} {u2 : Value}  : zv 2 233 10 [.ref a0, .int x1, u2] [] h = some (some (.int (-1)), h) := by
  refine Eq.trans (zs_ic f233_10 ic_m1) ?_
  exact zs_ret0 f233_11
theorem b233_12 {h : zi_Hp} {a0 : Nat} {x1 : Int32} {u2 : Value} (g0 : a0 < zh_n h) (g1 : (zh_k h a0).1 = 8) (g2 : zh_r h a0 2 = .ref (zq (zh_r h a0 2))) (g3 : (zq (zh_r h a0 2)) < zh_n h) (g4 : ¬ (x1 < 0 ∨ (zh_k h (zq (zh_r h a0 2))).2 ≤ x1.toNatClampNeg)) (g5 : (zh_k h (zq (zh_r h a0 2))).1 = 101) : zv 2 233 12 [.ref a0, .int x1, u2] [] h = if (zi_bI (zh_b h (zq (zh_r h a0 2)) x1.toNatClampNeg)) = 0 then zv 2 233 21 [.ref a0, .int x1, u2] [] h else zv 2 233 24 [.ref a0, .int x1, u2] [] h := by
  refine Eq.trans (zv_next f233_12 rfl) ?_
  refine Eq.trans (zs_getr f233_13 g0 g1 g2) ?_
  refine Eq.trans (zv_next f233_16 rfl) ?_
  refine Eq.trans (zs_bald f233_17 g3 g5 g4) ?_
  exact zs_if f233_18 rfl
theorem b233_21 {h : zi_Hp} {a0 : Nat} {x1 : Int32} {u2 : Value}  : zv 2 233 21 [.ref a0, .int x1, u2] [] h = some (some (.int (-2)), h) := by
  refine Eq.trans (zs_bp f233_21 bp_m2) ?_
  exact zs_ret0 f233_23
theorem b233_24 {h : zi_Hp} {a0 : Nat} {x1 : Int32} {u2 : Value}  : zv 2 233 24 [.ref a0, .int x1, u2] [] h = zv 2 233 26 [.ref a0, .int x1, .int 0] [] h := by
  refine Eq.trans (zs_ic f233_24 ic_0) ?_
  refine Eq.trans (zv_next f233_25 rfl) ?_
  rfl
theorem b233_26 {h : zi_Hp} {a0 : Nat} {x1 : Int32} {x2 : Int32}  : zv 2 233 26 [.ref a0, .int x1, .int x2] [] h = if x2 < 387 then zv 2 233 33 [.ref a0, .int x1, .int x2] [] h else zv 2 233 57 [.ref a0, .int x1, .int x2] [] h := by
  refine Eq.trans (zv_next f233_26 rfl) ?_
  refine Eq.trans (zs_sp f233_27 sp_387) ?_
  exact zs_icmp f233_30 rfl
theorem b233_33 {h : zi_Hp} {a0 : Nat} {x1 : Int32} {x2 : Int32} (g0 : a0 < zh_n h) (g1 : (zh_k h a0).1 = 8) (g2 : zh_r h a0 0 = .ref (zq (zh_r h a0 0))) (g3 : zh_r h a0 1 = .ref (zq (zh_r h a0 1))) (g4 : (zq (zh_r h a0 1)) < zh_n h) (g5 : ¬ (((387 * x1) + x2) < 0 ∨ (zh_k h (zq (zh_r h a0 1))).2 ≤ ((387 * x1) + x2).toNatClampNeg)) (g6 : (zh_k h (zq (zh_r h a0 1))).1 = 100) (g7 : (zq (zh_r h a0 0)) < zh_n h) (g8 : ¬ (x2 < 0 ∨ (zh_k h (zq (zh_r h a0 0))).2 ≤ x2.toNatClampNeg)) (g9 : (zh_k h (zq (zh_r h a0 0))).1 = 100) : zv 2 233 33 [.ref a0, .int x1, .int x2] [] h = zv 2 233 26 [.ref a0, .int x1, .int (x2 + 1)] [] (zh_wi h (zq (zh_r h a0 0)) x2.toNatClampNeg (zh_i h (zq (zh_r h a0 1)) ((387 * x1) + x2).toNatClampNeg)) := by
  refine Eq.trans (zv_next f233_33 rfl) ?_
  refine Eq.trans (zs_getr f233_34 g0 g1 g2) ?_
  refine Eq.trans (zv_next f233_37 rfl) ?_
  refine Eq.trans (zv_next f233_38 rfl) ?_
  refine Eq.trans (zs_getr f233_39 g0 g1 g3) ?_
  refine Eq.trans (zs_sp f233_42 sp_387) ?_
  refine Eq.trans (zv_next f233_45 rfl) ?_
  refine Eq.trans (zv_next f233_46 rfl) ?_
  refine Eq.trans (zv_next f233_47 rfl) ?_
  refine Eq.trans (zv_next f233_48 rfl) ?_
  refine Eq.trans (zs_iald f233_49 g4 g6 g5) ?_
  refine Eq.trans (zs_iast f233_50 g7 g9 g8) ?_
  refine Eq.trans (zs_inc f233_51 rfl ic_1 rfl) ?_
  refine Eq.trans (zs_goto (tgt := 26) f233_54 rfl) ?_
  rfl
theorem b233_57 {h : zi_Hp} {a0 : Nat} {x1 : Int32} {x2 : Int32} (g0 : a0 < zh_n h) (g1 : (zh_k h a0).1 = 8) (g2 : zh_r h a0 0 = .ref (zq (zh_r h a0 0))) (g3 : (zq (zh_r h a0 0)) < zh_n h) (g4 : 312 < (zh_k h (zq (zh_r h a0 0))).2) (g5 : (zh_k h (zq (zh_r h a0 0))).1 = 100) : zv 2 233 57 [.ref a0, .int x1, .int x2] [] h = some (some (.int (zh_i h (zq (zh_r h a0 0)) 312)), h) := by
  refine Eq.trans (zv_next f233_57 rfl) ?_
  refine Eq.trans (zs_getr f233_58 g0 g1 g2) ?_
  refine Eq.trans (zs_sp f233_61 sp_312) ?_
  refine Eq.trans (zs_iald f233_64 g3 g5 (zj_lit (by decide) g4)) ?_
  exact zs_ret0 f233_65
set_option maxRecDepth 20000 in
theorem zq234 : zi_M[234]? = some zi_m234 := rfl
theorem zl234_0 {pc : Nat} (_ : 0 ≤ pc) : zi_fe 234 pc = zu234_0.lookup pc := zi_feA zq234 pc
theorem f234_0 : zi_fe 234 0 = some ((.iload_n 0), 1, 0, 0, 0, 0, 0) := (zl234_0 (Nat.le_of_ble_eq_true rfl)).trans rfl
theorem f234_1 : zi_fe 234 1 = some (.i2l, 1, 0, 0, 0, 0, 0) := (zl234_0 (Nat.le_of_ble_eq_true rfl)).trans rfl
theorem f234_2 : zi_fe 234 2 = some ((.lconst 0), 1, 0, 0, 0, 0, 0) := (zl234_0 (Nat.le_of_ble_eq_true rfl)).trans rfl
theorem f234_3 : zi_fe 234 3 = some ((.ldc2_w 382), 3, 0, 0, 0, 1556, 3) := (zl234_0 (Nat.le_of_ble_eq_true rfl)).trans rfl
theorem f234_6 : zi_fe 234 6 = some ((.invokestatic 196), 3, 142, 1, 8, 1189, 3) := (zl234_0 (Nat.le_of_ble_eq_true rfl)).trans rfl
theorem f234_9 : zi_fe 234 9 = some ((.ifCond .eq 19), 3, 0, 0, 0, 0, 0) := (zl234_0 (Nat.le_of_ble_eq_true rfl)).trans rfl
theorem f234_12 : zi_fe 234 12 = some ((.iload_n 1), 1, 0, 0, 0, 0, 0) := (zl234_0 (Nat.le_of_ble_eq_true rfl)).trans rfl
theorem f234_13 : zi_fe 234 13 = some (.i2l, 1, 0, 0, 0, 0, 0) := (zl234_0 (Nat.le_of_ble_eq_true rfl)).trans rfl
theorem f234_14 : zi_fe 234 14 = some ((.lconst 0), 1, 0, 0, 0, 0, 0) := (zl234_0 (Nat.le_of_ble_eq_true rfl)).trans rfl
theorem f234_15 : zi_fe 234 15 = some ((.ldc2_w 246), 3, 0, 0, 0, 1236, 2) := (zl234_0 (Nat.le_of_ble_eq_true rfl)).trans rfl
theorem f234_18 : zi_fe 234 18 = some ((.invokestatic 196), 3, 142, 1, 8, 1189, 3) := (zl234_0 (Nat.le_of_ble_eq_true rfl)).trans rfl
theorem f234_21 : zi_fe 234 21 = some ((.ifCond .eq 7), 3, 0, 0, 0, 0, 0) := (zl234_0 (Nat.le_of_ble_eq_true rfl)).trans rfl
theorem zl234_1 {pc : Nat} (h : 24 ≤ pc) : zi_fe 234 pc = zu234_1.lookup pc := (zl234_0 (Nat.le_trans (Nat.le_of_ble_eq_true rfl) h)).trans (zi_lkA (a := zi_i234_0) (c := 24) rfl h)
theorem f234_24 : zi_fe 234 24 = some ((.iconst 1), 1, 0, 0, 0, 0, 0) := (zl234_1 (Nat.le_of_ble_eq_true rfl)).trans rfl
theorem f234_25 : zi_fe 234 25 = some ((.goto 4), 3, 0, 0, 0, 0, 0) := (zl234_1 (Nat.le_of_ble_eq_true rfl)).trans rfl
theorem f234_28 : zi_fe 234 28 = some ((.iconst 0), 1, 0, 0, 0, 0, 0) := (zl234_1 (Nat.le_of_ble_eq_true rfl)).trans rfl
theorem f234_29 : zi_fe 234 29 = some (.ireturn, 1, 1, 0, 0, 0, 0) := (zl234_1 (Nat.le_of_ble_eq_true rfl)).trans rfl
theorem b234_0 {h : zi_Hp} {x0 : Int32} {x1 : Int32}  : zv 2 234 0 [.int x0, .int x1] [] h = (zv 1 142 0 [.long ((x0).toInt64), .double 1, .long 0, .double 1, .long 3, .double 1] [] h).bind fun r => zv 2 234 9 [.int x0, .int x1] (r.1.toList ++ []) r.2 := by
  refine Eq.trans (zv_next f234_0 rfl) ?_
  refine Eq.trans (zv_next f234_1 rfl) ?_
  refine Eq.trans (zs_lc f234_2 lc_0) ?_
  refine Eq.trans (zs_l2 f234_3 l2_3) ?_
  exact zs_callS f234_6 (by decide) (Nat.le_of_ble_eq_true rfl) (Nat.le_of_ble_eq_true rfl) rfl me_142 (by decide) rfl
theorem b234_9 {h : zi_Hp} {x0 : Int32} {x1 : Int32} {s0 : Int32}  : zv 2 234 9 [.int x0, .int x1] [.int s0] h = if s0 = 0 then zv 2 234 28 [.int x0, .int x1] [] h else zv 2 234 12 [.int x0, .int x1] [] h := by
  exact zs_if f234_9 rfl
theorem b234_12 {h : zi_Hp} {x0 : Int32} {x1 : Int32}  : zv 2 234 12 [.int x0, .int x1] [] h = (zv 1 142 0 [.long ((x1).toInt64), .double 1, .long 0, .double 1, .long 2, .double 1] [] h).bind fun r => zv 2 234 21 [.int x0, .int x1] (r.1.toList ++ []) r.2 := by
  refine Eq.trans (zv_next f234_12 rfl) ?_
  refine Eq.trans (zv_next f234_13 rfl) ?_
  refine Eq.trans (zs_lc f234_14 lc_0) ?_
  refine Eq.trans (zs_l2 f234_15 l2_2) ?_
  exact zs_callS f234_18 (by decide) (Nat.le_of_ble_eq_true rfl) (Nat.le_of_ble_eq_true rfl) rfl me_142 (by decide) rfl
theorem b234_21 {h : zi_Hp} {x0 : Int32} {x1 : Int32} {s0 : Int32}  : zv 2 234 21 [.int x0, .int x1] [.int s0] h = if s0 = 0 then zv 2 234 28 [.int x0, .int x1] [] h else zv 2 234 24 [.int x0, .int x1] [] h := by
  exact zs_if f234_21 rfl
theorem b234_24 {h : zi_Hp} {x0 : Int32} {x1 : Int32}  : zv 2 234 24 [.int x0, .int x1] [] h = zv 2 234 29 [.int x0, .int x1] [.int 1] h := by
  refine Eq.trans (zs_ic f234_24 ic_1) ?_
  refine Eq.trans (zs_goto (tgt := 29) f234_25 rfl) ?_
  rfl
theorem b234_28 {h : zi_Hp} {x0 : Int32} {x1 : Int32}  : zv 2 234 28 [.int x0, .int x1] [] h = zv 2 234 29 [.int x0, .int x1] [.int 0] h := by
  refine Eq.trans (zs_ic f234_28 ic_0) ?_
  rfl
theorem b234_29 {h : zi_Hp} {x0 : Int32} {x1 : Int32} {s0 : Int32} (g0 : s0 = 0 ∨ s0 = 1) : zv 2 234 29 [.int x0, .int x1] [.int s0] h = some (some (.int s0), h) := by
  exact zs_ret1 f234_29 g0
set_option maxRecDepth 20000 in
theorem zq235 : zi_M[235]? = some zi_m235 := rfl
theorem zl235_0 {pc : Nat} (_ : 0 ≤ pc) : zi_fe 235 pc = zu235_0.lookup pc := zi_feA zq235 pc
theorem f235_0 : zi_fe 235 0 = some ((.iload_n 1), 1, 0, 0, 0, 0, 0) := (zl235_0 (Nat.le_of_ble_eq_true rfl)).trans rfl
theorem f235_1 : zi_fe 235 1 = some ((.iload_n 2), 1, 0, 0, 0, 0, 0) := (zl235_0 (Nat.le_of_ble_eq_true rfl)).trans rfl
theorem f235_2 : zi_fe 235 2 = some ((.invokestatic 384), 3, 234, 1, 8, 1553, 2) := (zl235_0 (Nat.le_of_ble_eq_true rfl)).trans rfl
theorem f235_5 : zi_fe 235 5 = some ((.ifCond .eq 9), 3, 0, 0, 0, 0, 0) := (zl235_0 (Nat.le_of_ble_eq_true rfl)).trans rfl
theorem f235_8 : zi_fe 235 8 = some ((.iload_n 3), 1, 0, 0, 0, 0, 0) := (zl235_0 (Nat.le_of_ble_eq_true rfl)).trans rfl
theorem f235_9 : zi_fe 235 9 = some ((.bipush 40), 2, 0, 0, 0, 0, 0) := (zl235_0 (Nat.le_of_ble_eq_true rfl)).trans rfl
theorem f235_11 : zi_fe 235 11 = some ((.if_icmp .le 5), 3, 0, 0, 0, 0, 0) := (zl235_0 (Nat.le_of_ble_eq_true rfl)).trans rfl
theorem f235_14 : zi_fe 235 14 = some ((.iconst (-1)), 1, 0, 0, 0, 0, 0) := (zl235_0 (Nat.le_of_ble_eq_true rfl)).trans rfl
theorem f235_15 : zi_fe 235 15 = some (.ireturn, 1, 0, 0, 0, 0, 0) := (zl235_0 (Nat.le_of_ble_eq_true rfl)).trans rfl
theorem f235_16 : zi_fe 235 16 = some ((.iload_n 3), 1, 0, 0, 0, 0, 0) := (zl235_0 (Nat.le_of_ble_eq_true rfl)).trans rfl
theorem f235_17 : zi_fe 235 17 = some ((.ifCond .ge 6), 3, 0, 0, 0, 0, 0) := (zl235_0 (Nat.le_of_ble_eq_true rfl)).trans rfl
theorem f235_20 : zi_fe 235 20 = some ((.bipush (-14)), 2, 0, 0, 0, 0, 0) := (zl235_0 (Nat.le_of_ble_eq_true rfl)).trans rfl
theorem zl235_1 {pc : Nat} (h : 22 ≤ pc) : zi_fe 235 pc = zu235_1.lookup pc := (zl235_0 (Nat.le_trans (Nat.le_of_ble_eq_true rfl) h)).trans (zi_lkA (a := zi_i235_0) (c := 22) rfl h)
theorem f235_22 : zi_fe 235 22 = some (.ireturn, 1, 0, 0, 0, 0, 0) := (zl235_1 (Nat.le_of_ble_eq_true rfl)).trans rfl
theorem f235_23 : zi_fe 235 23 = some ((.aload_n 0), 1, 0, 0, 0, 0, 0) := (zl235_1 (Nat.le_of_ble_eq_true rfl)).trans rfl
theorem f235_24 : zi_fe 235 24 = some ((.getfield 66), 3, 8, 35, 3, 1100, 0) := (zl235_1 (Nat.le_of_ble_eq_true rfl)).trans rfl
theorem f235_27 : zi_fe 235 27 = some ((.iload_n 1), 1, 0, 0, 0, 0, 0) := (zl235_1 (Nat.le_of_ble_eq_true rfl)).trans rfl
theorem f235_28 : zi_fe 235 28 = some ((.iload_n 2), 1, 0, 0, 0, 0, 0) := (zl235_1 (Nat.le_of_ble_eq_true rfl)).trans rfl
theorem f235_29 : zi_fe 235 29 = some (.iastore, 1, 0, 0, 0, 0, 0) := (zl235_1 (Nat.le_of_ble_eq_true rfl)).trans rfl
theorem f235_30 : zi_fe 235 30 = some ((.aload_n 0), 1, 0, 0, 0, 0, 0) := (zl235_1 (Nat.le_of_ble_eq_true rfl)).trans rfl
theorem f235_31 : zi_fe 235 31 = some ((.getfield 69), 3, 8, 36, 3, 1101, 0) := (zl235_1 (Nat.le_of_ble_eq_true rfl)).trans rfl
theorem f235_34 : zi_fe 235 34 = some ((.iload_n 1), 1, 0, 0, 0, 0, 0) := (zl235_1 (Nat.le_of_ble_eq_true rfl)).trans rfl
theorem f235_35 : zi_fe 235 35 = some ((.iload_n 3), 1, 0, 0, 0, 0, 0) := (zl235_1 (Nat.le_of_ble_eq_true rfl)).trans rfl
theorem f235_36 : zi_fe 235 36 = some (.iastore, 1, 0, 0, 0, 0, 0) := (zl235_1 (Nat.le_of_ble_eq_true rfl)).trans rfl
theorem f235_37 : zi_fe 235 37 = some ((.iconst 0), 1, 0, 0, 0, 0, 0) := (zl235_1 (Nat.le_of_ble_eq_true rfl)).trans rfl
theorem zl235_2 {pc : Nat} (h : 38 ≤ pc) : zi_fe 235 pc = zu235_2.lookup pc := (zl235_1 (Nat.le_trans (Nat.le_of_ble_eq_true rfl) h)).trans (zi_lkA (a := zi_i235_1) (c := 38) rfl h)
theorem f235_38 : zi_fe 235 38 = some ((.istore 4), 2, 0, 0, 0, 0, 0) := (zl235_2 (Nat.le_of_ble_eq_true rfl)).trans rfl
theorem f235_40 : zi_fe 235 40 = some ((.iload 4), 2, 0, 0, 0, 0, 0) := (zl235_2 (Nat.le_of_ble_eq_true rfl)).trans rfl
theorem f235_42 : zi_fe 235 42 = some ((.bipush 40), 2, 0, 0, 0, 0, 0) := (zl235_2 (Nat.le_of_ble_eq_true rfl)).trans rfl
theorem f235_44 : zi_fe 235 44 = some ((.if_icmp .ge 22), 3, 0, 0, 0, 0, 0) := (zl235_2 (Nat.le_of_ble_eq_true rfl)).trans rfl
theorem f235_47 : zi_fe 235 47 = some ((.aload_n 0), 1, 0, 0, 0, 0, 0) := (zl235_2 (Nat.le_of_ble_eq_true rfl)).trans rfl
theorem f235_48 : zi_fe 235 48 = some ((.getfield 72), 3, 8, 37, 3, 1102, 0) := (zl235_2 (Nat.le_of_ble_eq_true rfl)).trans rfl
theorem f235_51 : zi_fe 235 51 = some ((.bipush 40), 2, 0, 0, 0, 0, 0) := (zl235_2 (Nat.le_of_ble_eq_true rfl)).trans rfl
theorem f235_53 : zi_fe 235 53 = some ((.iload_n 1), 1, 0, 0, 0, 0, 0) := (zl235_2 (Nat.le_of_ble_eq_true rfl)).trans rfl
theorem f235_54 : zi_fe 235 54 = some (.imul, 1, 0, 0, 0, 0, 0) := (zl235_2 (Nat.le_of_ble_eq_true rfl)).trans rfl
theorem f235_55 : zi_fe 235 55 = some ((.iload 4), 2, 0, 0, 0, 0, 0) := (zl235_2 (Nat.le_of_ble_eq_true rfl)).trans rfl
theorem f235_57 : zi_fe 235 57 = some (.iadd, 1, 0, 0, 0, 0, 0) := (zl235_2 (Nat.le_of_ble_eq_true rfl)).trans rfl
theorem f235_58 : zi_fe 235 58 = some ((.iconst 0), 1, 0, 0, 0, 0, 0) := (zl235_2 (Nat.le_of_ble_eq_true rfl)).trans rfl
theorem zl235_3 {pc : Nat} (h : 59 ≤ pc) : zi_fe 235 pc = zu235_3.lookup pc := (zl235_2 (Nat.le_trans (Nat.le_of_ble_eq_true rfl) h)).trans (zi_lkA (a := zi_i235_2) (c := 59) rfl h)
theorem f235_59 : zi_fe 235 59 = some (.iastore, 1, 0, 0, 0, 0, 0) := (zl235_3 (Nat.le_of_ble_eq_true rfl)).trans rfl
theorem f235_60 : zi_fe 235 60 = some ((.iinc 4 1), 3, 0, 0, 0, 0, 0) := (zl235_3 (Nat.le_of_ble_eq_true rfl)).trans rfl
theorem f235_63 : zi_fe 235 63 = some ((.goto (-23)), 3, 0, 0, 0, 0, 0) := (zl235_3 (Nat.le_of_ble_eq_true rfl)).trans rfl
theorem f235_66 : zi_fe 235 66 = some ((.iconst 1), 1, 0, 0, 0, 0, 0) := (zl235_3 (Nat.le_of_ble_eq_true rfl)).trans rfl
theorem f235_67 : zi_fe 235 67 = some (.ireturn, 1, 0, 0, 0, 0, 0) := (zl235_3 (Nat.le_of_ble_eq_true rfl)).trans rfl
theorem b235_0 {h : zi_Hp} {a0 : Nat} {x1 : Int32} {x2 : Int32} {x3 : Int32} {u4 : Value}  : zv 3 235 0 [.ref a0, .int x1, .int x2, .int x3, u4] [] h = (zv 2 234 0 [.int x1, .int x2] [] h).bind fun r => zv 3 235 5 [.ref a0, .int x1, .int x2, .int x3, u4] (r.1.toList ++ []) r.2 := by
  refine Eq.trans (zv_next f235_0 rfl) ?_
  refine Eq.trans (zv_next f235_1 rfl) ?_
  exact zs_callS f235_2 (by decide) (Nat.le_of_ble_eq_true rfl) (Nat.le_of_ble_eq_true rfl) rfl me_234 (by decide) rfl
theorem b235_5 {h : zi_Hp} {a0 : Nat} {x1 : Int32} {x2 : Int32} {x3 : Int32} {u4 : Value} {s0 : Int32}  : zv 3 235 5 [.ref a0, .int x1, .int x2, .int x3, u4] [.int s0] h = if s0 = 0 then zv 3 235 14 [.ref a0, .int x1, .int x2, .int x3, u4] [] h else zv 3 235 8 [.ref a0, .int x1, .int x2, .int x3, u4] [] h := by
  exact zs_if f235_5 rfl
theorem b235_8 {h : zi_Hp} {a0 : Nat} {x1 : Int32} {x2 : Int32} {x3 : Int32} {u4 : Value}  : zv 3 235 8 [.ref a0, .int x1, .int x2, .int x3, u4] [] h = if 40 < x3 then zv 3 235 14 [.ref a0, .int x1, .int x2, .int x3, u4] [] h else zv 3 235 16 [.ref a0, .int x1, .int x2, .int x3, u4] [] h := by
  refine Eq.trans (zv_next f235_8 rfl) ?_
  refine Eq.trans (zs_bp f235_9 bp_40) ?_
  exact zs_icmp f235_11 rfl
theorem b235_14 {h : zi_Hp} {a0 : Nat} {x1 : Int32} {x2 : Int32} {x3 : Int32} {u4 : Value}  : zv 3 235 14 [.ref a0, .int x1, .int x2, .int x3, u4] [] h = some (some (.int (-1)), h) := by
  refine Eq.trans (zs_ic f235_14 ic_m1) ?_
  exact zs_ret0 f235_15
theorem b235_16 {h : zi_Hp} {a0 : Nat} {x1 : Int32} {x2 : Int32} {x3 : Int32} {u4 : Value}  : zv 3 235 16 [.ref a0, .int x1, .int x2, .int x3, u4] [] h = if x3 < 0 then zv 3 235 20 [.ref a0, .int x1, .int x2, .int x3, u4] [] h else zv 3 235 23 [.ref a0, .int x1, .int x2, .int x3, u4] [] h := by
  refine Eq.trans (zv_next f235_16 rfl) ?_
  exact zs_if f235_17 rfl
theorem b235_20 {h : zi_Hp} {a0 : Nat} {x1 : Int32} {x2 : Int32} {x3 : Int32} {u4 : Value}  : zv 3 235 20 [.ref a0, .int x1, .int x2, .int x3, u4] [] h = some (some (.int (-14)), h) := by
  refine Eq.trans (zs_bp f235_20 bp_m14) ?_
  exact zs_ret0 f235_22
theorem b235_23 {h : zi_Hp} {a0 : Nat} {x1 : Int32} {x2 : Int32} {x3 : Int32} {u4 : Value} (g0 : a0 < zh_n h) (g1 : (zh_k h a0).1 = 8) (g2 : zh_r h a0 35 = .ref (zq (zh_r h a0 35))) (g3 : (zq (zh_r h a0 35)) < zh_n h) (g4 : ¬ (x1 < 0 ∨ (zh_k h (zq (zh_r h a0 35))).2 ≤ x1.toNatClampNeg)) (g5 : (zh_k h (zq (zh_r h a0 35))).1 = 100) (g6 : zh_r h a0 36 = .ref (zq (zh_r h a0 36))) (g7 : (zq (zh_r h a0 36)) < zh_n h) (g8 : ¬ (x1 < 0 ∨ (zh_k h (zq (zh_r h a0 36))).2 ≤ x1.toNatClampNeg)) (g9 : (zh_k h (zq (zh_r h a0 36))).1 = 100) : zv 3 235 23 [.ref a0, .int x1, .int x2, .int x3, u4] [] h = zv 3 235 40 [.ref a0, .int x1, .int x2, .int x3, .int 0] [] (zh_wi (zh_wi h (zq (zh_r h a0 35)) x1.toNatClampNeg x2) (zq (zh_r h a0 36)) x1.toNatClampNeg x3) := by
  refine Eq.trans (zv_next f235_23 rfl) ?_
  refine Eq.trans (zs_getr f235_24 g0 g1 g2) ?_
  refine Eq.trans (zv_next f235_27 rfl) ?_
  refine Eq.trans (zv_next f235_28 rfl) ?_
  refine Eq.trans (zs_iast f235_29 g3 g5 g4) ?_
  refine Eq.trans (zv_next f235_30 rfl) ?_
  refine Eq.trans (zs_getr f235_31 g0 g1 g6) ?_
  refine Eq.trans (zv_next f235_34 rfl) ?_
  refine Eq.trans (zv_next f235_35 rfl) ?_
  refine Eq.trans (zs_iast f235_36 g7 g9 g8) ?_
  refine Eq.trans (zs_ic f235_37 ic_0) ?_
  refine Eq.trans (zv_next f235_38 rfl) ?_
  rfl
theorem b235_40 {h : zi_Hp} {a0 : Nat} {x1 : Int32} {x2 : Int32} {x3 : Int32} {x4 : Int32}  : zv 3 235 40 [.ref a0, .int x1, .int x2, .int x3, .int x4] [] h = if x4 < 40 then zv 3 235 47 [.ref a0, .int x1, .int x2, .int x3, .int x4] [] h else zv 3 235 66 [.ref a0, .int x1, .int x2, .int x3, .int x4] [] h := by
  refine Eq.trans (zv_next f235_40 rfl) ?_
  refine Eq.trans (zs_bp f235_42 bp_40) ?_
  exact zs_icmp f235_44 rfl
theorem b235_47 {h : zi_Hp} {a0 : Nat} {x1 : Int32} {x2 : Int32} {x3 : Int32} {x4 : Int32} (g0 : a0 < zh_n h) (g1 : (zh_k h a0).1 = 8) (g2 : zh_r h a0 37 = .ref (zq (zh_r h a0 37))) (g3 : (zq (zh_r h a0 37)) < zh_n h) (g4 : ¬ (((40 * x1) + x4) < 0 ∨ (zh_k h (zq (zh_r h a0 37))).2 ≤ ((40 * x1) + x4).toNatClampNeg)) (g5 : (zh_k h (zq (zh_r h a0 37))).1 = 100) : zv 3 235 47 [.ref a0, .int x1, .int x2, .int x3, .int x4] [] h = zv 3 235 40 [.ref a0, .int x1, .int x2, .int x3, .int (x4 + 1)] [] (zh_wi h (zq (zh_r h a0 37)) ((40 * x1) + x4).toNatClampNeg 0) := by
  refine Eq.trans (zv_next f235_47 rfl) ?_
  refine Eq.trans (zs_getr f235_48 g0 g1 g2) ?_
  refine Eq.trans (zs_bp f235_51 bp_40) ?_
  refine Eq.trans (zv_next f235_53 rfl) ?_
  refine Eq.trans (zv_next f235_54 rfl) ?_
  refine Eq.trans (zv_next f235_55 rfl) ?_
  refine Eq.trans (zv_next f235_57 rfl) ?_
  refine Eq.trans (zs_ic f235_58 ic_0) ?_
  refine Eq.trans (zs_iast f235_59 g3 g5 g4) ?_
  refine Eq.trans (zs_inc f235_60 rfl ic_1 rfl) ?_
  refine Eq.trans (zs_goto (tgt := 40) f235_63 rfl) ?_
  rfl
theorem b235_66 {h : zi_Hp} {a0 : Nat} {x1 : Int32} {x2 : Int32} {x3 : Int32} {x4 : Int32}  : zv 3 235 66 [.ref a0, .int x1, .int x2, .int x3, .int x4] [] h = some (some (.int 1), h) := by
  refine Eq.trans (zs_ic f235_66 ic_1) ?_
  exact zs_ret0 f235_67
set_option maxRecDepth 20000 in
theorem zq236 : zi_M[236]? = some zi_m236 := rfl
theorem zl236_0 {pc : Nat} (_ : 0 ≤ pc) : zi_fe 236 pc = zu236_0.lookup pc := zi_feA zq236 pc
theorem f236_0 : zi_fe 236 0 = some ((.iload_n 1), 1, 0, 0, 0, 0, 0) := (zl236_0 (Nat.le_of_ble_eq_true rfl)).trans rfl
theorem f236_1 : zi_fe 236 1 = some ((.iconst 0), 1, 0, 0, 0, 0, 0) := (zl236_0 (Nat.le_of_ble_eq_true rfl)).trans rfl
theorem f236_2 : zi_fe 236 2 = some ((.invokestatic 384), 3, 234, 1, 8, 1553, 2) := (zl236_0 (Nat.le_of_ble_eq_true rfl)).trans rfl
theorem f236_5 : zi_fe 236 5 = some ((.ifCond .ne 5), 3, 0, 0, 0, 0, 0) := (zl236_0 (Nat.le_of_ble_eq_true rfl)).trans rfl
theorem f236_8 : zi_fe 236 8 = some ((.iconst (-1)), 1, 0, 0, 0, 0, 0) := (zl236_0 (Nat.le_of_ble_eq_true rfl)).trans rfl
theorem f236_9 : zi_fe 236 9 = some (.ireturn, 1, 0, 0, 0, 0, 0) := (zl236_0 (Nat.le_of_ble_eq_true rfl)).trans rfl
theorem f236_10 : zi_fe 236 10 = some ((.aload_n 0), 1, 0, 0, 0, 0, 0) := (zl236_0 (Nat.le_of_ble_eq_true rfl)).trans rfl
theorem f236_11 : zi_fe 236 11 = some ((.getfield 66), 3, 8, 35, 3, 1100, 0) := (zl236_0 (Nat.le_of_ble_eq_true rfl)).trans rfl
theorem f236_14 : zi_fe 236 14 = some ((.iload_n 1), 1, 0, 0, 0, 0, 0) := (zl236_0 (Nat.le_of_ble_eq_true rfl)).trans rfl
theorem f236_15 : zi_fe 236 15 = some (.iaload, 1, 0, 0, 0, 0, 0) := (zl236_0 (Nat.le_of_ble_eq_true rfl)).trans rfl
theorem f236_16 : zi_fe 236 16 = some ((.bipush (-4)), 2, 0, 0, 0, 0, 0) := (zl236_0 (Nat.le_of_ble_eq_true rfl)).trans rfl
theorem f236_18 : zi_fe 236 18 = some ((.if_icmp .ne 6), 3, 0, 0, 0, 0, 0) := (zl236_0 (Nat.le_of_ble_eq_true rfl)).trans rfl
theorem zl236_1 {pc : Nat} (h : 21 ≤ pc) : zi_fe 236 pc = zu236_1.lookup pc := (zl236_0 (Nat.le_trans (Nat.le_of_ble_eq_true rfl) h)).trans (zi_lkA (a := zi_i236_0) (c := 21) rfl h)
theorem f236_21 : zi_fe 236 21 = some ((.bipush (-11)), 2, 0, 0, 0, 0, 0) := (zl236_1 (Nat.le_of_ble_eq_true rfl)).trans rfl
theorem f236_23 : zi_fe 236 23 = some (.ireturn, 1, 0, 0, 0, 0, 0) := (zl236_1 (Nat.le_of_ble_eq_true rfl)).trans rfl
theorem f236_24 : zi_fe 236 24 = some ((.iload_n 2), 1, 0, 0, 0, 0, 0) := (zl236_1 (Nat.le_of_ble_eq_true rfl)).trans rfl
theorem f236_25 : zi_fe 236 25 = some (.i2l, 1, 0, 0, 0, 0, 0) := (zl236_1 (Nat.le_of_ble_eq_true rfl)).trans rfl
theorem f236_26 : zi_fe 236 26 = some ((.lconst 0), 1, 0, 0, 0, 0, 0) := (zl236_1 (Nat.le_of_ble_eq_true rfl)).trans rfl
theorem f236_27 : zi_fe 236 27 = some ((.aload_n 0), 1, 0, 0, 0, 0, 0) := (zl236_1 (Nat.le_of_ble_eq_true rfl)).trans rfl
theorem f236_28 : zi_fe 236 28 = some ((.getfield 69), 3, 8, 36, 3, 1101, 0) := (zl236_1 (Nat.le_of_ble_eq_true rfl)).trans rfl
theorem f236_31 : zi_fe 236 31 = some ((.iload_n 1), 1, 0, 0, 0, 0, 0) := (zl236_1 (Nat.le_of_ble_eq_true rfl)).trans rfl
theorem f236_32 : zi_fe 236 32 = some (.iaload, 1, 0, 0, 0, 0, 0) := (zl236_1 (Nat.le_of_ble_eq_true rfl)).trans rfl
theorem f236_33 : zi_fe 236 33 = some ((.iconst 1), 1, 0, 0, 0, 0, 0) := (zl236_1 (Nat.le_of_ble_eq_true rfl)).trans rfl
theorem f236_34 : zi_fe 236 34 = some (.isub, 1, 0, 0, 0, 0, 0) := (zl236_1 (Nat.le_of_ble_eq_true rfl)).trans rfl
theorem f236_35 : zi_fe 236 35 = some (.i2l, 1, 0, 0, 0, 0, 0) := (zl236_1 (Nat.le_of_ble_eq_true rfl)).trans rfl
theorem zl236_2 {pc : Nat} (h : 36 ≤ pc) : zi_fe 236 pc = zu236_2.lookup pc := (zl236_1 (Nat.le_trans (Nat.le_of_ble_eq_true rfl) h)).trans (zi_lkA (a := zi_i236_1) (c := 36) rfl h)
theorem f236_36 : zi_fe 236 36 = some ((.invokestatic 196), 3, 142, 1, 8, 1189, 3) := (zl236_2 (Nat.le_of_ble_eq_true rfl)).trans rfl
theorem f236_39 : zi_fe 236 39 = some ((.ifCond .ne 6), 3, 0, 0, 0, 0, 0) := (zl236_2 (Nat.le_of_ble_eq_true rfl)).trans rfl
theorem f236_42 : zi_fe 236 42 = some ((.bipush (-12)), 2, 0, 0, 0, 0, 0) := (zl236_2 (Nat.le_of_ble_eq_true rfl)).trans rfl
theorem f236_44 : zi_fe 236 44 = some (.ireturn, 1, 0, 0, 0, 0, 0) := (zl236_2 (Nat.le_of_ble_eq_true rfl)).trans rfl
theorem f236_45 : zi_fe 236 45 = some ((.aload_n 0), 1, 0, 0, 0, 0, 0) := (zl236_2 (Nat.le_of_ble_eq_true rfl)).trans rfl
theorem f236_46 : zi_fe 236 46 = some ((.getfield 72), 3, 8, 37, 3, 1102, 0) := (zl236_2 (Nat.le_of_ble_eq_true rfl)).trans rfl
theorem f236_49 : zi_fe 236 49 = some ((.bipush 40), 2, 0, 0, 0, 0, 0) := (zl236_2 (Nat.le_of_ble_eq_true rfl)).trans rfl
theorem f236_51 : zi_fe 236 51 = some ((.iload_n 1), 1, 0, 0, 0, 0, 0) := (zl236_2 (Nat.le_of_ble_eq_true rfl)).trans rfl
theorem f236_52 : zi_fe 236 52 = some (.imul, 1, 0, 0, 0, 0, 0) := (zl236_2 (Nat.le_of_ble_eq_true rfl)).trans rfl
theorem f236_53 : zi_fe 236 53 = some ((.iload_n 2), 1, 0, 0, 0, 0, 0) := (zl236_2 (Nat.le_of_ble_eq_true rfl)).trans rfl
theorem f236_54 : zi_fe 236 54 = some (.iadd, 1, 0, 0, 0, 0, 0) := (zl236_2 (Nat.le_of_ble_eq_true rfl)).trans rfl
theorem f236_55 : zi_fe 236 55 = some ((.aload_n 0), 1, 0, 0, 0, 0, 0) := (zl236_2 (Nat.le_of_ble_eq_true rfl)).trans rfl
theorem zl236_3 {pc : Nat} (h : 56 ≤ pc) : zi_fe 236 pc = zu236_3.lookup pc := (zl236_2 (Nat.le_trans (Nat.le_of_ble_eq_true rfl) h)).trans (zi_lkA (a := zi_i236_2) (c := 56) rfl h)
theorem f236_56 : zi_fe 236 56 = some ((.getfield 66), 3, 8, 35, 3, 1100, 0) := (zl236_3 (Nat.le_of_ble_eq_true rfl)).trans rfl
theorem f236_59 : zi_fe 236 59 = some ((.iload_n 1), 1, 0, 0, 0, 0, 0) := (zl236_3 (Nat.le_of_ble_eq_true rfl)).trans rfl
theorem f236_60 : zi_fe 236 60 = some (.iaload, 1, 0, 0, 0, 0, 0) := (zl236_3 (Nat.le_of_ble_eq_true rfl)).trans rfl
theorem f236_61 : zi_fe 236 61 = some ((.ifCond .ne 8), 3, 0, 0, 0, 0, 0) := (zl236_3 (Nat.le_of_ble_eq_true rfl)).trans rfl
theorem f236_64 : zi_fe 236 64 = some ((.iload_n 3), 1, 0, 0, 0, 0, 0) := (zl236_3 (Nat.le_of_ble_eq_true rfl)).trans rfl
theorem f236_65 : zi_fe 236 65 = some (.i2b, 1, 0, 0, 0, 0, 0) := (zl236_3 (Nat.le_of_ble_eq_true rfl)).trans rfl
theorem f236_66 : zi_fe 236 66 = some ((.goto 19), 3, 0, 0, 0, 0, 0) := (zl236_3 (Nat.le_of_ble_eq_true rfl)).trans rfl
theorem f236_69 : zi_fe 236 69 = some ((.aload_n 0), 1, 0, 0, 0, 0, 0) := (zl236_3 (Nat.le_of_ble_eq_true rfl)).trans rfl
theorem f236_70 : zi_fe 236 70 = some ((.getfield 66), 3, 8, 35, 3, 1100, 0) := (zl236_3 (Nat.le_of_ble_eq_true rfl)).trans rfl
theorem f236_73 : zi_fe 236 73 = some ((.iload_n 1), 1, 0, 0, 0, 0, 0) := (zl236_3 (Nat.le_of_ble_eq_true rfl)).trans rfl
theorem f236_74 : zi_fe 236 74 = some (.iaload, 1, 0, 0, 0, 0, 0) := (zl236_3 (Nat.le_of_ble_eq_true rfl)).trans rfl
theorem f236_75 : zi_fe 236 75 = some ((.iconst 1), 1, 0, 0, 0, 0, 0) := (zl236_3 (Nat.le_of_ble_eq_true rfl)).trans rfl
theorem zl236_4 {pc : Nat} (h : 76 ≤ pc) : zi_fe 236 pc = zu236_4.lookup pc := (zl236_3 (Nat.le_trans (Nat.le_of_ble_eq_true rfl) h)).trans (zi_lkA (a := zi_i236_3) (c := 76) rfl h)
theorem f236_76 : zi_fe 236 76 = some ((.if_icmp .ne 8), 3, 0, 0, 0, 0, 0) := (zl236_4 (Nat.le_of_ble_eq_true rfl)).trans rfl
theorem f236_79 : zi_fe 236 79 = some ((.iload_n 3), 1, 0, 0, 0, 0, 0) := (zl236_4 (Nat.le_of_ble_eq_true rfl)).trans rfl
theorem f236_80 : zi_fe 236 80 = some (.i2s, 1, 0, 0, 0, 0, 0) := (zl236_4 (Nat.le_of_ble_eq_true rfl)).trans rfl
theorem f236_81 : zi_fe 236 81 = some ((.goto 4), 3, 0, 0, 0, 0, 0) := (zl236_4 (Nat.le_of_ble_eq_true rfl)).trans rfl
theorem f236_84 : zi_fe 236 84 = some ((.iload_n 3), 1, 0, 0, 0, 0, 0) := (zl236_4 (Nat.le_of_ble_eq_true rfl)).trans rfl
theorem f236_85 : zi_fe 236 85 = some (.iastore, 1, 0, 0, 0, 0, 0) := (zl236_4 (Nat.le_of_ble_eq_true rfl)).trans rfl
theorem f236_86 : zi_fe 236 86 = some ((.iconst 1), 1, 0, 0, 0, 0, 0) := (zl236_4 (Nat.le_of_ble_eq_true rfl)).trans rfl
theorem f236_87 : zi_fe 236 87 = some (.ireturn, 1, 0, 0, 0, 0, 0) := (zl236_4 (Nat.le_of_ble_eq_true rfl)).trans rfl
theorem b236_0 {h : zi_Hp} {a0 : Nat} {x1 : Int32} {x2 : Int32} {x3 : Int32}  : zv 3 236 0 [.ref a0, .int x1, .int x2, .int x3] [] h = (zv 2 234 0 [.int x1, .int 0] [] h).bind fun r => zv 3 236 5 [.ref a0, .int x1, .int x2, .int x3] (r.1.toList ++ []) r.2 := by
  refine Eq.trans (zv_next f236_0 rfl) ?_
  refine Eq.trans (zs_ic f236_1 ic_0) ?_
  exact zs_callS f236_2 (by decide) (Nat.le_of_ble_eq_true rfl) (Nat.le_of_ble_eq_true rfl) rfl me_234 (by decide) rfl
theorem b236_5 {h : zi_Hp} {a0 : Nat} {x1 : Int32} {x2 : Int32} {x3 : Int32} {s0 : Int32}  : zv 3 236 5 [.ref a0, .int x1, .int x2, .int x3] [.int s0] h = if s0 = 0 then zv 3 236 8 [.ref a0, .int x1, .int x2, .int x3] [] h else zv 3 236 10 [.ref a0, .int x1, .int x2, .int x3] [] h := by
  exact zs_if f236_5 rfl
theorem b236_8 {h : zi_Hp} {a0 : Nat} {x1 : Int32} {x2 : Int32} {x3 : Int32}  : zv 3 236 8 [.ref a0, .int x1, .int x2, .int x3] [] h = some (some (.int (-1)), h) := by
  refine Eq.trans (zs_ic f236_8 ic_m1) ?_
  exact zs_ret0 f236_9
theorem b236_10 {h : zi_Hp} {a0 : Nat} {x1 : Int32} {x2 : Int32} {x3 : Int32} (g0 : a0 < zh_n h) (g1 : (zh_k h a0).1 = 8) (g2 : zh_r h a0 35 = .ref (zq (zh_r h a0 35))) (g3 : (zq (zh_r h a0 35)) < zh_n h) (g4 : ¬ (x1 < 0 ∨ (zh_k h (zq (zh_r h a0 35))).2 ≤ x1.toNatClampNeg)) (g5 : (zh_k h (zq (zh_r h a0 35))).1 = 100) : zv 3 236 10 [.ref a0, .int x1, .int x2, .int x3] [] h = if (zh_i h (zq (zh_r h a0 35)) x1.toNatClampNeg) = (-4) then zv 3 236 21 [.ref a0, .int x1, .int x2, .int x3] [] h else zv 3 236 24 [.ref a0, .int x1, .int x2, .int x3] [] h := by
  refine Eq.trans (zv_next f236_10 rfl) ?_
  refine Eq.trans (zs_getr f236_11 g0 g1 g2) ?_
  refine Eq.trans (zv_next f236_14 rfl) ?_
  refine Eq.trans (zs_iald f236_15 g3 g5 g4) ?_
  refine Eq.trans (zs_bp f236_16 bp_m4) ?_
  exact zs_icmp f236_18 rfl
theorem b236_21 {h : zi_Hp} {a0 : Nat} {x1 : Int32} {x2 : Int32} {x3 : Int32}  : zv 3 236 21 [.ref a0, .int x1, .int x2, .int x3] [] h = some (some (.int (-11)), h) := by
  refine Eq.trans (zs_bp f236_21 bp_m11) ?_
  exact zs_ret0 f236_23
theorem b236_24 {h : zi_Hp} {a0 : Nat} {x1 : Int32} {x2 : Int32} {x3 : Int32} (g0 : a0 < zh_n h) (g1 : (zh_k h a0).1 = 8) (g2 : zh_r h a0 36 = .ref (zq (zh_r h a0 36))) (g3 : (zq (zh_r h a0 36)) < zh_n h) (g4 : ¬ (x1 < 0 ∨ (zh_k h (zq (zh_r h a0 36))).2 ≤ x1.toNatClampNeg)) (g5 : (zh_k h (zq (zh_r h a0 36))).1 = 100) : zv 3 236 24 [.ref a0, .int x1, .int x2, .int x3] [] h = (zv 1 142 0 [.long ((x2).toInt64), .double 1, .long 0, .double 1, .long ((((zh_i h (zq (zh_r h a0 36)) x1.toNatClampNeg) - 1)).toInt64), .double 1] [] h).bind fun r => zv 3 236 39 [.ref a0, .int x1, .int x2, .int x3] (r.1.toList ++ []) r.2 := by
  refine Eq.trans (zv_next f236_24 rfl) ?_
  refine Eq.trans (zv_next f236_25 rfl) ?_
  refine Eq.trans (zs_lc f236_26 lc_0) ?_
  refine Eq.trans (zv_next f236_27 rfl) ?_
  refine Eq.trans (zs_getr f236_28 g0 g1 g2) ?_
  refine Eq.trans (zv_next f236_31 rfl) ?_
  refine Eq.trans (zs_iald f236_32 g3 g5 g4) ?_
  refine Eq.trans (zs_ic f236_33 ic_1) ?_
  refine Eq.trans (zv_next f236_34 rfl) ?_
  refine Eq.trans (zv_next f236_35 rfl) ?_
  exact zs_callS f236_36 (by decide) (Nat.le_of_ble_eq_true rfl) (Nat.le_of_ble_eq_true rfl) rfl me_142 (by decide) rfl
theorem b236_39 {h : zi_Hp} {a0 : Nat} {x1 : Int32} {x2 : Int32} {x3 : Int32} {s0 : Int32}  : zv 3 236 39 [.ref a0, .int x1, .int x2, .int x3] [.int s0] h = if s0 = 0 then zv 3 236 42 [.ref a0, .int x1, .int x2, .int x3] [] h else zv 3 236 45 [.ref a0, .int x1, .int x2, .int x3] [] h := by
  exact zs_if f236_39 rfl
theorem b236_42 {h : zi_Hp} {a0 : Nat} {x1 : Int32} {x2 : Int32} {x3 : Int32}  : zv 3 236 42 [.ref a0, .int x1, .int x2, .int x3] [] h = some (some (.int (-12)), h) := by
  refine Eq.trans (zs_bp f236_42 bp_m12) ?_
  exact zs_ret0 f236_44
theorem b236_45 {h : zi_Hp} {a0 : Nat} {x1 : Int32} {x2 : Int32} {x3 : Int32} (g0 : a0 < zh_n h) (g1 : (zh_k h a0).1 = 8) (g2 : zh_r h a0 37 = .ref (zq (zh_r h a0 37))) (g3 : zh_r h a0 35 = .ref (zq (zh_r h a0 35))) (g4 : (zq (zh_r h a0 35)) < zh_n h) (g5 : ¬ (x1 < 0 ∨ (zh_k h (zq (zh_r h a0 35))).2 ≤ x1.toNatClampNeg)) (g6 : (zh_k h (zq (zh_r h a0 35))).1 = 100) : zv 3 236 45 [.ref a0, .int x1, .int x2, .int x3] [] h = if (zh_i h (zq (zh_r h a0 35)) x1.toNatClampNeg) = 0 then zv 3 236 64 [.ref a0, .int x1, .int x2, .int x3] [.int ((40 * x1) + x2), .ref (zq (zh_r h a0 37))] h else zv 3 236 69 [.ref a0, .int x1, .int x2, .int x3] [.int ((40 * x1) + x2), .ref (zq (zh_r h a0 37))] h := by
  refine Eq.trans (zv_next f236_45 rfl) ?_
  refine Eq.trans (zs_getr f236_46 g0 g1 g2) ?_
  refine Eq.trans (zs_bp f236_49 bp_40) ?_
  refine Eq.trans (zv_next f236_51 rfl) ?_
  refine Eq.trans (zv_next f236_52 rfl) ?_
  refine Eq.trans (zv_next f236_53 rfl) ?_
  refine Eq.trans (zv_next f236_54 rfl) ?_
  refine Eq.trans (zv_next f236_55 rfl) ?_
  refine Eq.trans (zs_getr f236_56 g0 g1 g3) ?_
  refine Eq.trans (zv_next f236_59 rfl) ?_
  refine Eq.trans (zs_iald f236_60 g4 g6 g5) ?_
  exact zs_if f236_61 rfl
theorem b236_64 {h : zi_Hp} {a0 : Nat} {x1 : Int32} {x2 : Int32} {x3 : Int32} {t0 : Nat} {s1 : Int32}  : zv 3 236 64 [.ref a0, .int x1, .int x2, .int x3] [.int s1, .ref t0] h = zv 3 236 85 [.ref a0, .int x1, .int x2, .int x3] [.int ((x3).toInt8.toInt32), .int s1, .ref t0] h := by
  refine Eq.trans (zv_next f236_64 rfl) ?_
  refine Eq.trans (zv_next f236_65 rfl) ?_
  refine Eq.trans (zs_goto (tgt := 85) f236_66 rfl) ?_
  rfl
theorem b236_69 {h : zi_Hp} {a0 : Nat} {x1 : Int32} {x2 : Int32} {x3 : Int32} {t0 : Nat} {s1 : Int32} (g0 : a0 < zh_n h) (g1 : (zh_k h a0).1 = 8) (g2 : zh_r h a0 35 = .ref (zq (zh_r h a0 35))) (g3 : (zq (zh_r h a0 35)) < zh_n h) (g4 : ¬ (x1 < 0 ∨ (zh_k h (zq (zh_r h a0 35))).2 ≤ x1.toNatClampNeg)) (g5 : (zh_k h (zq (zh_r h a0 35))).1 = 100) : zv 3 236 69 [.ref a0, .int x1, .int x2, .int x3] [.int s1, .ref t0] h = if (zh_i h (zq (zh_r h a0 35)) x1.toNatClampNeg) = 1 then zv 3 236 79 [.ref a0, .int x1, .int x2, .int x3] [.int s1, .ref t0] h else zv 3 236 84 [.ref a0, .int x1, .int x2, .int x3] [.int s1, .ref t0] h := by
  refine Eq.trans (zv_next f236_69 rfl) ?_
  refine Eq.trans (zs_getr f236_70 g0 g1 g2) ?_
  refine Eq.trans (zv_next f236_73 rfl) ?_
  refine Eq.trans (zs_iald f236_74 g3 g5 g4) ?_
  refine Eq.trans (zs_ic f236_75 ic_1) ?_
  exact zs_icmp f236_76 rfl
theorem b236_79 {h : zi_Hp} {a0 : Nat} {x1 : Int32} {x2 : Int32} {x3 : Int32} {t0 : Nat} {s1 : Int32}  : zv 3 236 79 [.ref a0, .int x1, .int x2, .int x3] [.int s1, .ref t0] h = zv 3 236 85 [.ref a0, .int x1, .int x2, .int x3] [.int ((x3).toInt16.toInt32), .int s1, .ref t0] h := by
  refine Eq.trans (zv_next f236_79 rfl) ?_
  refine Eq.trans (zv_next f236_80 rfl) ?_
  refine Eq.trans (zs_goto (tgt := 85) f236_81 rfl) ?_
  rfl
theorem b236_84 {h : zi_Hp} {a0 : Nat} {x1 : Int32} {x2 : Int32} {x3 : Int32} {t0 : Nat} {s1 : Int32}  : zv 3 236 84 [.ref a0, .int x1, .int x2, .int x3] [.int s1, .ref t0] h = zv 3 236 85 [.ref a0, .int x1, .int x2, .int x3] [.int x3, .int s1, .ref t0] h := by
  refine Eq.trans (zv_next f236_84 rfl) ?_
  rfl
theorem b236_85 {h : zi_Hp} {a0 : Nat} {x1 : Int32} {x2 : Int32} {x3 : Int32} {t0 : Nat} {s1 : Int32} {s2 : Int32} (g0 : t0 < zh_n h) (g1 : ¬ (s1 < 0 ∨ (zh_k h t0).2 ≤ s1.toNatClampNeg)) (g2 : (zh_k h t0).1 = 100) : zv 3 236 85 [.ref a0, .int x1, .int x2, .int x3] [.int s2, .int s1, .ref t0] h = some (some (.int 1), zh_wi h t0 s1.toNatClampNeg s2) := by
  refine Eq.trans (zs_iast f236_85 g0 g2 g1) ?_
  refine Eq.trans (zs_ic f236_86 ic_1) ?_
  exact zs_ret0 f236_87
