set_option maxRecDepth 20000 in
theorem zq110 : zi_M[110]? = some zi_m110 := rfl
theorem zl110_0 {pc : Nat} (_ : 0 ≤ pc) : zi_fe 110 pc = zu110_0.lookup pc := zi_feA zq110 pc
theorem f110_0 : zi_fe 110 0 = some ((.aload_n 0), 1, 0, 0, 0, 0, 0) := (zl110_0 (Nat.le_of_ble_eq_true rfl)).trans rfl
theorem f110_1 : zi_fe 110 1 = some ((.getfield 12), 3, 7, 0, 3, 411, 0) := (zl110_0 (Nat.le_of_ble_eq_true rfl)).trans rfl
theorem f110_4 : zi_fe 110 4 = some ((.getfield 83), 3, 6, 0, 3, 255, 0) := (zl110_0 (Nat.le_of_ble_eq_true rfl)).trans rfl
theorem f110_7 : zi_fe 110 7 = some ((.astore_n 3), 1, 0, 0, 0, 0, 0) := (zl110_0 (Nat.le_of_ble_eq_true rfl)).trans rfl
theorem f110_8 : zi_fe 110 8 = some ((.aload_n 3), 1, 0, 0, 0, 0, 0) := (zl110_0 (Nat.le_of_ble_eq_true rfl)).trans rfl
theorem f110_9 : zi_fe 110 9 = some ((.iload_n 1), 1, 0, 0, 0, 0, 0) := (zl110_0 (Nat.le_of_ble_eq_true rfl)).trans rfl
theorem f110_10 : zi_fe 110 10 = some ((.invokevirtual 115), 3, 41, 0, 4, 789, 2) := (zl110_0 (Nat.le_of_ble_eq_true rfl)).trans rfl
theorem f110_13 : zi_fe 110 13 = some ((.ifCond .ne 5), 3, 0, 0, 0, 0, 0) := (zl110_0 (Nat.le_of_ble_eq_true rfl)).trans rfl
theorem f110_16 : zi_fe 110 16 = some ((.iconst (-1)), 1, 0, 0, 0, 0, 0) := (zl110_0 (Nat.le_of_ble_eq_true rfl)).trans rfl
theorem f110_17 : zi_fe 110 17 = some (.ireturn, 1, 0, 0, 0, 0, 0) := (zl110_0 (Nat.le_of_ble_eq_true rfl)).trans rfl
theorem f110_18 : zi_fe 110 18 = some ((.iload_n 2), 1, 0, 0, 0, 0, 0) := (zl110_0 (Nat.le_of_ble_eq_true rfl)).trans rfl
theorem f110_19 : zi_fe 110 19 = some ((.tableswitch 89 0 5 #[37, 44, 51, 58, 65, 74]), 37, 0, 0, 0, 0, 0) := (zl110_0 (Nat.le_of_ble_eq_true rfl)).trans rfl
theorem zl110_1 {pc : Nat} (h : 56 ≤ pc) : zi_fe 110 pc = zu110_1.lookup pc := (zl110_0 (Nat.le_trans (Nat.le_of_ble_eq_true rfl) h)).trans (zi_lkA (a := zi_i110_0) (c := 56) rfl h)
theorem f110_56 : zi_fe 110 56 = some ((.aload_n 3), 1, 0, 0, 0, 0, 0) := (zl110_1 (Nat.le_of_ble_eq_true rfl)).trans rfl
theorem f110_57 : zi_fe 110 57 = some ((.getfield 118), 3, 4, 3, 3, 148, 0) := (zl110_1 (Nat.le_of_ble_eq_true rfl)).trans rfl
theorem f110_60 : zi_fe 110 60 = some ((.iload_n 1), 1, 0, 0, 0, 0, 0) := (zl110_1 (Nat.le_of_ble_eq_true rfl)).trans rfl
theorem f110_61 : zi_fe 110 61 = some (.iaload, 1, 0, 0, 0, 0, 0) := (zl110_1 (Nat.le_of_ble_eq_true rfl)).trans rfl
theorem f110_62 : zi_fe 110 62 = some (.ireturn, 1, 0, 0, 0, 0, 0) := (zl110_1 (Nat.le_of_ble_eq_true rfl)).trans rfl
theorem f110_63 : zi_fe 110 63 = some ((.aload_n 3), 1, 0, 0, 0, 0, 0) := (zl110_1 (Nat.le_of_ble_eq_true rfl)).trans rfl
theorem f110_64 : zi_fe 110 64 = some ((.getfield 122), 3, 4, 4, 3, 150, 0) := (zl110_1 (Nat.le_of_ble_eq_true rfl)).trans rfl
theorem f110_67 : zi_fe 110 67 = some ((.iload_n 1), 1, 0, 0, 0, 0, 0) := (zl110_1 (Nat.le_of_ble_eq_true rfl)).trans rfl
theorem f110_68 : zi_fe 110 68 = some (.iaload, 1, 0, 0, 0, 0, 0) := (zl110_1 (Nat.le_of_ble_eq_true rfl)).trans rfl
theorem f110_69 : zi_fe 110 69 = some (.ireturn, 1, 0, 0, 0, 0, 0) := (zl110_1 (Nat.le_of_ble_eq_true rfl)).trans rfl
theorem f110_70 : zi_fe 110 70 = some ((.aload_n 3), 1, 0, 0, 0, 0, 0) := (zl110_1 (Nat.le_of_ble_eq_true rfl)).trans rfl
theorem f110_71 : zi_fe 110 71 = some ((.getfield 125), 3, 4, 5, 3, 153, 0) := (zl110_1 (Nat.le_of_ble_eq_true rfl)).trans rfl
theorem zl110_2 {pc : Nat} (h : 74 ≤ pc) : zi_fe 110 pc = zu110_2.lookup pc := (zl110_1 (Nat.le_trans (Nat.le_of_ble_eq_true rfl) h)).trans (zi_lkA (a := zi_i110_1) (c := 74) rfl h)
theorem f110_74 : zi_fe 110 74 = some ((.iload_n 1), 1, 0, 0, 0, 0, 0) := (zl110_2 (Nat.le_of_ble_eq_true rfl)).trans rfl
theorem f110_75 : zi_fe 110 75 = some (.iaload, 1, 0, 0, 0, 0, 0) := (zl110_2 (Nat.le_of_ble_eq_true rfl)).trans rfl
theorem f110_76 : zi_fe 110 76 = some (.ireturn, 1, 0, 0, 0, 0, 0) := (zl110_2 (Nat.le_of_ble_eq_true rfl)).trans rfl
theorem f110_77 : zi_fe 110 77 = some ((.aload_n 3), 1, 0, 0, 0, 0, 0) := (zl110_2 (Nat.le_of_ble_eq_true rfl)).trans rfl
theorem f110_78 : zi_fe 110 78 = some ((.getfield 128), 3, 4, 6, 3, 155, 0) := (zl110_2 (Nat.le_of_ble_eq_true rfl)).trans rfl
theorem f110_81 : zi_fe 110 81 = some ((.iload_n 1), 1, 0, 0, 0, 0, 0) := (zl110_2 (Nat.le_of_ble_eq_true rfl)).trans rfl
theorem f110_82 : zi_fe 110 82 = some (.iaload, 1, 0, 0, 0, 0, 0) := (zl110_2 (Nat.le_of_ble_eq_true rfl)).trans rfl
theorem f110_83 : zi_fe 110 83 = some (.ireturn, 1, 0, 0, 0, 0, 0) := (zl110_2 (Nat.le_of_ble_eq_true rfl)).trans rfl
theorem f110_84 : zi_fe 110 84 = some ((.aload_n 0), 1, 0, 0, 0, 0, 0) := (zl110_2 (Nat.le_of_ble_eq_true rfl)).trans rfl
theorem f110_85 : zi_fe 110 85 = some ((.getfield 12), 3, 7, 0, 3, 411, 0) := (zl110_2 (Nat.le_of_ble_eq_true rfl)).trans rfl
theorem f110_88 : zi_fe 110 88 = some ((.iload_n 1), 1, 0, 0, 0, 0, 0) := (zl110_2 (Nat.le_of_ble_eq_true rfl)).trans rfl
theorem f110_89 : zi_fe 110 89 = some ((.invokevirtual 131), 3, 97, 0, 6, 790, 2) := (zl110_2 (Nat.le_of_ble_eq_true rfl)).trans rfl
theorem zl110_3 {pc : Nat} (h : 92 ≤ pc) : zi_fe 110 pc = zu110_3.lookup pc := (zl110_2 (Nat.le_trans (Nat.le_of_ble_eq_true rfl) h)).trans (zi_lkA (a := zi_i110_2) (c := 92) rfl h)
theorem f110_92 : zi_fe 110 92 = some (.ireturn, 1, 0, 0, 0, 0, 0) := (zl110_3 (Nat.le_of_ble_eq_true rfl)).trans rfl
theorem f110_93 : zi_fe 110 93 = some ((.aload_n 3), 1, 0, 0, 0, 0, 0) := (zl110_3 (Nat.le_of_ble_eq_true rfl)).trans rfl
theorem f110_94 : zi_fe 110 94 = some ((.getfield 134), 3, 4, 7, 3, 158, 0) := (zl110_3 (Nat.le_of_ble_eq_true rfl)).trans rfl
theorem f110_97 : zi_fe 110 97 = some ((.iload_n 1), 1, 0, 0, 0, 0, 0) := (zl110_3 (Nat.le_of_ble_eq_true rfl)).trans rfl
theorem f110_98 : zi_fe 110 98 = some (.baload, 1, 0, 0, 0, 0, 0) := (zl110_3 (Nat.le_of_ble_eq_true rfl)).trans rfl
theorem f110_99 : zi_fe 110 99 = some ((.ifCond .eq 7), 3, 0, 0, 0, 0, 0) := (zl110_3 (Nat.le_of_ble_eq_true rfl)).trans rfl
theorem f110_102 : zi_fe 110 102 = some ((.iconst 1), 1, 0, 0, 0, 0, 0) := (zl110_3 (Nat.le_of_ble_eq_true rfl)).trans rfl
theorem f110_103 : zi_fe 110 103 = some ((.goto 4), 3, 0, 0, 0, 0, 0) := (zl110_3 (Nat.le_of_ble_eq_true rfl)).trans rfl
theorem f110_106 : zi_fe 110 106 = some ((.iconst 0), 1, 0, 0, 0, 0, 0) := (zl110_3 (Nat.le_of_ble_eq_true rfl)).trans rfl
theorem f110_107 : zi_fe 110 107 = some (.ireturn, 1, 0, 0, 0, 0, 0) := (zl110_3 (Nat.le_of_ble_eq_true rfl)).trans rfl
theorem f110_108 : zi_fe 110 108 = some ((.iconst (-1)), 1, 0, 0, 0, 0, 0) := (zl110_3 (Nat.le_of_ble_eq_true rfl)).trans rfl
theorem f110_109 : zi_fe 110 109 = some (.ireturn, 1, 0, 0, 0, 0, 0) := (zl110_3 (Nat.le_of_ble_eq_true rfl)).trans rfl
theorem b110_0 {h : zi_Hp} {a0 : Nat} {x1 : Int32} {x2 : Int32} {u3 : Value} (g0 : a0 < zh_n h) (g1 : (zh_k h a0).1 = 7) (g2 : zh_r h a0 0 = .ref (zq (zh_r h a0 0))) (g3 : (zq (zh_r h a0 0)) < zh_n h) (g4 : (zh_k h (zq (zh_r h a0 0))).1 = 6) (g5 : zh_r h (zq (zh_r h a0 0)) 0 = .ref (zq (zh_r h (zq (zh_r h a0 0)) 0))) (g6 : (zq (zh_r h (zq (zh_r h a0 0)) 0)) < zh_n h) (g7 : (zh_k h (zq (zh_r h (zq (zh_r h a0 0)) 0))).1 = 4) : zv 3 110 0 [.ref a0, .int x1, .int x2, u3] [] h = (zv 1 41 0 [.ref (zq (zh_r h (zq (zh_r h a0 0)) 0)), .int x1] [] h).bind fun r => zv 3 110 13 [.ref a0, .int x1, .int x2, .ref (zq (zh_r h (zq (zh_r h a0 0)) 0))] (r.1.toList ++ []) r.2 := by
  refine Eq.trans (zv_next f110_0 rfl) ?_
  refine Eq.trans (zs_getr f110_1 g0 g1 g2) ?_
  refine Eq.trans (zs_getr f110_4 g3 g4 g5) ?_
  refine Eq.trans (zv_next f110_7 rfl) ?_
  refine Eq.trans (zv_next f110_8 rfl) ?_
  refine Eq.trans (zv_next f110_9 rfl) ?_
  exact zs_callV f110_10 (Nat.le_of_ble_eq_true rfl) (Nat.le_of_ble_eq_true rfl) rfl g6 g7 me_41 (by decide) rfl
theorem b110_13 {h : zi_Hp} {a0 : Nat} {x1 : Int32} {x2 : Int32} {a3 : Nat} {s0 : Int32}  : zv 3 110 13 [.ref a0, .int x1, .int x2, .ref a3] [.int s0] h = if s0 = 0 then zv 3 110 16 [.ref a0, .int x1, .int x2, .ref a3] [] h else zv 3 110 18 [.ref a0, .int x1, .int x2, .ref a3] [] h := by
  exact zs_if f110_13 rfl
theorem b110_16 {h : zi_Hp} {a0 : Nat} {x1 : Int32} {x2 : Int32} {a3 : Nat}  : zv 3 110 16 [.ref a0, .int x1, .int x2, .ref a3] [] h = some (some (.int (-1)), h) := by
  refine Eq.trans (zs_ic f110_16 ic_m1) ?_
  exact zs_ret0 f110_17
theorem b110_18_c0 {h : zi_Hp} {a0 : Nat} {x1 : Int32} {x2 : Int32} {a3 : Nat}  (hx : x2 = 0) : zv 3 110 18 [.ref a0, .int x1, .int x2, .ref a3] [] h = zv 3 110 56 [.ref a0, .int x1, .int x2, .ref a3] [] h := by
  refine Eq.trans (zv_next f110_18 rfl) ?_
  exact zs_sw (off := 37) (v := 0) f110_19 (by decide) (by decide) rfl hx
theorem b110_18_c1 {h : zi_Hp} {a0 : Nat} {x1 : Int32} {x2 : Int32} {a3 : Nat}  (hx : x2 = 1) : zv 3 110 18 [.ref a0, .int x1, .int x2, .ref a3] [] h = zv 3 110 63 [.ref a0, .int x1, .int x2, .ref a3] [] h := by
  refine Eq.trans (zv_next f110_18 rfl) ?_
  exact zs_sw (off := 44) (v := 1) f110_19 (by decide) (by decide) rfl hx
theorem b110_18_c2 {h : zi_Hp} {a0 : Nat} {x1 : Int32} {x2 : Int32} {a3 : Nat}  (hx : x2 = 2) : zv 3 110 18 [.ref a0, .int x1, .int x2, .ref a3] [] h = zv 3 110 70 [.ref a0, .int x1, .int x2, .ref a3] [] h := by
  refine Eq.trans (zv_next f110_18 rfl) ?_
  exact zs_sw (off := 51) (v := 2) f110_19 (by decide) (by decide) rfl hx
theorem b110_18_c3 {h : zi_Hp} {a0 : Nat} {x1 : Int32} {x2 : Int32} {a3 : Nat}  (hx : x2 = 3) : zv 3 110 18 [.ref a0, .int x1, .int x2, .ref a3] [] h = zv 3 110 77 [.ref a0, .int x1, .int x2, .ref a3] [] h := by
  refine Eq.trans (zv_next f110_18 rfl) ?_
  exact zs_sw (off := 58) (v := 3) f110_19 (by decide) (by decide) rfl hx
theorem b110_18_c4 {h : zi_Hp} {a0 : Nat} {x1 : Int32} {x2 : Int32} {a3 : Nat}  (hx : x2 = 4) : zv 3 110 18 [.ref a0, .int x1, .int x2, .ref a3] [] h = zv 3 110 84 [.ref a0, .int x1, .int x2, .ref a3] [] h := by
  refine Eq.trans (zv_next f110_18 rfl) ?_
  exact zs_sw (off := 65) (v := 4) f110_19 (by decide) (by decide) rfl hx
theorem b110_18_c5 {h : zi_Hp} {a0 : Nat} {x1 : Int32} {x2 : Int32} {a3 : Nat}  (hx : x2 = 5) : zv 3 110 18 [.ref a0, .int x1, .int x2, .ref a3] [] h = zv 3 110 93 [.ref a0, .int x1, .int x2, .ref a3] [] h := by
  refine Eq.trans (zv_next f110_18 rfl) ?_
  exact zs_sw (off := 74) (v := 5) f110_19 (by decide) (by decide) rfl hx
theorem b110_18_d {h : zi_Hp} {a0 : Nat} {x1 : Int32} {x2 : Int32} {a3 : Nat}  (hx : (x2).toInt < 0 ∨ 5 < (x2).toInt) : zv 3 110 18 [.ref a0, .int x1, .int x2, .ref a3] [] h = zv 3 110 108 [.ref a0, .int x1, .int x2, .ref a3] [] h := by
  refine Eq.trans (zv_next f110_18 rfl) ?_
  exact zs_swO f110_19 rfl hx
theorem b110_56 {h : zi_Hp} {a0 : Nat} {x1 : Int32} {x2 : Int32} {a3 : Nat} (g0 : a3 < zh_n h) (g1 : (zh_k h a3).1 = 4) (g2 : zh_r h a3 3 = .ref (zq (zh_r h a3 3))) (g3 : (zq (zh_r h a3 3)) < zh_n h) (g4 : ¬ (x1 < 0 ∨ (zh_k h (zq (zh_r h a3 3))).2 ≤ x1.toNatClampNeg)) (g5 : (zh_k h (zq (zh_r h a3 3))).1 = 100) : zv 3 110 56 [.ref a0, .int x1, .int x2, .ref a3] [] h = some (some (.int (zh_i h (zq (zh_r h a3 3)) x1.toNatClampNeg)), h) := by
  refine Eq.trans (zv_next f110_56 rfl) ?_
  refine Eq.trans (zs_getr f110_57 g0 g1 g2) ?_
  refine Eq.trans (zv_next f110_60 rfl) ?_
  refine Eq.trans (zs_iald f110_61 g3 g5 g4) ?_
  exact zs_ret0 f110_62
theorem b110_63 {h : zi_Hp} {a0 : Nat} {x1 : Int32} {x2 : Int32} {a3 : Nat} (g0 : a3 < zh_n h) (g1 : (zh_k h a3).1 = 4) (g2 : zh_r h a3 4 = .ref (zq (zh_r h a3 4))) (g3 : (zq (zh_r h a3 4)) < zh_n h) (g4 : ¬ (x1 < 0 ∨ (zh_k h (zq (zh_r h a3 4))).2 ≤ x1.toNatClampNeg)) (g5 : (zh_k h (zq (zh_r h a3 4))).1 = 100) : zv 3 110 63 [.ref a0, .int x1, .int x2, .ref a3] [] h = some (some (.int (zh_i h (zq (zh_r h a3 4)) x1.toNatClampNeg)), h) := by
  refine Eq.trans (zv_next f110_63 rfl) ?_
  refine Eq.trans (zs_getr f110_64 g0 g1 g2) ?_
  refine Eq.trans (zv_next f110_67 rfl) ?_
  refine Eq.trans (zs_iald f110_68 g3 g5 g4) ?_
  exact zs_ret0 f110_69
theorem b110_70 {h : zi_Hp} {a0 : Nat} {x1 : Int32} {x2 : Int32} {a3 : Nat} (g0 : a3 < zh_n h) (g1 : (zh_k h a3).1 = 4) (g2 : zh_r h a3 5 = .ref (zq (zh_r h a3 5))) (g3 : (zq (zh_r h a3 5)) < zh_n h) (g4 : ¬ (x1 < 0 ∨ (zh_k h (zq (zh_r h a3 5))).2 ≤ x1.toNatClampNeg)) (g5 : (zh_k h (zq (zh_r h a3 5))).1 = 100) : zv 3 110 70 [.ref a0, .int x1, .int x2, .ref a3] [] h = some (some (.int (zh_i h (zq (zh_r h a3 5)) x1.toNatClampNeg)), h) := by
  refine Eq.trans (zv_next f110_70 rfl) ?_
  refine Eq.trans (zs_getr f110_71 g0 g1 g2) ?_
  refine Eq.trans (zv_next f110_74 rfl) ?_
  refine Eq.trans (zs_iald f110_75 g3 g5 g4) ?_
  exact zs_ret0 f110_76
theorem b110_77 {h : zi_Hp} {a0 : Nat} {x1 : Int32} {x2 : Int32} {a3 : Nat} (g0 : a3 < zh_n h) (g1 : (zh_k h a3).1 = 4) (g2 : zh_r h a3 6 = .ref (zq (zh_r h a3 6))) (g3 : (zq (zh_r h a3 6)) < zh_n h) (g4 : ¬ (x1 < 0 ∨ (zh_k h (zq (zh_r h a3 6))).2 ≤ x1.toNatClampNeg)) (g5 : (zh_k h (zq (zh_r h a3 6))).1 = 100) : zv 3 110 77 [.ref a0, .int x1, .int x2, .ref a3] [] h = some (some (.int (zh_i h (zq (zh_r h a3 6)) x1.toNatClampNeg)), h) := by
  refine Eq.trans (zv_next f110_77 rfl) ?_
  refine Eq.trans (zs_getr f110_78 g0 g1 g2) ?_
  refine Eq.trans (zv_next f110_81 rfl) ?_
  refine Eq.trans (zs_iald f110_82 g3 g5 g4) ?_
  exact zs_ret0 f110_83
theorem b110_84 {h : zi_Hp} {a0 : Nat} {x1 : Int32} {x2 : Int32} {a3 : Nat} (g0 : a0 < zh_n h) (g1 : (zh_k h a0).1 = 7) (g2 : zh_r h a0 0 = .ref (zq (zh_r h a0 0))) (g3 : (zq (zh_r h a0 0)) < zh_n h) (g4 : (zh_k h (zq (zh_r h a0 0))).1 = 6) : zv 3 110 84 [.ref a0, .int x1, .int x2, .ref a3] [] h = (zv 2 97 0 [.ref (zq (zh_r h a0 0)), .int x1, .double 0] [] h).bind fun r => zv 3 110 92 [.ref a0, .int x1, .int x2, .ref a3] (r.1.toList ++ []) r.2 := by
  refine Eq.trans (zv_next f110_84 rfl) ?_
  refine Eq.trans (zs_getr f110_85 g0 g1 g2) ?_
  refine Eq.trans (zv_next f110_88 rfl) ?_
  exact zs_callV f110_89 (Nat.le_of_ble_eq_true rfl) (Nat.le_of_ble_eq_true rfl) rfl g3 g4 me_97 (by decide) rfl
theorem b110_92 {h : zi_Hp} {a0 : Nat} {x1 : Int32} {x2 : Int32} {a3 : Nat} {s0 : Int32}  : zv 3 110 92 [.ref a0, .int x1, .int x2, .ref a3] [.int s0] h = some (some (.int s0), h) := by
  exact zs_ret0 f110_92
theorem b110_93 {h : zi_Hp} {a0 : Nat} {x1 : Int32} {x2 : Int32} {a3 : Nat} (g0 : a3 < zh_n h) (g1 : (zh_k h a3).1 = 4) (g2 : zh_r h a3 7 = .ref (zq (zh_r h a3 7))) (g3 : (zq (zh_r h a3 7)) < zh_n h) (g4 : ¬ (x1 < 0 ∨ (zh_k h (zq (zh_r h a3 7))).2 ≤ x1.toNatClampNeg)) (g5 : (zh_k h (zq (zh_r h a3 7))).1 = 101) : zv 3 110 93 [.ref a0, .int x1, .int x2, .ref a3] [] h = if (zi_bI (zh_b h (zq (zh_r h a3 7)) x1.toNatClampNeg)) = 0 then zv 3 110 106 [.ref a0, .int x1, .int x2, .ref a3] [] h else zv 3 110 102 [.ref a0, .int x1, .int x2, .ref a3] [] h := by
  refine Eq.trans (zv_next f110_93 rfl) ?_
  refine Eq.trans (zs_getr f110_94 g0 g1 g2) ?_
  refine Eq.trans (zv_next f110_97 rfl) ?_
  refine Eq.trans (zs_bald f110_98 g3 g5 g4) ?_
  exact zs_if f110_99 rfl
theorem b110_102 {h : zi_Hp} {a0 : Nat} {x1 : Int32} {x2 : Int32} {a3 : Nat}  : zv 3 110 102 [.ref a0, .int x1, .int x2, .ref a3] [] h = zv 3 110 107 [.ref a0, .int x1, .int x2, .ref a3] [.int 1] h := by
  refine Eq.trans (zs_ic f110_102 ic_1) ?_
  refine Eq.trans (zs_goto (tgt := 107) f110_103 rfl) ?_
  rfl
theorem b110_106 {h : zi_Hp} {a0 : Nat} {x1 : Int32} {x2 : Int32} {a3 : Nat}  : zv 3 110 106 [.ref a0, .int x1, .int x2, .ref a3] [] h = zv 3 110 107 [.ref a0, .int x1, .int x2, .ref a3] [.int 0] h := by
  refine Eq.trans (zs_ic f110_106 ic_0) ?_
  rfl
theorem b110_107 {h : zi_Hp} {a0 : Nat} {x1 : Int32} {x2 : Int32} {a3 : Nat} {s0 : Int32}  : zv 3 110 107 [.ref a0, .int x1, .int x2, .ref a3] [.int s0] h = some (some (.int s0), h) := by
  exact zs_ret0 f110_107
theorem b110_108 {h : zi_Hp} {a0 : Nat} {x1 : Int32} {x2 : Int32} {a3 : Nat}  : zv 3 110 108 [.ref a0, .int x1, .int x2, .ref a3] [] h = some (some (.int (-1)), h) := by
  refine Eq.trans (zs_ic f110_108 ic_m1) ?_
  exact zs_ret0 f110_109
set_option maxRecDepth 20000 in
theorem zq111 : zi_M[111]? = some zi_m111 := rfl
theorem zl111_0 {pc : Nat} (_ : 0 ≤ pc) : zi_fe 111 pc = zu111_0.lookup pc := zi_feA zq111 pc
theorem f111_0 : zi_fe 111 0 = some ((.aload_n 0), 1, 0, 0, 0, 0, 0) := (zl111_0 (Nat.le_of_ble_eq_true rfl)).trans rfl
theorem f111_1 : zi_fe 111 1 = some ((.getfield 12), 3, 7, 0, 3, 411, 0) := (zl111_0 (Nat.le_of_ble_eq_true rfl)).trans rfl
theorem f111_4 : zi_fe 111 4 = some ((.getfield 83), 3, 6, 0, 3, 255, 0) := (zl111_0 (Nat.le_of_ble_eq_true rfl)).trans rfl
theorem f111_7 : zi_fe 111 7 = some ((.astore 4), 2, 0, 0, 0, 0, 0) := (zl111_0 (Nat.le_of_ble_eq_true rfl)).trans rfl
theorem f111_9 : zi_fe 111 9 = some ((.aload 4), 2, 0, 0, 0, 0, 0) := (zl111_0 (Nat.le_of_ble_eq_true rfl)).trans rfl
theorem f111_11 : zi_fe 111 11 = some ((.iload_n 1), 1, 0, 0, 0, 0, 0) := (zl111_0 (Nat.le_of_ble_eq_true rfl)).trans rfl
theorem f111_12 : zi_fe 111 12 = some ((.invokevirtual 115), 3, 41, 0, 4, 789, 2) := (zl111_0 (Nat.le_of_ble_eq_true rfl)).trans rfl
theorem f111_15 : zi_fe 111 15 = some ((.ifCond .eq 27), 3, 0, 0, 0, 0, 0) := (zl111_0 (Nat.le_of_ble_eq_true rfl)).trans rfl
theorem f111_18 : zi_fe 111 18 = some ((.iload_n 2), 1, 0, 0, 0, 0, 0) := (zl111_0 (Nat.le_of_ble_eq_true rfl)).trans rfl
theorem f111_19 : zi_fe 111 19 = some ((.ifCond .lt 23), 3, 0, 0, 0, 0, 0) := (zl111_0 (Nat.le_of_ble_eq_true rfl)).trans rfl
theorem f111_22 : zi_fe 111 22 = some ((.iload_n 2), 1, 0, 0, 0, 0, 0) := (zl111_0 (Nat.le_of_ble_eq_true rfl)).trans rfl
theorem f111_23 : zi_fe 111 23 = some ((.aload 4), 2, 0, 0, 0, 0, 0) := (zl111_0 (Nat.le_of_ble_eq_true rfl)).trans rfl
theorem zl111_1 {pc : Nat} (h : 25 ≤ pc) : zi_fe 111 pc = zu111_1.lookup pc := (zl111_0 (Nat.le_trans (Nat.le_of_ble_eq_true rfl) h)).trans (zi_lkA (a := zi_i111_0) (c := 25) rfl h)
theorem f111_25 : zi_fe 111 25 = some ((.getfield 122), 3, 4, 4, 3, 150, 0) := (zl111_1 (Nat.le_of_ble_eq_true rfl)).trans rfl
theorem f111_28 : zi_fe 111 28 = some ((.iload_n 1), 1, 0, 0, 0, 0, 0) := (zl111_1 (Nat.le_of_ble_eq_true rfl)).trans rfl
theorem f111_29 : zi_fe 111 29 = some (.iaload, 1, 0, 0, 0, 0, 0) := (zl111_1 (Nat.le_of_ble_eq_true rfl)).trans rfl
theorem f111_30 : zi_fe 111 30 = some ((.if_icmp .ge 12), 3, 0, 0, 0, 0, 0) := (zl111_1 (Nat.le_of_ble_eq_true rfl)).trans rfl
theorem f111_33 : zi_fe 111 33 = some ((.iload_n 3), 1, 0, 0, 0, 0, 0) := (zl111_1 (Nat.le_of_ble_eq_true rfl)).trans rfl
theorem f111_34 : zi_fe 111 34 = some ((.ifCond .lt 8), 3, 0, 0, 0, 0, 0) := (zl111_1 (Nat.le_of_ble_eq_true rfl)).trans rfl
theorem f111_37 : zi_fe 111 37 = some ((.iload_n 3), 1, 0, 0, 0, 0, 0) := (zl111_1 (Nat.le_of_ble_eq_true rfl)).trans rfl
theorem f111_38 : zi_fe 111 38 = some ((.iconst 1), 1, 0, 0, 0, 0, 0) := (zl111_1 (Nat.le_of_ble_eq_true rfl)).trans rfl
theorem f111_39 : zi_fe 111 39 = some ((.if_icmp .le 5), 3, 0, 0, 0, 0, 0) := (zl111_1 (Nat.le_of_ble_eq_true rfl)).trans rfl
theorem f111_42 : zi_fe 111 42 = some ((.iconst (-1)), 1, 0, 0, 0, 0, 0) := (zl111_1 (Nat.le_of_ble_eq_true rfl)).trans rfl
theorem f111_43 : zi_fe 111 43 = some (.ireturn, 1, 0, 0, 0, 0, 0) := (zl111_1 (Nat.le_of_ble_eq_true rfl)).trans rfl
theorem f111_44 : zi_fe 111 44 = some ((.iload_n 3), 1, 0, 0, 0, 0, 0) := (zl111_1 (Nat.le_of_ble_eq_true rfl)).trans rfl
theorem zl111_2 {pc : Nat} (h : 45 ≤ pc) : zi_fe 111 pc = zu111_2.lookup pc := (zl111_1 (Nat.le_trans (Nat.le_of_ble_eq_true rfl) h)).trans (zi_lkA (a := zi_i111_1) (c := 45) rfl h)
theorem f111_45 : zi_fe 111 45 = some ((.ifCond .ne 13), 3, 0, 0, 0, 0, 0) := (zl111_2 (Nat.le_of_ble_eq_true rfl)).trans rfl
theorem f111_48 : zi_fe 111 48 = some ((.aload 4), 2, 0, 0, 0, 0, 0) := (zl111_2 (Nat.le_of_ble_eq_true rfl)).trans rfl
theorem f111_50 : zi_fe 111 50 = some ((.iload_n 1), 1, 0, 0, 0, 0, 0) := (zl111_2 (Nat.le_of_ble_eq_true rfl)).trans rfl
theorem f111_51 : zi_fe 111 51 = some ((.iload_n 2), 1, 0, 0, 0, 0, 0) := (zl111_2 (Nat.le_of_ble_eq_true rfl)).trans rfl
theorem f111_52 : zi_fe 111 52 = some ((.invokevirtual 137), 3, 47, 0, 4, 795, 3) := (zl111_2 (Nat.le_of_ble_eq_true rfl)).trans rfl
theorem f111_55 : zi_fe 111 55 = some ((.goto 10), 3, 0, 0, 0, 0, 0) := (zl111_2 (Nat.le_of_ble_eq_true rfl)).trans rfl
theorem f111_58 : zi_fe 111 58 = some ((.aload 4), 2, 0, 0, 0, 0, 0) := (zl111_2 (Nat.le_of_ble_eq_true rfl)).trans rfl
theorem f111_60 : zi_fe 111 60 = some ((.iload_n 1), 1, 0, 0, 0, 0, 0) := (zl111_2 (Nat.le_of_ble_eq_true rfl)).trans rfl
theorem f111_61 : zi_fe 111 61 = some ((.iload_n 2), 1, 0, 0, 0, 0, 0) := (zl111_2 (Nat.le_of_ble_eq_true rfl)).trans rfl
theorem f111_62 : zi_fe 111 62 = some ((.invokevirtual 141), 3, 48, 0, 4, 796, 3) := (zl111_2 (Nat.le_of_ble_eq_true rfl)).trans rfl
theorem f111_65 : zi_fe 111 65 = some (.ireturn, 1, 0, 0, 0, 0, 0) := (zl111_2 (Nat.le_of_ble_eq_true rfl)).trans rfl
theorem b111_0 {h : zi_Hp} {a0 : Nat} {x1 : Int32} {x2 : Int32} {x3 : Int32} {u4 : Value} (g0 : a0 < zh_n h) (g1 : (zh_k h a0).1 = 7) (g2 : zh_r h a0 0 = .ref (zq (zh_r h a0 0))) (g3 : (zq (zh_r h a0 0)) < zh_n h) (g4 : (zh_k h (zq (zh_r h a0 0))).1 = 6) (g5 : zh_r h (zq (zh_r h a0 0)) 0 = .ref (zq (zh_r h (zq (zh_r h a0 0)) 0))) (g6 : (zq (zh_r h (zq (zh_r h a0 0)) 0)) < zh_n h) (g7 : (zh_k h (zq (zh_r h (zq (zh_r h a0 0)) 0))).1 = 4) : zv 3 111 0 [.ref a0, .int x1, .int x2, .int x3, u4] [] h = (zv 1 41 0 [.ref (zq (zh_r h (zq (zh_r h a0 0)) 0)), .int x1] [] h).bind fun r => zv 3 111 15 [.ref a0, .int x1, .int x2, .int x3, .ref (zq (zh_r h (zq (zh_r h a0 0)) 0))] (r.1.toList ++ []) r.2 := by
  refine Eq.trans (zv_next f111_0 rfl) ?_
  refine Eq.trans (zs_getr f111_1 g0 g1 g2) ?_
  refine Eq.trans (zs_getr f111_4 g3 g4 g5) ?_
  refine Eq.trans (zv_next f111_7 rfl) ?_
  refine Eq.trans (zv_next f111_9 rfl) ?_
  refine Eq.trans (zv_next f111_11 rfl) ?_
  exact zs_callV f111_12 (Nat.le_of_ble_eq_true rfl) (Nat.le_of_ble_eq_true rfl) rfl g6 g7 me_41 (by decide) rfl
theorem b111_15 {h : zi_Hp} {a0 : Nat} {x1 : Int32} {x2 : Int32} {x3 : Int32} {a4 : Nat} {s0 : Int32}  : zv 3 111 15 [.ref a0, .int x1, .int x2, .int x3, .ref a4] [.int s0] h = if s0 = 0 then zv 3 111 42 [.ref a0, .int x1, .int x2, .int x3, .ref a4] [] h else zv 3 111 18 [.ref a0, .int x1, .int x2, .int x3, .ref a4] [] h := by
  exact zs_if f111_15 rfl
theorem b111_18 {h : zi_Hp} {a0 : Nat} {x1 : Int32} {x2 : Int32} {x3 : Int32} {a4 : Nat}  : zv 3 111 18 [.ref a0, .int x1, .int x2, .int x3, .ref a4] [] h = if x2 < 0 then zv 3 111 42 [.ref a0, .int x1, .int x2, .int x3, .ref a4] [] h else zv 3 111 22 [.ref a0, .int x1, .int x2, .int x3, .ref a4] [] h := by
  refine Eq.trans (zv_next f111_18 rfl) ?_
  exact zs_if f111_19 rfl
theorem b111_22 {h : zi_Hp} {a0 : Nat} {x1 : Int32} {x2 : Int32} {x3 : Int32} {a4 : Nat} (g0 : a4 < zh_n h) (g1 : (zh_k h a4).1 = 4) (g2 : zh_r h a4 4 = .ref (zq (zh_r h a4 4))) (g3 : (zq (zh_r h a4 4)) < zh_n h) (g4 : ¬ (x1 < 0 ∨ (zh_k h (zq (zh_r h a4 4))).2 ≤ x1.toNatClampNeg)) (g5 : (zh_k h (zq (zh_r h a4 4))).1 = 100) : zv 3 111 22 [.ref a0, .int x1, .int x2, .int x3, .ref a4] [] h = if x2 < (zh_i h (zq (zh_r h a4 4)) x1.toNatClampNeg) then zv 3 111 33 [.ref a0, .int x1, .int x2, .int x3, .ref a4] [] h else zv 3 111 42 [.ref a0, .int x1, .int x2, .int x3, .ref a4] [] h := by
  refine Eq.trans (zv_next f111_22 rfl) ?_
  refine Eq.trans (zv_next f111_23 rfl) ?_
  refine Eq.trans (zs_getr f111_25 g0 g1 g2) ?_
  refine Eq.trans (zv_next f111_28 rfl) ?_
  refine Eq.trans (zs_iald f111_29 g3 g5 g4) ?_
  exact zs_icmp f111_30 rfl
theorem b111_33 {h : zi_Hp} {a0 : Nat} {x1 : Int32} {x2 : Int32} {x3 : Int32} {a4 : Nat}  : zv 3 111 33 [.ref a0, .int x1, .int x2, .int x3, .ref a4] [] h = if x3 < 0 then zv 3 111 42 [.ref a0, .int x1, .int x2, .int x3, .ref a4] [] h else zv 3 111 37 [.ref a0, .int x1, .int x2, .int x3, .ref a4] [] h := by
  refine Eq.trans (zv_next f111_33 rfl) ?_
  exact zs_if f111_34 rfl
theorem b111_37 {h : zi_Hp} {a0 : Nat} {x1 : Int32} {x2 : Int32} {x3 : Int32} {a4 : Nat}  : zv 3 111 37 [.ref a0, .int x1, .int x2, .int x3, .ref a4] [] h = if 1 < x3 then zv 3 111 42 [.ref a0, .int x1, .int x2, .int x3, .ref a4] [] h else zv 3 111 44 [.ref a0, .int x1, .int x2, .int x3, .ref a4] [] h := by
  refine Eq.trans (zv_next f111_37 rfl) ?_
  refine Eq.trans (zs_ic f111_38 ic_1) ?_
  exact zs_icmp f111_39 rfl
theorem b111_42 {h : zi_Hp} {a0 : Nat} {x1 : Int32} {x2 : Int32} {x3 : Int32} {a4 : Nat}  : zv 3 111 42 [.ref a0, .int x1, .int x2, .int x3, .ref a4] [] h = some (some (.int (-1)), h) := by
  refine Eq.trans (zs_ic f111_42 ic_m1) ?_
  exact zs_ret0 f111_43
theorem b111_44 {h : zi_Hp} {a0 : Nat} {x1 : Int32} {x2 : Int32} {x3 : Int32} {a4 : Nat}  : zv 3 111 44 [.ref a0, .int x1, .int x2, .int x3, .ref a4] [] h = if x3 = 0 then zv 3 111 48 [.ref a0, .int x1, .int x2, .int x3, .ref a4] [] h else zv 3 111 58 [.ref a0, .int x1, .int x2, .int x3, .ref a4] [] h := by
  refine Eq.trans (zv_next f111_44 rfl) ?_
  exact zs_if f111_45 rfl
theorem b111_48 {h : zi_Hp} {a0 : Nat} {x1 : Int32} {x2 : Int32} {x3 : Int32} {a4 : Nat} (g0 : a4 < zh_n h) (g1 : (zh_k h a4).1 = 4) : zv 3 111 48 [.ref a0, .int x1, .int x2, .int x3, .ref a4] [] h = (zv 2 47 0 [.ref a4, .int x1, .int x2] [] h).bind fun r => zv 3 111 55 [.ref a0, .int x1, .int x2, .int x3, .ref a4] (r.1.toList ++ []) r.2 := by
  refine Eq.trans (zv_next f111_48 rfl) ?_
  refine Eq.trans (zv_next f111_50 rfl) ?_
  refine Eq.trans (zv_next f111_51 rfl) ?_
  exact zs_callV f111_52 (Nat.le_of_ble_eq_true rfl) (Nat.le_of_ble_eq_true rfl) rfl g0 g1 me_47 (by decide) rfl
theorem b111_55 {h : zi_Hp} {a0 : Nat} {x1 : Int32} {x2 : Int32} {x3 : Int32} {a4 : Nat} {s0 : Int32}  : zv 3 111 55 [.ref a0, .int x1, .int x2, .int x3, .ref a4] [.int s0] h = zv 3 111 65 [.ref a0, .int x1, .int x2, .int x3, .ref a4] [.int s0] h := by
  refine Eq.trans (zs_goto (tgt := 65) f111_55 rfl) ?_
  rfl
theorem b111_58 {h : zi_Hp} {a0 : Nat} {x1 : Int32} {x2 : Int32} {x3 : Int32} {a4 : Nat} (g0 : a4 < zh_n h) (g1 : (zh_k h a4).1 = 4) : zv 3 111 58 [.ref a0, .int x1, .int x2, .int x3, .ref a4] [] h = (zv 2 48 0 [.ref a4, .int x1, .int x2] [] h).bind fun r => zv 3 111 65 [.ref a0, .int x1, .int x2, .int x3, .ref a4] (r.1.toList ++ []) r.2 := by
  refine Eq.trans (zv_next f111_58 rfl) ?_
  refine Eq.trans (zv_next f111_60 rfl) ?_
  refine Eq.trans (zv_next f111_61 rfl) ?_
  exact zs_callV f111_62 (Nat.le_of_ble_eq_true rfl) (Nat.le_of_ble_eq_true rfl) rfl g0 g1 me_48 (by decide) rfl
theorem b111_65 {h : zi_Hp} {a0 : Nat} {x1 : Int32} {x2 : Int32} {x3 : Int32} {a4 : Nat} {s0 : Int32}  : zv 3 111 65 [.ref a0, .int x1, .int x2, .int x3, .ref a4] [.int s0] h = some (some (.int s0), h) := by
  exact zs_ret0 f111_65
set_option maxRecDepth 20000 in
theorem zq112 : zi_M[112]? = some zi_m112 := rfl
theorem zl112_0 {pc : Nat} (_ : 0 ≤ pc) : zi_fe 112 pc = zu112_0.lookup pc := zi_feA zq112 pc
theorem f112_0 : zi_fe 112 0 = some ((.iload_n 1), 1, 0, 0, 0, 0, 0) := (zl112_0 (Nat.le_of_ble_eq_true rfl)).trans rfl
theorem f112_1 : zi_fe 112 1 = some ((.invokestatic 144), 3, 133, 1, 7, 801, 1) := (zl112_0 (Nat.le_of_ble_eq_true rfl)).trans rfl
theorem f112_4 : zi_fe 112 4 = some ((.ifCond .eq 13), 3, 0, 0, 0, 0, 0) := (zl112_0 (Nat.le_of_ble_eq_true rfl)).trans rfl
theorem f112_7 : zi_fe 112 7 = some ((.iload_n 2), 1, 0, 0, 0, 0, 0) := (zl112_0 (Nat.le_of_ble_eq_true rfl)).trans rfl
theorem f112_8 : zi_fe 112 8 = some ((.ifCond .lt 9), 3, 0, 0, 0, 0, 0) := (zl112_0 (Nat.le_of_ble_eq_true rfl)).trans rfl
theorem f112_11 : zi_fe 112 11 = some ((.iload_n 2), 1, 0, 0, 0, 0, 0) := (zl112_0 (Nat.le_of_ble_eq_true rfl)).trans rfl
theorem f112_12 : zi_fe 112 12 = some ((.bipush 7), 2, 0, 0, 0, 0, 0) := (zl112_0 (Nat.le_of_ble_eq_true rfl)).trans rfl
theorem f112_14 : zi_fe 112 14 = some ((.if_icmp .le 5), 3, 0, 0, 0, 0, 0) := (zl112_0 (Nat.le_of_ble_eq_true rfl)).trans rfl
theorem f112_17 : zi_fe 112 17 = some ((.iconst (-1)), 1, 0, 0, 0, 0, 0) := (zl112_0 (Nat.le_of_ble_eq_true rfl)).trans rfl
theorem f112_18 : zi_fe 112 18 = some (.ireturn, 1, 0, 0, 0, 0, 0) := (zl112_0 (Nat.le_of_ble_eq_true rfl)).trans rfl
theorem f112_19 : zi_fe 112 19 = some ((.aload_n 0), 1, 0, 0, 0, 0, 0) := (zl112_0 (Nat.le_of_ble_eq_true rfl)).trans rfl
theorem f112_20 : zi_fe 112 20 = some ((.getfield 12), 3, 7, 0, 3, 411, 0) := (zl112_0 (Nat.le_of_ble_eq_true rfl)).trans rfl
theorem zl112_1 {pc : Nat} (h : 23 ≤ pc) : zi_fe 112 pc = zu112_1.lookup pc := (zl112_0 (Nat.le_trans (Nat.le_of_ble_eq_true rfl) h)).trans (zi_lkA (a := zi_i112_0) (c := 23) rfl h)
theorem f112_23 : zi_fe 112 23 = some ((.getfield 147), 3, 6, 1, 3, 257, 0) := (zl112_1 (Nat.le_of_ble_eq_true rfl)).trans rfl
theorem f112_26 : zi_fe 112 26 = some ((.iload_n 1), 1, 0, 0, 0, 0, 0) := (zl112_1 (Nat.le_of_ble_eq_true rfl)).trans rfl
theorem f112_27 : zi_fe 112 27 = some (.aaload, 1, 0, 0, 0, 0, 0) := (zl112_1 (Nat.le_of_ble_eq_true rfl)).trans rfl
theorem f112_28 : zi_fe 112 28 = some ((.astore_n 3), 1, 0, 0, 0, 0, 0) := (zl112_1 (Nat.le_of_ble_eq_true rfl)).trans rfl
theorem f112_29 : zi_fe 112 29 = some ((.iload_n 2), 1, 0, 0, 0, 0, 0) := (zl112_1 (Nat.le_of_ble_eq_true rfl)).trans rfl
theorem f112_30 : zi_fe 112 30 = some ((.ifCond .ne 8), 3, 0, 0, 0, 0, 0) := (zl112_1 (Nat.le_of_ble_eq_true rfl)).trans rfl
theorem f112_33 : zi_fe 112 33 = some ((.aload_n 3), 1, 0, 0, 0, 0, 0) := (zl112_1 (Nat.le_of_ble_eq_true rfl)).trans rfl
theorem f112_34 : zi_fe 112 34 = some ((.getfield 151), 3, 0, 0, 0, 201, 0) := (zl112_1 (Nat.le_of_ble_eq_true rfl)).trans rfl
theorem f112_37 : zi_fe 112 37 = some (.ireturn, 1, 0, 0, 0, 0, 0) := (zl112_1 (Nat.le_of_ble_eq_true rfl)).trans rfl
theorem f112_38 : zi_fe 112 38 = some ((.aload_n 3), 1, 0, 0, 0, 0, 0) := (zl112_1 (Nat.le_of_ble_eq_true rfl)).trans rfl
theorem f112_39 : zi_fe 112 39 = some ((.getfield 151), 3, 0, 0, 0, 201, 0) := (zl112_1 (Nat.le_of_ble_eq_true rfl)).trans rfl
theorem f112_42 : zi_fe 112 42 = some ((.ifCond .ne 8), 3, 0, 0, 0, 0, 0) := (zl112_1 (Nat.le_of_ble_eq_true rfl)).trans rfl
theorem zl112_2 {pc : Nat} (h : 45 ≤ pc) : zi_fe 112 pc = zu112_2.lookup pc := (zl112_1 (Nat.le_trans (Nat.le_of_ble_eq_true rfl) h)).trans (zi_lkA (a := zi_i112_1) (c := 45) rfl h)
theorem f112_45 : zi_fe 112 45 = some ((.bipush (-2)), 2, 0, 0, 0, 0, 0) := (zl112_2 (Nat.le_of_ble_eq_true rfl)).trans rfl
theorem f112_47 : zi_fe 112 47 = some ((.goto 8), 3, 0, 0, 0, 0, 0) := (zl112_2 (Nat.le_of_ble_eq_true rfl)).trans rfl
theorem f112_50 : zi_fe 112 50 = some ((.aload_n 3), 1, 0, 0, 0, 0, 0) := (zl112_2 (Nat.le_of_ble_eq_true rfl)).trans rfl
theorem f112_51 : zi_fe 112 51 = some ((.iload_n 2), 1, 0, 0, 0, 0, 0) := (zl112_2 (Nat.le_of_ble_eq_true rfl)).trans rfl
theorem f112_52 : zi_fe 112 52 = some ((.invokevirtual 156), 3, 11, 0, 0, 802, 2) := (zl112_2 (Nat.le_of_ble_eq_true rfl)).trans rfl
theorem f112_55 : zi_fe 112 55 = some (.ireturn, 1, 0, 0, 0, 0, 0) := (zl112_2 (Nat.le_of_ble_eq_true rfl)).trans rfl
theorem b112_0 {h : zi_Hp} {a0 : Nat} {x1 : Int32} {x2 : Int32} {u3 : Value}  : zv 2 112 0 [.ref a0, .int x1, .int x2, u3] [] h = (zv 1 133 0 [.int x1] [] h).bind fun r => zv 2 112 4 [.ref a0, .int x1, .int x2, u3] (r.1.toList ++ []) r.2 := by
  refine Eq.trans (zv_next f112_0 rfl) ?_
  exact zs_callS f112_1 (by decide) (Nat.le_of_ble_eq_true rfl) (Nat.le_of_ble_eq_true rfl) rfl me_133 (by decide) rfl
theorem b112_4 {h : zi_Hp} {a0 : Nat} {x1 : Int32} {x2 : Int32} {u3 : Value} {s0 : Int32}  : zv 2 112 4 [.ref a0, .int x1, .int x2, u3] [.int s0] h = if s0 = 0 then zv 2 112 17 [.ref a0, .int x1, .int x2, u3] [] h else zv 2 112 7 [.ref a0, .int x1, .int x2, u3] [] h := by
  exact zs_if f112_4 rfl
theorem b112_7 {h : zi_Hp} {a0 : Nat} {x1 : Int32} {x2 : Int32} {u3 : Value}  : zv 2 112 7 [.ref a0, .int x1, .int x2, u3] [] h = if x2 < 0 then zv 2 112 17 [.ref a0, .int x1, .int x2, u3] [] h else zv 2 112 11 [.ref a0, .int x1, .int x2, u3] [] h := by
  refine Eq.trans (zv_next f112_7 rfl) ?_
  exact zs_if f112_8 rfl
theorem b112_11 {h : zi_Hp} {a0 : Nat} {x1 : Int32} {x2 : Int32} {u3 : Value}  : zv 2 112 11 [.ref a0, .int x1, .int x2, u3] [] h = if 7 < x2 then zv 2 112 17 [.ref a0, .int x1, .int x2, u3] [] h else zv 2 112 19 [.ref a0, .int x1, .int x2, u3] [] h := by
  refine Eq.trans (zv_next f112_11 rfl) ?_
  refine Eq.trans (zs_bp f112_12 bp_7) ?_
  exact zs_icmp f112_14 rfl
theorem b112_17 {h : zi_Hp} {a0 : Nat} {x1 : Int32} {x2 : Int32} {u3 : Value}  : zv 2 112 17 [.ref a0, .int x1, .int x2, u3] [] h = some (some (.int (-1)), h) := by
  refine Eq.trans (zs_ic f112_17 ic_m1) ?_
  exact zs_ret0 f112_18
theorem b112_19 {h : zi_Hp} {a0 : Nat} {x1 : Int32} {x2 : Int32} {u3 : Value} (g0 : a0 < zh_n h) (g1 : (zh_k h a0).1 = 7) (g2 : zh_r h a0 0 = .ref (zq (zh_r h a0 0))) (g3 : (zq (zh_r h a0 0)) < zh_n h) (g4 : (zh_k h (zq (zh_r h a0 0))).1 = 6) (g5 : zh_r h (zq (zh_r h a0 0)) 1 = .ref (zq (zh_r h (zq (zh_r h a0 0)) 1))) (g6 : (zq (zh_r h (zq (zh_r h a0 0)) 1)) < zh_n h) (g7 : ¬ (x1 < 0 ∨ (zh_k h (zq (zh_r h (zq (zh_r h a0 0)) 1))).2 ≤ x1.toNatClampNeg)) (g8 : (zh_k h (zq (zh_r h (zq (zh_r h a0 0)) 1))).1 = 103 ∨ (zh_k h (zq (zh_r h (zq (zh_r h a0 0)) 1))).1 = 104 ∨ (zh_k h (zq (zh_r h (zq (zh_r h a0 0)) 1))).1 = 105) (g9 : zh_r h (zq (zh_r h (zq (zh_r h a0 0)) 1)) x1.toNatClampNeg = .ref (zq (zh_r h (zq (zh_r h (zq (zh_r h a0 0)) 1)) x1.toNatClampNeg))) : zv 2 112 19 [.ref a0, .int x1, .int x2, u3] [] h = if x2 = 0 then zv 2 112 33 [.ref a0, .int x1, .int x2, .ref (zq (zh_r h (zq (zh_r h (zq (zh_r h a0 0)) 1)) x1.toNatClampNeg))] [] h else zv 2 112 38 [.ref a0, .int x1, .int x2, .ref (zq (zh_r h (zq (zh_r h (zq (zh_r h a0 0)) 1)) x1.toNatClampNeg))] [] h := by
  refine Eq.trans (zv_next f112_19 rfl) ?_
  refine Eq.trans (zs_getr f112_20 g0 g1 g2) ?_
  refine Eq.trans (zs_getr f112_23 g3 g4 g5) ?_
  refine Eq.trans (zv_next f112_26 rfl) ?_
  refine Eq.trans (zs_aald f112_27 g6 g8 g7 g9) ?_
  refine Eq.trans (zv_next f112_28 rfl) ?_
  refine Eq.trans (zv_next f112_29 rfl) ?_
  exact zs_if f112_30 rfl
theorem b112_33 {h : zi_Hp} {a0 : Nat} {x1 : Int32} {x2 : Int32} {a3 : Nat} (g0 : a3 < zh_n h) (g1 : (zh_k h a3).1 = 0) : zv 2 112 33 [.ref a0, .int x1, .int x2, .ref a3] [] h = some (some (.int (zh_i h a3 0)), h) := by
  refine Eq.trans (zv_next f112_33 rfl) ?_
  refine Eq.trans (zs_geti f112_34 g0 g1) ?_
  exact zs_ret0 f112_37
theorem b112_38 {h : zi_Hp} {a0 : Nat} {x1 : Int32} {x2 : Int32} {a3 : Nat} (g0 : a3 < zh_n h) (g1 : (zh_k h a3).1 = 0) : zv 2 112 38 [.ref a0, .int x1, .int x2, .ref a3] [] h = if (zh_i h a3 0) = 0 then zv 2 112 45 [.ref a0, .int x1, .int x2, .ref a3] [] h else zv 2 112 50 [.ref a0, .int x1, .int x2, .ref a3] [] h := by
  refine Eq.trans (zv_next f112_38 rfl) ?_
  refine Eq.trans (zs_geti f112_39 g0 g1) ?_
  exact zs_if f112_42 rfl
theorem b112_45 {h : zi_Hp} {a0 : Nat} {x1 : Int32} {x2 : Int32} {a3 : Nat}  : zv 2 112 45 [.ref a0, .int x1, .int x2, .ref a3] [] h = zv 2 112 55 [.ref a0, .int x1, .int x2, .ref a3] [.int (-2)] h := by
  refine Eq.trans (zs_bp f112_45 bp_m2) ?_
  refine Eq.trans (zs_goto (tgt := 55) f112_47 rfl) ?_
  rfl
theorem b112_50 {h : zi_Hp} {a0 : Nat} {x1 : Int32} {x2 : Int32} {a3 : Nat} (g0 : a3 < zh_n h) (g1 : (zh_k h a3).1 = 0) : zv 2 112 50 [.ref a0, .int x1, .int x2, .ref a3] [] h = (zv 1 11 0 [.ref a3, .int x2] [] h).bind fun r => zv 2 112 55 [.ref a0, .int x1, .int x2, .ref a3] (r.1.toList ++ []) r.2 := by
  refine Eq.trans (zv_next f112_50 rfl) ?_
  refine Eq.trans (zv_next f112_51 rfl) ?_
  exact zs_callV f112_52 (Nat.le_of_ble_eq_true rfl) (Nat.le_of_ble_eq_true rfl) rfl g0 g1 me_11 (by decide) rfl
theorem b112_55 {h : zi_Hp} {a0 : Nat} {x1 : Int32} {x2 : Int32} {a3 : Nat} {s0 : Int32}  : zv 2 112 55 [.ref a0, .int x1, .int x2, .ref a3] [.int s0] h = some (some (.int s0), h) := by
  exact zs_ret0 f112_55
set_option maxRecDepth 20000 in
theorem zq113 : zi_M[113]? = some zi_m113 := rfl
theorem zl113_0 {pc : Nat} (_ : 0 ≤ pc) : zi_fe 113 pc = zu113_0.lookup pc := zi_feA zq113 pc
theorem f113_0 : zi_fe 113 0 = some ((.iload_n 1), 1, 0, 0, 0, 0, 0) := (zl113_0 (Nat.le_of_ble_eq_true rfl)).trans rfl
theorem f113_1 : zi_fe 113 1 = some ((.invokestatic 159), 3, 134, 1, 7, 810, 1) := (zl113_0 (Nat.le_of_ble_eq_true rfl)).trans rfl
theorem f113_4 : zi_fe 113 4 = some ((.ifCond .ne 5), 3, 0, 0, 0, 0, 0) := (zl113_0 (Nat.le_of_ble_eq_true rfl)).trans rfl
theorem f113_7 : zi_fe 113 7 = some ((.iconst (-1)), 1, 0, 0, 0, 0, 0) := (zl113_0 (Nat.le_of_ble_eq_true rfl)).trans rfl
theorem f113_8 : zi_fe 113 8 = some (.ireturn, 1, 0, 0, 0, 0, 0) := (zl113_0 (Nat.le_of_ble_eq_true rfl)).trans rfl
theorem f113_9 : zi_fe 113 9 = some ((.aload_n 0), 1, 0, 0, 0, 0, 0) := (zl113_0 (Nat.le_of_ble_eq_true rfl)).trans rfl
theorem f113_10 : zi_fe 113 10 = some ((.getfield 12), 3, 7, 0, 3, 411, 0) := (zl113_0 (Nat.le_of_ble_eq_true rfl)).trans rfl
theorem f113_13 : zi_fe 113 13 = some ((.getfield 83), 3, 6, 0, 3, 255, 0) := (zl113_0 (Nat.le_of_ble_eq_true rfl)).trans rfl
theorem f113_16 : zi_fe 113 16 = some ((.iload_n 1), 1, 0, 0, 0, 0, 0) := (zl113_0 (Nat.le_of_ble_eq_true rfl)).trans rfl
theorem f113_17 : zi_fe 113 17 = some ((.invokevirtual 162), 3, 56, 0, 4, 813, 2) := (zl113_0 (Nat.le_of_ble_eq_true rfl)).trans rfl
theorem f113_20 : zi_fe 113 20 = some ((.ifCond .eq 7), 3, 0, 0, 0, 0, 0) := (zl113_0 (Nat.le_of_ble_eq_true rfl)).trans rfl
theorem f113_23 : zi_fe 113 23 = some ((.iconst 1), 1, 0, 0, 0, 0, 0) := (zl113_0 (Nat.le_of_ble_eq_true rfl)).trans rfl
theorem zl113_1 {pc : Nat} (h : 24 ≤ pc) : zi_fe 113 pc = zu113_1.lookup pc := (zl113_0 (Nat.le_trans (Nat.le_of_ble_eq_true rfl) h)).trans (zi_lkA (a := zi_i113_0) (c := 24) rfl h)
theorem f113_24 : zi_fe 113 24 = some ((.goto 4), 3, 0, 0, 0, 0, 0) := (zl113_1 (Nat.le_of_ble_eq_true rfl)).trans rfl
theorem f113_27 : zi_fe 113 27 = some ((.iconst 0), 1, 0, 0, 0, 0, 0) := (zl113_1 (Nat.le_of_ble_eq_true rfl)).trans rfl
theorem f113_28 : zi_fe 113 28 = some (.ireturn, 1, 0, 0, 0, 0, 0) := (zl113_1 (Nat.le_of_ble_eq_true rfl)).trans rfl
theorem b113_0 {h : zi_Hp} {a0 : Nat} {x1 : Int32}  : zv 2 113 0 [.ref a0, .int x1] [] h = (zv 1 134 0 [.int x1] [] h).bind fun r => zv 2 113 4 [.ref a0, .int x1] (r.1.toList ++ []) r.2 := by
  refine Eq.trans (zv_next f113_0 rfl) ?_
  exact zs_callS f113_1 (by decide) (Nat.le_of_ble_eq_true rfl) (Nat.le_of_ble_eq_true rfl) rfl me_134 (by decide) rfl
theorem b113_4 {h : zi_Hp} {a0 : Nat} {x1 : Int32} {s0 : Int32}  : zv 2 113 4 [.ref a0, .int x1] [.int s0] h = if s0 = 0 then zv 2 113 7 [.ref a0, .int x1] [] h else zv 2 113 9 [.ref a0, .int x1] [] h := by
  exact zs_if f113_4 rfl
theorem b113_7 {h : zi_Hp} {a0 : Nat} {x1 : Int32}  : zv 2 113 7 [.ref a0, .int x1] [] h = some (some (.int (-1)), h) := by
  refine Eq.trans (zs_ic f113_7 ic_m1) ?_
  exact zs_ret0 f113_8
theorem b113_9 {h : zi_Hp} {a0 : Nat} {x1 : Int32} (g0 : a0 < zh_n h) (g1 : (zh_k h a0).1 = 7) (g2 : zh_r h a0 0 = .ref (zq (zh_r h a0 0))) (g3 : (zq (zh_r h a0 0)) < zh_n h) (g4 : (zh_k h (zq (zh_r h a0 0))).1 = 6) (g5 : zh_r h (zq (zh_r h a0 0)) 0 = .ref (zq (zh_r h (zq (zh_r h a0 0)) 0))) (g6 : (zq (zh_r h (zq (zh_r h a0 0)) 0)) < zh_n h) (g7 : (zh_k h (zq (zh_r h (zq (zh_r h a0 0)) 0))).1 = 4) : zv 2 113 9 [.ref a0, .int x1] [] h = (zv 1 56 0 [.ref (zq (zh_r h (zq (zh_r h a0 0)) 0)), .int x1, .double 0, .double 0] [] h).bind fun r => zv 2 113 20 [.ref a0, .int x1] (r.1.toList ++ []) r.2 := by
  refine Eq.trans (zv_next f113_9 rfl) ?_
  refine Eq.trans (zs_getr f113_10 g0 g1 g2) ?_
  refine Eq.trans (zs_getr f113_13 g3 g4 g5) ?_
  refine Eq.trans (zv_next f113_16 rfl) ?_
  exact zs_callV f113_17 (Nat.le_of_ble_eq_true rfl) (Nat.le_of_ble_eq_true rfl) rfl g6 g7 me_56 (by decide) rfl
theorem b113_20 {h : zi_Hp} {a0 : Nat} {x1 : Int32} {s0 : Int32}  : zv 2 113 20 [.ref a0, .int x1] [.int s0] h = if s0 = 0 then zv 2 113 27 [.ref a0, .int x1] [] h else zv 2 113 23 [.ref a0, .int x1] [] h := by
  exact zs_if f113_20 rfl
theorem b113_23 {h : zi_Hp} {a0 : Nat} {x1 : Int32}  : zv 2 113 23 [.ref a0, .int x1] [] h = zv 2 113 28 [.ref a0, .int x1] [.int 1] h := by
  refine Eq.trans (zs_ic f113_23 ic_1) ?_
  refine Eq.trans (zs_goto (tgt := 28) f113_24 rfl) ?_
  rfl
theorem b113_27 {h : zi_Hp} {a0 : Nat} {x1 : Int32}  : zv 2 113 27 [.ref a0, .int x1] [] h = zv 2 113 28 [.ref a0, .int x1] [.int 0] h := by
  refine Eq.trans (zs_ic f113_27 ic_0) ?_
  rfl
theorem b113_28 {h : zi_Hp} {a0 : Nat} {x1 : Int32} {s0 : Int32}  : zv 2 113 28 [.ref a0, .int x1] [.int s0] h = some (some (.int s0), h) := by
  exact zs_ret0 f113_28
set_option maxRecDepth 20000 in
theorem zq114 : zi_M[114]? = some zi_m114 := rfl
theorem zl114_0 {pc : Nat} (_ : 0 ≤ pc) : zi_fe 114 pc = zu114_0.lookup pc := zi_feA zq114 pc
theorem f114_0 : zi_fe 114 0 = some ((.iload_n 1), 1, 0, 0, 0, 0, 0) := (zl114_0 (Nat.le_of_ble_eq_true rfl)).trans rfl
theorem f114_1 : zi_fe 114 1 = some ((.invokestatic 144), 3, 133, 1, 7, 801, 1) := (zl114_0 (Nat.le_of_ble_eq_true rfl)).trans rfl
theorem f114_4 : zi_fe 114 4 = some ((.ifCond .eq 19), 3, 0, 0, 0, 0, 0) := (zl114_0 (Nat.le_of_ble_eq_true rfl)).trans rfl
theorem f114_7 : zi_fe 114 7 = some ((.iload_n 2), 1, 0, 0, 0, 0, 0) := (zl114_0 (Nat.le_of_ble_eq_true rfl)).trans rfl
theorem f114_8 : zi_fe 114 8 = some ((.ifCond .lt 15), 3, 0, 0, 0, 0, 0) := (zl114_0 (Nat.le_of_ble_eq_true rfl)).trans rfl
theorem f114_11 : zi_fe 114 11 = some ((.iload_n 2), 1, 0, 0, 0, 0, 0) := (zl114_0 (Nat.le_of_ble_eq_true rfl)).trans rfl
theorem f114_12 : zi_fe 114 12 = some ((.iconst 2), 1, 0, 0, 0, 0, 0) := (zl114_0 (Nat.le_of_ble_eq_true rfl)).trans rfl
theorem f114_13 : zi_fe 114 13 = some ((.if_icmp .gt 10), 3, 0, 0, 0, 0, 0) := (zl114_0 (Nat.le_of_ble_eq_true rfl)).trans rfl
theorem f114_16 : zi_fe 114 16 = some ((.iload_n 3), 1, 0, 0, 0, 0, 0) := (zl114_0 (Nat.le_of_ble_eq_true rfl)).trans rfl
theorem f114_17 : zi_fe 114 17 = some ((.invokestatic 159), 3, 134, 1, 7, 810, 1) := (zl114_0 (Nat.le_of_ble_eq_true rfl)).trans rfl
theorem f114_20 : zi_fe 114 20 = some ((.ifCond .ne 5), 3, 0, 0, 0, 0, 0) := (zl114_0 (Nat.le_of_ble_eq_true rfl)).trans rfl
theorem f114_23 : zi_fe 114 23 = some ((.iconst (-1)), 1, 0, 0, 0, 0, 0) := (zl114_0 (Nat.le_of_ble_eq_true rfl)).trans rfl
theorem zl114_1 {pc : Nat} (h : 24 ≤ pc) : zi_fe 114 pc = zu114_1.lookup pc := (zl114_0 (Nat.le_trans (Nat.le_of_ble_eq_true rfl) h)).trans (zi_lkA (a := zi_i114_0) (c := 24) rfl h)
theorem f114_24 : zi_fe 114 24 = some (.ireturn, 1, 0, 0, 0, 0, 0) := (zl114_1 (Nat.le_of_ble_eq_true rfl)).trans rfl
theorem f114_25 : zi_fe 114 25 = some ((.aload_n 0), 1, 0, 0, 0, 0, 0) := (zl114_1 (Nat.le_of_ble_eq_true rfl)).trans rfl
theorem f114_26 : zi_fe 114 26 = some ((.getfield 12), 3, 7, 0, 3, 411, 0) := (zl114_1 (Nat.le_of_ble_eq_true rfl)).trans rfl
theorem f114_29 : zi_fe 114 29 = some ((.getfield 147), 3, 6, 1, 3, 257, 0) := (zl114_1 (Nat.le_of_ble_eq_true rfl)).trans rfl
theorem f114_32 : zi_fe 114 32 = some ((.iload_n 1), 1, 0, 0, 0, 0, 0) := (zl114_1 (Nat.le_of_ble_eq_true rfl)).trans rfl
theorem f114_33 : zi_fe 114 33 = some (.aaload, 1, 0, 0, 0, 0, 0) := (zl114_1 (Nat.le_of_ble_eq_true rfl)).trans rfl
theorem f114_34 : zi_fe 114 34 = some ((.getfield 151), 3, 0, 0, 0, 201, 0) := (zl114_1 (Nat.le_of_ble_eq_true rfl)).trans rfl
theorem f114_37 : zi_fe 114 37 = some ((.istore 4), 2, 0, 0, 0, 0, 0) := (zl114_1 (Nat.le_of_ble_eq_true rfl)).trans rfl
theorem f114_39 : zi_fe 114 39 = some ((.iload 4), 2, 0, 0, 0, 0, 0) := (zl114_1 (Nat.le_of_ble_eq_true rfl)).trans rfl
theorem f114_41 : zi_fe 114 41 = some ((.ifCond .eq 12), 3, 0, 0, 0, 0, 0) := (zl114_1 (Nat.le_of_ble_eq_true rfl)).trans rfl
theorem f114_44 : zi_fe 114 44 = some ((.iload 4), 2, 0, 0, 0, 0, 0) := (zl114_1 (Nat.le_of_ble_eq_true rfl)).trans rfl
theorem f114_46 : zi_fe 114 46 = some ((.iconst 5), 1, 0, 0, 0, 0, 0) := (zl114_1 (Nat.le_of_ble_eq_true rfl)).trans rfl
theorem zl114_2 {pc : Nat} (h : 47 ≤ pc) : zi_fe 114 pc = zu114_2.lookup pc := (zl114_1 (Nat.le_trans (Nat.le_of_ble_eq_true rfl) h)).trans (zi_lkA (a := zi_i114_1) (c := 47) rfl h)
theorem f114_47 : zi_fe 114 47 = some ((.if_icmp .eq 6), 3, 0, 0, 0, 0, 0) := (zl114_2 (Nat.le_of_ble_eq_true rfl)).trans rfl
theorem f114_50 : zi_fe 114 50 = some ((.bipush (-2)), 2, 0, 0, 0, 0, 0) := (zl114_2 (Nat.le_of_ble_eq_true rfl)).trans rfl
theorem f114_52 : zi_fe 114 52 = some (.ireturn, 1, 0, 0, 0, 0, 0) := (zl114_2 (Nat.le_of_ble_eq_true rfl)).trans rfl
theorem f114_53 : zi_fe 114 53 = some ((.aload_n 0), 1, 0, 0, 0, 0, 0) := (zl114_2 (Nat.le_of_ble_eq_true rfl)).trans rfl
theorem f114_54 : zi_fe 114 54 = some ((.getfield 12), 3, 7, 0, 3, 411, 0) := (zl114_2 (Nat.le_of_ble_eq_true rfl)).trans rfl
theorem f114_57 : zi_fe 114 57 = some ((.iload_n 1), 1, 0, 0, 0, 0, 0) := (zl114_2 (Nat.le_of_ble_eq_true rfl)).trans rfl
theorem f114_58 : zi_fe 114 58 = some ((.iload_n 2), 1, 0, 0, 0, 0, 0) := (zl114_2 (Nat.le_of_ble_eq_true rfl)).trans rfl
theorem f114_59 : zi_fe 114 59 = some ((.iload_n 3), 1, 0, 0, 0, 0, 0) := (zl114_2 (Nat.le_of_ble_eq_true rfl)).trans rfl
theorem f114_60 : zi_fe 114 60 = some ((.invokevirtual 165), 3, 77, 0, 6, 818, 4) := (zl114_2 (Nat.le_of_ble_eq_true rfl)).trans rfl
theorem f114_63 : zi_fe 114 63 = some ((.iload 4), 2, 0, 0, 0, 0, 0) := (zl114_2 (Nat.le_of_ble_eq_true rfl)).trans rfl
theorem f114_65 : zi_fe 114 65 = some (.ireturn, 1, 0, 0, 0, 0, 0) := (zl114_2 (Nat.le_of_ble_eq_true rfl)).trans rfl
theorem b114_0 {h : zi_Hp} {a0 : Nat} {x1 : Int32} {x2 : Int32} {x3 : Int32} {u4 : Value}  : zv 5 114 0 [.ref a0, .int x1, .int x2, .int x3, u4] [] h = (zv 1 133 0 [.int x1] [] h).bind fun r => zv 5 114 4 [.ref a0, .int x1, .int x2, .int x3, u4] (r.1.toList ++ []) r.2 := by
  refine Eq.trans (zv_next f114_0 rfl) ?_
  exact zs_callS f114_1 (by decide) (Nat.le_of_ble_eq_true rfl) (Nat.le_of_ble_eq_true rfl) rfl me_133 (by decide) rfl
theorem b114_4 {h : zi_Hp} {a0 : Nat} {x1 : Int32} {x2 : Int32} {x3 : Int32} {u4 : Value} {s0 : Int32}  : zv 5 114 4 [.ref a0, .int x1, .int x2, .int x3, u4] [.int s0] h = if s0 = 0 then zv 5 114 23 [.ref a0, .int x1, .int x2, .int x3, u4] [] h else zv 5 114 7 [.ref a0, .int x1, .int x2, .int x3, u4] [] h := by
  exact zs_if f114_4 rfl
theorem b114_7 {h : zi_Hp} {a0 : Nat} {x1 : Int32} {x2 : Int32} {x3 : Int32} {u4 : Value}  : zv 5 114 7 [.ref a0, .int x1, .int x2, .int x3, u4] [] h = if x2 < 0 then zv 5 114 23 [.ref a0, .int x1, .int x2, .int x3, u4] [] h else zv 5 114 11 [.ref a0, .int x1, .int x2, .int x3, u4] [] h := by
  refine Eq.trans (zv_next f114_7 rfl) ?_
  exact zs_if f114_8 rfl
theorem b114_11 {h : zi_Hp} {a0 : Nat} {x1 : Int32} {x2 : Int32} {x3 : Int32} {u4 : Value}  : zv 5 114 11 [.ref a0, .int x1, .int x2, .int x3, u4] [] h = if 2 < x2 then zv 5 114 23 [.ref a0, .int x1, .int x2, .int x3, u4] [] h else zv 5 114 16 [.ref a0, .int x1, .int x2, .int x3, u4] [] h := by
  refine Eq.trans (zv_next f114_11 rfl) ?_
  refine Eq.trans (zs_ic f114_12 ic_2) ?_
  exact zs_icmp f114_13 rfl
theorem b114_16 {h : zi_Hp} {a0 : Nat} {x1 : Int32} {x2 : Int32} {x3 : Int32} {u4 : Value}  : zv 5 114 16 [.ref a0, .int x1, .int x2, .int x3, u4] [] h = (zv 1 134 0 [.int x3] [] h).bind fun r => zv 5 114 20 [.ref a0, .int x1, .int x2, .int x3, u4] (r.1.toList ++ []) r.2 := by
  refine Eq.trans (zv_next f114_16 rfl) ?_
  exact zs_callS f114_17 (by decide) (Nat.le_of_ble_eq_true rfl) (Nat.le_of_ble_eq_true rfl) rfl me_134 (by decide) rfl
theorem b114_20 {h : zi_Hp} {a0 : Nat} {x1 : Int32} {x2 : Int32} {x3 : Int32} {u4 : Value} {s0 : Int32}  : zv 5 114 20 [.ref a0, .int x1, .int x2, .int x3, u4] [.int s0] h = if s0 = 0 then zv 5 114 23 [.ref a0, .int x1, .int x2, .int x3, u4] [] h else zv 5 114 25 [.ref a0, .int x1, .int x2, .int x3, u4] [] h := by
  exact zs_if f114_20 rfl
theorem b114_23 {h : zi_Hp} {a0 : Nat} {x1 : Int32} {x2 : Int32} {x3 : Int32} {u4 : Value}  : zv 5 114 23 [.ref a0, .int x1, .int x2, .int x3, u4] [] h = some (some (.int (-1)), h) := by
  refine Eq.trans (zs_ic f114_23 ic_m1) ?_
  exact zs_ret0 f114_24
theorem b114_25 {h : zi_Hp} {a0 : Nat} {x1 : Int32} {x2 : Int32} {x3 : Int32} {u4 : Value} (g0 : a0 < zh_n h) (g1 : (zh_k h a0).1 = 7) (g2 : zh_r h a0 0 = .ref (zq (zh_r h a0 0))) (g3 : (zq (zh_r h a0 0)) < zh_n h) (g4 : (zh_k h (zq (zh_r h a0 0))).1 = 6) (g5 : zh_r h (zq (zh_r h a0 0)) 1 = .ref (zq (zh_r h (zq (zh_r h a0 0)) 1))) (g6 : (zq (zh_r h (zq (zh_r h a0 0)) 1)) < zh_n h) (g7 : ¬ (x1 < 0 ∨ (zh_k h (zq (zh_r h (zq (zh_r h a0 0)) 1))).2 ≤ x1.toNatClampNeg)) (g8 : (zh_k h (zq (zh_r h (zq (zh_r h a0 0)) 1))).1 = 103 ∨ (zh_k h (zq (zh_r h (zq (zh_r h a0 0)) 1))).1 = 104 ∨ (zh_k h (zq (zh_r h (zq (zh_r h a0 0)) 1))).1 = 105) (g9 : zh_r h (zq (zh_r h (zq (zh_r h a0 0)) 1)) x1.toNatClampNeg = .ref (zq (zh_r h (zq (zh_r h (zq (zh_r h a0 0)) 1)) x1.toNatClampNeg))) (g10 : (zq (zh_r h (zq (zh_r h (zq (zh_r h a0 0)) 1)) x1.toNatClampNeg)) < zh_n h) (g11 : (zh_k h (zq (zh_r h (zq (zh_r h (zq (zh_r h a0 0)) 1)) x1.toNatClampNeg))).1 = 0) : zv 5 114 25 [.ref a0, .int x1, .int x2, .int x3, u4] [] h = if (zh_i h (zq (zh_r h (zq (zh_r h (zq (zh_r h a0 0)) 1)) x1.toNatClampNeg)) 0) = 0 then zv 5 114 53 [.ref a0, .int x1, .int x2, .int x3, .int (zh_i h (zq (zh_r h (zq (zh_r h (zq (zh_r h a0 0)) 1)) x1.toNatClampNeg)) 0)] [] h else zv 5 114 44 [.ref a0, .int x1, .int x2, .int x3, .int (zh_i h (zq (zh_r h (zq (zh_r h (zq (zh_r h a0 0)) 1)) x1.toNatClampNeg)) 0)] [] h := by
  refine Eq.trans (zv_next f114_25 rfl) ?_
  refine Eq.trans (zs_getr f114_26 g0 g1 g2) ?_
  refine Eq.trans (zs_getr f114_29 g3 g4 g5) ?_
  refine Eq.trans (zv_next f114_32 rfl) ?_
  refine Eq.trans (zs_aald f114_33 g6 g8 g7 g9) ?_
  refine Eq.trans (zs_geti f114_34 g10 g11) ?_
  refine Eq.trans (zv_next f114_37 rfl) ?_
  refine Eq.trans (zv_next f114_39 rfl) ?_
  exact zs_if f114_41 rfl
theorem b114_44 {h : zi_Hp} {a0 : Nat} {x1 : Int32} {x2 : Int32} {x3 : Int32} {x4 : Int32}  : zv 5 114 44 [.ref a0, .int x1, .int x2, .int x3, .int x4] [] h = if x4 = 5 then zv 5 114 53 [.ref a0, .int x1, .int x2, .int x3, .int x4] [] h else zv 5 114 50 [.ref a0, .int x1, .int x2, .int x3, .int x4] [] h := by
  refine Eq.trans (zv_next f114_44 rfl) ?_
  refine Eq.trans (zs_ic f114_46 ic_5) ?_
  exact zs_icmp f114_47 rfl
theorem b114_50 {h : zi_Hp} {a0 : Nat} {x1 : Int32} {x2 : Int32} {x3 : Int32} {x4 : Int32}  : zv 5 114 50 [.ref a0, .int x1, .int x2, .int x3, .int x4] [] h = some (some (.int (-2)), h) := by
  refine Eq.trans (zs_bp f114_50 bp_m2) ?_
  exact zs_ret0 f114_52
theorem b114_53 {h : zi_Hp} {a0 : Nat} {x1 : Int32} {x2 : Int32} {x3 : Int32} {x4 : Int32} (g0 : a0 < zh_n h) (g1 : (zh_k h a0).1 = 7) (g2 : zh_r h a0 0 = .ref (zq (zh_r h a0 0))) (g3 : (zq (zh_r h a0 0)) < zh_n h) (g4 : (zh_k h (zq (zh_r h a0 0))).1 = 6) : zv 5 114 53 [.ref a0, .int x1, .int x2, .int x3, .int x4] [] h = (zv 4 77 0 [.ref (zq (zh_r h a0 0)), .int x1, .int x2, .int x3, .double 0] [] h).bind fun r => zv 5 114 63 [.ref a0, .int x1, .int x2, .int x3, .int x4] (r.1.toList ++ []) r.2 := by
  refine Eq.trans (zv_next f114_53 rfl) ?_
  refine Eq.trans (zs_getr f114_54 g0 g1 g2) ?_
  refine Eq.trans (zv_next f114_57 rfl) ?_
  refine Eq.trans (zv_next f114_58 rfl) ?_
  refine Eq.trans (zv_next f114_59 rfl) ?_
  exact zs_callV f114_60 (Nat.le_of_ble_eq_true rfl) (Nat.le_of_ble_eq_true rfl) rfl g3 g4 me_77 (by decide) rfl
theorem b114_63 {h : zi_Hp} {a0 : Nat} {x1 : Int32} {x2 : Int32} {x3 : Int32} {x4 : Int32}  : zv 5 114 63 [.ref a0, .int x1, .int x2, .int x3, .int x4] [] h = some (some (.int x4), h) := by
  refine Eq.trans (zv_next f114_63 rfl) ?_
  exact zs_ret0 f114_65
set_option maxRecDepth 20000 in
theorem zq115 : zi_M[115]? = some zi_m115 := rfl
theorem zl115_0 {pc : Nat} (_ : 0 ≤ pc) : zi_fe 115 pc = zu115_0.lookup pc := zi_feA zq115 pc
theorem f115_0 : zi_fe 115 0 = some ((.iload_n 1), 1, 0, 0, 0, 0, 0) := (zl115_0 (Nat.le_of_ble_eq_true rfl)).trans rfl
theorem f115_1 : zi_fe 115 1 = some ((.invokestatic 144), 3, 133, 1, 7, 801, 1) := (zl115_0 (Nat.le_of_ble_eq_true rfl)).trans rfl
theorem f115_4 : zi_fe 115 4 = some ((.ifCond .eq 14), 3, 0, 0, 0, 0, 0) := (zl115_0 (Nat.le_of_ble_eq_true rfl)).trans rfl
theorem f115_7 : zi_fe 115 7 = some ((.aload_n 0), 1, 0, 0, 0, 0, 0) := (zl115_0 (Nat.le_of_ble_eq_true rfl)).trans rfl
theorem f115_8 : zi_fe 115 8 = some ((.getfield 12), 3, 7, 0, 3, 411, 0) := (zl115_0 (Nat.le_of_ble_eq_true rfl)).trans rfl
theorem f115_11 : zi_fe 115 11 = some ((.iload_n 1), 1, 0, 0, 0, 0, 0) := (zl115_0 (Nat.le_of_ble_eq_true rfl)).trans rfl
theorem f115_12 : zi_fe 115 12 = some ((.invokevirtual 169), 3, 80, 0, 6, 823, 2) := (zl115_0 (Nat.le_of_ble_eq_true rfl)).trans rfl
theorem f115_15 : zi_fe 115 15 = some ((.goto 4), 3, 0, 0, 0, 0, 0) := (zl115_0 (Nat.le_of_ble_eq_true rfl)).trans rfl
theorem f115_18 : zi_fe 115 18 = some ((.iconst (-1)), 1, 0, 0, 0, 0, 0) := (zl115_0 (Nat.le_of_ble_eq_true rfl)).trans rfl
theorem f115_19 : zi_fe 115 19 = some (.ireturn, 1, 0, 0, 0, 0, 0) := (zl115_0 (Nat.le_of_ble_eq_true rfl)).trans rfl
theorem b115_0 {h : zi_Hp} {a0 : Nat} {x1 : Int32}  : zv 6 115 0 [.ref a0, .int x1] [] h = (zv 1 133 0 [.int x1] [] h).bind fun r => zv 6 115 4 [.ref a0, .int x1] (r.1.toList ++ []) r.2 := by
  refine Eq.trans (zv_next f115_0 rfl) ?_
  exact zs_callS f115_1 (by decide) (Nat.le_of_ble_eq_true rfl) (Nat.le_of_ble_eq_true rfl) rfl me_133 (by decide) rfl
theorem b115_4 {h : zi_Hp} {a0 : Nat} {x1 : Int32} {s0 : Int32}  : zv 6 115 4 [.ref a0, .int x1] [.int s0] h = if s0 = 0 then zv 6 115 18 [.ref a0, .int x1] [] h else zv 6 115 7 [.ref a0, .int x1] [] h := by
  exact zs_if f115_4 rfl
theorem b115_7 {h : zi_Hp} {a0 : Nat} {x1 : Int32} (g0 : a0 < zh_n h) (g1 : (zh_k h a0).1 = 7) (g2 : zh_r h a0 0 = .ref (zq (zh_r h a0 0))) (g3 : (zq (zh_r h a0 0)) < zh_n h) (g4 : (zh_k h (zq (zh_r h a0 0))).1 = 6) : zv 6 115 7 [.ref a0, .int x1] [] h = (zv 5 80 0 [.ref (zq (zh_r h a0 0)), .int x1, .double 0, .double 0, .double 0] [] h).bind fun r => zv 6 115 15 [.ref a0, .int x1] (r.1.toList ++ []) r.2 := by
  refine Eq.trans (zv_next f115_7 rfl) ?_
  refine Eq.trans (zs_getr f115_8 g0 g1 g2) ?_
  refine Eq.trans (zv_next f115_11 rfl) ?_
  exact zs_callV f115_12 (Nat.le_of_ble_eq_true rfl) (Nat.le_of_ble_eq_true rfl) rfl g3 g4 me_80 (by decide) rfl
theorem b115_15 {h : zi_Hp} {a0 : Nat} {x1 : Int32} {s0 : Int32}  : zv 6 115 15 [.ref a0, .int x1] [.int s0] h = zv 6 115 19 [.ref a0, .int x1] [.int s0] h := by
  refine Eq.trans (zs_goto (tgt := 19) f115_15 rfl) ?_
  rfl
theorem b115_18 {h : zi_Hp} {a0 : Nat} {x1 : Int32}  : zv 6 115 18 [.ref a0, .int x1] [] h = zv 6 115 19 [.ref a0, .int x1] [.int (-1)] h := by
  refine Eq.trans (zs_ic f115_18 ic_m1) ?_
  rfl
theorem b115_19 {h : zi_Hp} {a0 : Nat} {x1 : Int32} {s0 : Int32}  : zv 6 115 19 [.ref a0, .int x1] [.int s0] h = some (some (.int s0), h) := by
  exact zs_ret0 f115_19
set_option maxRecDepth 20000 in
theorem zq116 : zi_M[116]? = some zi_m116 := rfl
theorem zl116_0 {pc : Nat} (_ : 0 ≤ pc) : zi_fe 116 pc = zu116_0.lookup pc := zi_feA zq116 pc
theorem f116_0 : zi_fe 116 0 = some ((.iload_n 1), 1, 0, 0, 0, 0, 0) := (zl116_0 (Nat.le_of_ble_eq_true rfl)).trans rfl
theorem f116_1 : zi_fe 116 1 = some ((.invokestatic 144), 3, 133, 1, 7, 801, 1) := (zl116_0 (Nat.le_of_ble_eq_true rfl)).trans rfl
theorem f116_4 : zi_fe 116 4 = some ((.ifCond .eq 13), 3, 0, 0, 0, 0, 0) := (zl116_0 (Nat.le_of_ble_eq_true rfl)).trans rfl
theorem f116_7 : zi_fe 116 7 = some ((.iload_n 2), 1, 0, 0, 0, 0, 0) := (zl116_0 (Nat.le_of_ble_eq_true rfl)).trans rfl
theorem f116_8 : zi_fe 116 8 = some ((.ifCond .lt 9), 3, 0, 0, 0, 0, 0) := (zl116_0 (Nat.le_of_ble_eq_true rfl)).trans rfl
theorem f116_11 : zi_fe 116 11 = some ((.iload_n 2), 1, 0, 0, 0, 0, 0) := (zl116_0 (Nat.le_of_ble_eq_true rfl)).trans rfl
theorem f116_12 : zi_fe 116 12 = some ((.bipush 60), 2, 0, 0, 0, 0, 0) := (zl116_0 (Nat.le_of_ble_eq_true rfl)).trans rfl
theorem f116_14 : zi_fe 116 14 = some ((.if_icmp .le 5), 3, 0, 0, 0, 0, 0) := (zl116_0 (Nat.le_of_ble_eq_true rfl)).trans rfl
theorem f116_17 : zi_fe 116 17 = some ((.iconst (-1)), 1, 0, 0, 0, 0, 0) := (zl116_0 (Nat.le_of_ble_eq_true rfl)).trans rfl
theorem f116_18 : zi_fe 116 18 = some (.ireturn, 1, 0, 0, 0, 0, 0) := (zl116_0 (Nat.le_of_ble_eq_true rfl)).trans rfl
theorem f116_19 : zi_fe 116 19 = some ((.aload_n 0), 1, 0, 0, 0, 0, 0) := (zl116_0 (Nat.le_of_ble_eq_true rfl)).trans rfl
theorem f116_20 : zi_fe 116 20 = some ((.getfield 12), 3, 7, 0, 3, 411, 0) := (zl116_0 (Nat.le_of_ble_eq_true rfl)).trans rfl
theorem zl116_1 {pc : Nat} (h : 23 ≤ pc) : zi_fe 116 pc = zu116_1.lookup pc := (zl116_0 (Nat.le_trans (Nat.le_of_ble_eq_true rfl) h)).trans (zi_lkA (a := zi_i116_0) (c := 23) rfl h)
theorem f116_23 : zi_fe 116 23 = some ((.iload_n 1), 1, 0, 0, 0, 0, 0) := (zl116_1 (Nat.le_of_ble_eq_true rfl)).trans rfl
theorem f116_24 : zi_fe 116 24 = some ((.iload_n 2), 1, 0, 0, 0, 0, 0) := (zl116_1 (Nat.le_of_ble_eq_true rfl)).trans rfl
theorem f116_25 : zi_fe 116 25 = some ((.invokevirtual 172), 3, 79, 0, 6, 828, 3) := (zl116_1 (Nat.le_of_ble_eq_true rfl)).trans rfl
theorem f116_28 : zi_fe 116 28 = some (.ireturn, 1, 0, 0, 0, 0, 0) := (zl116_1 (Nat.le_of_ble_eq_true rfl)).trans rfl
theorem b116_0 {h : zi_Hp} {a0 : Nat} {x1 : Int32} {x2 : Int32}  : zv 7 116 0 [.ref a0, .int x1, .int x2] [] h = (zv 1 133 0 [.int x1] [] h).bind fun r => zv 7 116 4 [.ref a0, .int x1, .int x2] (r.1.toList ++ []) r.2 := by
  refine Eq.trans (zv_next f116_0 rfl) ?_
  exact zs_callS f116_1 (by decide) (Nat.le_of_ble_eq_true rfl) (Nat.le_of_ble_eq_true rfl) rfl me_133 (by decide) rfl
theorem b116_4 {h : zi_Hp} {a0 : Nat} {x1 : Int32} {x2 : Int32} {s0 : Int32}  : zv 7 116 4 [.ref a0, .int x1, .int x2] [.int s0] h = if s0 = 0 then zv 7 116 17 [.ref a0, .int x1, .int x2] [] h else zv 7 116 7 [.ref a0, .int x1, .int x2] [] h := by
  exact zs_if f116_4 rfl
theorem b116_7 {h : zi_Hp} {a0 : Nat} {x1 : Int32} {x2 : Int32}  : zv 7 116 7 [.ref a0, .int x1, .int x2] [] h = if x2 < 0 then zv 7 116 17 [.ref a0, .int x1, .int x2] [] h else zv 7 116 11 [.ref a0, .int x1, .int x2] [] h := by
  refine Eq.trans (zv_next f116_7 rfl) ?_
  exact zs_if f116_8 rfl
theorem b116_11 {h : zi_Hp} {a0 : Nat} {x1 : Int32} {x2 : Int32}  : zv 7 116 11 [.ref a0, .int x1, .int x2] [] h = if 60 < x2 then zv 7 116 17 [.ref a0, .int x1, .int x2] [] h else zv 7 116 19 [.ref a0, .int x1, .int x2] [] h := by
  refine Eq.trans (zv_next f116_11 rfl) ?_
  refine Eq.trans (zs_bp f116_12 bp_60) ?_
  exact zs_icmp f116_14 rfl
theorem b116_17 {h : zi_Hp} {a0 : Nat} {x1 : Int32} {x2 : Int32}  : zv 7 116 17 [.ref a0, .int x1, .int x2] [] h = some (some (.int (-1)), h) := by
  refine Eq.trans (zs_ic f116_17 ic_m1) ?_
  exact zs_ret0 f116_18
theorem b116_19 {h : zi_Hp} {a0 : Nat} {x1 : Int32} {x2 : Int32} (g0 : a0 < zh_n h) (g1 : (zh_k h a0).1 = 7) (g2 : zh_r h a0 0 = .ref (zq (zh_r h a0 0))) (g3 : (zq (zh_r h a0 0)) < zh_n h) (g4 : (zh_k h (zq (zh_r h a0 0))).1 = 6) : zv 7 116 19 [.ref a0, .int x1, .int x2] [] h = (zv 6 79 0 [.ref (zq (zh_r h a0 0)), .int x1, .int x2, .double 0] [] h).bind fun r => zv 7 116 28 [.ref a0, .int x1, .int x2] (r.1.toList ++ []) r.2 := by
  refine Eq.trans (zv_next f116_19 rfl) ?_
  refine Eq.trans (zs_getr f116_20 g0 g1 g2) ?_
  refine Eq.trans (zv_next f116_23 rfl) ?_
  refine Eq.trans (zv_next f116_24 rfl) ?_
  exact zs_callV f116_25 (Nat.le_of_ble_eq_true rfl) (Nat.le_of_ble_eq_true rfl) rfl g3 g4 me_79 (by decide) rfl
theorem b116_28 {h : zi_Hp} {a0 : Nat} {x1 : Int32} {x2 : Int32} {s0 : Int32}  : zv 7 116 28 [.ref a0, .int x1, .int x2] [.int s0] h = some (some (.int s0), h) := by
  exact zs_ret0 f116_28
set_option maxRecDepth 20000 in
theorem zq117 : zi_M[117]? = some zi_m117 := rfl
theorem zl117_0 {pc : Nat} (_ : 0 ≤ pc) : zi_fe 117 pc = zu117_0.lookup pc := zi_feA zq117 pc
theorem f117_0 : zi_fe 117 0 = some ((.iload_n 1), 1, 0, 0, 0, 0, 0) := (zl117_0 (Nat.le_of_ble_eq_true rfl)).trans rfl
theorem f117_1 : zi_fe 117 1 = some ((.invokestatic 144), 3, 133, 1, 7, 801, 1) := (zl117_0 (Nat.le_of_ble_eq_true rfl)).trans rfl
theorem f117_4 : zi_fe 117 4 = some ((.ifCond .ne 5), 3, 0, 0, 0, 0, 0) := (zl117_0 (Nat.le_of_ble_eq_true rfl)).trans rfl
theorem f117_7 : zi_fe 117 7 = some ((.iconst (-1)), 1, 0, 0, 0, 0, 0) := (zl117_0 (Nat.le_of_ble_eq_true rfl)).trans rfl
theorem f117_8 : zi_fe 117 8 = some (.ireturn, 1, 0, 0, 0, 0, 0) := (zl117_0 (Nat.le_of_ble_eq_true rfl)).trans rfl
theorem f117_9 : zi_fe 117 9 = some ((.aload_n 0), 1, 0, 0, 0, 0, 0) := (zl117_0 (Nat.le_of_ble_eq_true rfl)).trans rfl
theorem f117_10 : zi_fe 117 10 = some ((.getfield 12), 3, 7, 0, 3, 411, 0) := (zl117_0 (Nat.le_of_ble_eq_true rfl)).trans rfl
theorem f117_13 : zi_fe 117 13 = some ((.getfield 147), 3, 6, 1, 3, 257, 0) := (zl117_0 (Nat.le_of_ble_eq_true rfl)).trans rfl
theorem f117_16 : zi_fe 117 16 = some ((.iload_n 1), 1, 0, 0, 0, 0, 0) := (zl117_0 (Nat.le_of_ble_eq_true rfl)).trans rfl
theorem f117_17 : zi_fe 117 17 = some (.aaload, 1, 0, 0, 0, 0, 0) := (zl117_0 (Nat.le_of_ble_eq_true rfl)).trans rfl
theorem f117_18 : zi_fe 117 18 = some ((.astore_n 2), 1, 0, 0, 0, 0, 0) := (zl117_0 (Nat.le_of_ble_eq_true rfl)).trans rfl
theorem f117_19 : zi_fe 117 19 = some ((.aload_n 2), 1, 0, 0, 0, 0, 0) := (zl117_0 (Nat.le_of_ble_eq_true rfl)).trans rfl
theorem zl117_1 {pc : Nat} (h : 20 ≤ pc) : zi_fe 117 pc = zu117_1.lookup pc := (zl117_0 (Nat.le_trans (Nat.le_of_ble_eq_true rfl) h)).trans (zi_lkA (a := zi_i117_0) (c := 20) rfl h)
theorem f117_20 : zi_fe 117 20 = some ((.getfield 151), 3, 0, 0, 0, 201, 0) := (zl117_1 (Nat.le_of_ble_eq_true rfl)).trans rfl
theorem f117_23 : zi_fe 117 23 = some ((.iconst 5), 1, 0, 0, 0, 0, 0) := (zl117_1 (Nat.le_of_ble_eq_true rfl)).trans rfl
theorem f117_24 : zi_fe 117 24 = some ((.if_icmp .eq 6), 3, 0, 0, 0, 0, 0) := (zl117_1 (Nat.le_of_ble_eq_true rfl)).trans rfl
theorem f117_27 : zi_fe 117 27 = some ((.bipush (-2)), 2, 0, 0, 0, 0, 0) := (zl117_1 (Nat.le_of_ble_eq_true rfl)).trans rfl
theorem f117_29 : zi_fe 117 29 = some (.ireturn, 1, 0, 0, 0, 0, 0) := (zl117_1 (Nat.le_of_ble_eq_true rfl)).trans rfl
theorem f117_30 : zi_fe 117 30 = some ((.aload_n 2), 1, 0, 0, 0, 0, 0) := (zl117_1 (Nat.le_of_ble_eq_true rfl)).trans rfl
theorem f117_31 : zi_fe 117 31 = some ((.iconst 0), 1, 0, 0, 0, 0, 0) := (zl117_1 (Nat.le_of_ble_eq_true rfl)).trans rfl
theorem f117_32 : zi_fe 117 32 = some ((.putfield 151), 3, 0, 0, 0, 201, 0) := (zl117_1 (Nat.le_of_ble_eq_true rfl)).trans rfl
theorem f117_35 : zi_fe 117 35 = some ((.aload_n 2), 1, 0, 0, 0, 0, 0) := (zl117_1 (Nat.le_of_ble_eq_true rfl)).trans rfl
theorem f117_36 : zi_fe 117 36 = some ((.getfield 175), 3, 0, 4, 0, 210, 0) := (zl117_1 (Nat.le_of_ble_eq_true rfl)).trans rfl
theorem f117_39 : zi_fe 117 39 = some (.ireturn, 1, 0, 0, 0, 0, 0) := (zl117_1 (Nat.le_of_ble_eq_true rfl)).trans rfl
theorem b117_0 {h : zi_Hp} {a0 : Nat} {x1 : Int32} {u2 : Value}  : zv 2 117 0 [.ref a0, .int x1, u2] [] h = (zv 1 133 0 [.int x1] [] h).bind fun r => zv 2 117 4 [.ref a0, .int x1, u2] (r.1.toList ++ []) r.2 := by
  refine Eq.trans (zv_next f117_0 rfl) ?_
  exact zs_callS f117_1 (by decide) (Nat.le_of_ble_eq_true rfl) (Nat.le_of_ble_eq_true rfl) rfl me_133 (by decide) rfl
theorem b117_4 {h : zi_Hp} {a0 : Nat} {x1 : Int32} {u2 : Value} {s0 : Int32}  : zv 2 117 4 [.ref a0, .int x1, u2] [.int s0] h = if s0 = 0 then zv 2 117 7 [.ref a0, .int x1, u2] [] h else zv 2 117 9 [.ref a0, .int x1, u2] [] h := by
  exact zs_if f117_4 rfl
theorem b117_7 {h : zi_Hp} {a0 : Nat} {x1 : Int32} {u2 : Value}  : zv 2 117 7 [.ref a0, .int x1, u2] [] h = some (some (.int (-1)), h) := by
  refine Eq.trans (zs_ic f117_7 ic_m1) ?_
  exact zs_ret0 f117_8
theorem b117_9 {h : zi_Hp} {a0 : Nat} {x1 : Int32} {u2 : Value} (g0 : a0 < zh_n h) (g1 : (zh_k h a0).1 = 7) (g2 : zh_r h a0 0 = .ref (zq (zh_r h a0 0))) (g3 : (zq (zh_r h a0 0)) < zh_n h) (g4 : (zh_k h (zq (zh_r h a0 0))).1 = 6) (g5 : zh_r h (zq (zh_r h a0 0)) 1 = .ref (zq (zh_r h (zq (zh_r h a0 0)) 1))) (g6 : (zq (zh_r h (zq (zh_r h a0 0)) 1)) < zh_n h) (g7 : ¬ (x1 < 0 ∨ (zh_k h (zq (zh_r h (zq (zh_r h a0 0)) 1))).2 ≤ x1.toNatClampNeg)) (g8 : (zh_k h (zq (zh_r h (zq (zh_r h a0 0)) 1))).1 = 103 ∨ (zh_k h (zq (zh_r h (zq (zh_r h a0 0)) 1))).1 = 104 ∨ (zh_k h (zq (zh_r h (zq (zh_r h a0 0)) 1))).1 = 105) (g9 : zh_r h (zq (zh_r h (zq (zh_r h a0 0)) 1)) x1.toNatClampNeg = .ref (zq (zh_r h (zq (zh_r h (zq (zh_r h a0 0)) 1)) x1.toNatClampNeg))) (g10 : (zq (zh_r h (zq (zh_r h (zq (zh_r h a0 0)) 1)) x1.toNatClampNeg)) < zh_n h) (g11 : (zh_k h (zq (zh_r h (zq (zh_r h (zq (zh_r h a0 0)) 1)) x1.toNatClampNeg))).1 = 0) : zv 2 117 9 [.ref a0, .int x1, u2] [] h = if (zh_i h (zq (zh_r h (zq (zh_r h (zq (zh_r h a0 0)) 1)) x1.toNatClampNeg)) 0) = 5 then zv 2 117 30 [.ref a0, .int x1, .ref (zq (zh_r h (zq (zh_r h (zq (zh_r h a0 0)) 1)) x1.toNatClampNeg))] [] h else zv 2 117 27 [.ref a0, .int x1, .ref (zq (zh_r h (zq (zh_r h (zq (zh_r h a0 0)) 1)) x1.toNatClampNeg))] [] h := by
  refine Eq.trans (zv_next f117_9 rfl) ?_
  refine Eq.trans (zs_getr f117_10 g0 g1 g2) ?_
  refine Eq.trans (zs_getr f117_13 g3 g4 g5) ?_
  refine Eq.trans (zv_next f117_16 rfl) ?_
  refine Eq.trans (zs_aald f117_17 g6 g8 g7 g9) ?_
  refine Eq.trans (zv_next f117_18 rfl) ?_
  refine Eq.trans (zv_next f117_19 rfl) ?_
  refine Eq.trans (zs_geti f117_20 g10 g11) ?_
  refine Eq.trans (zs_ic f117_23 ic_5) ?_
  exact zs_icmp f117_24 rfl
theorem b117_27 {h : zi_Hp} {a0 : Nat} {x1 : Int32} {a2 : Nat}  : zv 2 117 27 [.ref a0, .int x1, .ref a2] [] h = some (some (.int (-2)), h) := by
  refine Eq.trans (zs_bp f117_27 bp_m2) ?_
  exact zs_ret0 f117_29
theorem b117_30 {h : zi_Hp} {a0 : Nat} {x1 : Int32} {a2 : Nat} (g0 : a2 < zh_n h) (g1 : (zh_k h a2).1 = 0) : zv 2 117 30 [.ref a0, .int x1, .ref a2] [] h = zv 2 117 36 [.ref a0, .int x1, .ref a2] [.ref a2] (zh_wi h a2 0 0) := by
  refine Eq.trans (zv_next f117_30 rfl) ?_
  refine Eq.trans (zs_ic f117_31 ic_0) ?_
  refine Eq.trans (zs_put f117_32 g0 g1 rfl) ?_
  refine Eq.trans (zv_next f117_35 rfl) ?_
  rfl
theorem b117_36 {h : zi_Hp} {a0 : Nat} {x1 : Int32} {a2 : Nat} {t0 : Nat} (g0 : t0 < zh_n h) (g1 : (zh_k h t0).1 = 0) : zv 2 117 36 [.ref a0, .int x1, .ref a2] [.ref t0] h = some (some (.int (zh_i h t0 4)), h) := by
  refine Eq.trans (zs_geti f117_36 g0 g1) ?_
  exact zs_ret0 f117_39
set_option maxRecDepth 20000 in
theorem zq118 : zi_M[118]? = some zi_m118 := rfl
theorem zl118_0 {pc : Nat} (_ : 0 ≤ pc) : zi_fe 118 pc = zu118_0.lookup pc := zi_feA zq118 pc
theorem f118_0 : zi_fe 118 0 = some ((.iload_n 1), 1, 0, 0, 0, 0, 0) := (zl118_0 (Nat.le_of_ble_eq_true rfl)).trans rfl
theorem f118_1 : zi_fe 118 1 = some ((.iconst 2), 1, 0, 0, 0, 0, 0) := (zl118_0 (Nat.le_of_ble_eq_true rfl)).trans rfl
theorem f118_2 : zi_fe 118 2 = some ((.if_icmp .lt 8), 3, 0, 0, 0, 0, 0) := (zl118_0 (Nat.le_of_ble_eq_true rfl)).trans rfl
theorem f118_5 : zi_fe 118 5 = some ((.iload_n 1), 1, 0, 0, 0, 0, 0) := (zl118_0 (Nat.le_of_ble_eq_true rfl)).trans rfl
theorem f118_6 : zi_fe 118 6 = some ((.iconst 4), 1, 0, 0, 0, 0, 0) := (zl118_0 (Nat.le_of_ble_eq_true rfl)).trans rfl
theorem f118_7 : zi_fe 118 7 = some ((.if_icmp .le 5), 3, 0, 0, 0, 0, 0) := (zl118_0 (Nat.le_of_ble_eq_true rfl)).trans rfl
theorem f118_10 : zi_fe 118 10 = some ((.iconst (-1)), 1, 0, 0, 0, 0, 0) := (zl118_0 (Nat.le_of_ble_eq_true rfl)).trans rfl
theorem f118_11 : zi_fe 118 11 = some (.ireturn, 1, 0, 0, 0, 0, 0) := (zl118_0 (Nat.le_of_ble_eq_true rfl)).trans rfl
theorem f118_12 : zi_fe 118 12 = some ((.aload_n 0), 1, 0, 0, 0, 0, 0) := (zl118_0 (Nat.le_of_ble_eq_true rfl)).trans rfl
theorem f118_13 : zi_fe 118 13 = some ((.getfield 12), 3, 7, 0, 3, 411, 0) := (zl118_0 (Nat.le_of_ble_eq_true rfl)).trans rfl
theorem f118_16 : zi_fe 118 16 = some ((.getfield 83), 3, 6, 0, 3, 255, 0) := (zl118_0 (Nat.le_of_ble_eq_true rfl)).trans rfl
theorem f118_19 : zi_fe 118 19 = some ((.invokevirtual 178), 3, 62, 0, 4, 840, 1) := (zl118_0 (Nat.le_of_ble_eq_true rfl)).trans rfl
theorem zl118_1 {pc : Nat} (h : 22 ≤ pc) : zi_fe 118 pc = zu118_1.lookup pc := (zl118_0 (Nat.le_trans (Nat.le_of_ble_eq_true rfl) h)).trans (zi_lkA (a := zi_i118_0) (c := 22) rfl h)
theorem f118_22 : zi_fe 118 22 = some ((.iload_n 1), 1, 0, 0, 0, 0, 0) := (zl118_1 (Nat.le_of_ble_eq_true rfl)).trans rfl
theorem f118_23 : zi_fe 118 23 = some ((.if_icmp .le 6), 3, 0, 0, 0, 0, 0) := (zl118_1 (Nat.le_of_ble_eq_true rfl)).trans rfl
theorem f118_26 : zi_fe 118 26 = some ((.bipush (-2)), 2, 0, 0, 0, 0, 0) := (zl118_1 (Nat.le_of_ble_eq_true rfl)).trans rfl
theorem f118_28 : zi_fe 118 28 = some (.ireturn, 1, 0, 0, 0, 0, 0) := (zl118_1 (Nat.le_of_ble_eq_true rfl)).trans rfl
theorem f118_29 : zi_fe 118 29 = some ((.aload_n 0), 1, 0, 0, 0, 0, 0) := (zl118_1 (Nat.le_of_ble_eq_true rfl)).trans rfl
theorem f118_30 : zi_fe 118 30 = some ((.getfield 12), 3, 7, 0, 3, 411, 0) := (zl118_1 (Nat.le_of_ble_eq_true rfl)).trans rfl
theorem f118_33 : zi_fe 118 33 = some ((.getfield 83), 3, 6, 0, 3, 255, 0) := (zl118_1 (Nat.le_of_ble_eq_true rfl)).trans rfl
theorem f118_36 : zi_fe 118 36 = some ((.getfield 99), 3, 4, 2, 0, 146, 0) := (zl118_1 (Nat.le_of_ble_eq_true rfl)).trans rfl
theorem f118_39 : zi_fe 118 39 = some ((.istore_n 2), 1, 0, 0, 0, 0, 0) := (zl118_1 (Nat.le_of_ble_eq_true rfl)).trans rfl
theorem f118_40 : zi_fe 118 40 = some ((.aload_n 0), 1, 0, 0, 0, 0, 0) := (zl118_1 (Nat.le_of_ble_eq_true rfl)).trans rfl
theorem f118_41 : zi_fe 118 41 = some ((.getfield 12), 3, 7, 0, 3, 411, 0) := (zl118_1 (Nat.le_of_ble_eq_true rfl)).trans rfl
theorem f118_44 : zi_fe 118 44 = some ((.getfield 83), 3, 6, 0, 3, 255, 0) := (zl118_1 (Nat.le_of_ble_eq_true rfl)).trans rfl
theorem zl118_2 {pc : Nat} (h : 47 ≤ pc) : zi_fe 118 pc = zu118_2.lookup pc := (zl118_1 (Nat.le_trans (Nat.le_of_ble_eq_true rfl) h)).trans (zi_lkA (a := zi_i118_1) (c := 47) rfl h)
theorem f118_47 : zi_fe 118 47 = some ((.iload_n 1), 1, 0, 0, 0, 0, 0) := (zl118_2 (Nat.le_of_ble_eq_true rfl)).trans rfl
theorem f118_48 : zi_fe 118 48 = some ((.putfield 99), 3, 4, 2, 0, 146, 0) := (zl118_2 (Nat.le_of_ble_eq_true rfl)).trans rfl
theorem f118_51 : zi_fe 118 51 = some ((.iload_n 2), 1, 0, 0, 0, 0, 0) := (zl118_2 (Nat.le_of_ble_eq_true rfl)).trans rfl
theorem f118_52 : zi_fe 118 52 = some (.ireturn, 1, 0, 0, 0, 0, 0) := (zl118_2 (Nat.le_of_ble_eq_true rfl)).trans rfl
theorem b118_0 {h : zi_Hp} {a0 : Nat} {x1 : Int32} {u2 : Value}  : zv 2 118 0 [.ref a0, .int x1, u2] [] h = if x1 < 2 then zv 2 118 10 [.ref a0, .int x1, u2] [] h else zv 2 118 5 [.ref a0, .int x1, u2] [] h := by
  refine Eq.trans (zv_next f118_0 rfl) ?_
  refine Eq.trans (zs_ic f118_1 ic_2) ?_
  exact zs_icmp f118_2 rfl
theorem b118_5 {h : zi_Hp} {a0 : Nat} {x1 : Int32} {u2 : Value}  : zv 2 118 5 [.ref a0, .int x1, u2] [] h = if 4 < x1 then zv 2 118 10 [.ref a0, .int x1, u2] [] h else zv 2 118 12 [.ref a0, .int x1, u2] [] h := by
  refine Eq.trans (zv_next f118_5 rfl) ?_
  refine Eq.trans (zs_ic f118_6 ic_4) ?_
  exact zs_icmp f118_7 rfl
theorem b118_10 {h : zi_Hp} {a0 : Nat} {x1 : Int32} {u2 : Value}  : zv 2 118 10 [.ref a0, .int x1, u2] [] h = some (some (.int (-1)), h) := by
  refine Eq.trans (zs_ic f118_10 ic_m1) ?_
  exact zs_ret0 f118_11
theorem b118_12 {h : zi_Hp} {a0 : Nat} {x1 : Int32} {u2 : Value} (g0 : a0 < zh_n h) (g1 : (zh_k h a0).1 = 7) (g2 : zh_r h a0 0 = .ref (zq (zh_r h a0 0))) (g3 : (zq (zh_r h a0 0)) < zh_n h) (g4 : (zh_k h (zq (zh_r h a0 0))).1 = 6) (g5 : zh_r h (zq (zh_r h a0 0)) 0 = .ref (zq (zh_r h (zq (zh_r h a0 0)) 0))) (g6 : (zq (zh_r h (zq (zh_r h a0 0)) 0)) < zh_n h) (g7 : (zh_k h (zq (zh_r h (zq (zh_r h a0 0)) 0))).1 = 4) : zv 2 118 12 [.ref a0, .int x1, u2] [] h = (zv 1 62 0 [.ref (zq (zh_r h (zq (zh_r h a0 0)) 0)), .double 0, .double 0] [] h).bind fun r => zv 2 118 22 [.ref a0, .int x1, u2] (r.1.toList ++ []) r.2 := by
  refine Eq.trans (zv_next f118_12 rfl) ?_
  refine Eq.trans (zs_getr f118_13 g0 g1 g2) ?_
  refine Eq.trans (zs_getr f118_16 g3 g4 g5) ?_
  exact zs_callV f118_19 (Nat.le_of_ble_eq_true rfl) (Nat.le_of_ble_eq_true rfl) rfl g6 g7 me_62 (by decide) rfl
theorem b118_22 {h : zi_Hp} {a0 : Nat} {x1 : Int32} {u2 : Value} {s0 : Int32}  : zv 2 118 22 [.ref a0, .int x1, u2] [.int s0] h = if x1 < s0 then zv 2 118 26 [.ref a0, .int x1, u2] [] h else zv 2 118 29 [.ref a0, .int x1, u2] [] h := by
  refine Eq.trans (zv_next f118_22 rfl) ?_
  exact zs_icmp f118_23 rfl
theorem b118_26 {h : zi_Hp} {a0 : Nat} {x1 : Int32} {u2 : Value}  : zv 2 118 26 [.ref a0, .int x1, u2] [] h = some (some (.int (-2)), h) := by
  refine Eq.trans (zs_bp f118_26 bp_m2) ?_
  exact zs_ret0 f118_28
theorem b118_29 {h : zi_Hp} {a0 : Nat} {x1 : Int32} {u2 : Value} (g0 : a0 < zh_n h) (g1 : (zh_k h a0).1 = 7) (g2 : zh_r h a0 0 = .ref (zq (zh_r h a0 0))) (g3 : (zq (zh_r h a0 0)) < zh_n h) (g4 : (zh_k h (zq (zh_r h a0 0))).1 = 6) (g5 : zh_r h (zq (zh_r h a0 0)) 0 = .ref (zq (zh_r h (zq (zh_r h a0 0)) 0))) (g6 : (zq (zh_r h (zq (zh_r h a0 0)) 0)) < zh_n h) (g7 : (zh_k h (zq (zh_r h (zq (zh_r h a0 0)) 0))).1 = 4) : zv 2 118 29 [.ref a0, .int x1, u2] [] h = some (some (.int (zh_i h (zq (zh_r h (zq (zh_r h a0 0)) 0)) 2)), zh_wi h (zq (zh_r h (zq (zh_r h a0 0)) 0)) 2 x1) := by
  refine Eq.trans (zv_next f118_29 rfl) ?_
  refine Eq.trans (zs_getr f118_30 g0 g1 g2) ?_
  refine Eq.trans (zs_getr f118_33 g3 g4 g5) ?_
  refine Eq.trans (zs_geti f118_36 g6 g7) ?_
  refine Eq.trans (zv_next f118_39 rfl) ?_
  refine Eq.trans (zv_next f118_40 rfl) ?_
  refine Eq.trans (zs_getr f118_41 g0 g1 g2) ?_
  refine Eq.trans (zs_getr f118_44 g3 g4 g5) ?_
  refine Eq.trans (zv_next f118_47 rfl) ?_
  refine Eq.trans (zs_put f118_48 g6 g7 rfl) ?_
  refine Eq.trans (zv_next f118_51 rfl) ?_
  exact zs_ret0 f118_52
set_option maxRecDepth 20000 in
theorem zq119 : zi_M[119]? = some zi_m119 := rfl
theorem zl119_0 {pc : Nat} (_ : 0 ≤ pc) : zi_fe 119 pc = zu119_0.lookup pc := zi_feA zq119 pc
theorem f119_0 : zi_fe 119 0 = some ((.iload_n 1), 1, 0, 0, 0, 0, 0) := (zl119_0 (Nat.le_of_ble_eq_true rfl)).trans rfl
theorem f119_1 : zi_fe 119 1 = some ((.invokestatic 181), 3, 135, 1, 7, 851, 1) := (zl119_0 (Nat.le_of_ble_eq_true rfl)).trans rfl
theorem f119_4 : zi_fe 119 4 = some ((.ifCond .eq 12), 3, 0, 0, 0, 0, 0) := (zl119_0 (Nat.le_of_ble_eq_true rfl)).trans rfl
theorem f119_7 : zi_fe 119 7 = some ((.iload_n 2), 1, 0, 0, 0, 0, 0) := (zl119_0 (Nat.le_of_ble_eq_true rfl)).trans rfl
theorem f119_8 : zi_fe 119 8 = some ((.ifCond .lt 8), 3, 0, 0, 0, 0, 0) := (zl119_0 (Nat.le_of_ble_eq_true rfl)).trans rfl
theorem f119_11 : zi_fe 119 11 = some ((.iload_n 2), 1, 0, 0, 0, 0, 0) := (zl119_0 (Nat.le_of_ble_eq_true rfl)).trans rfl
theorem f119_12 : zi_fe 119 12 = some ((.iconst 4), 1, 0, 0, 0, 0, 0) := (zl119_0 (Nat.le_of_ble_eq_true rfl)).trans rfl
theorem f119_13 : zi_fe 119 13 = some ((.if_icmp .le 5), 3, 0, 0, 0, 0, 0) := (zl119_0 (Nat.le_of_ble_eq_true rfl)).trans rfl
theorem f119_16 : zi_fe 119 16 = some ((.iconst (-1)), 1, 0, 0, 0, 0, 0) := (zl119_0 (Nat.le_of_ble_eq_true rfl)).trans rfl
theorem f119_17 : zi_fe 119 17 = some (.ireturn, 1, 0, 0, 0, 0, 0) := (zl119_0 (Nat.le_of_ble_eq_true rfl)).trans rfl
theorem f119_18 : zi_fe 119 18 = some ((.aload_n 0), 1, 0, 0, 0, 0, 0) := (zl119_0 (Nat.le_of_ble_eq_true rfl)).trans rfl
theorem f119_19 : zi_fe 119 19 = some ((.getfield 30), 3, 7, 4, 3, 415, 0) := (zl119_0 (Nat.le_of_ble_eq_true rfl)).trans rfl
theorem zl119_1 {pc : Nat} (h : 22 ≤ pc) : zi_fe 119 pc = zu119_1.lookup pc := (zl119_0 (Nat.le_trans (Nat.le_of_ble_eq_true rfl) h)).trans (zi_lkA (a := zi_i119_0) (c := 22) rfl h)
theorem f119_22 : zi_fe 119 22 = some ((.aload_n 0), 1, 0, 0, 0, 0, 0) := (zl119_1 (Nat.le_of_ble_eq_true rfl)).trans rfl
theorem f119_23 : zi_fe 119 23 = some ((.getfield 12), 3, 7, 0, 3, 411, 0) := (zl119_1 (Nat.le_of_ble_eq_true rfl)).trans rfl
theorem f119_26 : zi_fe 119 26 = some ((.iload_n 1), 1, 0, 0, 0, 0, 0) := (zl119_1 (Nat.le_of_ble_eq_true rfl)).trans rfl
theorem f119_27 : zi_fe 119 27 = some ((.bipush (-4)), 2, 0, 0, 0, 0, 0) := (zl119_1 (Nat.le_of_ble_eq_true rfl)).trans rfl
theorem f119_29 : zi_fe 119 29 = some ((.bipush (-4)), 2, 0, 0, 0, 0, 0) := (zl119_1 (Nat.le_of_ble_eq_true rfl)).trans rfl
theorem f119_31 : zi_fe 119 31 = some ((.invokevirtual 184), 3, 71, 0, 5, 854, 5) := (zl119_1 (Nat.le_of_ble_eq_true rfl)).trans rfl
theorem f119_34 : zi_fe 119 34 = some ((.iload_n 2), 1, 0, 0, 0, 0, 0) := (zl119_1 (Nat.le_of_ble_eq_true rfl)).trans rfl
theorem f119_35 : zi_fe 119 35 = some ((.tableswitch 61 0 3 #[29, 37, 45, 53]), 29, 0, 0, 0, 0, 0) := (zl119_1 (Nat.le_of_ble_eq_true rfl)).trans rfl
theorem f119_64 : zi_fe 119 64 = some ((.aload_n 0), 1, 0, 0, 0, 0, 0) := (zl119_1 (Nat.le_of_ble_eq_true rfl)).trans rfl
theorem f119_65 : zi_fe 119 65 = some ((.getfield 30), 3, 7, 4, 3, 415, 0) := (zl119_1 (Nat.le_of_ble_eq_true rfl)).trans rfl
theorem f119_68 : zi_fe 119 68 = some ((.getfield 188), 3, 5, 1, 0, 274, 0) := (zl119_1 (Nat.le_of_ble_eq_true rfl)).trans rfl
theorem f119_71 : zi_fe 119 71 = some (.ireturn, 1, 0, 0, 0, 0, 0) := (zl119_1 (Nat.le_of_ble_eq_true rfl)).trans rfl
theorem zl119_2 {pc : Nat} (h : 72 ≤ pc) : zi_fe 119 pc = zu119_2.lookup pc := (zl119_1 (Nat.le_trans (Nat.le_of_ble_eq_true rfl) h)).trans (zi_lkA (a := zi_i119_1) (c := 72) rfl h)
theorem f119_72 : zi_fe 119 72 = some ((.aload_n 0), 1, 0, 0, 0, 0, 0) := (zl119_2 (Nat.le_of_ble_eq_true rfl)).trans rfl
theorem f119_73 : zi_fe 119 73 = some ((.getfield 30), 3, 7, 4, 3, 415, 0) := (zl119_2 (Nat.le_of_ble_eq_true rfl)).trans rfl
theorem f119_76 : zi_fe 119 76 = some ((.getfield 191), 3, 5, 2, 0, 276, 0) := (zl119_2 (Nat.le_of_ble_eq_true rfl)).trans rfl
theorem f119_79 : zi_fe 119 79 = some (.ireturn, 1, 0, 0, 0, 0, 0) := (zl119_2 (Nat.le_of_ble_eq_true rfl)).trans rfl
theorem f119_80 : zi_fe 119 80 = some ((.aload_n 0), 1, 0, 0, 0, 0, 0) := (zl119_2 (Nat.le_of_ble_eq_true rfl)).trans rfl
theorem f119_81 : zi_fe 119 81 = some ((.getfield 30), 3, 7, 4, 3, 415, 0) := (zl119_2 (Nat.le_of_ble_eq_true rfl)).trans rfl
theorem f119_84 : zi_fe 119 84 = some ((.getfield 194), 3, 5, 3, 0, 278, 0) := (zl119_2 (Nat.le_of_ble_eq_true rfl)).trans rfl
theorem f119_87 : zi_fe 119 87 = some (.ireturn, 1, 0, 0, 0, 0, 0) := (zl119_2 (Nat.le_of_ble_eq_true rfl)).trans rfl
theorem f119_88 : zi_fe 119 88 = some ((.aload_n 0), 1, 0, 0, 0, 0, 0) := (zl119_2 (Nat.le_of_ble_eq_true rfl)).trans rfl
theorem f119_89 : zi_fe 119 89 = some ((.getfield 30), 3, 7, 4, 3, 415, 0) := (zl119_2 (Nat.le_of_ble_eq_true rfl)).trans rfl
theorem f119_92 : zi_fe 119 92 = some ((.getfield 197), 3, 5, 4, 0, 280, 0) := (zl119_2 (Nat.le_of_ble_eq_true rfl)).trans rfl
theorem f119_95 : zi_fe 119 95 = some (.ireturn, 1, 0, 0, 0, 0, 0) := (zl119_2 (Nat.le_of_ble_eq_true rfl)).trans rfl
theorem zl119_3 {pc : Nat} (h : 96 ≤ pc) : zi_fe 119 pc = zu119_3.lookup pc := (zl119_2 (Nat.le_trans (Nat.le_of_ble_eq_true rfl) h)).trans (zi_lkA (a := zi_i119_2) (c := 96) rfl h)
theorem f119_96 : zi_fe 119 96 = some ((.aload_n 0), 1, 0, 0, 0, 0, 0) := (zl119_3 (Nat.le_of_ble_eq_true rfl)).trans rfl
theorem f119_97 : zi_fe 119 97 = some ((.getfield 30), 3, 7, 4, 3, 415, 0) := (zl119_3 (Nat.le_of_ble_eq_true rfl)).trans rfl
theorem f119_100 : zi_fe 119 100 = some ((.getfield 200), 3, 5, 5, 0, 282, 0) := (zl119_3 (Nat.le_of_ble_eq_true rfl)).trans rfl
theorem f119_103 : zi_fe 119 103 = some (.ireturn, 1, 0, 0, 0, 0, 0) := (zl119_3 (Nat.le_of_ble_eq_true rfl)).trans rfl
theorem b119_0 {h : zi_Hp} {a0 : Nat} {x1 : Int32} {x2 : Int32}  : zv 17 119 0 [.ref a0, .int x1, .int x2] [] h = (zv 1 135 0 [.int x1] [] h).bind fun r => zv 17 119 4 [.ref a0, .int x1, .int x2] (r.1.toList ++ []) r.2 := by
  refine Eq.trans (zv_next f119_0 rfl) ?_
  exact zs_callS f119_1 (by decide) (Nat.le_of_ble_eq_true rfl) (Nat.le_of_ble_eq_true rfl) rfl me_135 (by decide) rfl
theorem b119_4 {h : zi_Hp} {a0 : Nat} {x1 : Int32} {x2 : Int32} {s0 : Int32}  : zv 17 119 4 [.ref a0, .int x1, .int x2] [.int s0] h = if s0 = 0 then zv 17 119 16 [.ref a0, .int x1, .int x2] [] h else zv 17 119 7 [.ref a0, .int x1, .int x2] [] h := by
  exact zs_if f119_4 rfl
theorem b119_7 {h : zi_Hp} {a0 : Nat} {x1 : Int32} {x2 : Int32}  : zv 17 119 7 [.ref a0, .int x1, .int x2] [] h = if x2 < 0 then zv 17 119 16 [.ref a0, .int x1, .int x2] [] h else zv 17 119 11 [.ref a0, .int x1, .int x2] [] h := by
  refine Eq.trans (zv_next f119_7 rfl) ?_
  exact zs_if f119_8 rfl
theorem b119_11 {h : zi_Hp} {a0 : Nat} {x1 : Int32} {x2 : Int32}  : zv 17 119 11 [.ref a0, .int x1, .int x2] [] h = if 4 < x2 then zv 17 119 16 [.ref a0, .int x1, .int x2] [] h else zv 17 119 18 [.ref a0, .int x1, .int x2] [] h := by
  refine Eq.trans (zv_next f119_11 rfl) ?_
  refine Eq.trans (zs_ic f119_12 ic_4) ?_
  exact zs_icmp f119_13 rfl
theorem b119_16 {h : zi_Hp} {a0 : Nat} {x1 : Int32} {x2 : Int32}  : zv 17 119 16 [.ref a0, .int x1, .int x2] [] h = some (some (.int (-1)), h) := by
  refine Eq.trans (zs_ic f119_16 ic_m1) ?_
  exact zs_ret0 f119_17
theorem b119_18 {h : zi_Hp} {a0 : Nat} {x1 : Int32} {x2 : Int32} (g0 : a0 < zh_n h) (g1 : (zh_k h a0).1 = 7) (g2 : zh_r h a0 4 = .ref (zq (zh_r h a0 4))) (g3 : zh_r h a0 0 = .ref (zq (zh_r h a0 0))) (g4 : (zq (zh_r h a0 4)) < zh_n h) (g5 : (zh_k h (zq (zh_r h a0 4))).1 = 5) : zv 17 119 18 [.ref a0, .int x1, .int x2] [] h = (zv 16 71 0 [.ref (zq (zh_r h a0 4)), .ref (zq (zh_r h a0 0)), .int x1, .int (-4), .int (-4)] [] h).bind fun r => zv 17 119 34 [.ref a0, .int x1, .int x2] (r.1.toList ++ []) r.2 := by
  refine Eq.trans (zv_next f119_18 rfl) ?_
  refine Eq.trans (zs_getr f119_19 g0 g1 g2) ?_
  refine Eq.trans (zv_next f119_22 rfl) ?_
  refine Eq.trans (zs_getr f119_23 g0 g1 g3) ?_
  refine Eq.trans (zv_next f119_26 rfl) ?_
  refine Eq.trans (zs_bp f119_27 bp_m4) ?_
  refine Eq.trans (zs_bp f119_29 bp_m4) ?_
  exact zs_callV f119_31 (Nat.le_of_ble_eq_true rfl) (Nat.le_of_ble_eq_true rfl) rfl g4 g5 me_71 (by decide) rfl
theorem b119_34_c0 {h : zi_Hp} {a0 : Nat} {x1 : Int32} {x2 : Int32}  (hx : x2 = 0) : zv 17 119 34 [.ref a0, .int x1, .int x2] [] h = zv 17 119 64 [.ref a0, .int x1, .int x2] [] h := by
  refine Eq.trans (zv_next f119_34 rfl) ?_
  exact zs_sw (off := 29) (v := 0) f119_35 (by decide) (by decide) rfl hx
theorem b119_34_c1 {h : zi_Hp} {a0 : Nat} {x1 : Int32} {x2 : Int32}  (hx : x2 = 1) : zv 17 119 34 [.ref a0, .int x1, .int x2] [] h = zv 17 119 72 [.ref a0, .int x1, .int x2] [] h := by
  refine Eq.trans (zv_next f119_34 rfl) ?_
  exact zs_sw (off := 37) (v := 1) f119_35 (by decide) (by decide) rfl hx
theorem b119_34_c2 {h : zi_Hp} {a0 : Nat} {x1 : Int32} {x2 : Int32}  (hx : x2 = 2) : zv 17 119 34 [.ref a0, .int x1, .int x2] [] h = zv 17 119 80 [.ref a0, .int x1, .int x2] [] h := by
  refine Eq.trans (zv_next f119_34 rfl) ?_
  exact zs_sw (off := 45) (v := 2) f119_35 (by decide) (by decide) rfl hx
theorem b119_34_c3 {h : zi_Hp} {a0 : Nat} {x1 : Int32} {x2 : Int32}  (hx : x2 = 3) : zv 17 119 34 [.ref a0, .int x1, .int x2] [] h = zv 17 119 88 [.ref a0, .int x1, .int x2] [] h := by
  refine Eq.trans (zv_next f119_34 rfl) ?_
  exact zs_sw (off := 53) (v := 3) f119_35 (by decide) (by decide) rfl hx
theorem b119_34_d {h : zi_Hp} {a0 : Nat} {x1 : Int32} {x2 : Int32}  (hx : (x2).toInt < 0 ∨ 3 < (x2).toInt) : zv 17 119 34 [.ref a0, .int x1, .int x2] [] h = zv 17 119 96 [.ref a0, .int x1, .int x2] [] h := by
  refine Eq.trans (zv_next f119_34 rfl) ?_
  exact zs_swO f119_35 rfl hx
theorem b119_64 {h : zi_Hp} {a0 : Nat} {x1 : Int32} {x2 : Int32} (g0 : a0 < zh_n h) (g1 : (zh_k h a0).1 = 7) (g2 : zh_r h a0 4 = .ref (zq (zh_r h a0 4))) (g3 : (zq (zh_r h a0 4)) < zh_n h) (g4 : (zh_k h (zq (zh_r h a0 4))).1 = 5) : zv 17 119 64 [.ref a0, .int x1, .int x2] [] h = some (some (.int (zh_i h (zq (zh_r h a0 4)) 1)), h) := by
  refine Eq.trans (zv_next f119_64 rfl) ?_
  refine Eq.trans (zs_getr f119_65 g0 g1 g2) ?_
  refine Eq.trans (zs_geti f119_68 g3 g4) ?_
  exact zs_ret0 f119_71
theorem b119_72 {h : zi_Hp} {a0 : Nat} {x1 : Int32} {x2 : Int32} (g0 : a0 < zh_n h) (g1 : (zh_k h a0).1 = 7) (g2 : zh_r h a0 4 = .ref (zq (zh_r h a0 4))) (g3 : (zq (zh_r h a0 4)) < zh_n h) (g4 : (zh_k h (zq (zh_r h a0 4))).1 = 5) : zv 17 119 72 [.ref a0, .int x1, .int x2] [] h = some (some (.int (zh_i h (zq (zh_r h a0 4)) 2)), h) := by
  refine Eq.trans (zv_next f119_72 rfl) ?_
  refine Eq.trans (zs_getr f119_73 g0 g1 g2) ?_
  refine Eq.trans (zs_geti f119_76 g3 g4) ?_
  exact zs_ret0 f119_79
theorem b119_80 {h : zi_Hp} {a0 : Nat} {x1 : Int32} {x2 : Int32} (g0 : a0 < zh_n h) (g1 : (zh_k h a0).1 = 7) (g2 : zh_r h a0 4 = .ref (zq (zh_r h a0 4))) (g3 : (zq (zh_r h a0 4)) < zh_n h) (g4 : (zh_k h (zq (zh_r h a0 4))).1 = 5) : zv 17 119 80 [.ref a0, .int x1, .int x2] [] h = some (some (.int (zh_i h (zq (zh_r h a0 4)) 3)), h) := by
  refine Eq.trans (zv_next f119_80 rfl) ?_
  refine Eq.trans (zs_getr f119_81 g0 g1 g2) ?_
  refine Eq.trans (zs_geti f119_84 g3 g4) ?_
  exact zs_ret0 f119_87
theorem b119_88 {h : zi_Hp} {a0 : Nat} {x1 : Int32} {x2 : Int32} (g0 : a0 < zh_n h) (g1 : (zh_k h a0).1 = 7) (g2 : zh_r h a0 4 = .ref (zq (zh_r h a0 4))) (g3 : (zq (zh_r h a0 4)) < zh_n h) (g4 : (zh_k h (zq (zh_r h a0 4))).1 = 5) : zv 17 119 88 [.ref a0, .int x1, .int x2] [] h = some (some (.int (zh_i h (zq (zh_r h a0 4)) 4)), h) := by
  refine Eq.trans (zv_next f119_88 rfl) ?_
  refine Eq.trans (zs_getr f119_89 g0 g1 g2) ?_
  refine Eq.trans (zs_geti f119_92 g3 g4) ?_
  exact zs_ret0 f119_95
theorem b119_96 {h : zi_Hp} {a0 : Nat} {x1 : Int32} {x2 : Int32} (g0 : a0 < zh_n h) (g1 : (zh_k h a0).1 = 7) (g2 : zh_r h a0 4 = .ref (zq (zh_r h a0 4))) (g3 : (zq (zh_r h a0 4)) < zh_n h) (g4 : (zh_k h (zq (zh_r h a0 4))).1 = 5) : zv 17 119 96 [.ref a0, .int x1, .int x2] [] h = some (some (.int (zh_i h (zq (zh_r h a0 4)) 5)), h) := by
  refine Eq.trans (zv_next f119_96 rfl) ?_
  refine Eq.trans (zs_getr f119_97 g0 g1 g2) ?_
  refine Eq.trans (zs_geti f119_100 g3 g4) ?_
  exact zs_ret0 f119_103
set_option maxRecDepth 20000 in
theorem zq120 : zi_M[120]? = some zi_m120 := rfl
theorem zl120_0 {pc : Nat} (_ : 0 ≤ pc) : zi_fe 120 pc = zu120_0.lookup pc := zi_feA zq120 pc
theorem f120_0 : zi_fe 120 0 = some ((.iload_n 1), 1, 0, 0, 0, 0, 0) := (zl120_0 (Nat.le_of_ble_eq_true rfl)).trans rfl
theorem f120_1 : zi_fe 120 1 = some ((.invokestatic 144), 3, 133, 1, 7, 801, 1) := (zl120_0 (Nat.le_of_ble_eq_true rfl)).trans rfl
theorem f120_4 : zi_fe 120 4 = some ((.ifCond .eq 17), 3, 0, 0, 0, 0, 0) := (zl120_0 (Nat.le_of_ble_eq_true rfl)).trans rfl
theorem f120_7 : zi_fe 120 7 = some ((.iload_n 2), 1, 0, 0, 0, 0, 0) := (zl120_0 (Nat.le_of_ble_eq_true rfl)).trans rfl
theorem f120_8 : zi_fe 120 8 = some ((.invokestatic 181), 3, 135, 1, 7, 851, 1) := (zl120_0 (Nat.le_of_ble_eq_true rfl)).trans rfl
theorem f120_11 : zi_fe 120 11 = some ((.ifCond .eq 10), 3, 0, 0, 0, 0, 0) := (zl120_0 (Nat.le_of_ble_eq_true rfl)).trans rfl
theorem f120_14 : zi_fe 120 14 = some ((.iload_n 3), 1, 0, 0, 0, 0, 0) := (zl120_0 (Nat.le_of_ble_eq_true rfl)).trans rfl
theorem f120_15 : zi_fe 120 15 = some ((.invokestatic 203), 3, 136, 1, 7, 916, 1) := (zl120_0 (Nat.le_of_ble_eq_true rfl)).trans rfl
theorem f120_18 : zi_fe 120 18 = some ((.ifCond .ne 5), 3, 0, 0, 0, 0, 0) := (zl120_0 (Nat.le_of_ble_eq_true rfl)).trans rfl
theorem f120_21 : zi_fe 120 21 = some ((.iconst (-1)), 1, 0, 0, 0, 0, 0) := (zl120_0 (Nat.le_of_ble_eq_true rfl)).trans rfl
theorem f120_22 : zi_fe 120 22 = some (.ireturn, 1, 0, 0, 0, 0, 0) := (zl120_0 (Nat.le_of_ble_eq_true rfl)).trans rfl
theorem f120_23 : zi_fe 120 23 = some ((.aload_n 0), 1, 0, 0, 0, 0, 0) := (zl120_0 (Nat.le_of_ble_eq_true rfl)).trans rfl
theorem zl120_1 {pc : Nat} (h : 24 ≤ pc) : zi_fe 120 pc = zu120_1.lookup pc := (zl120_0 (Nat.le_trans (Nat.le_of_ble_eq_true rfl) h)).trans (zi_lkA (a := zi_i120_0) (c := 24) rfl h)
theorem f120_24 : zi_fe 120 24 = some ((.getfield 30), 3, 7, 4, 3, 415, 0) := (zl120_1 (Nat.le_of_ble_eq_true rfl)).trans rfl
theorem f120_27 : zi_fe 120 27 = some ((.aload_n 0), 1, 0, 0, 0, 0, 0) := (zl120_1 (Nat.le_of_ble_eq_true rfl)).trans rfl
theorem f120_28 : zi_fe 120 28 = some ((.getfield 12), 3, 7, 0, 3, 411, 0) := (zl120_1 (Nat.le_of_ble_eq_true rfl)).trans rfl
theorem f120_31 : zi_fe 120 31 = some ((.iload_n 2), 1, 0, 0, 0, 0, 0) := (zl120_1 (Nat.le_of_ble_eq_true rfl)).trans rfl
theorem f120_32 : zi_fe 120 32 = some ((.iload_n 1), 1, 0, 0, 0, 0, 0) := (zl120_1 (Nat.le_of_ble_eq_true rfl)).trans rfl
theorem f120_33 : zi_fe 120 33 = some ((.iload_n 3), 1, 0, 0, 0, 0, 0) := (zl120_1 (Nat.le_of_ble_eq_true rfl)).trans rfl
theorem f120_34 : zi_fe 120 34 = some ((.invokevirtual 184), 3, 71, 0, 5, 854, 5) := (zl120_1 (Nat.le_of_ble_eq_true rfl)).trans rfl
theorem f120_37 : zi_fe 120 37 = some ((.aload_n 0), 1, 0, 0, 0, 0, 0) := (zl120_1 (Nat.le_of_ble_eq_true rfl)).trans rfl
theorem f120_38 : zi_fe 120 38 = some ((.getfield 30), 3, 7, 4, 3, 415, 0) := (zl120_1 (Nat.le_of_ble_eq_true rfl)).trans rfl
theorem f120_41 : zi_fe 120 41 = some ((.getfield 206), 3, 5, 6, 0, 284, 0) := (zl120_1 (Nat.le_of_ble_eq_true rfl)).trans rfl
theorem f120_44 : zi_fe 120 44 = some (.ireturn, 1, 0, 0, 0, 0, 0) := (zl120_1 (Nat.le_of_ble_eq_true rfl)).trans rfl
theorem b120_0 {h : zi_Hp} {a0 : Nat} {x1 : Int32} {x2 : Int32} {x3 : Int32}  : zv 17 120 0 [.ref a0, .int x1, .int x2, .int x3] [] h = (zv 1 133 0 [.int x1] [] h).bind fun r => zv 17 120 4 [.ref a0, .int x1, .int x2, .int x3] (r.1.toList ++ []) r.2 := by
  refine Eq.trans (zv_next f120_0 rfl) ?_
  exact zs_callS f120_1 (by decide) (Nat.le_of_ble_eq_true rfl) (Nat.le_of_ble_eq_true rfl) rfl me_133 (by decide) rfl
theorem b120_4 {h : zi_Hp} {a0 : Nat} {x1 : Int32} {x2 : Int32} {x3 : Int32} {s0 : Int32}  : zv 17 120 4 [.ref a0, .int x1, .int x2, .int x3] [.int s0] h = if s0 = 0 then zv 17 120 21 [.ref a0, .int x1, .int x2, .int x3] [] h else zv 17 120 7 [.ref a0, .int x1, .int x2, .int x3] [] h := by
  exact zs_if f120_4 rfl
theorem b120_7 {h : zi_Hp} {a0 : Nat} {x1 : Int32} {x2 : Int32} {x3 : Int32}  : zv 17 120 7 [.ref a0, .int x1, .int x2, .int x3] [] h = (zv 1 135 0 [.int x2] [] h).bind fun r => zv 17 120 11 [.ref a0, .int x1, .int x2, .int x3] (r.1.toList ++ []) r.2 := by
  refine Eq.trans (zv_next f120_7 rfl) ?_
  exact zs_callS f120_8 (by decide) (Nat.le_of_ble_eq_true rfl) (Nat.le_of_ble_eq_true rfl) rfl me_135 (by decide) rfl
theorem b120_11 {h : zi_Hp} {a0 : Nat} {x1 : Int32} {x2 : Int32} {x3 : Int32} {s0 : Int32}  : zv 17 120 11 [.ref a0, .int x1, .int x2, .int x3] [.int s0] h = if s0 = 0 then zv 17 120 21 [.ref a0, .int x1, .int x2, .int x3] [] h else zv 17 120 14 [.ref a0, .int x1, .int x2, .int x3] [] h := by
  exact zs_if f120_11 rfl
theorem b120_14 {h : zi_Hp} {a0 : Nat} {x1 : Int32} {x2 : Int32} {x3 : Int32}  : zv 17 120 14 [.ref a0, .int x1, .int x2, .int x3] [] h = (zv 1 136 0 [.int x3] [] h).bind fun r => zv 17 120 18 [.ref a0, .int x1, .int x2, .int x3] (r.1.toList ++ []) r.2 := by
  refine Eq.trans (zv_next f120_14 rfl) ?_
  exact zs_callS f120_15 (by decide) (Nat.le_of_ble_eq_true rfl) (Nat.le_of_ble_eq_true rfl) rfl me_136 (by decide) rfl
theorem b120_18 {h : zi_Hp} {a0 : Nat} {x1 : Int32} {x2 : Int32} {x3 : Int32} {s0 : Int32}  : zv 17 120 18 [.ref a0, .int x1, .int x2, .int x3] [.int s0] h = if s0 = 0 then zv 17 120 21 [.ref a0, .int x1, .int x2, .int x3] [] h else zv 17 120 23 [.ref a0, .int x1, .int x2, .int x3] [] h := by
  exact zs_if f120_18 rfl
theorem b120_21 {h : zi_Hp} {a0 : Nat} {x1 : Int32} {x2 : Int32} {x3 : Int32}  : zv 17 120 21 [.ref a0, .int x1, .int x2, .int x3] [] h = some (some (.int (-1)), h) := by
  refine Eq.trans (zs_ic f120_21 ic_m1) ?_
  exact zs_ret0 f120_22
theorem b120_23 {h : zi_Hp} {a0 : Nat} {x1 : Int32} {x2 : Int32} {x3 : Int32} (g0 : a0 < zh_n h) (g1 : (zh_k h a0).1 = 7) (g2 : zh_r h a0 4 = .ref (zq (zh_r h a0 4))) (g3 : zh_r h a0 0 = .ref (zq (zh_r h a0 0))) (g4 : (zq (zh_r h a0 4)) < zh_n h) (g5 : (zh_k h (zq (zh_r h a0 4))).1 = 5) : zv 17 120 23 [.ref a0, .int x1, .int x2, .int x3] [] h = (zv 16 71 0 [.ref (zq (zh_r h a0 4)), .ref (zq (zh_r h a0 0)), .int x2, .int x1, .int x3] [] h).bind fun r => zv 17 120 37 [.ref a0, .int x1, .int x2, .int x3] (r.1.toList ++ []) r.2 := by
  refine Eq.trans (zv_next f120_23 rfl) ?_
  refine Eq.trans (zs_getr f120_24 g0 g1 g2) ?_
  refine Eq.trans (zv_next f120_27 rfl) ?_
  refine Eq.trans (zs_getr f120_28 g0 g1 g3) ?_
  refine Eq.trans (zv_next f120_31 rfl) ?_
  refine Eq.trans (zv_next f120_32 rfl) ?_
  refine Eq.trans (zv_next f120_33 rfl) ?_
  exact zs_callV f120_34 (Nat.le_of_ble_eq_true rfl) (Nat.le_of_ble_eq_true rfl) rfl g4 g5 me_71 (by decide) rfl
theorem b120_37 {h : zi_Hp} {a0 : Nat} {x1 : Int32} {x2 : Int32} {x3 : Int32} (g0 : a0 < zh_n h) (g1 : (zh_k h a0).1 = 7) (g2 : zh_r h a0 4 = .ref (zq (zh_r h a0 4))) (g3 : (zq (zh_r h a0 4)) < zh_n h) (g4 : (zh_k h (zq (zh_r h a0 4))).1 = 5) : zv 17 120 37 [.ref a0, .int x1, .int x2, .int x3] [] h = some (some (.int (zh_i h (zq (zh_r h a0 4)) 6)), h) := by
  refine Eq.trans (zv_next f120_37 rfl) ?_
  refine Eq.trans (zs_getr f120_38 g0 g1 g2) ?_
  refine Eq.trans (zs_geti f120_41 g3 g4) ?_
  exact zs_ret0 f120_44
set_option maxRecDepth 20000 in
theorem zq121 : zi_M[121]? = some zi_m121 := rfl
theorem zl121_0 {pc : Nat} (_ : 0 ≤ pc) : zi_fe 121 pc = zu121_0.lookup pc := zi_feA zq121 pc
theorem f121_0 : zi_fe 121 0 = some ((.iload_n 1), 1, 0, 0, 0, 0, 0) := (zl121_0 (Nat.le_of_ble_eq_true rfl)).trans rfl
theorem f121_1 : zi_fe 121 1 = some ((.invokestatic 144), 3, 133, 1, 7, 801, 1) := (zl121_0 (Nat.le_of_ble_eq_true rfl)).trans rfl
theorem f121_4 : zi_fe 121 4 = some ((.ifCond .eq 17), 3, 0, 0, 0, 0, 0) := (zl121_0 (Nat.le_of_ble_eq_true rfl)).trans rfl
theorem f121_7 : zi_fe 121 7 = some ((.iload_n 2), 1, 0, 0, 0, 0, 0) := (zl121_0 (Nat.le_of_ble_eq_true rfl)).trans rfl
theorem f121_8 : zi_fe 121 8 = some ((.invokestatic 181), 3, 135, 1, 7, 851, 1) := (zl121_0 (Nat.le_of_ble_eq_true rfl)).trans rfl
theorem f121_11 : zi_fe 121 11 = some ((.ifCond .eq 10), 3, 0, 0, 0, 0, 0) := (zl121_0 (Nat.le_of_ble_eq_true rfl)).trans rfl
theorem f121_14 : zi_fe 121 14 = some ((.iload_n 3), 1, 0, 0, 0, 0, 0) := (zl121_0 (Nat.le_of_ble_eq_true rfl)).trans rfl
theorem f121_15 : zi_fe 121 15 = some ((.invokestatic 203), 3, 136, 1, 7, 916, 1) := (zl121_0 (Nat.le_of_ble_eq_true rfl)).trans rfl
theorem f121_18 : zi_fe 121 18 = some ((.ifCond .ne 5), 3, 0, 0, 0, 0, 0) := (zl121_0 (Nat.le_of_ble_eq_true rfl)).trans rfl
theorem f121_21 : zi_fe 121 21 = some ((.iconst (-1)), 1, 0, 0, 0, 0, 0) := (zl121_0 (Nat.le_of_ble_eq_true rfl)).trans rfl
theorem f121_22 : zi_fe 121 22 = some (.ireturn, 1, 0, 0, 0, 0, 0) := (zl121_0 (Nat.le_of_ble_eq_true rfl)).trans rfl
theorem f121_23 : zi_fe 121 23 = some ((.aload_n 0), 1, 0, 0, 0, 0, 0) := (zl121_0 (Nat.le_of_ble_eq_true rfl)).trans rfl
theorem zl121_1 {pc : Nat} (h : 24 ≤ pc) : zi_fe 121 pc = zu121_1.lookup pc := (zl121_0 (Nat.le_trans (Nat.le_of_ble_eq_true rfl) h)).trans (zi_lkA (a := zi_i121_0) (c := 24) rfl h)
theorem f121_24 : zi_fe 121 24 = some ((.getfield 30), 3, 7, 4, 3, 415, 0) := (zl121_1 (Nat.le_of_ble_eq_true rfl)).trans rfl
theorem f121_27 : zi_fe 121 27 = some ((.aload_n 0), 1, 0, 0, 0, 0, 0) := (zl121_1 (Nat.le_of_ble_eq_true rfl)).trans rfl
theorem f121_28 : zi_fe 121 28 = some ((.getfield 12), 3, 7, 0, 3, 411, 0) := (zl121_1 (Nat.le_of_ble_eq_true rfl)).trans rfl
theorem f121_31 : zi_fe 121 31 = some ((.iload_n 2), 1, 0, 0, 0, 0, 0) := (zl121_1 (Nat.le_of_ble_eq_true rfl)).trans rfl
theorem f121_32 : zi_fe 121 32 = some ((.iload_n 1), 1, 0, 0, 0, 0, 0) := (zl121_1 (Nat.le_of_ble_eq_true rfl)).trans rfl
theorem f121_33 : zi_fe 121 33 = some ((.iload_n 3), 1, 0, 0, 0, 0, 0) := (zl121_1 (Nat.le_of_ble_eq_true rfl)).trans rfl
theorem f121_34 : zi_fe 121 34 = some ((.invokevirtual 184), 3, 71, 0, 5, 854, 5) := (zl121_1 (Nat.le_of_ble_eq_true rfl)).trans rfl
theorem f121_37 : zi_fe 121 37 = some ((.aload_n 0), 1, 0, 0, 0, 0, 0) := (zl121_1 (Nat.le_of_ble_eq_true rfl)).trans rfl
theorem f121_38 : zi_fe 121 38 = some ((.getfield 30), 3, 7, 4, 3, 415, 0) := (zl121_1 (Nat.le_of_ble_eq_true rfl)).trans rfl
theorem f121_41 : zi_fe 121 41 = some ((.getfield 209), 3, 5, 7, 0, 286, 0) := (zl121_1 (Nat.le_of_ble_eq_true rfl)).trans rfl
theorem f121_44 : zi_fe 121 44 = some (.ireturn, 1, 0, 0, 0, 0, 0) := (zl121_1 (Nat.le_of_ble_eq_true rfl)).trans rfl
theorem b121_0 {h : zi_Hp} {a0 : Nat} {x1 : Int32} {x2 : Int32} {x3 : Int32}  : zv 17 121 0 [.ref a0, .int x1, .int x2, .int x3] [] h = (zv 1 133 0 [.int x1] [] h).bind fun r => zv 17 121 4 [.ref a0, .int x1, .int x2, .int x3] (r.1.toList ++ []) r.2 := by
  refine Eq.trans (zv_next f121_0 rfl) ?_
  exact zs_callS f121_1 (by decide) (Nat.le_of_ble_eq_true rfl) (Nat.le_of_ble_eq_true rfl) rfl me_133 (by decide) rfl
theorem b121_4 {h : zi_Hp} {a0 : Nat} {x1 : Int32} {x2 : Int32} {x3 : Int32} {s0 : Int32}  : zv 17 121 4 [.ref a0, .int x1, .int x2, .int x3] [.int s0] h = if s0 = 0 then zv 17 121 21 [.ref a0, .int x1, .int x2, .int x3] [] h else zv 17 121 7 [.ref a0, .int x1, .int x2, .int x3] [] h := by
  exact zs_if f121_4 rfl
theorem b121_7 {h : zi_Hp} {a0 : Nat} {x1 : Int32} {x2 : Int32} {x3 : Int32}  : zv 17 121 7 [.ref a0, .int x1, .int x2, .int x3] [] h = (zv 1 135 0 [.int x2] [] h).bind fun r => zv 17 121 11 [.ref a0, .int x1, .int x2, .int x3] (r.1.toList ++ []) r.2 := by
  refine Eq.trans (zv_next f121_7 rfl) ?_
  exact zs_callS f121_8 (by decide) (Nat.le_of_ble_eq_true rfl) (Nat.le_of_ble_eq_true rfl) rfl me_135 (by decide) rfl
theorem b121_11 {h : zi_Hp} {a0 : Nat} {x1 : Int32} {x2 : Int32} {x3 : Int32} {s0 : Int32}  : zv 17 121 11 [.ref a0, .int x1, .int x2, .int x3] [.int s0] h = if s0 = 0 then zv 17 121 21 [.ref a0, .int x1, .int x2, .int x3] [] h else zv 17 121 14 [.ref a0, .int x1, .int x2, .int x3] [] h := by
  exact zs_if f121_11 rfl
theorem b121_14 {h : zi_Hp} {a0 : Nat} {x1 : Int32} {x2 : Int32} {x3 : Int32}  : zv 17 121 14 [.ref a0, .int x1, .int x2, .int x3] [] h = (zv 1 136 0 [.int x3] [] h).bind fun r => zv 17 121 18 [.ref a0, .int x1, .int x2, .int x3] (r.1.toList ++ []) r.2 := by
  refine Eq.trans (zv_next f121_14 rfl) ?_
  exact zs_callS f121_15 (by decide) (Nat.le_of_ble_eq_true rfl) (Nat.le_of_ble_eq_true rfl) rfl me_136 (by decide) rfl
theorem b121_18 {h : zi_Hp} {a0 : Nat} {x1 : Int32} {x2 : Int32} {x3 : Int32} {s0 : Int32}  : zv 17 121 18 [.ref a0, .int x1, .int x2, .int x3] [.int s0] h = if s0 = 0 then zv 17 121 21 [.ref a0, .int x1, .int x2, .int x3] [] h else zv 17 121 23 [.ref a0, .int x1, .int x2, .int x3] [] h := by
  exact zs_if f121_18 rfl
theorem b121_21 {h : zi_Hp} {a0 : Nat} {x1 : Int32} {x2 : Int32} {x3 : Int32}  : zv 17 121 21 [.ref a0, .int x1, .int x2, .int x3] [] h = some (some (.int (-1)), h) := by
  refine Eq.trans (zs_ic f121_21 ic_m1) ?_
  exact zs_ret0 f121_22
theorem b121_23 {h : zi_Hp} {a0 : Nat} {x1 : Int32} {x2 : Int32} {x3 : Int32} (g0 : a0 < zh_n h) (g1 : (zh_k h a0).1 = 7) (g2 : zh_r h a0 4 = .ref (zq (zh_r h a0 4))) (g3 : zh_r h a0 0 = .ref (zq (zh_r h a0 0))) (g4 : (zq (zh_r h a0 4)) < zh_n h) (g5 : (zh_k h (zq (zh_r h a0 4))).1 = 5) : zv 17 121 23 [.ref a0, .int x1, .int x2, .int x3] [] h = (zv 16 71 0 [.ref (zq (zh_r h a0 4)), .ref (zq (zh_r h a0 0)), .int x2, .int x1, .int x3] [] h).bind fun r => zv 17 121 37 [.ref a0, .int x1, .int x2, .int x3] (r.1.toList ++ []) r.2 := by
  refine Eq.trans (zv_next f121_23 rfl) ?_
  refine Eq.trans (zs_getr f121_24 g0 g1 g2) ?_
  refine Eq.trans (zv_next f121_27 rfl) ?_
  refine Eq.trans (zs_getr f121_28 g0 g1 g3) ?_
  refine Eq.trans (zv_next f121_31 rfl) ?_
  refine Eq.trans (zv_next f121_32 rfl) ?_
  refine Eq.trans (zv_next f121_33 rfl) ?_
  exact zs_callV f121_34 (Nat.le_of_ble_eq_true rfl) (Nat.le_of_ble_eq_true rfl) rfl g4 g5 me_71 (by decide) rfl
theorem b121_37 {h : zi_Hp} {a0 : Nat} {x1 : Int32} {x2 : Int32} {x3 : Int32} (g0 : a0 < zh_n h) (g1 : (zh_k h a0).1 = 7) (g2 : zh_r h a0 4 = .ref (zq (zh_r h a0 4))) (g3 : (zq (zh_r h a0 4)) < zh_n h) (g4 : (zh_k h (zq (zh_r h a0 4))).1 = 5) : zv 17 121 37 [.ref a0, .int x1, .int x2, .int x3] [] h = some (some (.int (zh_i h (zq (zh_r h a0 4)) 7)), h) := by
  refine Eq.trans (zv_next f121_37 rfl) ?_
  refine Eq.trans (zs_getr f121_38 g0 g1 g2) ?_
  refine Eq.trans (zs_geti f121_41 g3 g4) ?_
  exact zs_ret0 f121_44
set_option maxRecDepth 20000 in
theorem zq122 : zi_M[122]? = some zi_m122 := rfl
theorem zl122_0 {pc : Nat} (_ : 0 ≤ pc) : zi_fe 122 pc = zu122_0.lookup pc := zi_feA zq122 pc
theorem f122_0 : zi_fe 122 0 = some ((.iload_n 1), 1, 0, 0, 0, 0, 0) := (zl122_0 (Nat.le_of_ble_eq_true rfl)).trans rfl
theorem f122_1 : zi_fe 122 1 = some ((.invokestatic 144), 3, 133, 1, 7, 801, 1) := (zl122_0 (Nat.le_of_ble_eq_true rfl)).trans rfl
theorem f122_4 : zi_fe 122 4 = some ((.ifCond .eq 25), 3, 0, 0, 0, 0, 0) := (zl122_0 (Nat.le_of_ble_eq_true rfl)).trans rfl
theorem f122_7 : zi_fe 122 7 = some ((.iload_n 2), 1, 0, 0, 0, 0, 0) := (zl122_0 (Nat.le_of_ble_eq_true rfl)).trans rfl
theorem f122_8 : zi_fe 122 8 = some ((.invokestatic 181), 3, 135, 1, 7, 851, 1) := (zl122_0 (Nat.le_of_ble_eq_true rfl)).trans rfl
theorem f122_11 : zi_fe 122 11 = some ((.ifCond .eq 18), 3, 0, 0, 0, 0, 0) := (zl122_0 (Nat.le_of_ble_eq_true rfl)).trans rfl
theorem f122_14 : zi_fe 122 14 = some ((.iload_n 3), 1, 0, 0, 0, 0, 0) := (zl122_0 (Nat.le_of_ble_eq_true rfl)).trans rfl
theorem f122_15 : zi_fe 122 15 = some ((.invokestatic 203), 3, 136, 1, 7, 916, 1) := (zl122_0 (Nat.le_of_ble_eq_true rfl)).trans rfl
theorem f122_18 : zi_fe 122 18 = some ((.ifCond .eq 11), 3, 0, 0, 0, 0, 0) := (zl122_0 (Nat.le_of_ble_eq_true rfl)).trans rfl
theorem f122_21 : zi_fe 122 21 = some ((.iload 4), 2, 0, 0, 0, 0, 0) := (zl122_0 (Nat.le_of_ble_eq_true rfl)).trans rfl
theorem f122_23 : zi_fe 122 23 = some ((.invokestatic 203), 3, 136, 1, 7, 916, 1) := (zl122_0 (Nat.le_of_ble_eq_true rfl)).trans rfl
theorem f122_26 : zi_fe 122 26 = some ((.ifCond .ne 7), 3, 0, 0, 0, 0, 0) := (zl122_0 (Nat.le_of_ble_eq_true rfl)).trans rfl
theorem zl122_1 {pc : Nat} (h : 29 ≤ pc) : zi_fe 122 pc = zu122_1.lookup pc := (zl122_0 (Nat.le_trans (Nat.le_of_ble_eq_true rfl) h)).trans (zi_lkA (a := zi_i122_0) (c := 29) rfl h)
theorem f122_29 : zi_fe 122 29 = some ((.ldc2_w 212), 3, 0, 0, 0, 927, -1) := (zl122_1 (Nat.le_of_ble_eq_true rfl)).trans rfl
theorem f122_32 : zi_fe 122 32 = some (.lreturn, 1, 0, 0, 0, 0, 0) := (zl122_1 (Nat.le_of_ble_eq_true rfl)).trans rfl
theorem f122_33 : zi_fe 122 33 = some ((.aload_n 0), 1, 0, 0, 0, 0, 0) := (zl122_1 (Nat.le_of_ble_eq_true rfl)).trans rfl
theorem f122_34 : zi_fe 122 34 = some ((.getfield 30), 3, 7, 4, 3, 415, 0) := (zl122_1 (Nat.le_of_ble_eq_true rfl)).trans rfl
theorem f122_37 : zi_fe 122 37 = some ((.aload_n 0), 1, 0, 0, 0, 0, 0) := (zl122_1 (Nat.le_of_ble_eq_true rfl)).trans rfl
theorem f122_38 : zi_fe 122 38 = some ((.getfield 12), 3, 7, 0, 3, 411, 0) := (zl122_1 (Nat.le_of_ble_eq_true rfl)).trans rfl
theorem f122_41 : zi_fe 122 41 = some ((.iload_n 2), 1, 0, 0, 0, 0, 0) := (zl122_1 (Nat.le_of_ble_eq_true rfl)).trans rfl
theorem f122_42 : zi_fe 122 42 = some ((.iload_n 1), 1, 0, 0, 0, 0, 0) := (zl122_1 (Nat.le_of_ble_eq_true rfl)).trans rfl
theorem f122_43 : zi_fe 122 43 = some ((.iload_n 3), 1, 0, 0, 0, 0, 0) := (zl122_1 (Nat.le_of_ble_eq_true rfl)).trans rfl
theorem f122_44 : zi_fe 122 44 = some ((.invokevirtual 184), 3, 71, 0, 5, 854, 5) := (zl122_1 (Nat.le_of_ble_eq_true rfl)).trans rfl
theorem f122_47 : zi_fe 122 47 = some ((.aload_n 0), 1, 0, 0, 0, 0, 0) := (zl122_1 (Nat.le_of_ble_eq_true rfl)).trans rfl
theorem f122_48 : zi_fe 122 48 = some ((.getfield 30), 3, 7, 4, 3, 415, 0) := (zl122_1 (Nat.le_of_ble_eq_true rfl)).trans rfl
theorem zl122_2 {pc : Nat} (h : 51 ≤ pc) : zi_fe 122 pc = zu122_2.lookup pc := (zl122_1 (Nat.le_trans (Nat.le_of_ble_eq_true rfl) h)).trans (zi_lkA (a := zi_i122_1) (c := 51) rfl h)
theorem f122_51 : zi_fe 122 51 = some ((.getfield 214), 3, 5, 8, 2, 288, 0) := (zl122_2 (Nat.le_of_ble_eq_true rfl)).trans rfl
theorem f122_54 : zi_fe 122 54 = some ((.ldc2_w 218), 3, 0, 0, 0, 928, 279936) := (zl122_2 (Nat.le_of_ble_eq_true rfl)).trans rfl
theorem f122_57 : zi_fe 122 57 = some ((.invokestatic 220), 3, 140, 1, 7, 929, 2) := (zl122_2 (Nat.le_of_ble_eq_true rfl)).trans rfl
theorem f122_60 : zi_fe 122 60 = some ((.lstore 5), 2, 0, 0, 0, 0, 0) := (zl122_2 (Nat.le_of_ble_eq_true rfl)).trans rfl
theorem f122_62 : zi_fe 122 62 = some ((.lload 5), 2, 0, 0, 0, 0, 0) := (zl122_2 (Nat.le_of_ble_eq_true rfl)).trans rfl
theorem f122_64 : zi_fe 122 64 = some ((.lconst 0), 1, 0, 0, 0, 0, 0) := (zl122_2 (Nat.le_of_ble_eq_true rfl)).trans rfl
theorem f122_65 : zi_fe 122 65 = some (.lcmp, 1, 0, 0, 0, 0, 0) := (zl122_2 (Nat.le_of_ble_eq_true rfl)).trans rfl
theorem f122_66 : zi_fe 122 66 = some ((.ifCond .gt 7), 3, 0, 0, 0, 0, 0) := (zl122_2 (Nat.le_of_ble_eq_true rfl)).trans rfl
theorem f122_69 : zi_fe 122 69 = some ((.ldc2_w 212), 3, 0, 0, 0, 927, -1) := (zl122_2 (Nat.le_of_ble_eq_true rfl)).trans rfl
theorem f122_72 : zi_fe 122 72 = some (.lreturn, 1, 0, 0, 0, 0, 0) := (zl122_2 (Nat.le_of_ble_eq_true rfl)).trans rfl
theorem f122_73 : zi_fe 122 73 = some ((.iload 4), 2, 0, 0, 0, 0, 0) := (zl122_2 (Nat.le_of_ble_eq_true rfl)).trans rfl
theorem f122_75 : zi_fe 122 75 = some ((.ifCond .ne 13), 3, 0, 0, 0, 0, 0) := (zl122_2 (Nat.le_of_ble_eq_true rfl)).trans rfl
theorem zl122_3 {pc : Nat} (h : 78 ≤ pc) : zi_fe 122 pc = zu122_3.lookup pc := (zl122_2 (Nat.le_trans (Nat.le_of_ble_eq_true rfl) h)).trans (zi_lkA (a := zi_i122_2) (c := 78) rfl h)
theorem f122_78 : zi_fe 122 78 = some ((.aload_n 0), 1, 0, 0, 0, 0, 0) := (zl122_3 (Nat.le_of_ble_eq_true rfl)).trans rfl
theorem f122_79 : zi_fe 122 79 = some ((.getfield 30), 3, 7, 4, 3, 415, 0) := (zl122_3 (Nat.le_of_ble_eq_true rfl)).trans rfl
theorem f122_82 : zi_fe 122 82 = some ((.getfield 214), 3, 5, 8, 2, 288, 0) := (zl122_3 (Nat.le_of_ble_eq_true rfl)).trans rfl
theorem f122_85 : zi_fe 122 85 = some ((.goto 6), 3, 0, 0, 0, 0, 0) := (zl122_3 (Nat.le_of_ble_eq_true rfl)).trans rfl
theorem f122_88 : zi_fe 122 88 = some ((.ldc2_w 218), 3, 0, 0, 0, 928, 279936) := (zl122_3 (Nat.le_of_ble_eq_true rfl)).trans rfl
theorem f122_91 : zi_fe 122 91 = some ((.lload 5), 2, 0, 0, 0, 0, 0) := (zl122_3 (Nat.le_of_ble_eq_true rfl)).trans rfl
theorem f122_93 : zi_fe 122 93 = some (.ldiv, 1, 0, 0, 0, 0, 0) := (zl122_3 (Nat.le_of_ble_eq_true rfl)).trans rfl
theorem f122_94 : zi_fe 122 94 = some (.lreturn, 1, 0, 0, 0, 0, 0) := (zl122_3 (Nat.le_of_ble_eq_true rfl)).trans rfl
theorem b122_0 {h : zi_Hp} {a0 : Nat} {x1 : Int32} {x2 : Int32} {x3 : Int32} {x4 : Int32} {u5 : Value} {u6 : Value}  : zv 17 122 0 [.ref a0, .int x1, .int x2, .int x3, .int x4, u5, u6] [] h = (zv 1 133 0 [.int x1] [] h).bind fun r => zv 17 122 4 [.ref a0, .int x1, .int x2, .int x3, .int x4, u5, u6] (r.1.toList ++ []) r.2 := by
  refine Eq.trans (zv_next f122_0 rfl) ?_
  exact zs_callS f122_1 (by decide) (Nat.le_of_ble_eq_true rfl) (Nat.le_of_ble_eq_true rfl) rfl me_133 (by decide) rfl
theorem b122_4 {h : zi_Hp} {a0 : Nat} {x1 : Int32} {x2 : Int32} {x3 : Int32} {x4 : Int32} {u5 : Value} {u6 : Value} {s0 : Int32}  : zv 17 122 4 [.ref a0, .int x1, .int x2, .int x3, .int x4, u5, u6] [.int s0] h = if s0 = 0 then zv 17 122 29 [.ref a0, .int x1, .int x2, .int x3, .int x4, u5, u6] [] h else zv 17 122 7 [.ref a0, .int x1, .int x2, .int x3, .int x4, u5, u6] [] h := by
  exact zs_if f122_4 rfl
theorem b122_7 {h : zi_Hp} {a0 : Nat} {x1 : Int32} {x2 : Int32} {x3 : Int32} {x4 : Int32} {u5 : Value} {u6 : Value}  : zv 17 122 7 [.ref a0, .int x1, .int x2, .int x3, .int x4, u5, u6] [] h = (zv 1 135 0 [.int x2] [] h).bind fun r => zv 17 122 11 [.ref a0, .int x1, .int x2, .int x3, .int x4, u5, u6] (r.1.toList ++ []) r.2 := by
  refine Eq.trans (zv_next f122_7 rfl) ?_
  exact zs_callS f122_8 (by decide) (Nat.le_of_ble_eq_true rfl) (Nat.le_of_ble_eq_true rfl) rfl me_135 (by decide) rfl
theorem b122_11 {h : zi_Hp} {a0 : Nat} {x1 : Int32} {x2 : Int32} {x3 : Int32} {x4 : Int32} {u5 : Value} {u6 : Value} {s0 : Int32}  : zv 17 122 11 [.ref a0, .int x1, .int x2, .int x3, .int x4, u5, u6] [.int s0] h = if s0 = 0 then zv 17 122 29 [.ref a0, .int x1, .int x2, .int x3, .int x4, u5, u6] [] h else zv 17 122 14 [.ref a0, .int x1, .int x2, .int x3, .int x4, u5, u6] [] h := by
  exact zs_if f122_11 rfl
theorem b122_14 {h : zi_Hp} {a0 : Nat} {x1 : Int32} {x2 : Int32} {x3 : Int32} {x4 : Int32} {u5 : Value} {u6 : Value}  : zv 17 122 14 [.ref a0, .int x1, .int x2, .int x3, .int x4, u5, u6] [] h = (zv 1 136 0 [.int x3] [] h).bind fun r => zv 17 122 18 [.ref a0, .int x1, .int x2, .int x3, .int x4, u5, u6] (r.1.toList ++ []) r.2 := by
  refine Eq.trans (zv_next f122_14 rfl) ?_
  exact zs_callS f122_15 (by decide) (Nat.le_of_ble_eq_true rfl) (Nat.le_of_ble_eq_true rfl) rfl me_136 (by decide) rfl
theorem b122_18 {h : zi_Hp} {a0 : Nat} {x1 : Int32} {x2 : Int32} {x3 : Int32} {x4 : Int32} {u5 : Value} {u6 : Value} {s0 : Int32}  : zv 17 122 18 [.ref a0, .int x1, .int x2, .int x3, .int x4, u5, u6] [.int s0] h = if s0 = 0 then zv 17 122 29 [.ref a0, .int x1, .int x2, .int x3, .int x4, u5, u6] [] h else zv 17 122 21 [.ref a0, .int x1, .int x2, .int x3, .int x4, u5, u6] [] h := by
  exact zs_if f122_18 rfl
theorem b122_21 {h : zi_Hp} {a0 : Nat} {x1 : Int32} {x2 : Int32} {x3 : Int32} {x4 : Int32} {u5 : Value} {u6 : Value}  : zv 17 122 21 [.ref a0, .int x1, .int x2, .int x3, .int x4, u5, u6] [] h = (zv 1 136 0 [.int x4] [] h).bind fun r => zv 17 122 26 [.ref a0, .int x1, .int x2, .int x3, .int x4, u5, u6] (r.1.toList ++ []) r.2 := by
  refine Eq.trans (zv_next f122_21 rfl) ?_
  exact zs_callS f122_23 (by decide) (Nat.le_of_ble_eq_true rfl) (Nat.le_of_ble_eq_true rfl) rfl me_136 (by decide) rfl
theorem b122_26 {h : zi_Hp} {a0 : Nat} {x1 : Int32} {x2 : Int32} {x3 : Int32} {x4 : Int32} {u5 : Value} {u6 : Value} {s0 : Int32}  : zv 17 122 26 [.ref a0, .int x1, .int x2, .int x3, .int x4, u5, u6] [.int s0] h = if s0 = 0 then zv 17 122 29 [.ref a0, .int x1, .int x2, .int x3, .int x4, u5, u6] [] h else zv 17 122 33 [.ref a0, .int x1, .int x2, .int x3, .int x4, u5, u6] [] h := by
  exact zs_if f122_26 rfl
theorem b122_29 {h : zi_Hp} {a0 : Nat} {x1 : Int32} {x2 : Int32} {x3 : Int32} {x4 : Int32} {u5 : Value} {u6 : Value}  : zv 17 122 29 [.ref a0, .int x1, .int x2, .int x3, .int x4, u5, u6] [] h = some (some (.long (-1)), h) := by
  refine Eq.trans (zs_l2 f122_29 l2_m1) ?_
  exact zv_ret f122_32 rfl
theorem b122_33 {h : zi_Hp} {a0 : Nat} {x1 : Int32} {x2 : Int32} {x3 : Int32} {x4 : Int32} {u5 : Value} {u6 : Value} (g0 : a0 < zh_n h) (g1 : (zh_k h a0).1 = 7) (g2 : zh_r h a0 4 = .ref (zq (zh_r h a0 4))) (g3 : zh_r h a0 0 = .ref (zq (zh_r h a0 0))) (g4 : (zq (zh_r h a0 4)) < zh_n h) (g5 : (zh_k h (zq (zh_r h a0 4))).1 = 5) : zv 17 122 33 [.ref a0, .int x1, .int x2, .int x3, .int x4, u5, u6] [] h = (zv 16 71 0 [.ref (zq (zh_r h a0 4)), .ref (zq (zh_r h a0 0)), .int x2, .int x1, .int x3] [] h).bind fun r => zv 17 122 47 [.ref a0, .int x1, .int x2, .int x3, .int x4, u5, u6] (r.1.toList ++ []) r.2 := by
  refine Eq.trans (zv_next f122_33 rfl) ?_
  refine Eq.trans (zs_getr f122_34 g0 g1 g2) ?_
  refine Eq.trans (zv_next f122_37 rfl) ?_
  refine Eq.trans (zs_getr f122_38 g0 g1 g3) ?_
  refine Eq.trans (zv_next f122_41 rfl) ?_
  refine Eq.trans (zv_next f122_42 rfl) ?_
  refine Eq.trans (zv_next f122_43 rfl) ?_
  exact zs_callV f122_44 (Nat.le_of_ble_eq_true rfl) (Nat.le_of_ble_eq_true rfl) rfl g4 g5 me_71 (by decide) rfl
theorem b122_47 {h : zi_Hp} {a0 : Nat} {x1 : Int32} {x2 : Int32} {x3 : Int32} {x4 : Int32} {u5 : Value} {u6 : Value} (g0 : a0 < zh_n h) (g1 : (zh_k h a0).1 = 7) (g2 : zh_r h a0 4 = .ref (zq (zh_r h a0 4))) (g3 : (zq (zh_r h a0 4)) < zh_n h) (g4 : (zh_k h (zq (zh_r h a0 4))).1 = 5) : zv 17 122 47 [.ref a0, .int x1, .int x2, .int x3, .int x4, u5, u6] [] h = (zv 1 140 0 [.long (zh_l h (zq (zh_r h a0 4)) 8), .double 1, .long 279936, .double 1, .double 0, .double 0, .double 0, .double 0, .double 0, .double 0, .double 0] [] h).bind fun r => zv 17 122 60 [.ref a0, .int x1, .int x2, .int x3, .int x4, u5, u6] (r.1.toList ++ []) r.2 := by
  refine Eq.trans (zv_next f122_47 rfl) ?_
  refine Eq.trans (zs_getr f122_48 g0 g1 g2) ?_
  refine Eq.trans (zs_getl f122_51 g3 g4) ?_
  refine Eq.trans (zs_l2 f122_54 l2_279936) ?_
  exact zs_callS f122_57 (by decide) (Nat.le_of_ble_eq_true rfl) (Nat.le_of_ble_eq_true rfl) rfl me_140 (by decide) rfl
theorem b122_60 {h : zi_Hp} {a0 : Nat} {x1 : Int32} {x2 : Int32} {x3 : Int32} {x4 : Int32} {u5 : Value} {u6 : Value} {w0 : Int64}  : zv 17 122 60 [.ref a0, .int x1, .int x2, .int x3, .int x4, u5, u6] [.long w0] h = if 0 < (lg_cmp w0 0) then zv 17 122 73 [.ref a0, .int x1, .int x2, .int x3, .int x4, .long w0, .double 1] [] h else zv 17 122 69 [.ref a0, .int x1, .int x2, .int x3, .int x4, .long w0, .double 1] [] h := by
  refine Eq.trans (zv_next f122_60 rfl) ?_
  refine Eq.trans (zv_next f122_62 rfl) ?_
  refine Eq.trans (zs_lc f122_64 lc_0) ?_
  refine Eq.trans (zv_next f122_65 rfl) ?_
  exact zs_if f122_66 rfl
theorem b122_69 {h : zi_Hp} {a0 : Nat} {x1 : Int32} {x2 : Int32} {x3 : Int32} {x4 : Int32} {y5 : Int64}  : zv 17 122 69 [.ref a0, .int x1, .int x2, .int x3, .int x4, .long y5, .double 1] [] h = some (some (.long (-1)), h) := by
  refine Eq.trans (zs_l2 f122_69 l2_m1) ?_
  exact zv_ret f122_72 rfl
theorem b122_73 {h : zi_Hp} {a0 : Nat} {x1 : Int32} {x2 : Int32} {x3 : Int32} {x4 : Int32} {y5 : Int64}  : zv 17 122 73 [.ref a0, .int x1, .int x2, .int x3, .int x4, .long y5, .double 1] [] h = if x4 = 0 then zv 17 122 78 [.ref a0, .int x1, .int x2, .int x3, .int x4, .long y5, .double 1] [] h else zv 17 122 88 [.ref a0, .int x1, .int x2, .int x3, .int x4, .long y5, .double 1] [] h := by
  refine Eq.trans (zv_next f122_73 rfl) ?_
  exact zs_if f122_75 rfl
theorem b122_78 {h : zi_Hp} {a0 : Nat} {x1 : Int32} {x2 : Int32} {x3 : Int32} {x4 : Int32} {y5 : Int64} (g0 : a0 < zh_n h) (g1 : (zh_k h a0).1 = 7) (g2 : zh_r h a0 4 = .ref (zq (zh_r h a0 4))) (g3 : (zq (zh_r h a0 4)) < zh_n h) (g4 : (zh_k h (zq (zh_r h a0 4))).1 = 5) : zv 17 122 78 [.ref a0, .int x1, .int x2, .int x3, .int x4, .long y5, .double 1] [] h = zv 17 122 91 [.ref a0, .int x1, .int x2, .int x3, .int x4, .long y5, .double 1] [.long (zh_l h (zq (zh_r h a0 4)) 8)] h := by
  refine Eq.trans (zv_next f122_78 rfl) ?_
  refine Eq.trans (zs_getr f122_79 g0 g1 g2) ?_
  refine Eq.trans (zs_getl f122_82 g3 g4) ?_
  refine Eq.trans (zs_goto (tgt := 91) f122_85 rfl) ?_
  rfl
theorem b122_88 {h : zi_Hp} {a0 : Nat} {x1 : Int32} {x2 : Int32} {x3 : Int32} {x4 : Int32} {y5 : Int64}  : zv 17 122 88 [.ref a0, .int x1, .int x2, .int x3, .int x4, .long y5, .double 1] [] h = zv 17 122 91 [.ref a0, .int x1, .int x2, .int x3, .int x4, .long y5, .double 1] [.long 279936] h := by
  refine Eq.trans (zs_l2 f122_88 l2_279936) ?_
  rfl
theorem b122_91 {h : zi_Hp} {a0 : Nat} {x1 : Int32} {x2 : Int32} {x3 : Int32} {x4 : Int32} {y5 : Int64} {w0 : Int64} (g0 : ¬ (y5 : Int64) = 0) : zv 17 122 91 [.ref a0, .int x1, .int x2, .int x3, .int x4, .long y5, .double 1] [.long w0] h = some (some (.long (w0 / y5)), h) := by
  refine Eq.trans (zv_next f122_91 rfl) ?_
  refine Eq.trans (zs_ldiv f122_93 g0) ?_
  exact zv_ret f122_94 rfl
set_option maxRecDepth 20000 in
theorem zq123 : zi_M[123]? = some zi_m123 := rfl
theorem zl123_0 {pc : Nat} (_ : 0 ≤ pc) : zi_fe 123 pc = zu123_0.lookup pc := zi_feA zq123 pc
theorem f123_0 : zi_fe 123 0 = some ((.aload_n 0), 1, 0, 0, 0, 0, 0) := (zl123_0 (Nat.le_of_ble_eq_true rfl)).trans rfl
theorem f123_1 : zi_fe 123 1 = some ((.getfield 12), 3, 7, 0, 3, 411, 0) := (zl123_0 (Nat.le_of_ble_eq_true rfl)).trans rfl
theorem f123_4 : zi_fe 123 4 = some ((.getfield 83), 3, 6, 0, 3, 255, 0) := (zl123_0 (Nat.le_of_ble_eq_true rfl)).trans rfl
theorem f123_7 : zi_fe 123 7 = some ((.astore_n 1), 1, 0, 0, 0, 0, 0) := (zl123_0 (Nat.le_of_ble_eq_true rfl)).trans rfl
theorem f123_8 : zi_fe 123 8 = some ((.aload_n 1), 1, 0, 0, 0, 0, 0) := (zl123_0 (Nat.le_of_ble_eq_true rfl)).trans rfl
theorem f123_9 : zi_fe 123 9 = some ((.invokevirtual 224), 3, 64, 0, 4, 936, 1) := (zl123_0 (Nat.le_of_ble_eq_true rfl)).trans rfl
theorem f123_12 : zi_fe 123 12 = some ((.ifCond .ne 5), 3, 0, 0, 0, 0, 0) := (zl123_0 (Nat.le_of_ble_eq_true rfl)).trans rfl
theorem f123_15 : zi_fe 123 15 = some ((.iconst 1), 1, 0, 0, 0, 0, 0) := (zl123_0 (Nat.le_of_ble_eq_true rfl)).trans rfl
theorem f123_16 : zi_fe 123 16 = some (.ireturn, 1, 0, 0, 0, 0, 0) := (zl123_0 (Nat.le_of_ble_eq_true rfl)).trans rfl
theorem f123_17 : zi_fe 123 17 = some ((.aload_n 1), 1, 0, 0, 0, 0, 0) := (zl123_0 (Nat.le_of_ble_eq_true rfl)).trans rfl
theorem f123_18 : zi_fe 123 18 = some ((.invokevirtual 228), 3, 65, 0, 4, 940, 1) := (zl123_0 (Nat.le_of_ble_eq_true rfl)).trans rfl
theorem f123_21 : zi_fe 123 21 = some ((.ifCond .ne 5), 3, 0, 0, 0, 0, 0) := (zl123_0 (Nat.le_of_ble_eq_true rfl)).trans rfl
theorem zl123_1 {pc : Nat} (h : 24 ≤ pc) : zi_fe 123 pc = zu123_1.lookup pc := (zl123_0 (Nat.le_trans (Nat.le_of_ble_eq_true rfl) h)).trans (zi_lkA (a := zi_i123_0) (c := 24) rfl h)
theorem f123_24 : zi_fe 123 24 = some ((.iconst 2), 1, 0, 0, 0, 0, 0) := (zl123_1 (Nat.le_of_ble_eq_true rfl)).trans rfl
theorem f123_25 : zi_fe 123 25 = some (.ireturn, 1, 0, 0, 0, 0, 0) := (zl123_1 (Nat.le_of_ble_eq_true rfl)).trans rfl
theorem f123_26 : zi_fe 123 26 = some ((.aload_n 1), 1, 0, 0, 0, 0, 0) := (zl123_1 (Nat.le_of_ble_eq_true rfl)).trans rfl
theorem f123_27 : zi_fe 123 27 = some ((.invokevirtual 231), 3, 66, 0, 4, 944, 1) := (zl123_1 (Nat.le_of_ble_eq_true rfl)).trans rfl
theorem f123_30 : zi_fe 123 30 = some ((.ifCond .ne 5), 3, 0, 0, 0, 0, 0) := (zl123_1 (Nat.le_of_ble_eq_true rfl)).trans rfl
theorem f123_33 : zi_fe 123 33 = some ((.iconst 3), 1, 0, 0, 0, 0, 0) := (zl123_1 (Nat.le_of_ble_eq_true rfl)).trans rfl
theorem f123_34 : zi_fe 123 34 = some (.ireturn, 1, 0, 0, 0, 0, 0) := (zl123_1 (Nat.le_of_ble_eq_true rfl)).trans rfl
theorem f123_35 : zi_fe 123 35 = some ((.aload_n 1), 1, 0, 0, 0, 0, 0) := (zl123_1 (Nat.le_of_ble_eq_true rfl)).trans rfl
theorem f123_36 : zi_fe 123 36 = some ((.invokevirtual 234), 3, 67, 0, 4, 950, 1) := (zl123_1 (Nat.le_of_ble_eq_true rfl)).trans rfl
theorem f123_39 : zi_fe 123 39 = some ((.ifCond .ne 5), 3, 0, 0, 0, 0, 0) := (zl123_1 (Nat.le_of_ble_eq_true rfl)).trans rfl
theorem f123_42 : zi_fe 123 42 = some ((.iconst 4), 1, 0, 0, 0, 0, 0) := (zl123_1 (Nat.le_of_ble_eq_true rfl)).trans rfl
theorem f123_43 : zi_fe 123 43 = some (.ireturn, 1, 0, 0, 0, 0, 0) := (zl123_1 (Nat.le_of_ble_eq_true rfl)).trans rfl
theorem zl123_2 {pc : Nat} (h : 44 ≤ pc) : zi_fe 123 pc = zu123_2.lookup pc := (zl123_1 (Nat.le_trans (Nat.le_of_ble_eq_true rfl) h)).trans (zi_lkA (a := zi_i123_1) (c := 44) rfl h)
theorem f123_44 : zi_fe 123 44 = some ((.aload_n 0), 1, 0, 0, 0, 0, 0) := (zl123_2 (Nat.le_of_ble_eq_true rfl)).trans rfl
theorem f123_45 : zi_fe 123 45 = some ((.getfield 12), 3, 7, 0, 3, 411, 0) := (zl123_2 (Nat.le_of_ble_eq_true rfl)).trans rfl
theorem f123_48 : zi_fe 123 48 = some ((.invokevirtual 237), 3, 99, 0, 6, 955, 1) := (zl123_2 (Nat.le_of_ble_eq_true rfl)).trans rfl
theorem f123_51 : zi_fe 123 51 = some ((.ifCond .eq 5), 3, 0, 0, 0, 0, 0) := (zl123_2 (Nat.le_of_ble_eq_true rfl)).trans rfl
theorem f123_54 : zi_fe 123 54 = some ((.iconst 5), 1, 0, 0, 0, 0, 0) := (zl123_2 (Nat.le_of_ble_eq_true rfl)).trans rfl
theorem f123_55 : zi_fe 123 55 = some (.ireturn, 1, 0, 0, 0, 0, 0) := (zl123_2 (Nat.le_of_ble_eq_true rfl)).trans rfl
theorem f123_56 : zi_fe 123 56 = some ((.aload_n 1), 1, 0, 0, 0, 0, 0) := (zl123_2 (Nat.le_of_ble_eq_true rfl)).trans rfl
theorem f123_57 : zi_fe 123 57 = some ((.invokevirtual 240), 3, 68, 0, 4, 959, 1) := (zl123_2 (Nat.le_of_ble_eq_true rfl)).trans rfl
theorem f123_60 : zi_fe 123 60 = some ((.ifCond .eq 7), 3, 0, 0, 0, 0, 0) := (zl123_2 (Nat.le_of_ble_eq_true rfl)).trans rfl
theorem f123_63 : zi_fe 123 63 = some ((.iconst 0), 1, 0, 0, 0, 0, 0) := (zl123_2 (Nat.le_of_ble_eq_true rfl)).trans rfl
theorem f123_64 : zi_fe 123 64 = some ((.goto 5), 3, 0, 0, 0, 0, 0) := (zl123_2 (Nat.le_of_ble_eq_true rfl)).trans rfl
theorem f123_67 : zi_fe 123 67 = some ((.bipush 6), 2, 0, 0, 0, 0, 0) := (zl123_2 (Nat.le_of_ble_eq_true rfl)).trans rfl
theorem zl123_3 {pc : Nat} (h : 69 ≤ pc) : zi_fe 123 pc = zu123_3.lookup pc := (zl123_2 (Nat.le_trans (Nat.le_of_ble_eq_true rfl) h)).trans (zi_lkA (a := zi_i123_2) (c := 69) rfl h)
theorem f123_69 : zi_fe 123 69 = some (.ireturn, 1, 0, 0, 0, 0, 0) := (zl123_3 (Nat.le_of_ble_eq_true rfl)).trans rfl
theorem b123_0 {h : zi_Hp} {a0 : Nat} {u1 : Value} (g0 : a0 < zh_n h) (g1 : (zh_k h a0).1 = 7) (g2 : zh_r h a0 0 = .ref (zq (zh_r h a0 0))) (g3 : (zq (zh_r h a0 0)) < zh_n h) (g4 : (zh_k h (zq (zh_r h a0 0))).1 = 6) (g5 : zh_r h (zq (zh_r h a0 0)) 0 = .ref (zq (zh_r h (zq (zh_r h a0 0)) 0))) (g6 : (zq (zh_r h (zq (zh_r h a0 0)) 0)) < zh_n h) (g7 : (zh_k h (zq (zh_r h (zq (zh_r h a0 0)) 0))).1 = 4) : zv 6 123 0 [.ref a0, u1] [] h = (zv 3 64 0 [.ref (zq (zh_r h (zq (zh_r h a0 0)) 0)), .double 0, .double 0] [] h).bind fun r => zv 6 123 12 [.ref a0, .ref (zq (zh_r h (zq (zh_r h a0 0)) 0))] (r.1.toList ++ []) r.2 := by
  refine Eq.trans (zv_next f123_0 rfl) ?_
  refine Eq.trans (zs_getr f123_1 g0 g1 g2) ?_
  refine Eq.trans (zs_getr f123_4 g3 g4 g5) ?_
  refine Eq.trans (zv_next f123_7 rfl) ?_
  refine Eq.trans (zv_next f123_8 rfl) ?_
  exact zs_callV f123_9 (Nat.le_of_ble_eq_true rfl) (Nat.le_of_ble_eq_true rfl) rfl g6 g7 me_64 (by decide) rfl
theorem b123_12 {h : zi_Hp} {a0 : Nat} {a1 : Nat} {s0 : Int32}  : zv 6 123 12 [.ref a0, .ref a1] [.int s0] h = if s0 = 0 then zv 6 123 15 [.ref a0, .ref a1] [] h else zv 6 123 17 [.ref a0, .ref a1] [] h := by
  exact zs_if f123_12 rfl
theorem b123_15 {h : zi_Hp} {a0 : Nat} {a1 : Nat}  : zv 6 123 15 [.ref a0, .ref a1] [] h = some (some (.int 1), h) := by
  refine Eq.trans (zs_ic f123_15 ic_1) ?_
  exact zs_ret0 f123_16
theorem b123_17 {h : zi_Hp} {a0 : Nat} {a1 : Nat} (g0 : a1 < zh_n h) (g1 : (zh_k h a1).1 = 4) : zv 6 123 17 [.ref a0, .ref a1] [] h = (zv 3 65 0 [.ref a1, .double 0] [] h).bind fun r => zv 6 123 21 [.ref a0, .ref a1] (r.1.toList ++ []) r.2 := by
  refine Eq.trans (zv_next f123_17 rfl) ?_
  exact zs_callV f123_18 (Nat.le_of_ble_eq_true rfl) (Nat.le_of_ble_eq_true rfl) rfl g0 g1 me_65 (by decide) rfl
theorem b123_21 {h : zi_Hp} {a0 : Nat} {a1 : Nat} {s0 : Int32}  : zv 6 123 21 [.ref a0, .ref a1] [.int s0] h = if s0 = 0 then zv 6 123 24 [.ref a0, .ref a1] [] h else zv 6 123 26 [.ref a0, .ref a1] [] h := by
  exact zs_if f123_21 rfl
theorem b123_24 {h : zi_Hp} {a0 : Nat} {a1 : Nat}  : zv 6 123 24 [.ref a0, .ref a1] [] h = some (some (.int 2), h) := by
  refine Eq.trans (zs_ic f123_24 ic_2) ?_
  exact zs_ret0 f123_25
theorem b123_26 {h : zi_Hp} {a0 : Nat} {a1 : Nat} (g0 : a1 < zh_n h) (g1 : (zh_k h a1).1 = 4) : zv 6 123 26 [.ref a0, .ref a1] [] h = (zv 3 66 0 [.ref a1, .double 0, .double 0] [] h).bind fun r => zv 6 123 30 [.ref a0, .ref a1] (r.1.toList ++ []) r.2 := by
  refine Eq.trans (zv_next f123_26 rfl) ?_
  exact zs_callV f123_27 (Nat.le_of_ble_eq_true rfl) (Nat.le_of_ble_eq_true rfl) rfl g0 g1 me_66 (by decide) rfl
theorem b123_30 {h : zi_Hp} {a0 : Nat} {a1 : Nat} {s0 : Int32}  : zv 6 123 30 [.ref a0, .ref a1] [.int s0] h = if s0 = 0 then zv 6 123 33 [.ref a0, .ref a1] [] h else zv 6 123 35 [.ref a0, .ref a1] [] h := by
  exact zs_if f123_30 rfl
theorem b123_33 {h : zi_Hp} {a0 : Nat} {a1 : Nat}  : zv 6 123 33 [.ref a0, .ref a1] [] h = some (some (.int 3), h) := by
  refine Eq.trans (zs_ic f123_33 ic_3) ?_
  exact zs_ret0 f123_34
theorem b123_35 {h : zi_Hp} {a0 : Nat} {a1 : Nat} (g0 : a1 < zh_n h) (g1 : (zh_k h a1).1 = 4) : zv 6 123 35 [.ref a0, .ref a1] [] h = (zv 3 67 0 [.ref a1, .double 0, .double 0] [] h).bind fun r => zv 6 123 39 [.ref a0, .ref a1] (r.1.toList ++ []) r.2 := by
  refine Eq.trans (zv_next f123_35 rfl) ?_
  exact zs_callV f123_36 (Nat.le_of_ble_eq_true rfl) (Nat.le_of_ble_eq_true rfl) rfl g0 g1 me_67 (by decide) rfl
theorem b123_39 {h : zi_Hp} {a0 : Nat} {a1 : Nat} {s0 : Int32}  : zv 6 123 39 [.ref a0, .ref a1] [.int s0] h = if s0 = 0 then zv 6 123 42 [.ref a0, .ref a1] [] h else zv 6 123 44 [.ref a0, .ref a1] [] h := by
  exact zs_if f123_39 rfl
theorem b123_42 {h : zi_Hp} {a0 : Nat} {a1 : Nat}  : zv 6 123 42 [.ref a0, .ref a1] [] h = some (some (.int 4), h) := by
  refine Eq.trans (zs_ic f123_42 ic_4) ?_
  exact zs_ret0 f123_43
theorem b123_44 {h : zi_Hp} {a0 : Nat} {a1 : Nat} (g0 : a0 < zh_n h) (g1 : (zh_k h a0).1 = 7) (g2 : zh_r h a0 0 = .ref (zq (zh_r h a0 0))) (g3 : (zq (zh_r h a0 0)) < zh_n h) (g4 : (zh_k h (zq (zh_r h a0 0))).1 = 6) : zv 6 123 44 [.ref a0, .ref a1] [] h = (zv 3 99 0 [.ref (zq (zh_r h a0 0)), .double 0, .double 0] [] h).bind fun r => zv 6 123 51 [.ref a0, .ref a1] (r.1.toList ++ []) r.2 := by
  refine Eq.trans (zv_next f123_44 rfl) ?_
  refine Eq.trans (zs_getr f123_45 g0 g1 g2) ?_
  exact zs_callV f123_48 (Nat.le_of_ble_eq_true rfl) (Nat.le_of_ble_eq_true rfl) rfl g3 g4 me_99 (by decide) rfl
theorem b123_51 {h : zi_Hp} {a0 : Nat} {a1 : Nat} {s0 : Int32}  : zv 6 123 51 [.ref a0, .ref a1] [.int s0] h = if s0 = 0 then zv 6 123 56 [.ref a0, .ref a1] [] h else zv 6 123 54 [.ref a0, .ref a1] [] h := by
  exact zs_if f123_51 rfl
theorem b123_54 {h : zi_Hp} {a0 : Nat} {a1 : Nat}  : zv 6 123 54 [.ref a0, .ref a1] [] h = some (some (.int 5), h) := by
  refine Eq.trans (zs_ic f123_54 ic_5) ?_
  exact zs_ret0 f123_55
theorem b123_56 {h : zi_Hp} {a0 : Nat} {a1 : Nat} (g0 : a1 < zh_n h) (g1 : (zh_k h a1).1 = 4) : zv 6 123 56 [.ref a0, .ref a1] [] h = (zv 5 68 0 [.ref a1, .double 0] [] h).bind fun r => zv 6 123 60 [.ref a0, .ref a1] (r.1.toList ++ []) r.2 := by
  refine Eq.trans (zv_next f123_56 rfl) ?_
  exact zs_callV f123_57 (Nat.le_of_ble_eq_true rfl) (Nat.le_of_ble_eq_true rfl) rfl g0 g1 me_68 (by decide) rfl
theorem b123_60 {h : zi_Hp} {a0 : Nat} {a1 : Nat} {s0 : Int32}  : zv 6 123 60 [.ref a0, .ref a1] [.int s0] h = if s0 = 0 then zv 6 123 67 [.ref a0, .ref a1] [] h else zv 6 123 63 [.ref a0, .ref a1] [] h := by
  exact zs_if f123_60 rfl
theorem b123_63 {h : zi_Hp} {a0 : Nat} {a1 : Nat}  : zv 6 123 63 [.ref a0, .ref a1] [] h = zv 6 123 69 [.ref a0, .ref a1] [.int 0] h := by
  refine Eq.trans (zs_ic f123_63 ic_0) ?_
  refine Eq.trans (zs_goto (tgt := 69) f123_64 rfl) ?_
  rfl
theorem b123_67 {h : zi_Hp} {a0 : Nat} {a1 : Nat}  : zv 6 123 67 [.ref a0, .ref a1] [] h = zv 6 123 69 [.ref a0, .ref a1] [.int 6] h := by
  refine Eq.trans (zs_bp f123_67 bp_6) ?_
  rfl
theorem b123_69 {h : zi_Hp} {a0 : Nat} {a1 : Nat} {s0 : Int32}  : zv 6 123 69 [.ref a0, .ref a1] [.int s0] h = some (some (.int s0), h) := by
  exact zs_ret0 f123_69
set_option maxRecDepth 20000 in
theorem zq124 : zi_M[124]? = some zi_m124 := rfl
theorem zl124_0 {pc : Nat} (_ : 0 ≤ pc) : zi_fe 124 pc = zu124_0.lookup pc := zi_feA zq124 pc
theorem f124_0 : zi_fe 124 0 = some ((.iload_n 1), 1, 0, 0, 0, 0, 0) := (zl124_0 (Nat.le_of_ble_eq_true rfl)).trans rfl
theorem f124_1 : zi_fe 124 1 = some ((.ifCond .ge 7), 3, 0, 0, 0, 0, 0) := (zl124_0 (Nat.le_of_ble_eq_true rfl)).trans rfl
theorem f124_4 : zi_fe 124 4 = some ((.iconst (-1)), 1, 0, 0, 0, 0, 0) := (zl124_0 (Nat.le_of_ble_eq_true rfl)).trans rfl
theorem f124_5 : zi_fe 124 5 = some ((.goto 14), 3, 0, 0, 0, 0, 0) := (zl124_0 (Nat.le_of_ble_eq_true rfl)).trans rfl
theorem f124_8 : zi_fe 124 8 = some ((.aload_n 0), 1, 0, 0, 0, 0, 0) := (zl124_0 (Nat.le_of_ble_eq_true rfl)).trans rfl
theorem f124_9 : zi_fe 124 9 = some ((.getfield 12), 3, 7, 0, 3, 411, 0) := (zl124_0 (Nat.le_of_ble_eq_true rfl)).trans rfl
theorem f124_12 : zi_fe 124 12 = some ((.getfield 83), 3, 6, 0, 3, 255, 0) := (zl124_0 (Nat.le_of_ble_eq_true rfl)).trans rfl
theorem f124_15 : zi_fe 124 15 = some ((.iload_n 1), 1, 0, 0, 0, 0, 0) := (zl124_0 (Nat.le_of_ble_eq_true rfl)).trans rfl
theorem f124_16 : zi_fe 124 16 = some ((.invokevirtual 243), 3, 63, 0, 4, 974, 2) := (zl124_0 (Nat.le_of_ble_eq_true rfl)).trans rfl
theorem f124_19 : zi_fe 124 19 = some (.ireturn, 1, 0, 0, 0, 0, 0) := (zl124_0 (Nat.le_of_ble_eq_true rfl)).trans rfl
theorem b124_0 {h : zi_Hp} {a0 : Nat} {x1 : Int32}  : zv 4 124 0 [.ref a0, .int x1] [] h = if x1 < 0 then zv 4 124 4 [.ref a0, .int x1] [] h else zv 4 124 8 [.ref a0, .int x1] [] h := by
  refine Eq.trans (zv_next f124_0 rfl) ?_
  exact zs_if f124_1 rfl
theorem b124_4 {h : zi_Hp} {a0 : Nat} {x1 : Int32}  : zv 4 124 4 [.ref a0, .int x1] [] h = zv 4 124 19 [.ref a0, .int x1] [.int (-1)] h := by
  refine Eq.trans (zs_ic f124_4 ic_m1) ?_
  refine Eq.trans (zs_goto (tgt := 19) f124_5 rfl) ?_
  rfl
theorem b124_8 {h : zi_Hp} {a0 : Nat} {x1 : Int32} (g0 : a0 < zh_n h) (g1 : (zh_k h a0).1 = 7) (g2 : zh_r h a0 0 = .ref (zq (zh_r h a0 0))) (g3 : (zq (zh_r h a0 0)) < zh_n h) (g4 : (zh_k h (zq (zh_r h a0 0))).1 = 6) (g5 : zh_r h (zq (zh_r h a0 0)) 0 = .ref (zq (zh_r h (zq (zh_r h a0 0)) 0))) (g6 : (zq (zh_r h (zq (zh_r h a0 0)) 0)) < zh_n h) (g7 : (zh_k h (zq (zh_r h (zq (zh_r h a0 0)) 0))).1 = 4) : zv 4 124 8 [.ref a0, .int x1] [] h = (zv 3 63 0 [.ref (zq (zh_r h (zq (zh_r h a0 0)) 0)), .int x1, .double 0, .double 0] [] h).bind fun r => zv 4 124 19 [.ref a0, .int x1] (r.1.toList ++ []) r.2 := by
  refine Eq.trans (zv_next f124_8 rfl) ?_
  refine Eq.trans (zs_getr f124_9 g0 g1 g2) ?_
  refine Eq.trans (zs_getr f124_12 g3 g4 g5) ?_
  refine Eq.trans (zv_next f124_15 rfl) ?_
  exact zs_callV f124_16 (Nat.le_of_ble_eq_true rfl) (Nat.le_of_ble_eq_true rfl) rfl g6 g7 me_63 (by decide) rfl
theorem b124_19 {h : zi_Hp} {a0 : Nat} {x1 : Int32} {s0 : Int32}  : zv 4 124 19 [.ref a0, .int x1] [.int s0] h = some (some (.int s0), h) := by
  exact zs_ret0 f124_19
set_option maxRecDepth 20000 in
theorem zq125 : zi_M[125]? = some zi_m125 := rfl
theorem zl125_0 {pc : Nat} (_ : 0 ≤ pc) : zi_fe 125 pc = zu125_0.lookup pc := zi_feA zq125 pc
theorem f125_0 : zi_fe 125 0 = some ((.iload_n 1), 1, 0, 0, 0, 0, 0) := (zl125_0 (Nat.le_of_ble_eq_true rfl)).trans rfl
theorem f125_1 : zi_fe 125 1 = some ((.invokestatic 246), 3, 137, 1, 7, 982, 1) := (zl125_0 (Nat.le_of_ble_eq_true rfl)).trans rfl
theorem f125_4 : zi_fe 125 4 = some ((.ifCond .ne 5), 3, 0, 0, 0, 0, 0) := (zl125_0 (Nat.le_of_ble_eq_true rfl)).trans rfl
theorem f125_7 : zi_fe 125 7 = some ((.iconst (-1)), 1, 0, 0, 0, 0, 0) := (zl125_0 (Nat.le_of_ble_eq_true rfl)).trans rfl
theorem f125_8 : zi_fe 125 8 = some (.ireturn, 1, 0, 0, 0, 0, 0) := (zl125_0 (Nat.le_of_ble_eq_true rfl)).trans rfl
theorem f125_9 : zi_fe 125 9 = some ((.aload_n 0), 1, 0, 0, 0, 0, 0) := (zl125_0 (Nat.le_of_ble_eq_true rfl)).trans rfl
theorem f125_10 : zi_fe 125 10 = some ((.getfield 23), 3, 7, 3, 3, 414, 0) := (zl125_0 (Nat.le_of_ble_eq_true rfl)).trans rfl
theorem f125_13 : zi_fe 125 13 = some ((.iload_n 1), 1, 0, 0, 0, 0, 0) := (zl125_0 (Nat.le_of_ble_eq_true rfl)).trans rfl
theorem f125_14 : zi_fe 125 14 = some (.baload, 1, 0, 0, 0, 0, 0) := (zl125_0 (Nat.le_of_ble_eq_true rfl)).trans rfl
theorem f125_15 : zi_fe 125 15 = some ((.ifCond .eq 7), 3, 0, 0, 0, 0, 0) := (zl125_0 (Nat.le_of_ble_eq_true rfl)).trans rfl
theorem f125_18 : zi_fe 125 18 = some ((.iconst 1), 1, 0, 0, 0, 0, 0) := (zl125_0 (Nat.le_of_ble_eq_true rfl)).trans rfl
theorem f125_19 : zi_fe 125 19 = some ((.goto 4), 3, 0, 0, 0, 0, 0) := (zl125_0 (Nat.le_of_ble_eq_true rfl)).trans rfl
theorem zl125_1 {pc : Nat} (h : 22 ≤ pc) : zi_fe 125 pc = zu125_1.lookup pc := (zl125_0 (Nat.le_trans (Nat.le_of_ble_eq_true rfl) h)).trans (zi_lkA (a := zi_i125_0) (c := 22) rfl h)
theorem f125_22 : zi_fe 125 22 = some ((.iconst 0), 1, 0, 0, 0, 0, 0) := (zl125_1 (Nat.le_of_ble_eq_true rfl)).trans rfl
theorem f125_23 : zi_fe 125 23 = some ((.istore_n 2), 1, 0, 0, 0, 0, 0) := (zl125_1 (Nat.le_of_ble_eq_true rfl)).trans rfl
theorem f125_24 : zi_fe 125 24 = some ((.aload_n 0), 1, 0, 0, 0, 0, 0) := (zl125_1 (Nat.le_of_ble_eq_true rfl)).trans rfl
theorem f125_25 : zi_fe 125 25 = some ((.getfield 19), 3, 7, 2, 3, 413, 0) := (zl125_1 (Nat.le_of_ble_eq_true rfl)).trans rfl
theorem f125_28 : zi_fe 125 28 = some ((.iload_n 1), 1, 0, 0, 0, 0, 0) := (zl125_1 (Nat.le_of_ble_eq_true rfl)).trans rfl
theorem f125_29 : zi_fe 125 29 = some (.aaload, 1, 0, 0, 0, 0, 0) := (zl125_1 (Nat.le_of_ble_eq_true rfl)).trans rfl
theorem f125_30 : zi_fe 125 30 = some ((.aload_n 0), 1, 0, 0, 0, 0, 0) := (zl125_1 (Nat.le_of_ble_eq_true rfl)).trans rfl
theorem f125_31 : zi_fe 125 31 = some ((.getfield 12), 3, 7, 0, 3, 411, 0) := (zl125_1 (Nat.le_of_ble_eq_true rfl)).trans rfl
theorem f125_34 : zi_fe 125 34 = some ((.invokevirtual 249), 3, 75, 0, 6, 985, 2) := (zl125_1 (Nat.le_of_ble_eq_true rfl)).trans rfl
theorem f125_37 : zi_fe 125 37 = some ((.aload_n 0), 1, 0, 0, 0, 0, 0) := (zl125_1 (Nat.le_of_ble_eq_true rfl)).trans rfl
theorem f125_38 : zi_fe 125 38 = some ((.getfield 23), 3, 7, 3, 3, 414, 0) := (zl125_1 (Nat.le_of_ble_eq_true rfl)).trans rfl
theorem f125_41 : zi_fe 125 41 = some ((.iload_n 1), 1, 0, 0, 0, 0, 0) := (zl125_1 (Nat.le_of_ble_eq_true rfl)).trans rfl
theorem zl125_2 {pc : Nat} (h : 42 ≤ pc) : zi_fe 125 pc = zu125_2.lookup pc := (zl125_1 (Nat.le_trans (Nat.le_of_ble_eq_true rfl) h)).trans (zi_lkA (a := zi_i125_1) (c := 42) rfl h)
theorem f125_42 : zi_fe 125 42 = some ((.iconst 1), 1, 0, 0, 0, 0, 0) := (zl125_2 (Nat.le_of_ble_eq_true rfl)).trans rfl
theorem f125_43 : zi_fe 125 43 = some (.bastore, 1, 0, 0, 0, 0, 0) := (zl125_2 (Nat.le_of_ble_eq_true rfl)).trans rfl
theorem f125_44 : zi_fe 125 44 = some ((.iload_n 2), 1, 0, 0, 0, 0, 0) := (zl125_2 (Nat.le_of_ble_eq_true rfl)).trans rfl
theorem f125_45 : zi_fe 125 45 = some (.ireturn, 1, 0, 0, 0, 0, 0) := (zl125_2 (Nat.le_of_ble_eq_true rfl)).trans rfl
theorem b125_0 {h : zi_Hp} {a0 : Nat} {x1 : Int32} {u2 : Value}  : zv 3 125 0 [.ref a0, .int x1, u2] [] h = (zv 1 137 0 [.int x1] [] h).bind fun r => zv 3 125 4 [.ref a0, .int x1, u2] (r.1.toList ++ []) r.2 := by
  refine Eq.trans (zv_next f125_0 rfl) ?_
  exact zs_callS f125_1 (by decide) (Nat.le_of_ble_eq_true rfl) (Nat.le_of_ble_eq_true rfl) rfl me_137 (by decide) rfl
theorem b125_4 {h : zi_Hp} {a0 : Nat} {x1 : Int32} {u2 : Value} {s0 : Int32}  : zv 3 125 4 [.ref a0, .int x1, u2] [.int s0] h = if s0 = 0 then zv 3 125 7 [.ref a0, .int x1, u2] [] h else zv 3 125 9 [.ref a0, .int x1, u2] [] h := by
  exact zs_if f125_4 rfl
theorem b125_7 {h : zi_Hp} {a0 : Nat} {x1 : Int32} {u2 : Value}  : zv 3 125 7 [.ref a0, .int x1, u2] [] h = some (some (.int (-1)), h) := by
  refine Eq.trans (zs_ic f125_7 ic_m1) ?_
  exact zs_ret0 f125_8
theorem b125_9 {h : zi_Hp} {a0 : Nat} {x1 : Int32} {u2 : Value} (g0 : a0 < zh_n h) (g1 : (zh_k h a0).1 = 7) (g2 : zh_r h a0 3 = .ref (zq (zh_r h a0 3))) (g3 : (zq (zh_r h a0 3)) < zh_n h) (g4 : ¬ (x1 < 0 ∨ (zh_k h (zq (zh_r h a0 3))).2 ≤ x1.toNatClampNeg)) (g5 : (zh_k h (zq (zh_r h a0 3))).1 = 101) : zv 3 125 9 [.ref a0, .int x1, u2] [] h = if (zi_bI (zh_b h (zq (zh_r h a0 3)) x1.toNatClampNeg)) = 0 then zv 3 125 22 [.ref a0, .int x1, u2] [] h else zv 3 125 18 [.ref a0, .int x1, u2] [] h := by
  refine Eq.trans (zv_next f125_9 rfl) ?_
  refine Eq.trans (zs_getr f125_10 g0 g1 g2) ?_
  refine Eq.trans (zv_next f125_13 rfl) ?_
  refine Eq.trans (zs_bald f125_14 g3 g5 g4) ?_
  exact zs_if f125_15 rfl
theorem b125_18 {h : zi_Hp} {a0 : Nat} {x1 : Int32} {u2 : Value}  : zv 3 125 18 [.ref a0, .int x1, u2] [] h = zv 3 125 23 [.ref a0, .int x1, u2] [.int 1] h := by
  refine Eq.trans (zs_ic f125_18 ic_1) ?_
  refine Eq.trans (zs_goto (tgt := 23) f125_19 rfl) ?_
  rfl
theorem b125_22 {h : zi_Hp} {a0 : Nat} {x1 : Int32} {u2 : Value}  : zv 3 125 22 [.ref a0, .int x1, u2] [] h = zv 3 125 23 [.ref a0, .int x1, u2] [.int 0] h := by
  refine Eq.trans (zs_ic f125_22 ic_0) ?_
  rfl
theorem b125_23 {h : zi_Hp} {a0 : Nat} {x1 : Int32} {u2 : Value} {s0 : Int32} (g0 : a0 < zh_n h) (g1 : (zh_k h a0).1 = 7) (g2 : zh_r h a0 2 = .ref (zq (zh_r h a0 2))) (g3 : (zq (zh_r h a0 2)) < zh_n h) (g4 : ¬ (x1 < 0 ∨ (zh_k h (zq (zh_r h a0 2))).2 ≤ x1.toNatClampNeg)) (g5 : (zh_k h (zq (zh_r h a0 2))).1 = 103 ∨ (zh_k h (zq (zh_r h a0 2))).1 = 104 ∨ (zh_k h (zq (zh_r h a0 2))).1 = 105) (g6 : zh_r h (zq (zh_r h a0 2)) x1.toNatClampNeg = .ref (zq (zh_r h (zq (zh_r h a0 2)) x1.toNatClampNeg))) (g7 : zh_r h a0 0 = .ref (zq (zh_r h a0 0))) (g8 : (zq (zh_r h (zq (zh_r h a0 2)) x1.toNatClampNeg)) < zh_n h) (g9 : (zh_k h (zq (zh_r h (zq (zh_r h a0 2)) x1.toNatClampNeg))).1 = 6) : zv 3 125 23 [.ref a0, .int x1, u2] [.int s0] h = (zv 2 75 0 [.ref (zq (zh_r h (zq (zh_r h a0 2)) x1.toNatClampNeg)), .ref (zq (zh_r h a0 0)), .double 0] [] h).bind fun r => zv 3 125 37 [.ref a0, .int x1, .int s0] (r.1.toList ++ []) r.2 := by
  refine Eq.trans (zv_next f125_23 rfl) ?_
  refine Eq.trans (zv_next f125_24 rfl) ?_
  refine Eq.trans (zs_getr f125_25 g0 g1 g2) ?_
  refine Eq.trans (zv_next f125_28 rfl) ?_
  refine Eq.trans (zs_aald f125_29 g3 g5 g4 g6) ?_
  refine Eq.trans (zv_next f125_30 rfl) ?_
  refine Eq.trans (zs_getr f125_31 g0 g1 g7) ?_
  exact zs_callV f125_34 (Nat.le_of_ble_eq_true rfl) (Nat.le_of_ble_eq_true rfl) rfl g8 g9 me_75 (by decide) rfl
theorem b125_37 {h : zi_Hp} {a0 : Nat} {x1 : Int32} {x2 : Int32} (g0 : a0 < zh_n h) (g1 : (zh_k h a0).1 = 7) (g2 : zh_r h a0 3 = .ref (zq (zh_r h a0 3))) (g3 : (zq (zh_r h a0 3)) < zh_n h) (g4 : ¬ (x1 < 0 ∨ (zh_k h (zq (zh_r h a0 3))).2 ≤ x1.toNatClampNeg)) (g5 : (zh_k h (zq (zh_r h a0 3))).1 = 101) : zv 3 125 37 [.ref a0, .int x1, .int x2] [] h = some (some (.int x2), zh_wb h (zq (zh_r h a0 3)) x1.toNatClampNeg true) := by
  refine Eq.trans (zv_next f125_37 rfl) ?_
  refine Eq.trans (zs_getr f125_38 g0 g1 g2) ?_
  refine Eq.trans (zv_next f125_41 rfl) ?_
  refine Eq.trans (zs_ic f125_42 ic_1) ?_
  refine Eq.trans (zs_bast f125_43 g3 g5 g4 rfl) ?_
  refine Eq.trans (zv_next f125_44 rfl) ?_
  exact zs_ret0 f125_45
set_option maxRecDepth 20000 in
theorem zq126 : zi_M[126]? = some zi_m126 := rfl
theorem zl126_0 {pc : Nat} (_ : 0 ≤ pc) : zi_fe 126 pc = zu126_0.lookup pc := zi_feA zq126 pc
theorem f126_0 : zi_fe 126 0 = some ((.iload_n 1), 1, 0, 0, 0, 0, 0) := (zl126_0 (Nat.le_of_ble_eq_true rfl)).trans rfl
theorem f126_1 : zi_fe 126 1 = some ((.invokestatic 246), 3, 137, 1, 7, 982, 1) := (zl126_0 (Nat.le_of_ble_eq_true rfl)).trans rfl
theorem f126_4 : zi_fe 126 4 = some ((.ifCond .ne 5), 3, 0, 0, 0, 0, 0) := (zl126_0 (Nat.le_of_ble_eq_true rfl)).trans rfl
theorem f126_7 : zi_fe 126 7 = some ((.iconst (-1)), 1, 0, 0, 0, 0, 0) := (zl126_0 (Nat.le_of_ble_eq_true rfl)).trans rfl
theorem f126_8 : zi_fe 126 8 = some (.ireturn, 1, 0, 0, 0, 0, 0) := (zl126_0 (Nat.le_of_ble_eq_true rfl)).trans rfl
theorem f126_9 : zi_fe 126 9 = some ((.aload_n 0), 1, 0, 0, 0, 0, 0) := (zl126_0 (Nat.le_of_ble_eq_true rfl)).trans rfl
theorem f126_10 : zi_fe 126 10 = some ((.getfield 23), 3, 7, 3, 3, 414, 0) := (zl126_0 (Nat.le_of_ble_eq_true rfl)).trans rfl
theorem f126_13 : zi_fe 126 13 = some ((.iload_n 1), 1, 0, 0, 0, 0, 0) := (zl126_0 (Nat.le_of_ble_eq_true rfl)).trans rfl
theorem f126_14 : zi_fe 126 14 = some (.baload, 1, 0, 0, 0, 0, 0) := (zl126_0 (Nat.le_of_ble_eq_true rfl)).trans rfl
theorem f126_15 : zi_fe 126 15 = some ((.ifCond .ne 6), 3, 0, 0, 0, 0, 0) := (zl126_0 (Nat.le_of_ble_eq_true rfl)).trans rfl
theorem f126_18 : zi_fe 126 18 = some ((.bipush (-2)), 2, 0, 0, 0, 0, 0) := (zl126_0 (Nat.le_of_ble_eq_true rfl)).trans rfl
theorem f126_20 : zi_fe 126 20 = some (.ireturn, 1, 0, 0, 0, 0, 0) := (zl126_0 (Nat.le_of_ble_eq_true rfl)).trans rfl
theorem zl126_1 {pc : Nat} (h : 21 ≤ pc) : zi_fe 126 pc = zu126_1.lookup pc := (zl126_0 (Nat.le_trans (Nat.le_of_ble_eq_true rfl) h)).trans (zi_lkA (a := zi_i126_0) (c := 21) rfl h)
theorem f126_21 : zi_fe 126 21 = some ((.aload_n 0), 1, 0, 0, 0, 0, 0) := (zl126_1 (Nat.le_of_ble_eq_true rfl)).trans rfl
theorem f126_22 : zi_fe 126 22 = some ((.getfield 12), 3, 7, 0, 3, 411, 0) := (zl126_1 (Nat.le_of_ble_eq_true rfl)).trans rfl
theorem f126_25 : zi_fe 126 25 = some ((.aload_n 0), 1, 0, 0, 0, 0, 0) := (zl126_1 (Nat.le_of_ble_eq_true rfl)).trans rfl
theorem f126_26 : zi_fe 126 26 = some ((.getfield 19), 3, 7, 2, 3, 413, 0) := (zl126_1 (Nat.le_of_ble_eq_true rfl)).trans rfl
theorem f126_29 : zi_fe 126 29 = some ((.iload_n 1), 1, 0, 0, 0, 0, 0) := (zl126_1 (Nat.le_of_ble_eq_true rfl)).trans rfl
theorem f126_30 : zi_fe 126 30 = some (.aaload, 1, 0, 0, 0, 0, 0) := (zl126_1 (Nat.le_of_ble_eq_true rfl)).trans rfl
theorem f126_31 : zi_fe 126 31 = some ((.invokevirtual 249), 3, 75, 0, 6, 985, 2) := (zl126_1 (Nat.le_of_ble_eq_true rfl)).trans rfl
theorem f126_34 : zi_fe 126 34 = some ((.aload_n 0), 1, 0, 0, 0, 0, 0) := (zl126_1 (Nat.le_of_ble_eq_true rfl)).trans rfl
theorem f126_35 : zi_fe 126 35 = some ((.getfield 12), 3, 7, 0, 3, 411, 0) := (zl126_1 (Nat.le_of_ble_eq_true rfl)).trans rfl
theorem f126_38 : zi_fe 126 38 = some ((.getfield 83), 3, 6, 0, 3, 255, 0) := (zl126_1 (Nat.le_of_ble_eq_true rfl)).trans rfl
theorem f126_41 : zi_fe 126 41 = some ((.getfield 87), 3, 4, 0, 0, 139, 0) := (zl126_1 (Nat.le_of_ble_eq_true rfl)).trans rfl
theorem f126_44 : zi_fe 126 44 = some (.ireturn, 1, 0, 0, 0, 0, 0) := (zl126_1 (Nat.le_of_ble_eq_true rfl)).trans rfl
theorem b126_0 {h : zi_Hp} {a0 : Nat} {x1 : Int32}  : zv 3 126 0 [.ref a0, .int x1] [] h = (zv 1 137 0 [.int x1] [] h).bind fun r => zv 3 126 4 [.ref a0, .int x1] (r.1.toList ++ []) r.2 := by
  refine Eq.trans (zv_next f126_0 rfl) ?_
  exact zs_callS f126_1 (by decide) (Nat.le_of_ble_eq_true rfl) (Nat.le_of_ble_eq_true rfl) rfl me_137 (by decide) rfl
theorem b126_4 {h : zi_Hp} {a0 : Nat} {x1 : Int32} {s0 : Int32}  : zv 3 126 4 [.ref a0, .int x1] [.int s0] h = if s0 = 0 then zv 3 126 7 [.ref a0, .int x1] [] h else zv 3 126 9 [.ref a0, .int x1] [] h := by
  exact zs_if f126_4 rfl
theorem b126_7 {h : zi_Hp} {a0 : Nat} {x1 : Int32}  : zv 3 126 7 [.ref a0, .int x1] [] h = some (some (.int (-1)), h) := by
  refine Eq.trans (zs_ic f126_7 ic_m1) ?_
  exact zs_ret0 f126_8
theorem b126_9 {h : zi_Hp} {a0 : Nat} {x1 : Int32} (g0 : a0 < zh_n h) (g1 : (zh_k h a0).1 = 7) (g2 : zh_r h a0 3 = .ref (zq (zh_r h a0 3))) (g3 : (zq (zh_r h a0 3)) < zh_n h) (g4 : ¬ (x1 < 0 ∨ (zh_k h (zq (zh_r h a0 3))).2 ≤ x1.toNatClampNeg)) (g5 : (zh_k h (zq (zh_r h a0 3))).1 = 101) : zv 3 126 9 [.ref a0, .int x1] [] h = if (zi_bI (zh_b h (zq (zh_r h a0 3)) x1.toNatClampNeg)) = 0 then zv 3 126 18 [.ref a0, .int x1] [] h else zv 3 126 21 [.ref a0, .int x1] [] h := by
  refine Eq.trans (zv_next f126_9 rfl) ?_
  refine Eq.trans (zs_getr f126_10 g0 g1 g2) ?_
  refine Eq.trans (zv_next f126_13 rfl) ?_
  refine Eq.trans (zs_bald f126_14 g3 g5 g4) ?_
  exact zs_if f126_15 rfl
theorem b126_18 {h : zi_Hp} {a0 : Nat} {x1 : Int32}  : zv 3 126 18 [.ref a0, .int x1] [] h = some (some (.int (-2)), h) := by
  refine Eq.trans (zs_bp f126_18 bp_m2) ?_
  exact zs_ret0 f126_20
theorem b126_21 {h : zi_Hp} {a0 : Nat} {x1 : Int32} (g0 : a0 < zh_n h) (g1 : (zh_k h a0).1 = 7) (g2 : zh_r h a0 0 = .ref (zq (zh_r h a0 0))) (g3 : zh_r h a0 2 = .ref (zq (zh_r h a0 2))) (g4 : (zq (zh_r h a0 2)) < zh_n h) (g5 : ¬ (x1 < 0 ∨ (zh_k h (zq (zh_r h a0 2))).2 ≤ x1.toNatClampNeg)) (g6 : (zh_k h (zq (zh_r h a0 2))).1 = 103 ∨ (zh_k h (zq (zh_r h a0 2))).1 = 104 ∨ (zh_k h (zq (zh_r h a0 2))).1 = 105) (g7 : zh_r h (zq (zh_r h a0 2)) x1.toNatClampNeg = .ref (zq (zh_r h (zq (zh_r h a0 2)) x1.toNatClampNeg))) (g8 : (zq (zh_r h a0 0)) < zh_n h) (g9 : (zh_k h (zq (zh_r h a0 0))).1 = 6) : zv 3 126 21 [.ref a0, .int x1] [] h = (zv 2 75 0 [.ref (zq (zh_r h a0 0)), .ref (zq (zh_r h (zq (zh_r h a0 2)) x1.toNatClampNeg)), .double 0] [] h).bind fun r => zv 3 126 34 [.ref a0, .int x1] (r.1.toList ++ []) r.2 := by
  refine Eq.trans (zv_next f126_21 rfl) ?_
  refine Eq.trans (zs_getr f126_22 g0 g1 g2) ?_
  refine Eq.trans (zv_next f126_25 rfl) ?_
  refine Eq.trans (zs_getr f126_26 g0 g1 g3) ?_
  refine Eq.trans (zv_next f126_29 rfl) ?_
  refine Eq.trans (zs_aald f126_30 g4 g6 g5 g7) ?_
  exact zs_callV f126_31 (Nat.le_of_ble_eq_true rfl) (Nat.le_of_ble_eq_true rfl) rfl g8 g9 me_75 (by decide) rfl
theorem b126_34 {h : zi_Hp} {a0 : Nat} {x1 : Int32} (g0 : a0 < zh_n h) (g1 : (zh_k h a0).1 = 7) (g2 : zh_r h a0 0 = .ref (zq (zh_r h a0 0))) (g3 : (zq (zh_r h a0 0)) < zh_n h) (g4 : (zh_k h (zq (zh_r h a0 0))).1 = 6) (g5 : zh_r h (zq (zh_r h a0 0)) 0 = .ref (zq (zh_r h (zq (zh_r h a0 0)) 0))) (g6 : (zq (zh_r h (zq (zh_r h a0 0)) 0)) < zh_n h) (g7 : (zh_k h (zq (zh_r h (zq (zh_r h a0 0)) 0))).1 = 4) : zv 3 126 34 [.ref a0, .int x1] [] h = some (some (.int (zh_i h (zq (zh_r h (zq (zh_r h a0 0)) 0)) 0)), h) := by
  refine Eq.trans (zv_next f126_34 rfl) ?_
  refine Eq.trans (zs_getr f126_35 g0 g1 g2) ?_
  refine Eq.trans (zs_getr f126_38 g3 g4 g5) ?_
  refine Eq.trans (zs_geti f126_41 g6 g7) ?_
  exact zs_ret0 f126_44
set_option maxRecDepth 20000 in
theorem zq127 : zi_M[127]? = some zi_m127 := rfl
theorem zl127_0 {pc : Nat} (_ : 0 ≤ pc) : zi_fe 127 pc = zu127_0.lookup pc := zi_feA zq127 pc
theorem f127_0 : zi_fe 127 0 = some ((.iload_n 1), 1, 0, 0, 0, 0, 0) := (zl127_0 (Nat.le_of_ble_eq_true rfl)).trans rfl
theorem f127_1 : zi_fe 127 1 = some ((.invokestatic 253), 3, 138, 1, 7, 994, 1) := (zl127_0 (Nat.le_of_ble_eq_true rfl)).trans rfl
theorem f127_4 : zi_fe 127 4 = some ((.ifCond .eq 16), 3, 0, 0, 0, 0, 0) := (zl127_0 (Nat.le_of_ble_eq_true rfl)).trans rfl
theorem f127_7 : zi_fe 127 7 = some ((.iload_n 2), 1, 0, 0, 0, 0, 0) := (zl127_0 (Nat.le_of_ble_eq_true rfl)).trans rfl
theorem f127_8 : zi_fe 127 8 = some ((.invokestatic 256), 3, 139, 1, 7, 997, 1) := (zl127_0 (Nat.le_of_ble_eq_true rfl)).trans rfl
theorem f127_11 : zi_fe 127 11 = some ((.ifCond .eq 9), 3, 0, 0, 0, 0, 0) := (zl127_0 (Nat.le_of_ble_eq_true rfl)).trans rfl
theorem f127_14 : zi_fe 127 14 = some ((.iload_n 3), 1, 0, 0, 0, 0, 0) := (zl127_0 (Nat.le_of_ble_eq_true rfl)).trans rfl
theorem f127_15 : zi_fe 127 15 = some ((.bipush 40), 2, 0, 0, 0, 0, 0) := (zl127_0 (Nat.le_of_ble_eq_true rfl)).trans rfl
theorem f127_17 : zi_fe 127 17 = some ((.if_icmp .le 5), 3, 0, 0, 0, 0, 0) := (zl127_0 (Nat.le_of_ble_eq_true rfl)).trans rfl
theorem f127_20 : zi_fe 127 20 = some ((.iconst (-1)), 1, 0, 0, 0, 0, 0) := (zl127_0 (Nat.le_of_ble_eq_true rfl)).trans rfl
theorem f127_21 : zi_fe 127 21 = some (.ireturn, 1, 0, 0, 0, 0, 0) := (zl127_0 (Nat.le_of_ble_eq_true rfl)).trans rfl
theorem f127_22 : zi_fe 127 22 = some ((.iload_n 3), 1, 0, 0, 0, 0, 0) := (zl127_0 (Nat.le_of_ble_eq_true rfl)).trans rfl
theorem zl127_1 {pc : Nat} (h : 23 ≤ pc) : zi_fe 127 pc = zu127_1.lookup pc := (zl127_0 (Nat.le_trans (Nat.le_of_ble_eq_true rfl) h)).trans (zi_lkA (a := zi_i127_0) (c := 23) rfl h)
theorem f127_23 : zi_fe 127 23 = some ((.ifCond .ge 6), 3, 0, 0, 0, 0, 0) := (zl127_1 (Nat.le_of_ble_eq_true rfl)).trans rfl
theorem f127_26 : zi_fe 127 26 = some ((.bipush (-14)), 2, 0, 0, 0, 0, 0) := (zl127_1 (Nat.le_of_ble_eq_true rfl)).trans rfl
theorem f127_28 : zi_fe 127 28 = some (.ireturn, 1, 0, 0, 0, 0, 0) := (zl127_1 (Nat.le_of_ble_eq_true rfl)).trans rfl
theorem f127_29 : zi_fe 127 29 = some ((.aload_n 0), 1, 0, 0, 0, 0, 0) := (zl127_1 (Nat.le_of_ble_eq_true rfl)).trans rfl
theorem f127_30 : zi_fe 127 30 = some ((.getfield 51), 3, 7, 7, 3, 418, 0) := (zl127_1 (Nat.le_of_ble_eq_true rfl)).trans rfl
theorem f127_33 : zi_fe 127 33 = some ((.iload_n 1), 1, 0, 0, 0, 0, 0) := (zl127_1 (Nat.le_of_ble_eq_true rfl)).trans rfl
theorem f127_34 : zi_fe 127 34 = some ((.iload_n 2), 1, 0, 0, 0, 0, 0) := (zl127_1 (Nat.le_of_ble_eq_true rfl)).trans rfl
theorem f127_35 : zi_fe 127 35 = some ((.iload_n 3), 1, 0, 0, 0, 0, 0) := (zl127_1 (Nat.le_of_ble_eq_true rfl)).trans rfl
theorem f127_36 : zi_fe 127 36 = some ((.invokevirtual 259), 3, 23, 0, 2, 1000, 4) := (zl127_1 (Nat.le_of_ble_eq_true rfl)).trans rfl
theorem f127_39 : zi_fe 127 39 = some ((.iconst 1), 1, 0, 0, 0, 0, 0) := (zl127_1 (Nat.le_of_ble_eq_true rfl)).trans rfl
theorem f127_40 : zi_fe 127 40 = some (.ireturn, 1, 0, 0, 0, 0, 0) := (zl127_1 (Nat.le_of_ble_eq_true rfl)).trans rfl
theorem b127_0 {h : zi_Hp} {a0 : Nat} {x1 : Int32} {x2 : Int32} {x3 : Int32}  : zv 3 127 0 [.ref a0, .int x1, .int x2, .int x3] [] h = (zv 1 138 0 [.int x1] [] h).bind fun r => zv 3 127 4 [.ref a0, .int x1, .int x2, .int x3] (r.1.toList ++ []) r.2 := by
  refine Eq.trans (zv_next f127_0 rfl) ?_
  exact zs_callS f127_1 (by decide) (Nat.le_of_ble_eq_true rfl) (Nat.le_of_ble_eq_true rfl) rfl me_138 (by decide) rfl
theorem b127_4 {h : zi_Hp} {a0 : Nat} {x1 : Int32} {x2 : Int32} {x3 : Int32} {s0 : Int32}  : zv 3 127 4 [.ref a0, .int x1, .int x2, .int x3] [.int s0] h = if s0 = 0 then zv 3 127 20 [.ref a0, .int x1, .int x2, .int x3] [] h else zv 3 127 7 [.ref a0, .int x1, .int x2, .int x3] [] h := by
  exact zs_if f127_4 rfl
theorem b127_7 {h : zi_Hp} {a0 : Nat} {x1 : Int32} {x2 : Int32} {x3 : Int32}  : zv 3 127 7 [.ref a0, .int x1, .int x2, .int x3] [] h = (zv 1 139 0 [.int x2] [] h).bind fun r => zv 3 127 11 [.ref a0, .int x1, .int x2, .int x3] (r.1.toList ++ []) r.2 := by
  refine Eq.trans (zv_next f127_7 rfl) ?_
  exact zs_callS f127_8 (by decide) (Nat.le_of_ble_eq_true rfl) (Nat.le_of_ble_eq_true rfl) rfl me_139 (by decide) rfl
theorem b127_11 {h : zi_Hp} {a0 : Nat} {x1 : Int32} {x2 : Int32} {x3 : Int32} {s0 : Int32}  : zv 3 127 11 [.ref a0, .int x1, .int x2, .int x3] [.int s0] h = if s0 = 0 then zv 3 127 20 [.ref a0, .int x1, .int x2, .int x3] [] h else zv 3 127 14 [.ref a0, .int x1, .int x2, .int x3] [] h := by
  exact zs_if f127_11 rfl
theorem b127_14 {h : zi_Hp} {a0 : Nat} {x1 : Int32} {x2 : Int32} {x3 : Int32}  : zv 3 127 14 [.ref a0, .int x1, .int x2, .int x3] [] h = if 40 < x3 then zv 3 127 20 [.ref a0, .int x1, .int x2, .int x3] [] h else zv 3 127 22 [.ref a0, .int x1, .int x2, .int x3] [] h := by
  refine Eq.trans (zv_next f127_14 rfl) ?_
  refine Eq.trans (zs_bp f127_15 bp_40) ?_
  exact zs_icmp f127_17 rfl
theorem b127_20 {h : zi_Hp} {a0 : Nat} {x1 : Int32} {x2 : Int32} {x3 : Int32}  : zv 3 127 20 [.ref a0, .int x1, .int x2, .int x3] [] h = some (some (.int (-1)), h) := by
  refine Eq.trans (zs_ic f127_20 ic_m1) ?_
  exact zs_ret0 f127_21
theorem b127_22 {h : zi_Hp} {a0 : Nat} {x1 : Int32} {x2 : Int32} {x3 : Int32}  : zv 3 127 22 [.ref a0, .int x1, .int x2, .int x3] [] h = if x3 < 0 then zv 3 127 26 [.ref a0, .int x1, .int x2, .int x3] [] h else zv 3 127 29 [.ref a0, .int x1, .int x2, .int x3] [] h := by
  refine Eq.trans (zv_next f127_22 rfl) ?_
  exact zs_if f127_23 rfl
theorem b127_26 {h : zi_Hp} {a0 : Nat} {x1 : Int32} {x2 : Int32} {x3 : Int32}  : zv 3 127 26 [.ref a0, .int x1, .int x2, .int x3] [] h = some (some (.int (-14)), h) := by
  refine Eq.trans (zs_bp f127_26 bp_m14) ?_
  exact zs_ret0 f127_28
theorem b127_29 {h : zi_Hp} {a0 : Nat} {x1 : Int32} {x2 : Int32} {x3 : Int32} (g0 : a0 < zh_n h) (g1 : (zh_k h a0).1 = 7) (g2 : zh_r h a0 7 = .ref (zq (zh_r h a0 7))) (g3 : (zq (zh_r h a0 7)) < zh_n h) (g4 : (zh_k h (zq (zh_r h a0 7))).1 = 2) : zv 3 127 29 [.ref a0, .int x1, .int x2, .int x3] [] h = (zv 2 23 0 [.ref (zq (zh_r h a0 7)), .int x1, .int x2, .int x3] [] h).bind fun r => zv 3 127 39 [.ref a0, .int x1, .int x2, .int x3] (r.1.toList ++ []) r.2 := by
  refine Eq.trans (zv_next f127_29 rfl) ?_
  refine Eq.trans (zs_getr f127_30 g0 g1 g2) ?_
  refine Eq.trans (zv_next f127_33 rfl) ?_
  refine Eq.trans (zv_next f127_34 rfl) ?_
  refine Eq.trans (zv_next f127_35 rfl) ?_
  exact zs_callV f127_36 (Nat.le_of_ble_eq_true rfl) (Nat.le_of_ble_eq_true rfl) rfl g3 g4 me_23 (by decide) rfl
theorem b127_39 {h : zi_Hp} {a0 : Nat} {x1 : Int32} {x2 : Int32} {x3 : Int32}  : zv 3 127 39 [.ref a0, .int x1, .int x2, .int x3] [] h = some (some (.int 1), h) := by
  refine Eq.trans (zs_ic f127_39 ic_1) ?_
  exact zs_ret0 f127_40
set_option maxRecDepth 20000 in
theorem zq128 : zi_M[128]? = some zi_m128 := rfl
theorem zl128_0 {pc : Nat} (_ : 0 ≤ pc) : zi_fe 128 pc = zu128_0.lookup pc := zi_feA zq128 pc
theorem f128_0 : zi_fe 128 0 = some ((.iload_n 1), 1, 0, 0, 0, 0, 0) := (zl128_0 (Nat.le_of_ble_eq_true rfl)).trans rfl
theorem f128_1 : zi_fe 128 1 = some ((.invokestatic 253), 3, 138, 1, 7, 994, 1) := (zl128_0 (Nat.le_of_ble_eq_true rfl)).trans rfl
theorem f128_4 : zi_fe 128 4 = some ((.ifCond .ne 5), 3, 0, 0, 0, 0, 0) := (zl128_0 (Nat.le_of_ble_eq_true rfl)).trans rfl
theorem f128_7 : zi_fe 128 7 = some ((.iconst (-1)), 1, 0, 0, 0, 0, 0) := (zl128_0 (Nat.le_of_ble_eq_true rfl)).trans rfl
theorem f128_8 : zi_fe 128 8 = some (.ireturn, 1, 0, 0, 0, 0, 0) := (zl128_0 (Nat.le_of_ble_eq_true rfl)).trans rfl
theorem f128_9 : zi_fe 128 9 = some ((.aload_n 0), 1, 0, 0, 0, 0, 0) := (zl128_0 (Nat.le_of_ble_eq_true rfl)).trans rfl
theorem f128_10 : zi_fe 128 10 = some ((.getfield 51), 3, 7, 7, 3, 418, 0) := (zl128_0 (Nat.le_of_ble_eq_true rfl)).trans rfl
theorem f128_13 : zi_fe 128 13 = some ((.iload_n 1), 1, 0, 0, 0, 0, 0) := (zl128_0 (Nat.le_of_ble_eq_true rfl)).trans rfl
theorem f128_14 : zi_fe 128 14 = some ((.aload_n 0), 1, 0, 0, 0, 0, 0) := (zl128_0 (Nat.le_of_ble_eq_true rfl)).trans rfl
theorem f128_15 : zi_fe 128 15 = some ((.getfield 51), 3, 7, 7, 3, 418, 0) := (zl128_0 (Nat.le_of_ble_eq_true rfl)).trans rfl
theorem f128_18 : zi_fe 128 18 = some ((.getfield 262), 3, 2, 1, 3, 402, 0) := (zl128_0 (Nat.le_of_ble_eq_true rfl)).trans rfl
theorem f128_21 : zi_fe 128 21 = some ((.iload_n 1), 1, 0, 0, 0, 0, 0) := (zl128_0 (Nat.le_of_ble_eq_true rfl)).trans rfl
theorem zl128_1 {pc : Nat} (h : 22 ≤ pc) : zi_fe 128 pc = zu128_1.lookup pc := (zl128_0 (Nat.le_trans (Nat.le_of_ble_eq_true rfl) h)).trans (zi_lkA (a := zi_i128_0) (c := 22) rfl h)
theorem f128_22 : zi_fe 128 22 = some (.iaload, 1, 0, 0, 0, 0, 0) := (zl128_1 (Nat.le_of_ble_eq_true rfl)).trans rfl
theorem f128_23 : zi_fe 128 23 = some ((.iload_n 2), 1, 0, 0, 0, 0, 0) := (zl128_1 (Nat.le_of_ble_eq_true rfl)).trans rfl
theorem f128_24 : zi_fe 128 24 = some ((.invokevirtual 265), 3, 24, 0, 2, 1010, 4) := (zl128_1 (Nat.le_of_ble_eq_true rfl)).trans rfl
theorem f128_27 : zi_fe 128 27 = some ((.istore 4), 2, 0, 0, 0, 0, 0) := (zl128_1 (Nat.le_of_ble_eq_true rfl)).trans rfl
theorem f128_29 : zi_fe 128 29 = some ((.iload 4), 2, 0, 0, 0, 0, 0) := (zl128_1 (Nat.le_of_ble_eq_true rfl)).trans rfl
theorem f128_31 : zi_fe 128 31 = some ((.ifCond .eq 9), 3, 0, 0, 0, 0, 0) := (zl128_1 (Nat.le_of_ble_eq_true rfl)).trans rfl
theorem f128_34 : zi_fe 128 34 = some ((.bipush (-10)), 2, 0, 0, 0, 0, 0) := (zl128_1 (Nat.le_of_ble_eq_true rfl)).trans rfl
theorem f128_36 : zi_fe 128 36 = some ((.iload 4), 2, 0, 0, 0, 0, 0) := (zl128_1 (Nat.le_of_ble_eq_true rfl)).trans rfl
theorem f128_38 : zi_fe 128 38 = some (.isub, 1, 0, 0, 0, 0, 0) := (zl128_1 (Nat.le_of_ble_eq_true rfl)).trans rfl
theorem f128_39 : zi_fe 128 39 = some (.ireturn, 1, 0, 0, 0, 0, 0) := (zl128_1 (Nat.le_of_ble_eq_true rfl)).trans rfl
theorem f128_40 : zi_fe 128 40 = some ((.aload_n 0), 1, 0, 0, 0, 0, 0) := (zl128_1 (Nat.le_of_ble_eq_true rfl)).trans rfl
theorem f128_41 : zi_fe 128 41 = some ((.getfield 51), 3, 7, 7, 3, 418, 0) := (zl128_1 (Nat.le_of_ble_eq_true rfl)).trans rfl
theorem zl128_2 {pc : Nat} (h : 44 ≤ pc) : zi_fe 128 pc = zu128_2.lookup pc := (zl128_1 (Nat.le_trans (Nat.le_of_ble_eq_true rfl) h)).trans (zi_lkA (a := zi_i128_1) (c := 44) rfl h)
theorem f128_44 : zi_fe 128 44 = some ((.iload_n 1), 1, 0, 0, 0, 0, 0) := (zl128_2 (Nat.le_of_ble_eq_true rfl)).trans rfl
theorem f128_45 : zi_fe 128 45 = some ((.iload_n 2), 1, 0, 0, 0, 0, 0) := (zl128_2 (Nat.le_of_ble_eq_true rfl)).trans rfl
theorem f128_46 : zi_fe 128 46 = some ((.iload_n 3), 1, 0, 0, 0, 0, 0) := (zl128_2 (Nat.le_of_ble_eq_true rfl)).trans rfl
theorem f128_47 : zi_fe 128 47 = some ((.invokevirtual 269), 3, 26, 0, 2, 1014, 4) := (zl128_2 (Nat.le_of_ble_eq_true rfl)).trans rfl
theorem f128_50 : zi_fe 128 50 = some ((.iconst 1), 1, 0, 0, 0, 0, 0) := (zl128_2 (Nat.le_of_ble_eq_true rfl)).trans rfl
theorem f128_51 : zi_fe 128 51 = some (.ireturn, 1, 0, 0, 0, 0, 0) := (zl128_2 (Nat.le_of_ble_eq_true rfl)).trans rfl
theorem b128_0 {h : zi_Hp} {a0 : Nat} {x1 : Int32} {x2 : Int32} {x3 : Int32} {u4 : Value}  : zv 3 128 0 [.ref a0, .int x1, .int x2, .int x3, u4] [] h = (zv 1 138 0 [.int x1] [] h).bind fun r => zv 3 128 4 [.ref a0, .int x1, .int x2, .int x3, u4] (r.1.toList ++ []) r.2 := by
  refine Eq.trans (zv_next f128_0 rfl) ?_
  exact zs_callS f128_1 (by decide) (Nat.le_of_ble_eq_true rfl) (Nat.le_of_ble_eq_true rfl) rfl me_138 (by decide) rfl
theorem b128_4 {h : zi_Hp} {a0 : Nat} {x1 : Int32} {x2 : Int32} {x3 : Int32} {u4 : Value} {s0 : Int32}  : zv 3 128 4 [.ref a0, .int x1, .int x2, .int x3, u4] [.int s0] h = if s0 = 0 then zv 3 128 7 [.ref a0, .int x1, .int x2, .int x3, u4] [] h else zv 3 128 9 [.ref a0, .int x1, .int x2, .int x3, u4] [] h := by
  exact zs_if f128_4 rfl
theorem b128_7 {h : zi_Hp} {a0 : Nat} {x1 : Int32} {x2 : Int32} {x3 : Int32} {u4 : Value}  : zv 3 128 7 [.ref a0, .int x1, .int x2, .int x3, u4] [] h = some (some (.int (-1)), h) := by
  refine Eq.trans (zs_ic f128_7 ic_m1) ?_
  exact zs_ret0 f128_8
theorem b128_9 {h : zi_Hp} {a0 : Nat} {x1 : Int32} {x2 : Int32} {x3 : Int32} {u4 : Value} (g0 : a0 < zh_n h) (g1 : (zh_k h a0).1 = 7) (g2 : zh_r h a0 7 = .ref (zq (zh_r h a0 7))) (g3 : (zq (zh_r h a0 7)) < zh_n h) (g4 : (zh_k h (zq (zh_r h a0 7))).1 = 2) (g5 : zh_r h (zq (zh_r h a0 7)) 1 = .ref (zq (zh_r h (zq (zh_r h a0 7)) 1))) (g6 : (zq (zh_r h (zq (zh_r h a0 7)) 1)) < zh_n h) (g7 : ¬ (x1 < 0 ∨ (zh_k h (zq (zh_r h (zq (zh_r h a0 7)) 1))).2 ≤ x1.toNatClampNeg)) (g8 : (zh_k h (zq (zh_r h (zq (zh_r h a0 7)) 1))).1 = 100) : zv 3 128 9 [.ref a0, .int x1, .int x2, .int x3, u4] [] h = (zv 2 24 0 [.ref (zq (zh_r h a0 7)), .int x1, .int (zh_i h (zq (zh_r h (zq (zh_r h a0 7)) 1)) x1.toNatClampNeg), .int x2] [] h).bind fun r => zv 3 128 27 [.ref a0, .int x1, .int x2, .int x3, u4] (r.1.toList ++ []) r.2 := by
  refine Eq.trans (zv_next f128_9 rfl) ?_
  refine Eq.trans (zs_getr f128_10 g0 g1 g2) ?_
  refine Eq.trans (zv_next f128_13 rfl) ?_
  refine Eq.trans (zv_next f128_14 rfl) ?_
  refine Eq.trans (zs_getr f128_15 g0 g1 g2) ?_
  refine Eq.trans (zs_getr f128_18 g3 g4 g5) ?_
  refine Eq.trans (zv_next f128_21 rfl) ?_
  refine Eq.trans (zs_iald f128_22 g6 g8 g7) ?_
  refine Eq.trans (zv_next f128_23 rfl) ?_
  exact zs_callV f128_24 (Nat.le_of_ble_eq_true rfl) (Nat.le_of_ble_eq_true rfl) rfl g3 g4 me_24 (by decide) rfl
theorem b128_27 {h : zi_Hp} {a0 : Nat} {x1 : Int32} {x2 : Int32} {x3 : Int32} {u4 : Value} {s0 : Int32}  : zv 3 128 27 [.ref a0, .int x1, .int x2, .int x3, u4] [.int s0] h = if s0 = 0 then zv 3 128 40 [.ref a0, .int x1, .int x2, .int x3, .int s0] [] h else zv 3 128 34 [.ref a0, .int x1, .int x2, .int x3, .int s0] [] h := by
  refine Eq.trans (zv_next f128_27 rfl) ?_
  refine Eq.trans (zv_next f128_29 rfl) ?_
  exact zs_if f128_31 rfl
theorem b128_34 {h : zi_Hp} {a0 : Nat} {x1 : Int32} {x2 : Int32} {x3 : Int32} {x4 : Int32}  : zv 3 128 34 [.ref a0, .int x1, .int x2, .int x3, .int x4] [] h = some (some (.int ((-10) - x4)), h) := by
  refine Eq.trans (zs_bp f128_34 bp_m10) ?_
  refine Eq.trans (zv_next f128_36 rfl) ?_
  refine Eq.trans (zv_next f128_38 rfl) ?_
  exact zs_ret0 f128_39
theorem b128_40 {h : zi_Hp} {a0 : Nat} {x1 : Int32} {x2 : Int32} {x3 : Int32} {x4 : Int32} (g0 : a0 < zh_n h) (g1 : (zh_k h a0).1 = 7) (g2 : zh_r h a0 7 = .ref (zq (zh_r h a0 7))) (g3 : (zq (zh_r h a0 7)) < zh_n h) (g4 : (zh_k h (zq (zh_r h a0 7))).1 = 2) : zv 3 128 40 [.ref a0, .int x1, .int x2, .int x3, .int x4] [] h = (zv 2 26 0 [.ref (zq (zh_r h a0 7)), .int x1, .int x2, .int x3] [] h).bind fun r => zv 3 128 50 [.ref a0, .int x1, .int x2, .int x3, .int x4] (r.1.toList ++ []) r.2 := by
  refine Eq.trans (zv_next f128_40 rfl) ?_
  refine Eq.trans (zs_getr f128_41 g0 g1 g2) ?_
  refine Eq.trans (zv_next f128_44 rfl) ?_
  refine Eq.trans (zv_next f128_45 rfl) ?_
  refine Eq.trans (zv_next f128_46 rfl) ?_
  exact zs_callV f128_47 (Nat.le_of_ble_eq_true rfl) (Nat.le_of_ble_eq_true rfl) rfl g3 g4 me_26 (by decide) rfl
theorem b128_50 {h : zi_Hp} {a0 : Nat} {x1 : Int32} {x2 : Int32} {x3 : Int32} {x4 : Int32}  : zv 3 128 50 [.ref a0, .int x1, .int x2, .int x3, .int x4] [] h = some (some (.int 1), h) := by
  refine Eq.trans (zs_ic f128_50 ic_1) ?_
  exact zs_ret0 f128_51
set_option maxRecDepth 20000 in
theorem zq129 : zi_M[129]? = some zi_m129 := rfl
theorem zl129_0 {pc : Nat} (_ : 0 ≤ pc) : zi_fe 129 pc = zu129_0.lookup pc := zi_feA zq129 pc
theorem f129_0 : zi_fe 129 0 = some ((.iload_n 1), 1, 0, 0, 0, 0, 0) := (zl129_0 (Nat.le_of_ble_eq_true rfl)).trans rfl
theorem f129_1 : zi_fe 129 1 = some ((.invokestatic 253), 3, 138, 1, 7, 994, 1) := (zl129_0 (Nat.le_of_ble_eq_true rfl)).trans rfl
theorem f129_4 : zi_fe 129 4 = some ((.ifCond .eq 22), 3, 0, 0, 0, 0, 0) := (zl129_0 (Nat.le_of_ble_eq_true rfl)).trans rfl
theorem f129_7 : zi_fe 129 7 = some ((.iload_n 2), 1, 0, 0, 0, 0, 0) := (zl129_0 (Nat.le_of_ble_eq_true rfl)).trans rfl
theorem f129_8 : zi_fe 129 8 = some ((.invokestatic 256), 3, 139, 1, 7, 997, 1) := (zl129_0 (Nat.le_of_ble_eq_true rfl)).trans rfl
theorem f129_11 : zi_fe 129 11 = some ((.ifCond .eq 15), 3, 0, 0, 0, 0, 0) := (zl129_0 (Nat.le_of_ble_eq_true rfl)).trans rfl
theorem f129_14 : zi_fe 129 14 = some ((.iload 4), 2, 0, 0, 0, 0, 0) := (zl129_0 (Nat.le_of_ble_eq_true rfl)).trans rfl
theorem f129_16 : zi_fe 129 16 = some ((.ifCond .lt 10), 3, 0, 0, 0, 0, 0) := (zl129_0 (Nat.le_of_ble_eq_true rfl)).trans rfl
theorem f129_19 : zi_fe 129 19 = some ((.iload 4), 2, 0, 0, 0, 0, 0) := (zl129_0 (Nat.le_of_ble_eq_true rfl)).trans rfl
theorem f129_21 : zi_fe 129 21 = some ((.bipush 40), 2, 0, 0, 0, 0, 0) := (zl129_0 (Nat.le_of_ble_eq_true rfl)).trans rfl
theorem f129_23 : zi_fe 129 23 = some ((.if_icmp .le 5), 3, 0, 0, 0, 0, 0) := (zl129_0 (Nat.le_of_ble_eq_true rfl)).trans rfl
theorem f129_26 : zi_fe 129 26 = some ((.iconst (-1)), 1, 0, 0, 0, 0, 0) := (zl129_0 (Nat.le_of_ble_eq_true rfl)).trans rfl
theorem zl129_1 {pc : Nat} (h : 27 ≤ pc) : zi_fe 129 pc = zu129_1.lookup pc := (zl129_0 (Nat.le_trans (Nat.le_of_ble_eq_true rfl) h)).trans (zi_lkA (a := zi_i129_0) (c := 27) rfl h)
theorem f129_27 : zi_fe 129 27 = some (.ireturn, 1, 0, 0, 0, 0, 0) := (zl129_1 (Nat.le_of_ble_eq_true rfl)).trans rfl
theorem f129_28 : zi_fe 129 28 = some ((.aload_n 0), 1, 0, 0, 0, 0, 0) := (zl129_1 (Nat.le_of_ble_eq_true rfl)).trans rfl
theorem f129_29 : zi_fe 129 29 = some ((.getfield 12), 3, 7, 0, 3, 411, 0) := (zl129_1 (Nat.le_of_ble_eq_true rfl)).trans rfl
theorem f129_32 : zi_fe 129 32 = some ((.getfield 147), 3, 6, 1, 3, 257, 0) := (zl129_1 (Nat.le_of_ble_eq_true rfl)).trans rfl
theorem f129_35 : zi_fe 129 35 = some ((.iconst 0), 1, 0, 0, 0, 0, 0) := (zl129_1 (Nat.le_of_ble_eq_true rfl)).trans rfl
theorem f129_36 : zi_fe 129 36 = some (.aaload, 1, 0, 0, 0, 0, 0) := (zl129_1 (Nat.le_of_ble_eq_true rfl)).trans rfl
theorem f129_37 : zi_fe 129 37 = some ((.getfield 151), 3, 0, 0, 0, 201, 0) := (zl129_1 (Nat.le_of_ble_eq_true rfl)).trans rfl
theorem f129_40 : zi_fe 129 40 = some ((.ifCond .ne 13), 3, 0, 0, 0, 0, 0) := (zl129_1 (Nat.le_of_ble_eq_true rfl)).trans rfl
theorem f129_43 : zi_fe 129 43 = some ((.aload_n 0), 1, 0, 0, 0, 0, 0) := (zl129_1 (Nat.le_of_ble_eq_true rfl)).trans rfl
theorem f129_44 : zi_fe 129 44 = some ((.getfield 12), 3, 7, 0, 3, 411, 0) := (zl129_1 (Nat.le_of_ble_eq_true rfl)).trans rfl
theorem f129_47 : zi_fe 129 47 = some ((.invokevirtual 106), 3, 98, 0, 6, 772, 1) := (zl129_1 (Nat.le_of_ble_eq_true rfl)).trans rfl
theorem f129_50 : zi_fe 129 50 = some ((.ifCond .le 6), 3, 0, 0, 0, 0, 0) := (zl129_1 (Nat.le_of_ble_eq_true rfl)).trans rfl
theorem zl129_2 {pc : Nat} (h : 53 ≤ pc) : zi_fe 129 pc = zu129_2.lookup pc := (zl129_1 (Nat.le_trans (Nat.le_of_ble_eq_true rfl) h)).trans (zi_lkA (a := zi_i129_1) (c := 53) rfl h)
theorem f129_53 : zi_fe 129 53 = some ((.bipush (-2)), 2, 0, 0, 0, 0, 0) := (zl129_2 (Nat.le_of_ble_eq_true rfl)).trans rfl
theorem f129_55 : zi_fe 129 55 = some (.ireturn, 1, 0, 0, 0, 0, 0) := (zl129_2 (Nat.le_of_ble_eq_true rfl)).trans rfl
theorem f129_56 : zi_fe 129 56 = some ((.aload_n 0), 1, 0, 0, 0, 0, 0) := (zl129_2 (Nat.le_of_ble_eq_true rfl)).trans rfl
theorem f129_57 : zi_fe 129 57 = some ((.getfield 16), 3, 7, 1, 3, 412, 0) := (zl129_2 (Nat.le_of_ble_eq_true rfl)).trans rfl
theorem f129_60 : zi_fe 129 60 = some ((.aload_n 0), 1, 0, 0, 0, 0, 0) := (zl129_2 (Nat.le_of_ble_eq_true rfl)).trans rfl
theorem f129_61 : zi_fe 129 61 = some ((.getfield 12), 3, 7, 0, 3, 411, 0) := (zl129_2 (Nat.le_of_ble_eq_true rfl)).trans rfl
theorem f129_64 : zi_fe 129 64 = some ((.invokevirtual 249), 3, 75, 0, 6, 985, 2) := (zl129_2 (Nat.le_of_ble_eq_true rfl)).trans rfl
theorem f129_67 : zi_fe 129 67 = some ((.iconst 0), 1, 0, 0, 0, 0, 0) := (zl129_2 (Nat.le_of_ble_eq_true rfl)).trans rfl
theorem f129_68 : zi_fe 129 68 = some ((.istore 5), 2, 0, 0, 0, 0, 0) := (zl129_2 (Nat.le_of_ble_eq_true rfl)).trans rfl
theorem f129_70 : zi_fe 129 70 = some ((.iload 5), 2, 0, 0, 0, 0, 0) := (zl129_2 (Nat.le_of_ble_eq_true rfl)).trans rfl
theorem f129_72 : zi_fe 129 72 = some ((.iload 4), 2, 0, 0, 0, 0, 0) := (zl129_2 (Nat.le_of_ble_eq_true rfl)).trans rfl
theorem f129_74 : zi_fe 129 74 = some ((.if_icmp .ge 74), 3, 0, 0, 0, 0, 0) := (zl129_2 (Nat.le_of_ble_eq_true rfl)).trans rfl
theorem zl129_3 {pc : Nat} (h : 77 ≤ pc) : zi_fe 129 pc = zu129_3.lookup pc := (zl129_2 (Nat.le_trans (Nat.le_of_ble_eq_true rfl) h)).trans (zi_lkA (a := zi_i129_2) (c := 77) rfl h)
theorem f129_77 : zi_fe 129 77 = some ((.aload_n 0), 1, 0, 0, 0, 0, 0) := (zl129_3 (Nat.le_of_ble_eq_true rfl)).trans rfl
theorem f129_78 : zi_fe 129 78 = some ((.getfield 51), 3, 7, 7, 3, 418, 0) := (zl129_3 (Nat.le_of_ble_eq_true rfl)).trans rfl
theorem f129_81 : zi_fe 129 81 = some ((.iload_n 1), 1, 0, 0, 0, 0, 0) := (zl129_3 (Nat.le_of_ble_eq_true rfl)).trans rfl
theorem f129_82 : zi_fe 129 82 = some ((.iload_n 2), 1, 0, 0, 0, 0, 0) := (zl129_3 (Nat.le_of_ble_eq_true rfl)).trans rfl
theorem f129_83 : zi_fe 129 83 = some ((.iload_n 3), 1, 0, 0, 0, 0, 0) := (zl129_3 (Nat.le_of_ble_eq_true rfl)).trans rfl
theorem f129_84 : zi_fe 129 84 = some ((.iload 5), 2, 0, 0, 0, 0, 0) := (zl129_3 (Nat.le_of_ble_eq_true rfl)).trans rfl
theorem f129_86 : zi_fe 129 86 = some (.iadd, 1, 0, 0, 0, 0, 0) := (zl129_3 (Nat.le_of_ble_eq_true rfl)).trans rfl
theorem f129_87 : zi_fe 129 87 = some ((.invokevirtual 265), 3, 24, 0, 2, 1010, 4) := (zl129_3 (Nat.le_of_ble_eq_true rfl)).trans rfl
theorem f129_90 : zi_fe 129 90 = some ((.istore 6), 2, 0, 0, 0, 0, 0) := (zl129_3 (Nat.le_of_ble_eq_true rfl)).trans rfl
theorem f129_92 : zi_fe 129 92 = some ((.iload 6), 2, 0, 0, 0, 0, 0) := (zl129_3 (Nat.le_of_ble_eq_true rfl)).trans rfl
theorem f129_94 : zi_fe 129 94 = some ((.ifCond .eq 12), 3, 0, 0, 0, 0, 0) := (zl129_3 (Nat.le_of_ble_eq_true rfl)).trans rfl
theorem f129_97 : zi_fe 129 97 = some ((.aload_n 0), 1, 0, 0, 0, 0, 0) := (zl129_3 (Nat.le_of_ble_eq_true rfl)).trans rfl
theorem zl129_4 {pc : Nat} (h : 98 ≤ pc) : zi_fe 129 pc = zu129_4.lookup pc := (zl129_3 (Nat.le_trans (Nat.le_of_ble_eq_true rfl) h)).trans (zi_lkA (a := zi_i129_3) (c := 98) rfl h)
theorem f129_98 : zi_fe 129 98 = some ((.iload 6), 2, 0, 0, 0, 0, 0) := (zl129_4 (Nat.le_of_ble_eq_true rfl)).trans rfl
theorem f129_100 : zi_fe 129 100 = some ((.putfield 55), 3, 7, 8, 0, 419, 0) := (zl129_4 (Nat.le_of_ble_eq_true rfl)).trans rfl
theorem f129_103 : zi_fe 129 103 = some ((.iload 5), 2, 0, 0, 0, 0, 0) := (zl129_4 (Nat.le_of_ble_eq_true rfl)).trans rfl
theorem f129_105 : zi_fe 129 105 = some (.ireturn, 1, 0, 0, 0, 0, 0) := (zl129_4 (Nat.le_of_ble_eq_true rfl)).trans rfl
theorem f129_106 : zi_fe 129 106 = some ((.aload_n 0), 1, 0, 0, 0, 0, 0) := (zl129_4 (Nat.le_of_ble_eq_true rfl)).trans rfl
theorem f129_107 : zi_fe 129 107 = some ((.aload_n 0), 1, 0, 0, 0, 0, 0) := (zl129_4 (Nat.le_of_ble_eq_true rfl)).trans rfl
theorem f129_108 : zi_fe 129 108 = some ((.getfield 51), 3, 7, 7, 3, 418, 0) := (zl129_4 (Nat.le_of_ble_eq_true rfl)).trans rfl
theorem f129_111 : zi_fe 129 111 = some ((.iload_n 1), 1, 0, 0, 0, 0, 0) := (zl129_4 (Nat.le_of_ble_eq_true rfl)).trans rfl
theorem f129_112 : zi_fe 129 112 = some ((.iload_n 3), 1, 0, 0, 0, 0, 0) := (zl129_4 (Nat.le_of_ble_eq_true rfl)).trans rfl
theorem f129_113 : zi_fe 129 113 = some ((.iload 5), 2, 0, 0, 0, 0, 0) := (zl129_4 (Nat.le_of_ble_eq_true rfl)).trans rfl
theorem f129_115 : zi_fe 129 115 = some (.iadd, 1, 0, 0, 0, 0, 0) := (zl129_4 (Nat.le_of_ble_eq_true rfl)).trans rfl
theorem f129_116 : zi_fe 129 116 = some ((.invokevirtual 272), 3, 25, 0, 2, 1022, 3) := (zl129_4 (Nat.le_of_ble_eq_true rfl)).trans rfl
theorem zl129_5 {pc : Nat} (h : 119 ≤ pc) : zi_fe 129 pc = zu129_5.lookup pc := (zl129_4 (Nat.le_trans (Nat.le_of_ble_eq_true rfl) h)).trans (zi_lkA (a := zi_i129_4) (c := 119) rfl h)
theorem f129_119 : zi_fe 129 119 = some ((.invokevirtual 275), 3, 132, 0, 7, 1026, 2) := (zl129_5 (Nat.le_of_ble_eq_true rfl)).trans rfl
theorem f129_122 : zi_fe 129 122 = some ((.ifCond .ne 20), 3, 0, 0, 0, 0, 0) := (zl129_5 (Nat.le_of_ble_eq_true rfl)).trans rfl
theorem f129_125 : zi_fe 129 125 = some ((.aload_n 0), 1, 0, 0, 0, 0, 0) := (zl129_5 (Nat.le_of_ble_eq_true rfl)).trans rfl
theorem f129_126 : zi_fe 129 126 = some ((.getfield 12), 3, 7, 0, 3, 411, 0) := (zl129_5 (Nat.le_of_ble_eq_true rfl)).trans rfl
theorem f129_129 : zi_fe 129 129 = some ((.aload_n 0), 1, 0, 0, 0, 0, 0) := (zl129_5 (Nat.le_of_ble_eq_true rfl)).trans rfl
theorem f129_130 : zi_fe 129 130 = some ((.getfield 16), 3, 7, 1, 3, 412, 0) := (zl129_5 (Nat.le_of_ble_eq_true rfl)).trans rfl
theorem f129_133 : zi_fe 129 133 = some ((.invokevirtual 249), 3, 75, 0, 6, 985, 2) := (zl129_5 (Nat.le_of_ble_eq_true rfl)).trans rfl
theorem f129_136 : zi_fe 129 136 = some ((.bipush (-20)), 2, 0, 0, 0, 0, 0) := (zl129_5 (Nat.le_of_ble_eq_true rfl)).trans rfl
theorem f129_138 : zi_fe 129 138 = some ((.iload 5), 2, 0, 0, 0, 0, 0) := (zl129_5 (Nat.le_of_ble_eq_true rfl)).trans rfl
theorem f129_140 : zi_fe 129 140 = some (.isub, 1, 0, 0, 0, 0, 0) := (zl129_5 (Nat.le_of_ble_eq_true rfl)).trans rfl
theorem f129_141 : zi_fe 129 141 = some (.ireturn, 1, 0, 0, 0, 0, 0) := (zl129_5 (Nat.le_of_ble_eq_true rfl)).trans rfl
theorem f129_142 : zi_fe 129 142 = some ((.iinc 5 1), 3, 0, 0, 0, 0, 0) := (zl129_5 (Nat.le_of_ble_eq_true rfl)).trans rfl
theorem zl129_6 {pc : Nat} (h : 145 ≤ pc) : zi_fe 129 pc = zu129_6.lookup pc := (zl129_5 (Nat.le_trans (Nat.le_of_ble_eq_true rfl) h)).trans (zi_lkA (a := zi_i129_5) (c := 145) rfl h)
theorem f129_145 : zi_fe 129 145 = some ((.goto (-75)), 3, 0, 0, 0, 0, 0) := (zl129_6 (Nat.le_of_ble_eq_true rfl)).trans rfl
theorem f129_148 : zi_fe 129 148 = some ((.aload_n 0), 1, 0, 0, 0, 0, 0) := (zl129_6 (Nat.le_of_ble_eq_true rfl)).trans rfl
theorem f129_149 : zi_fe 129 149 = some ((.iconst 0), 1, 0, 0, 0, 0, 0) := (zl129_6 (Nat.le_of_ble_eq_true rfl)).trans rfl
theorem f129_150 : zi_fe 129 150 = some ((.putfield 55), 3, 7, 8, 0, 419, 0) := (zl129_6 (Nat.le_of_ble_eq_true rfl)).trans rfl
theorem f129_153 : zi_fe 129 153 = some ((.iload 4), 2, 0, 0, 0, 0, 0) := (zl129_6 (Nat.le_of_ble_eq_true rfl)).trans rfl
theorem f129_155 : zi_fe 129 155 = some (.ireturn, 1, 0, 0, 0, 0, 0) := (zl129_6 (Nat.le_of_ble_eq_true rfl)).trans rfl
theorem b129_0 {h : zi_Hp} {a0 : Nat} {x1 : Int32} {x2 : Int32} {x3 : Int32} {x4 : Int32} {u5 : Value} {u6 : Value}  : zv 8 129 0 [.ref a0, .int x1, .int x2, .int x3, .int x4, u5, u6] [] h = (zv 1 138 0 [.int x1] [] h).bind fun r => zv 8 129 4 [.ref a0, .int x1, .int x2, .int x3, .int x4, u5, u6] (r.1.toList ++ []) r.2 := by
  refine Eq.trans (zv_next f129_0 rfl) ?_
  exact zs_callS f129_1 (by decide) (Nat.le_of_ble_eq_true rfl) (Nat.le_of_ble_eq_true rfl) rfl me_138 (by decide) rfl
theorem b129_4 {h : zi_Hp} {a0 : Nat} {x1 : Int32} {x2 : Int32} {x3 : Int32} {x4 : Int32} {u5 : Value} {u6 : Value} {s0 : Int32}  : zv 8 129 4 [.ref a0, .int x1, .int x2, .int x3, .int x4, u5, u6] [.int s0] h = if s0 = 0 then zv 8 129 26 [.ref a0, .int x1, .int x2, .int x3, .int x4, u5, u6] [] h else zv 8 129 7 [.ref a0, .int x1, .int x2, .int x3, .int x4, u5, u6] [] h := by
  exact zs_if f129_4 rfl
theorem b129_7 {h : zi_Hp} {a0 : Nat} {x1 : Int32} {x2 : Int32} {x3 : Int32} {x4 : Int32} {u5 : Value} {u6 : Value}  : zv 8 129 7 [.ref a0, .int x1, .int x2, .int x3, .int x4, u5, u6] [] h = (zv 1 139 0 [.int x2] [] h).bind fun r => zv 8 129 11 [.ref a0, .int x1, .int x2, .int x3, .int x4, u5, u6] (r.1.toList ++ []) r.2 := by
  refine Eq.trans (zv_next f129_7 rfl) ?_
  exact zs_callS f129_8 (by decide) (Nat.le_of_ble_eq_true rfl) (Nat.le_of_ble_eq_true rfl) rfl me_139 (by decide) rfl
theorem b129_11 {h : zi_Hp} {a0 : Nat} {x1 : Int32} {x2 : Int32} {x3 : Int32} {x4 : Int32} {u5 : Value} {u6 : Value} {s0 : Int32}  : zv 8 129 11 [.ref a0, .int x1, .int x2, .int x3, .int x4, u5, u6] [.int s0] h = if s0 = 0 then zv 8 129 26 [.ref a0, .int x1, .int x2, .int x3, .int x4, u5, u6] [] h else zv 8 129 14 [.ref a0, .int x1, .int x2, .int x3, .int x4, u5, u6] [] h := by
  exact zs_if f129_11 rfl
theorem b129_14 {h : zi_Hp} {a0 : Nat} {x1 : Int32} {x2 : Int32} {x3 : Int32} {x4 : Int32} {u5 : Value} {u6 : Value}  : zv 8 129 14 [.ref a0, .int x1, .int x2, .int x3, .int x4, u5, u6] [] h = if x4 < 0 then zv 8 129 26 [.ref a0, .int x1, .int x2, .int x3, .int x4, u5, u6] [] h else zv 8 129 19 [.ref a0, .int x1, .int x2, .int x3, .int x4, u5, u6] [] h := by
  refine Eq.trans (zv_next f129_14 rfl) ?_
  exact zs_if f129_16 rfl
theorem b129_19 {h : zi_Hp} {a0 : Nat} {x1 : Int32} {x2 : Int32} {x3 : Int32} {x4 : Int32} {u5 : Value} {u6 : Value}  : zv 8 129 19 [.ref a0, .int x1, .int x2, .int x3, .int x4, u5, u6] [] h = if 40 < x4 then zv 8 129 26 [.ref a0, .int x1, .int x2, .int x3, .int x4, u5, u6] [] h else zv 8 129 28 [.ref a0, .int x1, .int x2, .int x3, .int x4, u5, u6] [] h := by
  refine Eq.trans (zv_next f129_19 rfl) ?_
  refine Eq.trans (zs_bp f129_21 bp_40) ?_
  exact zs_icmp f129_23 rfl
theorem b129_26 {h : zi_Hp} {a0 : Nat} {x1 : Int32} {x2 : Int32} {x3 : Int32} {x4 : Int32} {u5 : Value} {u6 : Value}  : zv 8 129 26 [.ref a0, .int x1, .int x2, .int x3, .int x4, u5, u6] [] h = some (some (.int (-1)), h) := by
  refine Eq.trans (zs_ic f129_26 ic_m1) ?_
  exact zs_ret0 f129_27
theorem b129_28 {h : zi_Hp} {a0 : Nat} {x1 : Int32} {x2 : Int32} {x3 : Int32} {x4 : Int32} {u5 : Value} {u6 : Value} (g0 : a0 < zh_n h) (g1 : (zh_k h a0).1 = 7) (g2 : zh_r h a0 0 = .ref (zq (zh_r h a0 0))) (g3 : (zq (zh_r h a0 0)) < zh_n h) (g4 : (zh_k h (zq (zh_r h a0 0))).1 = 6) (g5 : zh_r h (zq (zh_r h a0 0)) 1 = .ref (zq (zh_r h (zq (zh_r h a0 0)) 1))) (g6 : (zq (zh_r h (zq (zh_r h a0 0)) 1)) < zh_n h) (g7 : 0 < (zh_k h (zq (zh_r h (zq (zh_r h a0 0)) 1))).2) (g8 : (zh_k h (zq (zh_r h (zq (zh_r h a0 0)) 1))).1 = 103 ∨ (zh_k h (zq (zh_r h (zq (zh_r h a0 0)) 1))).1 = 104 ∨ (zh_k h (zq (zh_r h (zq (zh_r h a0 0)) 1))).1 = 105) (g9 : zh_r h (zq (zh_r h (zq (zh_r h a0 0)) 1)) 0 = .ref (zq (zh_r h (zq (zh_r h (zq (zh_r h a0 0)) 1)) 0))) (g10 : (zq (zh_r h (zq (zh_r h (zq (zh_r h a0 0)) 1)) 0)) < zh_n h) (g11 : (zh_k h (zq (zh_r h (zq (zh_r h (zq (zh_r h a0 0)) 1)) 0))).1 = 0) : zv 8 129 28 [.ref a0, .int x1, .int x2, .int x3, .int x4, u5, u6] [] h = if (zh_i h (zq (zh_r h (zq (zh_r h (zq (zh_r h a0 0)) 1)) 0)) 0) = 0 then zv 8 129 43 [.ref a0, .int x1, .int x2, .int x3, .int x4, u5, u6] [] h else zv 8 129 53 [.ref a0, .int x1, .int x2, .int x3, .int x4, u5, u6] [] h := by
  refine Eq.trans (zv_next f129_28 rfl) ?_
  refine Eq.trans (zs_getr f129_29 g0 g1 g2) ?_
  refine Eq.trans (zs_getr f129_32 g3 g4 g5) ?_
  refine Eq.trans (zs_ic f129_35 ic_0) ?_
  refine Eq.trans (zs_aald f129_36 g6 g8 (zj_lit (by decide) g7) g9) ?_
  refine Eq.trans (zs_geti f129_37 g10 g11) ?_
  exact zs_if f129_40 rfl
theorem b129_43 {h : zi_Hp} {a0 : Nat} {x1 : Int32} {x2 : Int32} {x3 : Int32} {x4 : Int32} {u5 : Value} {u6 : Value} (g0 : a0 < zh_n h) (g1 : (zh_k h a0).1 = 7) (g2 : zh_r h a0 0 = .ref (zq (zh_r h a0 0))) (g3 : (zq (zh_r h a0 0)) < zh_n h) (g4 : (zh_k h (zq (zh_r h a0 0))).1 = 6) : zv 8 129 43 [.ref a0, .int x1, .int x2, .int x3, .int x4, u5, u6] [] h = (zv 3 98 0 [.ref (zq (zh_r h a0 0)), .double 0, .double 0] [] h).bind fun r => zv 8 129 50 [.ref a0, .int x1, .int x2, .int x3, .int x4, u5, u6] (r.1.toList ++ []) r.2 := by
  refine Eq.trans (zv_next f129_43 rfl) ?_
  refine Eq.trans (zs_getr f129_44 g0 g1 g2) ?_
  exact zs_callV f129_47 (Nat.le_of_ble_eq_true rfl) (Nat.le_of_ble_eq_true rfl) rfl g3 g4 me_98 (by decide) rfl
theorem b129_50 {h : zi_Hp} {a0 : Nat} {x1 : Int32} {x2 : Int32} {x3 : Int32} {x4 : Int32} {u5 : Value} {u6 : Value} {s0 : Int32}  : zv 8 129 50 [.ref a0, .int x1, .int x2, .int x3, .int x4, u5, u6] [.int s0] h = if 0 < s0 then zv 8 129 53 [.ref a0, .int x1, .int x2, .int x3, .int x4, u5, u6] [] h else zv 8 129 56 [.ref a0, .int x1, .int x2, .int x3, .int x4, u5, u6] [] h := by
  exact zs_if f129_50 rfl
theorem b129_53 {h : zi_Hp} {a0 : Nat} {x1 : Int32} {x2 : Int32} {x3 : Int32} {x4 : Int32} {u5 : Value} {u6 : Value}  : zv 8 129 53 [.ref a0, .int x1, .int x2, .int x3, .int x4, u5, u6] [] h = some (some (.int (-2)), h) := by
  refine Eq.trans (zs_bp f129_53 bp_m2) ?_
  exact zs_ret0 f129_55
theorem b129_56 {h : zi_Hp} {a0 : Nat} {x1 : Int32} {x2 : Int32} {x3 : Int32} {x4 : Int32} {u5 : Value} {u6 : Value} (g0 : a0 < zh_n h) (g1 : (zh_k h a0).1 = 7) (g2 : zh_r h a0 1 = .ref (zq (zh_r h a0 1))) (g3 : zh_r h a0 0 = .ref (zq (zh_r h a0 0))) (g4 : (zq (zh_r h a0 1)) < zh_n h) (g5 : (zh_k h (zq (zh_r h a0 1))).1 = 6) : zv 8 129 56 [.ref a0, .int x1, .int x2, .int x3, .int x4, u5, u6] [] h = (zv 2 75 0 [.ref (zq (zh_r h a0 1)), .ref (zq (zh_r h a0 0)), .double 0] [] h).bind fun r => zv 8 129 67 [.ref a0, .int x1, .int x2, .int x3, .int x4, u5, u6] (r.1.toList ++ []) r.2 := by
  refine Eq.trans (zv_next f129_56 rfl) ?_
  refine Eq.trans (zs_getr f129_57 g0 g1 g2) ?_
  refine Eq.trans (zv_next f129_60 rfl) ?_
  refine Eq.trans (zs_getr f129_61 g0 g1 g3) ?_
  exact zs_callV f129_64 (Nat.le_of_ble_eq_true rfl) (Nat.le_of_ble_eq_true rfl) rfl g4 g5 me_75 (by decide) rfl
theorem b129_67 {h : zi_Hp} {a0 : Nat} {x1 : Int32} {x2 : Int32} {x3 : Int32} {x4 : Int32} {u5 : Value} {u6 : Value}  : zv 8 129 67 [.ref a0, .int x1, .int x2, .int x3, .int x4, u5, u6] [] h = zv 8 129 70 [.ref a0, .int x1, .int x2, .int x3, .int x4, .int 0, u6] [] h := by
  refine Eq.trans (zs_ic f129_67 ic_0) ?_
  refine Eq.trans (zv_next f129_68 rfl) ?_
  rfl
theorem b129_70 {h : zi_Hp} {a0 : Nat} {x1 : Int32} {x2 : Int32} {x3 : Int32} {x4 : Int32} {x5 : Int32} {u6 : Value}  : zv 8 129 70 [.ref a0, .int x1, .int x2, .int x3, .int x4, .int x5, u6] [] h = if x5 < x4 then zv 8 129 77 [.ref a0, .int x1, .int x2, .int x3, .int x4, .int x5, u6] [] h else zv 8 129 148 [.ref a0, .int x1, .int x2, .int x3, .int x4, .int x5, u6] [] h := by
  refine Eq.trans (zv_next f129_70 rfl) ?_
  refine Eq.trans (zv_next f129_72 rfl) ?_
  exact zs_icmp f129_74 rfl
theorem b129_77 {h : zi_Hp} {a0 : Nat} {x1 : Int32} {x2 : Int32} {x3 : Int32} {x4 : Int32} {x5 : Int32} {u6 : Value} (g0 : a0 < zh_n h) (g1 : (zh_k h a0).1 = 7) (g2 : zh_r h a0 7 = .ref (zq (zh_r h a0 7))) (g3 : (zq (zh_r h a0 7)) < zh_n h) (g4 : (zh_k h (zq (zh_r h a0 7))).1 = 2) : zv 8 129 77 [.ref a0, .int x1, .int x2, .int x3, .int x4, .int x5, u6] [] h = (zv 2 24 0 [.ref (zq (zh_r h a0 7)), .int x1, .int x2, .int (x3 + x5)] [] h).bind fun r => zv 8 129 90 [.ref a0, .int x1, .int x2, .int x3, .int x4, .int x5, u6] (r.1.toList ++ []) r.2 := by
  refine Eq.trans (zv_next f129_77 rfl) ?_
  refine Eq.trans (zs_getr f129_78 g0 g1 g2) ?_
  refine Eq.trans (zv_next f129_81 rfl) ?_
  refine Eq.trans (zv_next f129_82 rfl) ?_
  refine Eq.trans (zv_next f129_83 rfl) ?_
  refine Eq.trans (zv_next f129_84 rfl) ?_
  refine Eq.trans (zv_next f129_86 rfl) ?_
  exact zs_callV f129_87 (Nat.le_of_ble_eq_true rfl) (Nat.le_of_ble_eq_true rfl) rfl g3 g4 me_24 (by decide) rfl
theorem b129_90 {h : zi_Hp} {a0 : Nat} {x1 : Int32} {x2 : Int32} {x3 : Int32} {x4 : Int32} {x5 : Int32} {u6 : Value} {s0 : Int32}  : zv 8 129 90 [.ref a0, .int x1, .int x2, .int x3, .int x4, .int x5, u6] [.int s0] h = if s0 = 0 then zv 8 129 106 [.ref a0, .int x1, .int x2, .int x3, .int x4, .int x5, .int s0] [] h else zv 8 129 97 [.ref a0, .int x1, .int x2, .int x3, .int x4, .int x5, .int s0] [] h := by
  refine Eq.trans (zv_next f129_90 rfl) ?_
  refine Eq.trans (zv_next f129_92 rfl) ?_
  exact zs_if f129_94 rfl
theorem b129_97 {h : zi_Hp} {a0 : Nat} {x1 : Int32} {x2 : Int32} {x3 : Int32} {x4 : Int32} {x5 : Int32} {x6 : Int32} (g0 : a0 < zh_n h) (g1 : (zh_k h a0).1 = 7) : zv 8 129 97 [.ref a0, .int x1, .int x2, .int x3, .int x4, .int x5, .int x6] [] h = some (some (.int x5), zh_wi h a0 8 x6) := by
  refine Eq.trans (zv_next f129_97 rfl) ?_
  refine Eq.trans (zv_next f129_98 rfl) ?_
  refine Eq.trans (zs_put f129_100 g0 g1 rfl) ?_
  refine Eq.trans (zv_next f129_103 rfl) ?_
  exact zs_ret0 f129_105
theorem b129_106 {h : zi_Hp} {a0 : Nat} {x1 : Int32} {x2 : Int32} {x3 : Int32} {x4 : Int32} {x5 : Int32} {x6 : Int32} (g0 : a0 < zh_n h) (g1 : (zh_k h a0).1 = 7) (g2 : zh_r h a0 7 = .ref (zq (zh_r h a0 7))) (g3 : (zq (zh_r h a0 7)) < zh_n h) (g4 : (zh_k h (zq (zh_r h a0 7))).1 = 2) : zv 8 129 106 [.ref a0, .int x1, .int x2, .int x3, .int x4, .int x5, .int x6] [] h = (zv 2 25 0 [.ref (zq (zh_r h a0 7)), .int x1, .int (x3 + x5)] [] h).bind fun r => zv 8 129 119 [.ref a0, .int x1, .int x2, .int x3, .int x4, .int x5, .int x6] (r.1.toList ++ [.ref a0]) r.2 := by
  refine Eq.trans (zv_next f129_106 rfl) ?_
  refine Eq.trans (zv_next f129_107 rfl) ?_
  refine Eq.trans (zs_getr f129_108 g0 g1 g2) ?_
  refine Eq.trans (zv_next f129_111 rfl) ?_
  refine Eq.trans (zv_next f129_112 rfl) ?_
  refine Eq.trans (zv_next f129_113 rfl) ?_
  refine Eq.trans (zv_next f129_115 rfl) ?_
  exact zs_callV f129_116 (Nat.le_of_ble_eq_true rfl) (Nat.le_of_ble_eq_true rfl) rfl g3 g4 me_25 (by decide) rfl
theorem b129_119 {h : zi_Hp} {a0 : Nat} {x1 : Int32} {x2 : Int32} {x3 : Int32} {x4 : Int32} {x5 : Int32} {x6 : Int32} {t0 : Nat} {s1 : Int32} (g0 : t0 < zh_n h) (g1 : (zh_k h t0).1 = 7) : zv 8 129 119 [.ref a0, .int x1, .int x2, .int x3, .int x4, .int x5, .int x6] [.int s1, .ref t0] h = (zv 7 132 0 [.ref t0, .int s1] [] h).bind fun r => zv 8 129 122 [.ref a0, .int x1, .int x2, .int x3, .int x4, .int x5, .int x6] (r.1.toList ++ []) r.2 := by
  exact zs_callV f129_119 (Nat.le_of_ble_eq_true rfl) (Nat.le_of_ble_eq_true rfl) rfl g0 g1 me_132 (by decide) rfl
theorem b129_122 {h : zi_Hp} {a0 : Nat} {x1 : Int32} {x2 : Int32} {x3 : Int32} {x4 : Int32} {x5 : Int32} {x6 : Int32} {s0 : Int32}  : zv 8 129 122 [.ref a0, .int x1, .int x2, .int x3, .int x4, .int x5, .int x6] [.int s0] h = if s0 = 0 then zv 8 129 125 [.ref a0, .int x1, .int x2, .int x3, .int x4, .int x5, .int x6] [] h else zv 8 129 142 [.ref a0, .int x1, .int x2, .int x3, .int x4, .int x5, .int x6] [] h := by
  exact zs_if f129_122 rfl
theorem b129_125 {h : zi_Hp} {a0 : Nat} {x1 : Int32} {x2 : Int32} {x3 : Int32} {x4 : Int32} {x5 : Int32} {x6 : Int32} (g0 : a0 < zh_n h) (g1 : (zh_k h a0).1 = 7) (g2 : zh_r h a0 0 = .ref (zq (zh_r h a0 0))) (g3 : zh_r h a0 1 = .ref (zq (zh_r h a0 1))) (g4 : (zq (zh_r h a0 0)) < zh_n h) (g5 : (zh_k h (zq (zh_r h a0 0))).1 = 6) : zv 8 129 125 [.ref a0, .int x1, .int x2, .int x3, .int x4, .int x5, .int x6] [] h = (zv 2 75 0 [.ref (zq (zh_r h a0 0)), .ref (zq (zh_r h a0 1)), .double 0] [] h).bind fun r => zv 8 129 136 [.ref a0, .int x1, .int x2, .int x3, .int x4, .int x5, .int x6] (r.1.toList ++ []) r.2 := by
  refine Eq.trans (zv_next f129_125 rfl) ?_
  refine Eq.trans (zs_getr f129_126 g0 g1 g2) ?_
  refine Eq.trans (zv_next f129_129 rfl) ?_
  refine Eq.trans (zs_getr f129_130 g0 g1 g3) ?_
  exact zs_callV f129_133 (Nat.le_of_ble_eq_true rfl) (Nat.le_of_ble_eq_true rfl) rfl g4 g5 me_75 (by decide) rfl
theorem b129_136 {h : zi_Hp} {a0 : Nat} {x1 : Int32} {x2 : Int32} {x3 : Int32} {x4 : Int32} {x5 : Int32} {x6 : Int32}  : zv 8 129 136 [.ref a0, .int x1, .int x2, .int x3, .int x4, .int x5, .int x6] [] h = some (some (.int ((-20) - x5)), h) := by
  refine Eq.trans (zs_bp f129_136 bp_m20) ?_
  refine Eq.trans (zv_next f129_138 rfl) ?_
  refine Eq.trans (zv_next f129_140 rfl) ?_
  exact zs_ret0 f129_141
theorem b129_142 {h : zi_Hp} {a0 : Nat} {x1 : Int32} {x2 : Int32} {x3 : Int32} {x4 : Int32} {x5 : Int32} {x6 : Int32}  : zv 8 129 142 [.ref a0, .int x1, .int x2, .int x3, .int x4, .int x5, .int x6] [] h = zv 8 129 70 [.ref a0, .int x1, .int x2, .int x3, .int x4, .int (x5 + 1), .int x6] [] h := by
  refine Eq.trans (zs_inc f129_142 rfl ic_1 rfl) ?_
  refine Eq.trans (zs_goto (tgt := 70) f129_145 rfl) ?_
  rfl
theorem b129_148 {h : zi_Hp} {a0 : Nat} {x1 : Int32} {x2 : Int32} {x3 : Int32} {x4 : Int32} {x5 : Int32} {u6 : Value} (g0 : a0 < zh_n h) (g1 : (zh_k h a0).1 = 7) : zv 8 129 148 [.ref a0, .int x1, .int x2, .int x3, .int x4, .int x5, u6] [] h = some (some (.int x4), zh_wi h a0 8 0) := by
  refine Eq.trans (zv_next f129_148 rfl) ?_
  refine Eq.trans (zs_ic f129_149 ic_0) ?_
  refine Eq.trans (zs_put f129_150 g0 g1 rfl) ?_
  refine Eq.trans (zv_next f129_153 rfl) ?_
  exact zs_ret0 f129_155
set_option maxRecDepth 20000 in
theorem zq130 : zi_M[130]? = some zi_m130 := rfl
theorem zl130_0 {pc : Nat} (_ : 0 ≤ pc) : zi_fe 130 pc = zu130_0.lookup pc := zi_feA zq130 pc
theorem f130_0 : zi_fe 130 0 = some ((.aload_n 0), 1, 0, 0, 0, 0, 0) := (zl130_0 (Nat.le_of_ble_eq_true rfl)).trans rfl
theorem f130_1 : zi_fe 130 1 = some ((.getfield 55), 3, 7, 8, 0, 419, 0) := (zl130_0 (Nat.le_of_ble_eq_true rfl)).trans rfl
theorem f130_4 : zi_fe 130 4 = some (.ireturn, 1, 0, 0, 0, 0, 0) := (zl130_0 (Nat.le_of_ble_eq_true rfl)).trans rfl
theorem b130_0 {h : zi_Hp} {a0 : Nat} (g0 : a0 < zh_n h) (g1 : (zh_k h a0).1 = 7) : zv 1 130 0 [.ref a0] [] h = some (some (.int (zh_i h a0 8)), h) := by
  refine Eq.trans (zv_next f130_0 rfl) ?_
  refine Eq.trans (zs_geti f130_1 g0 g1) ?_
  exact zs_ret0 f130_4
set_option maxRecDepth 20000 in
theorem zq131 : zi_M[131]? = some zi_m131 := rfl
theorem zl131_0 {pc : Nat} (_ : 0 ≤ pc) : zi_fe 131 pc = zu131_0.lookup pc := zi_feA zq131 pc
theorem f131_0 : zi_fe 131 0 = some ((.iload_n 1), 1, 0, 0, 0, 0, 0) := (zl131_0 (Nat.le_of_ble_eq_true rfl)).trans rfl
theorem f131_1 : zi_fe 131 1 = some ((.tableswitch 120 0 5 #[39, 50, 80, 88, 98, 109]), 39, 0, 0, 0, 0, 0) := (zl131_0 (Nat.le_of_ble_eq_true rfl)).trans rfl
theorem f131_40 : zi_fe 131 40 = some ((.aload_n 0), 1, 0, 0, 0, 0, 0) := (zl131_0 (Nat.le_of_ble_eq_true rfl)).trans rfl
theorem f131_41 : zi_fe 131 41 = some ((.getfield 12), 3, 7, 0, 3, 411, 0) := (zl131_0 (Nat.le_of_ble_eq_true rfl)).trans rfl
theorem f131_44 : zi_fe 131 44 = some ((.getfield 83), 3, 6, 0, 3, 255, 0) := (zl131_0 (Nat.le_of_ble_eq_true rfl)).trans rfl
theorem f131_47 : zi_fe 131 47 = some ((.invokevirtual 278), 3, 60, 0, 4, 1039, 1) := (zl131_0 (Nat.le_of_ble_eq_true rfl)).trans rfl
theorem f131_50 : zi_fe 131 50 = some (.ireturn, 1, 0, 0, 0, 0, 0) := (zl131_0 (Nat.le_of_ble_eq_true rfl)).trans rfl
theorem f131_51 : zi_fe 131 51 = some ((.aload_n 0), 1, 0, 0, 0, 0, 0) := (zl131_0 (Nat.le_of_ble_eq_true rfl)).trans rfl
theorem f131_52 : zi_fe 131 52 = some ((.getfield 23), 3, 7, 3, 3, 414, 0) := (zl131_0 (Nat.le_of_ble_eq_true rfl)).trans rfl
theorem f131_55 : zi_fe 131 55 = some ((.iconst 0), 1, 0, 0, 0, 0, 0) := (zl131_0 (Nat.le_of_ble_eq_true rfl)).trans rfl
theorem f131_56 : zi_fe 131 56 = some (.baload, 1, 0, 0, 0, 0, 0) := (zl131_0 (Nat.le_of_ble_eq_true rfl)).trans rfl
theorem f131_57 : zi_fe 131 57 = some ((.ifCond .eq 7), 3, 0, 0, 0, 0, 0) := (zl131_0 (Nat.le_of_ble_eq_true rfl)).trans rfl
theorem zl131_1 {pc : Nat} (h : 60 ≤ pc) : zi_fe 131 pc = zu131_1.lookup pc := (zl131_0 (Nat.le_trans (Nat.le_of_ble_eq_true rfl) h)).trans (zi_lkA (a := zi_i131_0) (c := 60) rfl h)
theorem f131_60 : zi_fe 131 60 = some ((.iconst 1), 1, 0, 0, 0, 0, 0) := (zl131_1 (Nat.le_of_ble_eq_true rfl)).trans rfl
theorem f131_61 : zi_fe 131 61 = some ((.goto 4), 3, 0, 0, 0, 0, 0) := (zl131_1 (Nat.le_of_ble_eq_true rfl)).trans rfl
theorem f131_64 : zi_fe 131 64 = some ((.iconst 0), 1, 0, 0, 0, 0, 0) := (zl131_1 (Nat.le_of_ble_eq_true rfl)).trans rfl
theorem f131_65 : zi_fe 131 65 = some ((.aload_n 0), 1, 0, 0, 0, 0, 0) := (zl131_1 (Nat.le_of_ble_eq_true rfl)).trans rfl
theorem f131_66 : zi_fe 131 66 = some ((.getfield 23), 3, 7, 3, 3, 414, 0) := (zl131_1 (Nat.le_of_ble_eq_true rfl)).trans rfl
theorem f131_69 : zi_fe 131 69 = some ((.iconst 1), 1, 0, 0, 0, 0, 0) := (zl131_1 (Nat.le_of_ble_eq_true rfl)).trans rfl
theorem f131_70 : zi_fe 131 70 = some (.baload, 1, 0, 0, 0, 0, 0) := (zl131_1 (Nat.le_of_ble_eq_true rfl)).trans rfl
theorem f131_71 : zi_fe 131 71 = some ((.ifCond .eq 7), 3, 0, 0, 0, 0, 0) := (zl131_1 (Nat.le_of_ble_eq_true rfl)).trans rfl
theorem f131_74 : zi_fe 131 74 = some ((.iconst 1), 1, 0, 0, 0, 0, 0) := (zl131_1 (Nat.le_of_ble_eq_true rfl)).trans rfl
theorem f131_75 : zi_fe 131 75 = some ((.goto 4), 3, 0, 0, 0, 0, 0) := (zl131_1 (Nat.le_of_ble_eq_true rfl)).trans rfl
theorem f131_78 : zi_fe 131 78 = some ((.iconst 0), 1, 0, 0, 0, 0, 0) := (zl131_1 (Nat.le_of_ble_eq_true rfl)).trans rfl
theorem f131_79 : zi_fe 131 79 = some (.iadd, 1, 0, 0, 0, 0, 0) := (zl131_1 (Nat.le_of_ble_eq_true rfl)).trans rfl
theorem zl131_2 {pc : Nat} (h : 80 ≤ pc) : zi_fe 131 pc = zu131_2.lookup pc := (zl131_1 (Nat.le_trans (Nat.le_of_ble_eq_true rfl) h)).trans (zi_lkA (a := zi_i131_1) (c := 80) rfl h)
theorem f131_80 : zi_fe 131 80 = some (.ireturn, 1, 0, 0, 0, 0, 0) := (zl131_2 (Nat.le_of_ble_eq_true rfl)).trans rfl
theorem f131_81 : zi_fe 131 81 = some ((.aload_n 0), 1, 0, 0, 0, 0, 0) := (zl131_2 (Nat.le_of_ble_eq_true rfl)).trans rfl
theorem f131_82 : zi_fe 131 82 = some ((.getfield 37), 3, 7, 5, 3, 416, 0) := (zl131_2 (Nat.le_of_ble_eq_true rfl)).trans rfl
theorem f131_85 : zi_fe 131 85 = some ((.getfield 63), 3, 3, 1, 0, 328, 0) := (zl131_2 (Nat.le_of_ble_eq_true rfl)).trans rfl
theorem f131_88 : zi_fe 131 88 = some (.ireturn, 1, 0, 0, 0, 0, 0) := (zl131_2 (Nat.le_of_ble_eq_true rfl)).trans rfl
theorem f131_89 : zi_fe 131 89 = some ((.aload_n 0), 1, 0, 0, 0, 0, 0) := (zl131_2 (Nat.le_of_ble_eq_true rfl)).trans rfl
theorem f131_90 : zi_fe 131 90 = some ((.getfield 51), 3, 7, 7, 3, 418, 0) := (zl131_2 (Nat.le_of_ble_eq_true rfl)).trans rfl
theorem f131_93 : zi_fe 131 93 = some ((.getfield 281), 3, 2, 0, 3, 400, 0) := (zl131_2 (Nat.le_of_ble_eq_true rfl)).trans rfl
theorem f131_96 : zi_fe 131 96 = some ((.iconst 0), 1, 0, 0, 0, 0, 0) := (zl131_2 (Nat.le_of_ble_eq_true rfl)).trans rfl
theorem f131_97 : zi_fe 131 97 = some (.iaload, 1, 0, 0, 0, 0, 0) := (zl131_2 (Nat.le_of_ble_eq_true rfl)).trans rfl
theorem f131_98 : zi_fe 131 98 = some (.ireturn, 1, 0, 0, 0, 0, 0) := (zl131_2 (Nat.le_of_ble_eq_true rfl)).trans rfl
theorem f131_99 : zi_fe 131 99 = some ((.aload_n 0), 1, 0, 0, 0, 0, 0) := (zl131_2 (Nat.le_of_ble_eq_true rfl)).trans rfl
theorem zl131_3 {pc : Nat} (h : 100 ≤ pc) : zi_fe 131 pc = zu131_3.lookup pc := (zl131_2 (Nat.le_trans (Nat.le_of_ble_eq_true rfl) h)).trans (zi_lkA (a := zi_i131_2) (c := 100) rfl h)
theorem f131_100 : zi_fe 131 100 = some ((.getfield 12), 3, 7, 0, 3, 411, 0) := (zl131_3 (Nat.le_of_ble_eq_true rfl)).trans rfl
theorem f131_103 : zi_fe 131 103 = some ((.getfield 83), 3, 6, 0, 3, 255, 0) := (zl131_3 (Nat.le_of_ble_eq_true rfl)).trans rfl
theorem f131_106 : zi_fe 131 106 = some ((.invokevirtual 283), 3, 57, 0, 4, 1043, 1) := (zl131_3 (Nat.le_of_ble_eq_true rfl)).trans rfl
theorem f131_109 : zi_fe 131 109 = some (.ireturn, 1, 0, 0, 0, 0, 0) := (zl131_3 (Nat.le_of_ble_eq_true rfl)).trans rfl
theorem f131_110 : zi_fe 131 110 = some ((.aload_n 0), 1, 0, 0, 0, 0, 0) := (zl131_3 (Nat.le_of_ble_eq_true rfl)).trans rfl
theorem f131_111 : zi_fe 131 111 = some ((.getfield 12), 3, 7, 0, 3, 411, 0) := (zl131_3 (Nat.le_of_ble_eq_true rfl)).trans rfl
theorem f131_114 : zi_fe 131 114 = some ((.getfield 83), 3, 6, 0, 3, 255, 0) := (zl131_3 (Nat.le_of_ble_eq_true rfl)).trans rfl
theorem f131_117 : zi_fe 131 117 = some ((.invokevirtual 286), 3, 61, 0, 4, 1047, 1) := (zl131_3 (Nat.le_of_ble_eq_true rfl)).trans rfl
theorem f131_120 : zi_fe 131 120 = some (.ireturn, 1, 0, 0, 0, 0, 0) := (zl131_3 (Nat.le_of_ble_eq_true rfl)).trans rfl
theorem f131_121 : zi_fe 131 121 = some ((.iconst (-1)), 1, 0, 0, 0, 0, 0) := (zl131_3 (Nat.le_of_ble_eq_true rfl)).trans rfl
theorem f131_122 : zi_fe 131 122 = some (.ireturn, 1, 0, 0, 0, 0, 0) := (zl131_3 (Nat.le_of_ble_eq_true rfl)).trans rfl
theorem b131_0_c0 {h : zi_Hp} {a0 : Nat} {x1 : Int32}  (hx : x1 = 0) : zv 4 131 0 [.ref a0, .int x1] [] h = zv 4 131 40 [.ref a0, .int x1] [] h := by
  refine Eq.trans (zv_next f131_0 rfl) ?_
  exact zs_sw (off := 39) (v := 0) f131_1 (by decide) (by decide) rfl hx
theorem b131_0_c1 {h : zi_Hp} {a0 : Nat} {x1 : Int32}  (hx : x1 = 1) : zv 4 131 0 [.ref a0, .int x1] [] h = zv 4 131 51 [.ref a0, .int x1] [] h := by
  refine Eq.trans (zv_next f131_0 rfl) ?_
  exact zs_sw (off := 50) (v := 1) f131_1 (by decide) (by decide) rfl hx
theorem b131_0_c2 {h : zi_Hp} {a0 : Nat} {x1 : Int32}  (hx : x1 = 2) : zv 4 131 0 [.ref a0, .int x1] [] h = zv 4 131 81 [.ref a0, .int x1] [] h := by
  refine Eq.trans (zv_next f131_0 rfl) ?_
  exact zs_sw (off := 80) (v := 2) f131_1 (by decide) (by decide) rfl hx
theorem b131_0_c3 {h : zi_Hp} {a0 : Nat} {x1 : Int32}  (hx : x1 = 3) : zv 4 131 0 [.ref a0, .int x1] [] h = zv 4 131 89 [.ref a0, .int x1] [] h := by
  refine Eq.trans (zv_next f131_0 rfl) ?_
  exact zs_sw (off := 88) (v := 3) f131_1 (by decide) (by decide) rfl hx
theorem b131_0_c4 {h : zi_Hp} {a0 : Nat} {x1 : Int32}  (hx : x1 = 4) : zv 4 131 0 [.ref a0, .int x1] [] h = zv 4 131 99 [.ref a0, .int x1] [] h := by
  refine Eq.trans (zv_next f131_0 rfl) ?_
  exact zs_sw (off := 98) (v := 4) f131_1 (by decide) (by decide) rfl hx
theorem b131_0_c5 {h : zi_Hp} {a0 : Nat} {x1 : Int32}  (hx : x1 = 5) : zv 4 131 0 [.ref a0, .int x1] [] h = zv 4 131 110 [.ref a0, .int x1] [] h := by
  refine Eq.trans (zv_next f131_0 rfl) ?_
  exact zs_sw (off := 109) (v := 5) f131_1 (by decide) (by decide) rfl hx
theorem b131_0_d {h : zi_Hp} {a0 : Nat} {x1 : Int32}  (hx : (x1).toInt < 0 ∨ 5 < (x1).toInt) : zv 4 131 0 [.ref a0, .int x1] [] h = zv 4 131 121 [.ref a0, .int x1] [] h := by
  refine Eq.trans (zv_next f131_0 rfl) ?_
  exact zs_swO f131_1 rfl hx
theorem b131_40 {h : zi_Hp} {a0 : Nat} {x1 : Int32} (g0 : a0 < zh_n h) (g1 : (zh_k h a0).1 = 7) (g2 : zh_r h a0 0 = .ref (zq (zh_r h a0 0))) (g3 : (zq (zh_r h a0 0)) < zh_n h) (g4 : (zh_k h (zq (zh_r h a0 0))).1 = 6) (g5 : zh_r h (zq (zh_r h a0 0)) 0 = .ref (zq (zh_r h (zq (zh_r h a0 0)) 0))) (g6 : (zq (zh_r h (zq (zh_r h a0 0)) 0)) < zh_n h) (g7 : (zh_k h (zq (zh_r h (zq (zh_r h a0 0)) 0))).1 = 4) : zv 4 131 40 [.ref a0, .int x1] [] h = (zv 3 60 0 [.ref (zq (zh_r h (zq (zh_r h a0 0)) 0)), .double 0, .double 0] [] h).bind fun r => zv 4 131 50 [.ref a0, .int x1] (r.1.toList ++ []) r.2 := by
  refine Eq.trans (zv_next f131_40 rfl) ?_
  refine Eq.trans (zs_getr f131_41 g0 g1 g2) ?_
  refine Eq.trans (zs_getr f131_44 g3 g4 g5) ?_
  exact zs_callV f131_47 (Nat.le_of_ble_eq_true rfl) (Nat.le_of_ble_eq_true rfl) rfl g6 g7 me_60 (by decide) rfl
theorem b131_50 {h : zi_Hp} {a0 : Nat} {x1 : Int32} {s0 : Int32}  : zv 4 131 50 [.ref a0, .int x1] [.int s0] h = some (some (.int s0), h) := by
  exact zs_ret0 f131_50
theorem b131_51 {h : zi_Hp} {a0 : Nat} {x1 : Int32} (g0 : a0 < zh_n h) (g1 : (zh_k h a0).1 = 7) (g2 : zh_r h a0 3 = .ref (zq (zh_r h a0 3))) (g3 : (zq (zh_r h a0 3)) < zh_n h) (g4 : 0 < (zh_k h (zq (zh_r h a0 3))).2) (g5 : (zh_k h (zq (zh_r h a0 3))).1 = 101) : zv 4 131 51 [.ref a0, .int x1] [] h = if (zi_bI (zh_b h (zq (zh_r h a0 3)) 0)) = 0 then zv 4 131 64 [.ref a0, .int x1] [] h else zv 4 131 60 [.ref a0, .int x1] [] h := by
  refine Eq.trans (zv_next f131_51 rfl) ?_
  refine Eq.trans (zs_getr f131_52 g0 g1 g2) ?_
  refine Eq.trans (zs_ic f131_55 ic_0) ?_
  refine Eq.trans (zs_bald f131_56 g3 g5 (zj_lit (by decide) g4)) ?_
  exact zs_if f131_57 rfl
theorem b131_60 {h : zi_Hp} {a0 : Nat} {x1 : Int32}  : zv 4 131 60 [.ref a0, .int x1] [] h = zv 4 131 65 [.ref a0, .int x1] [.int 1] h := by
  refine Eq.trans (zs_ic f131_60 ic_1) ?_
  refine Eq.trans (zs_goto (tgt := 65) f131_61 rfl) ?_
  rfl
theorem b131_64 {h : zi_Hp} {a0 : Nat} {x1 : Int32}  : zv 4 131 64 [.ref a0, .int x1] [] h = zv 4 131 65 [.ref a0, .int x1] [.int 0] h := by
  refine Eq.trans (zs_ic f131_64 ic_0) ?_
  rfl
theorem b131_65 {h : zi_Hp} {a0 : Nat} {x1 : Int32} {s0 : Int32} (g0 : a0 < zh_n h) (g1 : (zh_k h a0).1 = 7) (g2 : zh_r h a0 3 = .ref (zq (zh_r h a0 3))) (g3 : (zq (zh_r h a0 3)) < zh_n h) (g4 : 1 < (zh_k h (zq (zh_r h a0 3))).2) (g5 : (zh_k h (zq (zh_r h a0 3))).1 = 101) : zv 4 131 65 [.ref a0, .int x1] [.int s0] h = if (zi_bI (zh_b h (zq (zh_r h a0 3)) 1)) = 0 then zv 4 131 78 [.ref a0, .int x1] [.int s0] h else zv 4 131 74 [.ref a0, .int x1] [.int s0] h := by
  refine Eq.trans (zv_next f131_65 rfl) ?_
  refine Eq.trans (zs_getr f131_66 g0 g1 g2) ?_
  refine Eq.trans (zs_ic f131_69 ic_1) ?_
  refine Eq.trans (zs_bald f131_70 g3 g5 (zj_lit (by decide) g4)) ?_
  exact zs_if f131_71 rfl
theorem b131_74 {h : zi_Hp} {a0 : Nat} {x1 : Int32} {s0 : Int32}  : zv 4 131 74 [.ref a0, .int x1] [.int s0] h = zv 4 131 79 [.ref a0, .int x1] [.int 1, .int s0] h := by
  refine Eq.trans (zs_ic f131_74 ic_1) ?_
  refine Eq.trans (zs_goto (tgt := 79) f131_75 rfl) ?_
  rfl
theorem b131_78 {h : zi_Hp} {a0 : Nat} {x1 : Int32} {s0 : Int32}  : zv 4 131 78 [.ref a0, .int x1] [.int s0] h = zv 4 131 79 [.ref a0, .int x1] [.int 0, .int s0] h := by
  refine Eq.trans (zs_ic f131_78 ic_0) ?_
  rfl
theorem b131_79 {h : zi_Hp} {a0 : Nat} {x1 : Int32} {s0 : Int32} {s1 : Int32}  : zv 4 131 79 [.ref a0, .int x1] [.int s1, .int s0] h = some (some (.int (s0 + s1)), h) := by
  refine Eq.trans (zv_next f131_79 rfl) ?_
  exact zs_ret0 f131_80
theorem b131_81 {h : zi_Hp} {a0 : Nat} {x1 : Int32} (g0 : a0 < zh_n h) (g1 : (zh_k h a0).1 = 7) (g2 : zh_r h a0 5 = .ref (zq (zh_r h a0 5))) (g3 : (zq (zh_r h a0 5)) < zh_n h) (g4 : (zh_k h (zq (zh_r h a0 5))).1 = 3) : zv 4 131 81 [.ref a0, .int x1] [] h = some (some (.int (zh_i h (zq (zh_r h a0 5)) 1)), h) := by
  refine Eq.trans (zv_next f131_81 rfl) ?_
  refine Eq.trans (zs_getr f131_82 g0 g1 g2) ?_
  refine Eq.trans (zs_geti f131_85 g3 g4) ?_
  exact zs_ret0 f131_88
theorem b131_89 {h : zi_Hp} {a0 : Nat} {x1 : Int32} (g0 : a0 < zh_n h) (g1 : (zh_k h a0).1 = 7) (g2 : zh_r h a0 7 = .ref (zq (zh_r h a0 7))) (g3 : (zq (zh_r h a0 7)) < zh_n h) (g4 : (zh_k h (zq (zh_r h a0 7))).1 = 2) (g5 : zh_r h (zq (zh_r h a0 7)) 0 = .ref (zq (zh_r h (zq (zh_r h a0 7)) 0))) (g6 : (zq (zh_r h (zq (zh_r h a0 7)) 0)) < zh_n h) (g7 : 0 < (zh_k h (zq (zh_r h (zq (zh_r h a0 7)) 0))).2) (g8 : (zh_k h (zq (zh_r h (zq (zh_r h a0 7)) 0))).1 = 100) : zv 4 131 89 [.ref a0, .int x1] [] h = some (some (.int (zh_i h (zq (zh_r h (zq (zh_r h a0 7)) 0)) 0)), h) := by
  refine Eq.trans (zv_next f131_89 rfl) ?_
  refine Eq.trans (zs_getr f131_90 g0 g1 g2) ?_
  refine Eq.trans (zs_getr f131_93 g3 g4 g5) ?_
  refine Eq.trans (zs_ic f131_96 ic_0) ?_
  refine Eq.trans (zs_iald f131_97 g6 g8 (zj_lit (by decide) g7)) ?_
  exact zs_ret0 f131_98
theorem b131_99 {h : zi_Hp} {a0 : Nat} {x1 : Int32} (g0 : a0 < zh_n h) (g1 : (zh_k h a0).1 = 7) (g2 : zh_r h a0 0 = .ref (zq (zh_r h a0 0))) (g3 : (zq (zh_r h a0 0)) < zh_n h) (g4 : (zh_k h (zq (zh_r h a0 0))).1 = 6) (g5 : zh_r h (zq (zh_r h a0 0)) 0 = .ref (zq (zh_r h (zq (zh_r h a0 0)) 0))) (g6 : (zq (zh_r h (zq (zh_r h a0 0)) 0)) < zh_n h) (g7 : (zh_k h (zq (zh_r h (zq (zh_r h a0 0)) 0))).1 = 4) : zv 4 131 99 [.ref a0, .int x1] [] h = (zv 2 57 0 [.ref (zq (zh_r h (zq (zh_r h a0 0)) 0)), .double 0, .double 0] [] h).bind fun r => zv 4 131 109 [.ref a0, .int x1] (r.1.toList ++ []) r.2 := by
  refine Eq.trans (zv_next f131_99 rfl) ?_
  refine Eq.trans (zs_getr f131_100 g0 g1 g2) ?_
  refine Eq.trans (zs_getr f131_103 g3 g4 g5) ?_
  exact zs_callV f131_106 (Nat.le_of_ble_eq_true rfl) (Nat.le_of_ble_eq_true rfl) rfl g6 g7 me_57 (by decide) rfl
theorem b131_109 {h : zi_Hp} {a0 : Nat} {x1 : Int32} {s0 : Int32}  : zv 4 131 109 [.ref a0, .int x1] [.int s0] h = some (some (.int s0), h) := by
  exact zs_ret0 f131_109
theorem b131_110 {h : zi_Hp} {a0 : Nat} {x1 : Int32} (g0 : a0 < zh_n h) (g1 : (zh_k h a0).1 = 7) (g2 : zh_r h a0 0 = .ref (zq (zh_r h a0 0))) (g3 : (zq (zh_r h a0 0)) < zh_n h) (g4 : (zh_k h (zq (zh_r h a0 0))).1 = 6) (g5 : zh_r h (zq (zh_r h a0 0)) 0 = .ref (zq (zh_r h (zq (zh_r h a0 0)) 0))) (g6 : (zq (zh_r h (zq (zh_r h a0 0)) 0)) < zh_n h) (g7 : (zh_k h (zq (zh_r h (zq (zh_r h a0 0)) 0))).1 = 4) : zv 4 131 110 [.ref a0, .int x1] [] h = (zv 1 61 0 [.ref (zq (zh_r h (zq (zh_r h a0 0)) 0)), .double 0, .double 0] [] h).bind fun r => zv 4 131 120 [.ref a0, .int x1] (r.1.toList ++ []) r.2 := by
  refine Eq.trans (zv_next f131_110 rfl) ?_
  refine Eq.trans (zs_getr f131_111 g0 g1 g2) ?_
  refine Eq.trans (zs_getr f131_114 g3 g4 g5) ?_
  exact zs_callV f131_117 (Nat.le_of_ble_eq_true rfl) (Nat.le_of_ble_eq_true rfl) rfl g6 g7 me_61 (by decide) rfl
theorem b131_120 {h : zi_Hp} {a0 : Nat} {x1 : Int32} {s0 : Int32}  : zv 4 131 120 [.ref a0, .int x1] [.int s0] h = some (some (.int s0), h) := by
  exact zs_ret0 f131_120
theorem b131_121 {h : zi_Hp} {a0 : Nat} {x1 : Int32}  : zv 4 131 121 [.ref a0, .int x1] [] h = some (some (.int (-1)), h) := by
  refine Eq.trans (zs_ic f131_121 ic_m1) ?_
  exact zs_ret0 f131_122
set_option maxRecDepth 20000 in
theorem zq132 : zi_M[132]? = some zi_m132 := rfl
theorem zl132_0 {pc : Nat} (_ : 0 ≤ pc) : zi_fe 132 pc = zu132_0.lookup pc := zi_feA zq132 pc
theorem f132_0 : zi_fe 132 0 = some ((.iload_n 1), 1, 0, 0, 0, 0, 0) := (zl132_0 (Nat.le_of_ble_eq_true rfl)).trans rfl
theorem f132_1 : zi_fe 132 1 = some ((.invokestatic 159), 3, 134, 1, 7, 810, 1) := (zl132_0 (Nat.le_of_ble_eq_true rfl)).trans rfl
theorem f132_4 : zi_fe 132 4 = some ((.ifCond .eq 21), 3, 0, 0, 0, 0, 0) := (zl132_0 (Nat.le_of_ble_eq_true rfl)).trans rfl
theorem f132_7 : zi_fe 132 7 = some ((.aload_n 0), 1, 0, 0, 0, 0, 0) := (zl132_0 (Nat.le_of_ble_eq_true rfl)).trans rfl
theorem f132_8 : zi_fe 132 8 = some ((.getfield 12), 3, 7, 0, 3, 411, 0) := (zl132_0 (Nat.le_of_ble_eq_true rfl)).trans rfl
theorem f132_11 : zi_fe 132 11 = some ((.iconst 1), 1, 0, 0, 0, 0, 0) := (zl132_0 (Nat.le_of_ble_eq_true rfl)).trans rfl
theorem f132_12 : zi_fe 132 12 = some ((.iload_n 1), 1, 0, 0, 0, 0, 0) := (zl132_0 (Nat.le_of_ble_eq_true rfl)).trans rfl
theorem f132_13 : zi_fe 132 13 = some ((.invokevirtual 289), 3, 78, 0, 6, 1030, 3) := (zl132_0 (Nat.le_of_ble_eq_true rfl)).trans rfl
theorem f132_16 : zi_fe 132 16 = some ((.bipush (-3)), 2, 0, 0, 0, 0, 0) := (zl132_0 (Nat.le_of_ble_eq_true rfl)).trans rfl
theorem f132_18 : zi_fe 132 18 = some ((.if_icmp .eq 7), 3, 0, 0, 0, 0, 0) := (zl132_0 (Nat.le_of_ble_eq_true rfl)).trans rfl
theorem f132_21 : zi_fe 132 21 = some ((.iconst 1), 1, 0, 0, 0, 0, 0) := (zl132_0 (Nat.le_of_ble_eq_true rfl)).trans rfl
theorem f132_22 : zi_fe 132 22 = some ((.goto 4), 3, 0, 0, 0, 0, 0) := (zl132_0 (Nat.le_of_ble_eq_true rfl)).trans rfl
theorem zl132_1 {pc : Nat} (h : 25 ≤ pc) : zi_fe 132 pc = zu132_1.lookup pc := (zl132_0 (Nat.le_trans (Nat.le_of_ble_eq_true rfl) h)).trans (zi_lkA (a := zi_i132_0) (c := 25) rfl h)
theorem f132_25 : zi_fe 132 25 = some ((.iconst 0), 1, 0, 0, 0, 0, 0) := (zl132_1 (Nat.le_of_ble_eq_true rfl)).trans rfl
theorem f132_26 : zi_fe 132 26 = some (.ireturn, 1, 1, 0, 0, 0, 0) := (zl132_1 (Nat.le_of_ble_eq_true rfl)).trans rfl
theorem b132_0 {h : zi_Hp} {a0 : Nat} {x1 : Int32}  : zv 7 132 0 [.ref a0, .int x1] [] h = (zv 1 134 0 [.int x1] [] h).bind fun r => zv 7 132 4 [.ref a0, .int x1] (r.1.toList ++ []) r.2 := by
  refine Eq.trans (zv_next f132_0 rfl) ?_
  exact zs_callS f132_1 (by decide) (Nat.le_of_ble_eq_true rfl) (Nat.le_of_ble_eq_true rfl) rfl me_134 (by decide) rfl
theorem b132_4 {h : zi_Hp} {a0 : Nat} {x1 : Int32} {s0 : Int32}  : zv 7 132 4 [.ref a0, .int x1] [.int s0] h = if s0 = 0 then zv 7 132 25 [.ref a0, .int x1] [] h else zv 7 132 7 [.ref a0, .int x1] [] h := by
  exact zs_if f132_4 rfl
theorem b132_7 {h : zi_Hp} {a0 : Nat} {x1 : Int32} (g0 : a0 < zh_n h) (g1 : (zh_k h a0).1 = 7) (g2 : zh_r h a0 0 = .ref (zq (zh_r h a0 0))) (g3 : (zq (zh_r h a0 0)) < zh_n h) (g4 : (zh_k h (zq (zh_r h a0 0))).1 = 6) : zv 7 132 7 [.ref a0, .int x1] [] h = (zv 6 78 0 [.ref (zq (zh_r h a0 0)), .int 1, .int x1, .double 0, .double 0] [] h).bind fun r => zv 7 132 16 [.ref a0, .int x1] (r.1.toList ++ []) r.2 := by
  refine Eq.trans (zv_next f132_7 rfl) ?_
  refine Eq.trans (zs_getr f132_8 g0 g1 g2) ?_
  refine Eq.trans (zs_ic f132_11 ic_1) ?_
  refine Eq.trans (zv_next f132_12 rfl) ?_
  exact zs_callV f132_13 (Nat.le_of_ble_eq_true rfl) (Nat.le_of_ble_eq_true rfl) rfl g3 g4 me_78 (by decide) rfl
theorem b132_16 {h : zi_Hp} {a0 : Nat} {x1 : Int32} {s0 : Int32}  : zv 7 132 16 [.ref a0, .int x1] [.int s0] h = if s0 = (-3) then zv 7 132 25 [.ref a0, .int x1] [] h else zv 7 132 21 [.ref a0, .int x1] [] h := by
  refine Eq.trans (zs_bp f132_16 bp_m3) ?_
  exact zs_icmp f132_18 rfl
theorem b132_21 {h : zi_Hp} {a0 : Nat} {x1 : Int32}  : zv 7 132 21 [.ref a0, .int x1] [] h = zv 7 132 26 [.ref a0, .int x1] [.int 1] h := by
  refine Eq.trans (zs_ic f132_21 ic_1) ?_
  refine Eq.trans (zs_goto (tgt := 26) f132_22 rfl) ?_
  rfl
theorem b132_25 {h : zi_Hp} {a0 : Nat} {x1 : Int32}  : zv 7 132 25 [.ref a0, .int x1] [] h = zv 7 132 26 [.ref a0, .int x1] [.int 0] h := by
  refine Eq.trans (zs_ic f132_25 ic_0) ?_
  rfl
theorem b132_26 {h : zi_Hp} {a0 : Nat} {x1 : Int32} {s0 : Int32} (g0 : s0 = 0 ∨ s0 = 1) : zv 7 132 26 [.ref a0, .int x1] [.int s0] h = some (some (.int s0), h) := by
  exact zs_ret1 f132_26 g0
set_option maxRecDepth 20000 in
theorem zq133 : zi_M[133]? = some zi_m133 := rfl
theorem zl133_0 {pc : Nat} (_ : 0 ≤ pc) : zi_fe 133 pc = zu133_0.lookup pc := zi_feA zq133 pc
theorem f133_0 : zi_fe 133 0 = some ((.iload_n 0), 1, 0, 0, 0, 0, 0) := (zl133_0 (Nat.le_of_ble_eq_true rfl)).trans rfl
theorem f133_1 : zi_fe 133 1 = some ((.ifCond .lt 12), 3, 0, 0, 0, 0, 0) := (zl133_0 (Nat.le_of_ble_eq_true rfl)).trans rfl
theorem f133_4 : zi_fe 133 4 = some ((.iload_n 0), 1, 0, 0, 0, 0, 0) := (zl133_0 (Nat.le_of_ble_eq_true rfl)).trans rfl
theorem f133_5 : zi_fe 133 5 = some ((.iconst 3), 1, 0, 0, 0, 0, 0) := (zl133_0 (Nat.le_of_ble_eq_true rfl)).trans rfl
theorem f133_6 : zi_fe 133 6 = some ((.if_icmp .ge 7), 3, 0, 0, 0, 0, 0) := (zl133_0 (Nat.le_of_ble_eq_true rfl)).trans rfl
theorem f133_9 : zi_fe 133 9 = some ((.iconst 1), 1, 0, 0, 0, 0, 0) := (zl133_0 (Nat.le_of_ble_eq_true rfl)).trans rfl
theorem f133_10 : zi_fe 133 10 = some ((.goto 4), 3, 0, 0, 0, 0, 0) := (zl133_0 (Nat.le_of_ble_eq_true rfl)).trans rfl
theorem f133_13 : zi_fe 133 13 = some ((.iconst 0), 1, 0, 0, 0, 0, 0) := (zl133_0 (Nat.le_of_ble_eq_true rfl)).trans rfl
theorem f133_14 : zi_fe 133 14 = some (.ireturn, 1, 1, 0, 0, 0, 0) := (zl133_0 (Nat.le_of_ble_eq_true rfl)).trans rfl
theorem b133_0 {h : zi_Hp} {x0 : Int32}  : zv 1 133 0 [.int x0] [] h = if x0 < 0 then zv 1 133 13 [.int x0] [] h else zv 1 133 4 [.int x0] [] h := by
  refine Eq.trans (zv_next f133_0 rfl) ?_
  exact zs_if f133_1 rfl
theorem b133_4 {h : zi_Hp} {x0 : Int32}  : zv 1 133 4 [.int x0] [] h = if x0 < 3 then zv 1 133 9 [.int x0] [] h else zv 1 133 13 [.int x0] [] h := by
  refine Eq.trans (zv_next f133_4 rfl) ?_
  refine Eq.trans (zs_ic f133_5 ic_3) ?_
  exact zs_icmp f133_6 rfl
theorem b133_9 {h : zi_Hp} {x0 : Int32}  : zv 1 133 9 [.int x0] [] h = zv 1 133 14 [.int x0] [.int 1] h := by
  refine Eq.trans (zs_ic f133_9 ic_1) ?_
  refine Eq.trans (zs_goto (tgt := 14) f133_10 rfl) ?_
  rfl
theorem b133_13 {h : zi_Hp} {x0 : Int32}  : zv 1 133 13 [.int x0] [] h = zv 1 133 14 [.int x0] [.int 0] h := by
  refine Eq.trans (zs_ic f133_13 ic_0) ?_
  rfl
theorem b133_14 {h : zi_Hp} {x0 : Int32} {s0 : Int32} (g0 : s0 = 0 ∨ s0 = 1) : zv 1 133 14 [.int x0] [.int s0] h = some (some (.int s0), h) := by
  exact zs_ret1 f133_14 g0
set_option maxRecDepth 20000 in
theorem zq134 : zi_M[134]? = some zi_m134 := rfl
theorem zl134_0 {pc : Nat} (_ : 0 ≤ pc) : zi_fe 134 pc = zu134_0.lookup pc := zi_feA zq134 pc
theorem f134_0 : zi_fe 134 0 = some ((.iload_n 0), 1, 0, 0, 0, 0, 0) := (zl134_0 (Nat.le_of_ble_eq_true rfl)).trans rfl
theorem f134_1 : zi_fe 134 1 = some ((.ifCond .lt 13), 3, 0, 0, 0, 0, 0) := (zl134_0 (Nat.le_of_ble_eq_true rfl)).trans rfl
theorem f134_4 : zi_fe 134 4 = some ((.iload_n 0), 1, 0, 0, 0, 0, 0) := (zl134_0 (Nat.le_of_ble_eq_true rfl)).trans rfl
theorem f134_5 : zi_fe 134 5 = some ((.bipush 100), 2, 0, 0, 0, 0, 0) := (zl134_0 (Nat.le_of_ble_eq_true rfl)).trans rfl
theorem f134_7 : zi_fe 134 7 = some ((.if_icmp .ge 7), 3, 0, 0, 0, 0, 0) := (zl134_0 (Nat.le_of_ble_eq_true rfl)).trans rfl
theorem f134_10 : zi_fe 134 10 = some ((.iconst 1), 1, 0, 0, 0, 0, 0) := (zl134_0 (Nat.le_of_ble_eq_true rfl)).trans rfl
theorem f134_11 : zi_fe 134 11 = some ((.goto 4), 3, 0, 0, 0, 0, 0) := (zl134_0 (Nat.le_of_ble_eq_true rfl)).trans rfl
theorem f134_14 : zi_fe 134 14 = some ((.iconst 0), 1, 0, 0, 0, 0, 0) := (zl134_0 (Nat.le_of_ble_eq_true rfl)).trans rfl
theorem f134_15 : zi_fe 134 15 = some (.ireturn, 1, 1, 0, 0, 0, 0) := (zl134_0 (Nat.le_of_ble_eq_true rfl)).trans rfl
theorem b134_0 {h : zi_Hp} {x0 : Int32}  : zv 1 134 0 [.int x0] [] h = if x0 < 0 then zv 1 134 14 [.int x0] [] h else zv 1 134 4 [.int x0] [] h := by
  refine Eq.trans (zv_next f134_0 rfl) ?_
  exact zs_if f134_1 rfl
theorem b134_4 {h : zi_Hp} {x0 : Int32}  : zv 1 134 4 [.int x0] [] h = if x0 < 100 then zv 1 134 10 [.int x0] [] h else zv 1 134 14 [.int x0] [] h := by
  refine Eq.trans (zv_next f134_4 rfl) ?_
  refine Eq.trans (zs_bp f134_5 bp_100) ?_
  exact zs_icmp f134_7 rfl
theorem b134_10 {h : zi_Hp} {x0 : Int32}  : zv 1 134 10 [.int x0] [] h = zv 1 134 15 [.int x0] [.int 1] h := by
  refine Eq.trans (zs_ic f134_10 ic_1) ?_
  refine Eq.trans (zs_goto (tgt := 15) f134_11 rfl) ?_
  rfl
theorem b134_14 {h : zi_Hp} {x0 : Int32}  : zv 1 134 14 [.int x0] [] h = zv 1 134 15 [.int x0] [.int 0] h := by
  refine Eq.trans (zs_ic f134_14 ic_0) ?_
  rfl
theorem b134_15 {h : zi_Hp} {x0 : Int32} {s0 : Int32} (g0 : s0 = 0 ∨ s0 = 1) : zv 1 134 15 [.int x0] [.int s0] h = some (some (.int s0), h) := by
  exact zs_ret1 f134_15 g0
set_option maxRecDepth 20000 in
theorem zq135 : zi_M[135]? = some zi_m135 := rfl
theorem zl135_0 {pc : Nat} (_ : 0 ≤ pc) : zi_fe 135 pc = zu135_0.lookup pc := zi_feA zq135 pc
theorem f135_0 : zi_fe 135 0 = some ((.iload_n 0), 1, 0, 0, 0, 0, 0) := (zl135_0 (Nat.le_of_ble_eq_true rfl)).trans rfl
theorem f135_1 : zi_fe 135 1 = some ((.ifCond .lt 13), 3, 0, 0, 0, 0, 0) := (zl135_0 (Nat.le_of_ble_eq_true rfl)).trans rfl
theorem f135_4 : zi_fe 135 4 = some ((.iload_n 0), 1, 0, 0, 0, 0, 0) := (zl135_0 (Nat.le_of_ble_eq_true rfl)).trans rfl
theorem f135_5 : zi_fe 135 5 = some ((.bipush 7), 2, 0, 0, 0, 0, 0) := (zl135_0 (Nat.le_of_ble_eq_true rfl)).trans rfl
theorem f135_7 : zi_fe 135 7 = some ((.if_icmp .gt 7), 3, 0, 0, 0, 0, 0) := (zl135_0 (Nat.le_of_ble_eq_true rfl)).trans rfl
theorem f135_10 : zi_fe 135 10 = some ((.iconst 1), 1, 0, 0, 0, 0, 0) := (zl135_0 (Nat.le_of_ble_eq_true rfl)).trans rfl
theorem f135_11 : zi_fe 135 11 = some ((.goto 4), 3, 0, 0, 0, 0, 0) := (zl135_0 (Nat.le_of_ble_eq_true rfl)).trans rfl
theorem f135_14 : zi_fe 135 14 = some ((.iconst 0), 1, 0, 0, 0, 0, 0) := (zl135_0 (Nat.le_of_ble_eq_true rfl)).trans rfl
theorem f135_15 : zi_fe 135 15 = some (.ireturn, 1, 1, 0, 0, 0, 0) := (zl135_0 (Nat.le_of_ble_eq_true rfl)).trans rfl
theorem b135_0 {h : zi_Hp} {x0 : Int32}  : zv 1 135 0 [.int x0] [] h = if x0 < 0 then zv 1 135 14 [.int x0] [] h else zv 1 135 4 [.int x0] [] h := by
  refine Eq.trans (zv_next f135_0 rfl) ?_
  exact zs_if f135_1 rfl
theorem b135_4 {h : zi_Hp} {x0 : Int32}  : zv 1 135 4 [.int x0] [] h = if 7 < x0 then zv 1 135 14 [.int x0] [] h else zv 1 135 10 [.int x0] [] h := by
  refine Eq.trans (zv_next f135_4 rfl) ?_
  refine Eq.trans (zs_bp f135_5 bp_7) ?_
  exact zs_icmp f135_7 rfl
theorem b135_10 {h : zi_Hp} {x0 : Int32}  : zv 1 135 10 [.int x0] [] h = zv 1 135 15 [.int x0] [.int 1] h := by
  refine Eq.trans (zs_ic f135_10 ic_1) ?_
  refine Eq.trans (zs_goto (tgt := 15) f135_11 rfl) ?_
  rfl
theorem b135_14 {h : zi_Hp} {x0 : Int32}  : zv 1 135 14 [.int x0] [] h = zv 1 135 15 [.int x0] [.int 0] h := by
  refine Eq.trans (zs_ic f135_14 ic_0) ?_
  rfl
theorem b135_15 {h : zi_Hp} {x0 : Int32} {s0 : Int32} (g0 : s0 = 0 ∨ s0 = 1) : zv 1 135 15 [.int x0] [.int s0] h = some (some (.int s0), h) := by
  exact zs_ret1 f135_15 g0
set_option maxRecDepth 20000 in
theorem zq136 : zi_M[136]? = some zi_m136 := rfl
theorem zl136_0 {pc : Nat} (_ : 0 ≤ pc) : zi_fe 136 pc = zu136_0.lookup pc := zi_feA zq136 pc
theorem f136_0 : zi_fe 136 0 = some ((.iload_n 0), 1, 0, 0, 0, 0, 0) := (zl136_0 (Nat.le_of_ble_eq_true rfl)).trans rfl
theorem f136_1 : zi_fe 136 1 = some ((.ifCond .eq 8), 3, 0, 0, 0, 0, 0) := (zl136_0 (Nat.le_of_ble_eq_true rfl)).trans rfl
theorem f136_4 : zi_fe 136 4 = some ((.iload_n 0), 1, 0, 0, 0, 0, 0) := (zl136_0 (Nat.le_of_ble_eq_true rfl)).trans rfl
theorem f136_5 : zi_fe 136 5 = some ((.iconst 1), 1, 0, 0, 0, 0, 0) := (zl136_0 (Nat.le_of_ble_eq_true rfl)).trans rfl
theorem f136_6 : zi_fe 136 6 = some ((.if_icmp .ne 7), 3, 0, 0, 0, 0, 0) := (zl136_0 (Nat.le_of_ble_eq_true rfl)).trans rfl
theorem f136_9 : zi_fe 136 9 = some ((.iconst 1), 1, 0, 0, 0, 0, 0) := (zl136_0 (Nat.le_of_ble_eq_true rfl)).trans rfl
theorem f136_10 : zi_fe 136 10 = some ((.goto 4), 3, 0, 0, 0, 0, 0) := (zl136_0 (Nat.le_of_ble_eq_true rfl)).trans rfl
theorem f136_13 : zi_fe 136 13 = some ((.iconst 0), 1, 0, 0, 0, 0, 0) := (zl136_0 (Nat.le_of_ble_eq_true rfl)).trans rfl
theorem f136_14 : zi_fe 136 14 = some (.ireturn, 1, 1, 0, 0, 0, 0) := (zl136_0 (Nat.le_of_ble_eq_true rfl)).trans rfl
theorem b136_0 {h : zi_Hp} {x0 : Int32}  : zv 1 136 0 [.int x0] [] h = if x0 = 0 then zv 1 136 9 [.int x0] [] h else zv 1 136 4 [.int x0] [] h := by
  refine Eq.trans (zv_next f136_0 rfl) ?_
  exact zs_if f136_1 rfl
theorem b136_4 {h : zi_Hp} {x0 : Int32}  : zv 1 136 4 [.int x0] [] h = if x0 = 1 then zv 1 136 9 [.int x0] [] h else zv 1 136 13 [.int x0] [] h := by
  refine Eq.trans (zv_next f136_4 rfl) ?_
  refine Eq.trans (zs_ic f136_5 ic_1) ?_
  exact zs_icmp f136_6 rfl
theorem b136_9 {h : zi_Hp} {x0 : Int32}  : zv 1 136 9 [.int x0] [] h = zv 1 136 14 [.int x0] [.int 1] h := by
  refine Eq.trans (zs_ic f136_9 ic_1) ?_
  refine Eq.trans (zs_goto (tgt := 14) f136_10 rfl) ?_
  rfl
theorem b136_13 {h : zi_Hp} {x0 : Int32}  : zv 1 136 13 [.int x0] [] h = zv 1 136 14 [.int x0] [.int 0] h := by
  refine Eq.trans (zs_ic f136_13 ic_0) ?_
  rfl
theorem b136_14 {h : zi_Hp} {x0 : Int32} {s0 : Int32} (g0 : s0 = 0 ∨ s0 = 1) : zv 1 136 14 [.int x0] [.int s0] h = some (some (.int s0), h) := by
  exact zs_ret1 f136_14 g0
set_option maxRecDepth 20000 in
theorem zq137 : zi_M[137]? = some zi_m137 := rfl
theorem zl137_0 {pc : Nat} (_ : 0 ≤ pc) : zi_fe 137 pc = zu137_0.lookup pc := zi_feA zq137 pc
theorem f137_0 : zi_fe 137 0 = some ((.iload_n 0), 1, 0, 0, 0, 0, 0) := (zl137_0 (Nat.le_of_ble_eq_true rfl)).trans rfl
theorem f137_1 : zi_fe 137 1 = some ((.ifCond .lt 12), 3, 0, 0, 0, 0, 0) := (zl137_0 (Nat.le_of_ble_eq_true rfl)).trans rfl
theorem f137_4 : zi_fe 137 4 = some ((.iload_n 0), 1, 0, 0, 0, 0, 0) := (zl137_0 (Nat.le_of_ble_eq_true rfl)).trans rfl
theorem f137_5 : zi_fe 137 5 = some ((.iconst 2), 1, 0, 0, 0, 0, 0) := (zl137_0 (Nat.le_of_ble_eq_true rfl)).trans rfl
theorem f137_6 : zi_fe 137 6 = some ((.if_icmp .ge 7), 3, 0, 0, 0, 0, 0) := (zl137_0 (Nat.le_of_ble_eq_true rfl)).trans rfl
theorem f137_9 : zi_fe 137 9 = some ((.iconst 1), 1, 0, 0, 0, 0, 0) := (zl137_0 (Nat.le_of_ble_eq_true rfl)).trans rfl
theorem f137_10 : zi_fe 137 10 = some ((.goto 4), 3, 0, 0, 0, 0, 0) := (zl137_0 (Nat.le_of_ble_eq_true rfl)).trans rfl
theorem f137_13 : zi_fe 137 13 = some ((.iconst 0), 1, 0, 0, 0, 0, 0) := (zl137_0 (Nat.le_of_ble_eq_true rfl)).trans rfl
theorem f137_14 : zi_fe 137 14 = some (.ireturn, 1, 1, 0, 0, 0, 0) := (zl137_0 (Nat.le_of_ble_eq_true rfl)).trans rfl
theorem b137_0 {h : zi_Hp} {x0 : Int32}  : zv 1 137 0 [.int x0] [] h = if x0 < 0 then zv 1 137 13 [.int x0] [] h else zv 1 137 4 [.int x0] [] h := by
  refine Eq.trans (zv_next f137_0 rfl) ?_
  exact zs_if f137_1 rfl
theorem b137_4 {h : zi_Hp} {x0 : Int32}  : zv 1 137 4 [.int x0] [] h = if x0 < 2 then zv 1 137 9 [.int x0] [] h else zv 1 137 13 [.int x0] [] h := by
  refine Eq.trans (zv_next f137_4 rfl) ?_
  refine Eq.trans (zs_ic f137_5 ic_2) ?_
  exact zs_icmp f137_6 rfl
theorem b137_9 {h : zi_Hp} {x0 : Int32}  : zv 1 137 9 [.int x0] [] h = zv 1 137 14 [.int x0] [.int 1] h := by
  refine Eq.trans (zs_ic f137_9 ic_1) ?_
  refine Eq.trans (zs_goto (tgt := 14) f137_10 rfl) ?_
  rfl
theorem b137_13 {h : zi_Hp} {x0 : Int32}  : zv 1 137 13 [.int x0] [] h = zv 1 137 14 [.int x0] [.int 0] h := by
  refine Eq.trans (zs_ic f137_13 ic_0) ?_
  rfl
theorem b137_14 {h : zi_Hp} {x0 : Int32} {s0 : Int32} (g0 : s0 = 0 ∨ s0 = 1) : zv 1 137 14 [.int x0] [.int s0] h = some (some (.int s0), h) := by
  exact zs_ret1 f137_14 g0
set_option maxRecDepth 20000 in
theorem zq138 : zi_M[138]? = some zi_m138 := rfl
theorem zl138_0 {pc : Nat} (_ : 0 ≤ pc) : zi_fe 138 pc = zu138_0.lookup pc := zi_feA zq138 pc
theorem f138_0 : zi_fe 138 0 = some ((.iload_n 0), 1, 0, 0, 0, 0, 0) := (zl138_0 (Nat.le_of_ble_eq_true rfl)).trans rfl
theorem f138_1 : zi_fe 138 1 = some ((.ifCond .lt 12), 3, 0, 0, 0, 0, 0) := (zl138_0 (Nat.le_of_ble_eq_true rfl)).trans rfl
theorem f138_4 : zi_fe 138 4 = some ((.iload_n 0), 1, 0, 0, 0, 0, 0) := (zl138_0 (Nat.le_of_ble_eq_true rfl)).trans rfl
theorem f138_5 : zi_fe 138 5 = some ((.iconst 4), 1, 0, 0, 0, 0, 0) := (zl138_0 (Nat.le_of_ble_eq_true rfl)).trans rfl
theorem f138_6 : zi_fe 138 6 = some ((.if_icmp .ge 7), 3, 0, 0, 0, 0, 0) := (zl138_0 (Nat.le_of_ble_eq_true rfl)).trans rfl
theorem f138_9 : zi_fe 138 9 = some ((.iconst 1), 1, 0, 0, 0, 0, 0) := (zl138_0 (Nat.le_of_ble_eq_true rfl)).trans rfl
theorem f138_10 : zi_fe 138 10 = some ((.goto 4), 3, 0, 0, 0, 0, 0) := (zl138_0 (Nat.le_of_ble_eq_true rfl)).trans rfl
theorem f138_13 : zi_fe 138 13 = some ((.iconst 0), 1, 0, 0, 0, 0, 0) := (zl138_0 (Nat.le_of_ble_eq_true rfl)).trans rfl
theorem f138_14 : zi_fe 138 14 = some (.ireturn, 1, 1, 0, 0, 0, 0) := (zl138_0 (Nat.le_of_ble_eq_true rfl)).trans rfl
theorem b138_0 {h : zi_Hp} {x0 : Int32}  : zv 1 138 0 [.int x0] [] h = if x0 < 0 then zv 1 138 13 [.int x0] [] h else zv 1 138 4 [.int x0] [] h := by
  refine Eq.trans (zv_next f138_0 rfl) ?_
  exact zs_if f138_1 rfl
theorem b138_4 {h : zi_Hp} {x0 : Int32}  : zv 1 138 4 [.int x0] [] h = if x0 < 4 then zv 1 138 9 [.int x0] [] h else zv 1 138 13 [.int x0] [] h := by
  refine Eq.trans (zv_next f138_4 rfl) ?_
  refine Eq.trans (zs_ic f138_5 ic_4) ?_
  exact zs_icmp f138_6 rfl
theorem b138_9 {h : zi_Hp} {x0 : Int32}  : zv 1 138 9 [.int x0] [] h = zv 1 138 14 [.int x0] [.int 1] h := by
  refine Eq.trans (zs_ic f138_9 ic_1) ?_
  refine Eq.trans (zs_goto (tgt := 14) f138_10 rfl) ?_
  rfl
theorem b138_13 {h : zi_Hp} {x0 : Int32}  : zv 1 138 13 [.int x0] [] h = zv 1 138 14 [.int x0] [.int 0] h := by
  refine Eq.trans (zs_ic f138_13 ic_0) ?_
  rfl
theorem b138_14 {h : zi_Hp} {x0 : Int32} {s0 : Int32} (g0 : s0 = 0 ∨ s0 = 1) : zv 1 138 14 [.int x0] [.int s0] h = some (some (.int s0), h) := by
  exact zs_ret1 f138_14 g0
set_option maxRecDepth 20000 in
theorem zq139 : zi_M[139]? = some zi_m139 := rfl
theorem zl139_0 {pc : Nat} (_ : 0 ≤ pc) : zi_fe 139 pc = zu139_0.lookup pc := zi_feA zq139 pc
theorem f139_0 : zi_fe 139 0 = some ((.iload_n 0), 1, 0, 0, 0, 0, 0) := (zl139_0 (Nat.le_of_ble_eq_true rfl)).trans rfl
theorem f139_1 : zi_fe 139 1 = some ((.ifCond .lt 12), 3, 0, 0, 0, 0, 0) := (zl139_0 (Nat.le_of_ble_eq_true rfl)).trans rfl
theorem f139_4 : zi_fe 139 4 = some ((.iload_n 0), 1, 0, 0, 0, 0, 0) := (zl139_0 (Nat.le_of_ble_eq_true rfl)).trans rfl
theorem f139_5 : zi_fe 139 5 = some ((.iconst 3), 1, 0, 0, 0, 0, 0) := (zl139_0 (Nat.le_of_ble_eq_true rfl)).trans rfl
theorem f139_6 : zi_fe 139 6 = some ((.if_icmp .ge 7), 3, 0, 0, 0, 0, 0) := (zl139_0 (Nat.le_of_ble_eq_true rfl)).trans rfl
theorem f139_9 : zi_fe 139 9 = some ((.iconst 1), 1, 0, 0, 0, 0, 0) := (zl139_0 (Nat.le_of_ble_eq_true rfl)).trans rfl
theorem f139_10 : zi_fe 139 10 = some ((.goto 4), 3, 0, 0, 0, 0, 0) := (zl139_0 (Nat.le_of_ble_eq_true rfl)).trans rfl
theorem f139_13 : zi_fe 139 13 = some ((.iconst 0), 1, 0, 0, 0, 0, 0) := (zl139_0 (Nat.le_of_ble_eq_true rfl)).trans rfl
theorem f139_14 : zi_fe 139 14 = some (.ireturn, 1, 1, 0, 0, 0, 0) := (zl139_0 (Nat.le_of_ble_eq_true rfl)).trans rfl
theorem b139_0 {h : zi_Hp} {x0 : Int32}  : zv 1 139 0 [.int x0] [] h = if x0 < 0 then zv 1 139 13 [.int x0] [] h else zv 1 139 4 [.int x0] [] h := by
  refine Eq.trans (zv_next f139_0 rfl) ?_
  exact zs_if f139_1 rfl
theorem b139_4 {h : zi_Hp} {x0 : Int32}  : zv 1 139 4 [.int x0] [] h = if x0 < 3 then zv 1 139 9 [.int x0] [] h else zv 1 139 13 [.int x0] [] h := by
  refine Eq.trans (zv_next f139_4 rfl) ?_
  refine Eq.trans (zs_ic f139_5 ic_3) ?_
  exact zs_icmp f139_6 rfl
theorem b139_9 {h : zi_Hp} {x0 : Int32}  : zv 1 139 9 [.int x0] [] h = zv 1 139 14 [.int x0] [.int 1] h := by
  refine Eq.trans (zs_ic f139_9 ic_1) ?_
  refine Eq.trans (zs_goto (tgt := 14) f139_10 rfl) ?_
  rfl
theorem b139_13 {h : zi_Hp} {x0 : Int32}  : zv 1 139 13 [.int x0] [] h = zv 1 139 14 [.int x0] [.int 0] h := by
  refine Eq.trans (zs_ic f139_13 ic_0) ?_
  rfl
theorem b139_14 {h : zi_Hp} {x0 : Int32} {s0 : Int32} (g0 : s0 = 0 ∨ s0 = 1) : zv 1 139 14 [.int x0] [.int s0] h = some (some (.int s0), h) := by
  exact zs_ret1 f139_14 g0
set_option maxRecDepth 20000 in
theorem zq140 : zi_M[140]? = some zi_m140 := rfl
theorem zl140_0 {pc : Nat} (_ : 0 ≤ pc) : zi_fe 140 pc = zu140_0.lookup pc := zi_feA zq140 pc
theorem f140_0 : zi_fe 140 0 = some ((.lload_n 0), 1, 0, 0, 0, 0, 0) := (zl140_0 (Nat.le_of_ble_eq_true rfl)).trans rfl
theorem f140_1 : zi_fe 140 1 = some ((.lstore 4), 2, 0, 0, 0, 0, 0) := (zl140_0 (Nat.le_of_ble_eq_true rfl)).trans rfl
theorem f140_3 : zi_fe 140 3 = some ((.lload_n 2), 1, 0, 0, 0, 0, 0) := (zl140_0 (Nat.le_of_ble_eq_true rfl)).trans rfl
theorem f140_4 : zi_fe 140 4 = some ((.lstore 6), 2, 0, 0, 0, 0, 0) := (zl140_0 (Nat.le_of_ble_eq_true rfl)).trans rfl
theorem f140_6 : zi_fe 140 6 = some ((.iconst 0), 1, 0, 0, 0, 0, 0) := (zl140_0 (Nat.le_of_ble_eq_true rfl)).trans rfl
theorem f140_7 : zi_fe 140 7 = some ((.istore 8), 2, 0, 0, 0, 0, 0) := (zl140_0 (Nat.le_of_ble_eq_true rfl)).trans rfl
theorem f140_9 : zi_fe 140 9 = some ((.iload 8), 2, 0, 0, 0, 0, 0) := (zl140_0 (Nat.le_of_ble_eq_true rfl)).trans rfl
theorem f140_11 : zi_fe 140 11 = some ((.bipush 100), 2, 0, 0, 0, 0, 0) := (zl140_0 (Nat.le_of_ble_eq_true rfl)).trans rfl
theorem f140_13 : zi_fe 140 13 = some ((.if_icmp .ge 31), 3, 0, 0, 0, 0, 0) := (zl140_0 (Nat.le_of_ble_eq_true rfl)).trans rfl
theorem f140_16 : zi_fe 140 16 = some ((.lload 6), 2, 0, 0, 0, 0, 0) := (zl140_0 (Nat.le_of_ble_eq_true rfl)).trans rfl
theorem f140_18 : zi_fe 140 18 = some ((.lconst 0), 1, 0, 0, 0, 0, 0) := (zl140_0 (Nat.le_of_ble_eq_true rfl)).trans rfl
theorem f140_19 : zi_fe 140 19 = some (.lcmp, 1, 0, 0, 0, 0, 0) := (zl140_0 (Nat.le_of_ble_eq_true rfl)).trans rfl
theorem zl140_1 {pc : Nat} (h : 20 ≤ pc) : zi_fe 140 pc = zu140_1.lookup pc := (zl140_0 (Nat.le_trans (Nat.le_of_ble_eq_true rfl) h)).trans (zi_lkA (a := zi_i140_0) (c := 20) rfl h)
theorem f140_20 : zi_fe 140 20 = some ((.ifCond .eq 24), 3, 0, 0, 0, 0, 0) := (zl140_1 (Nat.le_of_ble_eq_true rfl)).trans rfl
theorem f140_23 : zi_fe 140 23 = some ((.lload 4), 2, 0, 0, 0, 0, 0) := (zl140_1 (Nat.le_of_ble_eq_true rfl)).trans rfl
theorem f140_25 : zi_fe 140 25 = some ((.lload 6), 2, 0, 0, 0, 0, 0) := (zl140_1 (Nat.le_of_ble_eq_true rfl)).trans rfl
theorem f140_27 : zi_fe 140 27 = some (.lrem, 1, 0, 0, 0, 0, 0) := (zl140_1 (Nat.le_of_ble_eq_true rfl)).trans rfl
theorem f140_28 : zi_fe 140 28 = some ((.lstore 9), 2, 0, 0, 0, 0, 0) := (zl140_1 (Nat.le_of_ble_eq_true rfl)).trans rfl
theorem f140_30 : zi_fe 140 30 = some ((.lload 6), 2, 0, 0, 0, 0, 0) := (zl140_1 (Nat.le_of_ble_eq_true rfl)).trans rfl
theorem f140_32 : zi_fe 140 32 = some ((.lstore 4), 2, 0, 0, 0, 0, 0) := (zl140_1 (Nat.le_of_ble_eq_true rfl)).trans rfl
theorem f140_34 : zi_fe 140 34 = some ((.lload 9), 2, 0, 0, 0, 0, 0) := (zl140_1 (Nat.le_of_ble_eq_true rfl)).trans rfl
theorem f140_36 : zi_fe 140 36 = some ((.lstore 6), 2, 0, 0, 0, 0, 0) := (zl140_1 (Nat.le_of_ble_eq_true rfl)).trans rfl
theorem f140_38 : zi_fe 140 38 = some ((.iinc 8 1), 3, 0, 0, 0, 0, 0) := (zl140_1 (Nat.le_of_ble_eq_true rfl)).trans rfl
theorem f140_41 : zi_fe 140 41 = some ((.goto (-32)), 3, 0, 0, 0, 0, 0) := (zl140_1 (Nat.le_of_ble_eq_true rfl)).trans rfl
theorem f140_44 : zi_fe 140 44 = some ((.lload 4), 2, 0, 0, 0, 0, 0) := (zl140_1 (Nat.le_of_ble_eq_true rfl)).trans rfl
theorem zl140_2 {pc : Nat} (h : 46 ≤ pc) : zi_fe 140 pc = zu140_2.lookup pc := (zl140_1 (Nat.le_trans (Nat.le_of_ble_eq_true rfl) h)).trans (zi_lkA (a := zi_i140_1) (c := 46) rfl h)
theorem f140_46 : zi_fe 140 46 = some (.lreturn, 1, 0, 0, 0, 0, 0) := (zl140_2 (Nat.le_of_ble_eq_true rfl)).trans rfl
theorem b140_0 {h : zi_Hp} {y0 : Int64} {y2 : Int64} {u4 : Value} {u5 : Value} {u6 : Value} {u7 : Value} {u8 : Value} {u9 : Value} {u10 : Value}  : zv 1 140 0 [.long y0, .double 1, .long y2, .double 1, u4, u5, u6, u7, u8, u9, u10] [] h = zv 1 140 9 [.long y0, .double 1, .long y2, .double 1, .long y0, .double 1, .long y2, .double 1, .int 0, u9, u10] [] h := by
  refine Eq.trans (zv_next f140_0 rfl) ?_
  refine Eq.trans (zv_next f140_1 rfl) ?_
  refine Eq.trans (zv_next f140_3 rfl) ?_
  refine Eq.trans (zv_next f140_4 rfl) ?_
  refine Eq.trans (zs_ic f140_6 ic_0) ?_
  refine Eq.trans (zv_next f140_7 rfl) ?_
  rfl
theorem b140_9 {h : zi_Hp} {y0 : Int64} {y2 : Int64} {y4 : Int64} {y6 : Int64} {x8 : Int32} {u9 : Value} {u10 : Value}  : zv 1 140 9 [.long y0, .double 1, .long y2, .double 1, .long y4, .double 1, .long y6, .double 1, .int x8, u9, u10] [] h = if x8 < 100 then zv 1 140 16 [.long y0, .double 1, .long y2, .double 1, .long y4, .double 1, .long y6, .double 1, .int x8, u9, u10] [] h else zv 1 140 44 [.long y0, .double 1, .long y2, .double 1, .long y4, .double 1, .long y6, .double 1, .int x8, u9, u10] [] h := by
  refine Eq.trans (zv_next f140_9 rfl) ?_
  refine Eq.trans (zs_bp f140_11 bp_100) ?_
  exact zs_icmp f140_13 rfl
theorem b140_16 {h : zi_Hp} {y0 : Int64} {y2 : Int64} {y4 : Int64} {y6 : Int64} {x8 : Int32} {u9 : Value} {u10 : Value}  : zv 1 140 16 [.long y0, .double 1, .long y2, .double 1, .long y4, .double 1, .long y6, .double 1, .int x8, u9, u10] [] h = if (lg_cmp y6 0) = 0 then zv 1 140 44 [.long y0, .double 1, .long y2, .double 1, .long y4, .double 1, .long y6, .double 1, .int x8, u9, u10] [] h else zv 1 140 23 [.long y0, .double 1, .long y2, .double 1, .long y4, .double 1, .long y6, .double 1, .int x8, u9, u10] [] h := by
  refine Eq.trans (zv_next f140_16 rfl) ?_
  refine Eq.trans (zs_lc f140_18 lc_0) ?_
  refine Eq.trans (zv_next f140_19 rfl) ?_
  exact zs_if f140_20 rfl
theorem b140_23 {h : zi_Hp} {y0 : Int64} {y2 : Int64} {y4 : Int64} {y6 : Int64} {x8 : Int32} {u9 : Value} {u10 : Value} (g0 : ¬ (y6 : Int64) = 0) : zv 1 140 23 [.long y0, .double 1, .long y2, .double 1, .long y4, .double 1, .long y6, .double 1, .int x8, u9, u10] [] h = zv 1 140 9 [.long y0, .double 1, .long y2, .double 1, .long y6, .double 1, .long (y4 - y4 / y6 * y6), .double 1, .int (x8 + 1), .long (y4 - y4 / y6 * y6), .double 1] [] h := by
  refine Eq.trans (zv_next f140_23 rfl) ?_
  refine Eq.trans (zv_next f140_25 rfl) ?_
  refine Eq.trans (zs_lrem f140_27 g0) ?_
  refine Eq.trans (zv_next f140_28 rfl) ?_
  refine Eq.trans (zv_next f140_30 rfl) ?_
  refine Eq.trans (zv_next f140_32 rfl) ?_
  refine Eq.trans (zv_next f140_34 rfl) ?_
  refine Eq.trans (zv_next f140_36 rfl) ?_
  refine Eq.trans (zs_inc f140_38 rfl ic_1 rfl) ?_
  refine Eq.trans (zs_goto (tgt := 9) f140_41 rfl) ?_
  rfl
theorem b140_44 {h : zi_Hp} {y0 : Int64} {y2 : Int64} {y4 : Int64} {y6 : Int64} {x8 : Int32} {u9 : Value} {u10 : Value}  : zv 1 140 44 [.long y0, .double 1, .long y2, .double 1, .long y4, .double 1, .long y6, .double 1, .int x8, u9, u10] [] h = some (some (.long y4), h) := by
  refine Eq.trans (zv_next f140_44 rfl) ?_
  exact zv_ret f140_46 rfl
set_option maxRecDepth 20000 in
theorem zq141 : zi_M[141]? = some zi_m141 := rfl
theorem zl141_0 {pc : Nat} (_ : 0 ≤ pc) : zi_fe 141 pc = zu141_0.lookup pc := zi_feA zq141 pc
theorem f141_0 : zi_fe 141 0 = some ((.aload_n 0), 1, 0, 0, 0, 0, 0) := (zl141_0 (Nat.le_of_ble_eq_true rfl)).trans rfl
theorem f141_1 : zi_fe 141 1 = some ((.invokespecial 1), 3, 0, 3, 0, 1056, 1) := (zl141_0 (Nat.le_of_ble_eq_true rfl)).trans rfl
theorem f141_4 : zi_fe 141 4 = some ((.aload_n 0), 1, 0, 0, 0, 0, 0) := (zl141_0 (Nat.le_of_ble_eq_true rfl)).trans rfl
theorem f141_5 : zi_fe 141 5 = some ((.sipush 387), 3, 0, 0, 0, 0, 0) := (zl141_0 (Nat.le_of_ble_eq_true rfl)).trans rfl
theorem f141_8 : zi_fe 141 8 = some ((.newarray .int), 2, 100, 0, 0, 183, 0) := (zl141_0 (Nat.le_of_ble_eq_true rfl)).trans rfl
theorem f141_10 : zi_fe 141 10 = some ((.putfield 7), 3, 8, 0, 3, 1065, 0) := (zl141_0 (Nat.le_of_ble_eq_true rfl)).trans rfl
theorem f141_13 : zi_fe 141 13 = some ((.aload_n 0), 1, 0, 0, 0, 0, 0) := (zl141_0 (Nat.le_of_ble_eq_true rfl)).trans rfl
theorem f141_14 : zi_fe 141 14 = some ((.sipush 774), 3, 0, 0, 0, 0, 0) := (zl141_0 (Nat.le_of_ble_eq_true rfl)).trans rfl
theorem f141_17 : zi_fe 141 17 = some ((.newarray .int), 2, 100, 0, 0, 183, 0) := (zl141_0 (Nat.le_of_ble_eq_true rfl)).trans rfl
theorem f141_19 : zi_fe 141 19 = some ((.putfield 13), 3, 8, 1, 3, 1066, 0) := (zl141_0 (Nat.le_of_ble_eq_true rfl)).trans rfl
theorem f141_22 : zi_fe 141 22 = some ((.aload_n 0), 1, 0, 0, 0, 0, 0) := (zl141_0 (Nat.le_of_ble_eq_true rfl)).trans rfl
theorem f141_23 : zi_fe 141 23 = some ((.iconst 2), 1, 0, 0, 0, 0, 0) := (zl141_0 (Nat.le_of_ble_eq_true rfl)).trans rfl
theorem zl141_1 {pc : Nat} (h : 24 ≤ pc) : zi_fe 141 pc = zu141_1.lookup pc := (zl141_0 (Nat.le_trans (Nat.le_of_ble_eq_true rfl) h)).trans (zi_lkA (a := zi_i141_0) (c := 24) rfl h)
theorem f141_24 : zi_fe 141 24 = some ((.newarray .boolean), 2, 101, 0, 0, 184, 0) := (zl141_1 (Nat.le_of_ble_eq_true rfl)).trans rfl
theorem f141_26 : zi_fe 141 26 = some ((.putfield 16), 3, 8, 2, 3, 1067, 0) := (zl141_1 (Nat.le_of_ble_eq_true rfl)).trans rfl
theorem f141_29 : zi_fe 141 29 = some ((.aload_n 0), 1, 0, 0, 0, 0, 0) := (zl141_1 (Nat.le_of_ble_eq_true rfl)).trans rfl
theorem f141_30 : zi_fe 141 30 = some ((.iconst 5), 1, 0, 0, 0, 0, 0) := (zl141_1 (Nat.le_of_ble_eq_true rfl)).trans rfl
theorem f141_31 : zi_fe 141 31 = some ((.newarray .int), 2, 100, 0, 0, 183, 0) := (zl141_1 (Nat.le_of_ble_eq_true rfl)).trans rfl
theorem f141_33 : zi_fe 141 33 = some ((.putfield 20), 3, 8, 3, 3, 1068, 0) := (zl141_1 (Nat.le_of_ble_eq_true rfl)).trans rfl
theorem f141_36 : zi_fe 141 36 = some ((.aload_n 0), 1, 0, 0, 0, 0, 0) := (zl141_1 (Nat.le_of_ble_eq_true rfl)).trans rfl
theorem f141_37 : zi_fe 141 37 = some ((.iconst 5), 1, 0, 0, 0, 0, 0) := (zl141_1 (Nat.le_of_ble_eq_true rfl)).trans rfl
theorem f141_38 : zi_fe 141 38 = some ((.newarray .int), 2, 100, 0, 0, 183, 0) := (zl141_1 (Nat.le_of_ble_eq_true rfl)).trans rfl
theorem f141_40 : zi_fe 141 40 = some ((.putfield 23), 3, 8, 4, 3, 1069, 0) := (zl141_1 (Nat.le_of_ble_eq_true rfl)).trans rfl
theorem f141_43 : zi_fe 141 43 = some ((.aload_n 0), 1, 0, 0, 0, 0, 0) := (zl141_1 (Nat.le_of_ble_eq_true rfl)).trans rfl
theorem f141_44 : zi_fe 141 44 = some ((.iconst 3), 1, 0, 0, 0, 0, 0) := (zl141_1 (Nat.le_of_ble_eq_true rfl)).trans rfl
theorem zl141_2 {pc : Nat} (h : 45 ≤ pc) : zi_fe 141 pc = zu141_2.lookup pc := (zl141_1 (Nat.le_trans (Nat.le_of_ble_eq_true rfl) h)).trans (zi_lkA (a := zi_i141_1) (c := 45) rfl h)
theorem f141_45 : zi_fe 141 45 = some ((.newarray .boolean), 2, 101, 0, 0, 184, 0) := (zl141_2 (Nat.le_of_ble_eq_true rfl)).trans rfl
theorem f141_47 : zi_fe 141 47 = some ((.putfield 26), 3, 8, 6, 3, 1071, 0) := (zl141_2 (Nat.le_of_ble_eq_true rfl)).trans rfl
theorem f141_50 : zi_fe 141 50 = some ((.aload_n 0), 1, 0, 0, 0, 0, 0) := (zl141_2 (Nat.le_of_ble_eq_true rfl)).trans rfl
theorem f141_51 : zi_fe 141 51 = some ((.sipush 160), 3, 0, 0, 0, 0, 0) := (zl141_2 (Nat.le_of_ble_eq_true rfl)).trans rfl
theorem f141_54 : zi_fe 141 54 = some ((.newarray .int), 2, 100, 0, 0, 183, 0) := (zl141_2 (Nat.le_of_ble_eq_true rfl)).trans rfl
theorem f141_56 : zi_fe 141 56 = some ((.putfield 29), 3, 8, 7, 3, 1072, 0) := (zl141_2 (Nat.le_of_ble_eq_true rfl)).trans rfl
theorem f141_59 : zi_fe 141 59 = some ((.aload_n 0), 1, 0, 0, 0, 0, 0) := (zl141_2 (Nat.le_of_ble_eq_true rfl)).trans rfl
theorem f141_60 : zi_fe 141 60 = some ((.bipush 80), 2, 0, 0, 0, 0, 0) := (zl141_2 (Nat.le_of_ble_eq_true rfl)).trans rfl
theorem f141_62 : zi_fe 141 62 = some ((.newarray .int), 2, 100, 0, 0, 183, 0) := (zl141_2 (Nat.le_of_ble_eq_true rfl)).trans rfl
theorem f141_64 : zi_fe 141 64 = some ((.putfield 32), 3, 8, 17, 3, 1082, 0) := (zl141_2 (Nat.le_of_ble_eq_true rfl)).trans rfl
theorem f141_67 : zi_fe 141 67 = some ((.aload_n 0), 1, 0, 0, 0, 0, 0) := (zl141_2 (Nat.le_of_ble_eq_true rfl)).trans rfl
theorem f141_68 : zi_fe 141 68 = some ((.bipush 6), 2, 0, 0, 0, 0, 0) := (zl141_2 (Nat.le_of_ble_eq_true rfl)).trans rfl
theorem zl141_3 {pc : Nat} (h : 70 ≤ pc) : zi_fe 141 pc = zu141_3.lookup pc := (zl141_2 (Nat.le_trans (Nat.le_of_ble_eq_true rfl) h)).trans (zi_lkA (a := zi_i141_2) (c := 70) rfl h)
theorem f141_70 : zi_fe 141 70 = some ((.newarray .int), 2, 100, 0, 0, 183, 0) := (zl141_3 (Nat.le_of_ble_eq_true rfl)).trans rfl
theorem f141_72 : zi_fe 141 72 = some ((.putfield 35), 3, 8, 19, 3, 1084, 0) := (zl141_3 (Nat.le_of_ble_eq_true rfl)).trans rfl
theorem f141_75 : zi_fe 141 75 = some ((.aload_n 0), 1, 0, 0, 0, 0, 0) := (zl141_3 (Nat.le_of_ble_eq_true rfl)).trans rfl
theorem f141_76 : zi_fe 141 76 = some ((.sipush 3096), 3, 0, 0, 0, 0, 0) := (zl141_3 (Nat.le_of_ble_eq_true rfl)).trans rfl
theorem f141_79 : zi_fe 141 79 = some ((.newarray .int), 2, 100, 0, 0, 183, 0) := (zl141_3 (Nat.le_of_ble_eq_true rfl)).trans rfl
theorem f141_81 : zi_fe 141 81 = some ((.putfield 38), 3, 8, 21, 3, 1086, 0) := (zl141_3 (Nat.le_of_ble_eq_true rfl)).trans rfl
theorem f141_84 : zi_fe 141 84 = some ((.aload_n 0), 1, 0, 0, 0, 0, 0) := (zl141_3 (Nat.le_of_ble_eq_true rfl)).trans rfl
theorem f141_85 : zi_fe 141 85 = some ((.bipush 8), 2, 0, 0, 0, 0, 0) := (zl141_3 (Nat.le_of_ble_eq_true rfl)).trans rfl
theorem f141_87 : zi_fe 141 87 = some ((.newarray .int), 2, 100, 0, 0, 183, 0) := (zl141_3 (Nat.le_of_ble_eq_true rfl)).trans rfl
theorem f141_89 : zi_fe 141 89 = some ((.putfield 41), 3, 8, 22, 3, 1087, 0) := (zl141_3 (Nat.le_of_ble_eq_true rfl)).trans rfl
theorem f141_92 : zi_fe 141 92 = some ((.aload_n 0), 1, 0, 0, 0, 0, 0) := (zl141_3 (Nat.le_of_ble_eq_true rfl)).trans rfl
theorem f141_93 : zi_fe 141 93 = some ((.bipush 8), 2, 0, 0, 0, 0, 0) := (zl141_3 (Nat.le_of_ble_eq_true rfl)).trans rfl
theorem zl141_4 {pc : Nat} (h : 95 ≤ pc) : zi_fe 141 pc = zu141_4.lookup pc := (zl141_3 (Nat.le_trans (Nat.le_of_ble_eq_true rfl) h)).trans (zi_lkA (a := zi_i141_3) (c := 95) rfl h)
theorem f141_95 : zi_fe 141 95 = some ((.newarray .int), 2, 100, 0, 0, 183, 0) := (zl141_4 (Nat.le_of_ble_eq_true rfl)).trans rfl
theorem f141_97 : zi_fe 141 97 = some ((.putfield 44), 3, 8, 23, 3, 1088, 0) := (zl141_4 (Nat.le_of_ble_eq_true rfl)).trans rfl
theorem f141_100 : zi_fe 141 100 = some ((.aload_n 0), 1, 0, 0, 0, 0, 0) := (zl141_4 (Nat.le_of_ble_eq_true rfl)).trans rfl
theorem f141_101 : zi_fe 141 101 = some ((.bipush 8), 2, 0, 0, 0, 0, 0) := (zl141_4 (Nat.le_of_ble_eq_true rfl)).trans rfl
theorem f141_103 : zi_fe 141 103 = some ((.newarray .int), 2, 100, 0, 0, 183, 0) := (zl141_4 (Nat.le_of_ble_eq_true rfl)).trans rfl
theorem f141_105 : zi_fe 141 105 = some ((.putfield 47), 3, 8, 24, 3, 1089, 0) := (zl141_4 (Nat.le_of_ble_eq_true rfl)).trans rfl
theorem f141_108 : zi_fe 141 108 = some ((.aload_n 0), 1, 0, 0, 0, 0, 0) := (zl141_4 (Nat.le_of_ble_eq_true rfl)).trans rfl
theorem f141_109 : zi_fe 141 109 = some ((.bipush 8), 2, 0, 0, 0, 0, 0) := (zl141_4 (Nat.le_of_ble_eq_true rfl)).trans rfl
theorem f141_111 : zi_fe 141 111 = some ((.newarray .int), 2, 100, 0, 0, 183, 0) := (zl141_4 (Nat.le_of_ble_eq_true rfl)).trans rfl
theorem f141_113 : zi_fe 141 113 = some ((.putfield 50), 3, 8, 25, 3, 1090, 0) := (zl141_4 (Nat.le_of_ble_eq_true rfl)).trans rfl
theorem f141_116 : zi_fe 141 116 = some ((.aload_n 0), 1, 0, 0, 0, 0, 0) := (zl141_4 (Nat.le_of_ble_eq_true rfl)).trans rfl
theorem f141_117 : zi_fe 141 117 = some ((.bipush 8), 2, 0, 0, 0, 0, 0) := (zl141_4 (Nat.le_of_ble_eq_true rfl)).trans rfl
theorem zl141_5 {pc : Nat} (h : 119 ≤ pc) : zi_fe 141 pc = zu141_5.lookup pc := (zl141_4 (Nat.le_trans (Nat.le_of_ble_eq_true rfl) h)).trans (zi_lkA (a := zi_i141_4) (c := 119) rfl h)
theorem f141_119 : zi_fe 141 119 = some ((.newarray .long), 2, 102, 0, 0, 1183, 0) := (zl141_5 (Nat.le_of_ble_eq_true rfl)).trans rfl
theorem f141_121 : zi_fe 141 121 = some ((.putfield 53), 3, 8, 26, 3, 1091, 0) := (zl141_5 (Nat.le_of_ble_eq_true rfl)).trans rfl
theorem f141_124 : zi_fe 141 124 = some ((.aload_n 0), 1, 0, 0, 0, 0, 0) := (zl141_5 (Nat.le_of_ble_eq_true rfl)).trans rfl
theorem f141_125 : zi_fe 141 125 = some ((.bipush 6), 2, 0, 0, 0, 0, 0) := (zl141_5 (Nat.le_of_ble_eq_true rfl)).trans rfl
theorem f141_127 : zi_fe 141 127 = some ((.newarray .int), 2, 100, 0, 0, 183, 0) := (zl141_5 (Nat.le_of_ble_eq_true rfl)).trans rfl
theorem f141_129 : zi_fe 141 129 = some ((.putfield 57), 3, 8, 32, 3, 1097, 0) := (zl141_5 (Nat.le_of_ble_eq_true rfl)).trans rfl
theorem f141_132 : zi_fe 141 132 = some ((.aload_n 0), 1, 0, 0, 0, 0, 0) := (zl141_5 (Nat.le_of_ble_eq_true rfl)).trans rfl
theorem f141_133 : zi_fe 141 133 = some ((.bipush 6), 2, 0, 0, 0, 0, 0) := (zl141_5 (Nat.le_of_ble_eq_true rfl)).trans rfl
theorem f141_135 : zi_fe 141 135 = some ((.newarray .int), 2, 100, 0, 0, 183, 0) := (zl141_5 (Nat.le_of_ble_eq_true rfl)).trans rfl
theorem f141_137 : zi_fe 141 137 = some ((.putfield 60), 3, 8, 33, 3, 1098, 0) := (zl141_5 (Nat.le_of_ble_eq_true rfl)).trans rfl
theorem f141_140 : zi_fe 141 140 = some ((.aload_n 0), 1, 0, 0, 0, 0, 0) := (zl141_5 (Nat.le_of_ble_eq_true rfl)).trans rfl
theorem f141_141 : zi_fe 141 141 = some ((.bipush 6), 2, 0, 0, 0, 0, 0) := (zl141_5 (Nat.le_of_ble_eq_true rfl)).trans rfl
theorem zl141_6 {pc : Nat} (h : 143 ≤ pc) : zi_fe 141 pc = zu141_6.lookup pc := (zl141_5 (Nat.le_trans (Nat.le_of_ble_eq_true rfl) h)).trans (zi_lkA (a := zi_i141_5) (c := 143) rfl h)
theorem f141_143 : zi_fe 141 143 = some ((.newarray .long), 2, 102, 0, 0, 1183, 0) := (zl141_6 (Nat.le_of_ble_eq_true rfl)).trans rfl
theorem f141_145 : zi_fe 141 145 = some ((.putfield 63), 3, 8, 34, 3, 1099, 0) := (zl141_6 (Nat.le_of_ble_eq_true rfl)).trans rfl
theorem f141_148 : zi_fe 141 148 = some ((.aload_n 0), 1, 0, 0, 0, 0, 0) := (zl141_6 (Nat.le_of_ble_eq_true rfl)).trans rfl
theorem f141_149 : zi_fe 141 149 = some ((.iconst 4), 1, 0, 0, 0, 0, 0) := (zl141_6 (Nat.le_of_ble_eq_true rfl)).trans rfl
theorem f141_150 : zi_fe 141 150 = some ((.newarray .int), 2, 100, 0, 0, 183, 0) := (zl141_6 (Nat.le_of_ble_eq_true rfl)).trans rfl
theorem f141_152 : zi_fe 141 152 = some ((.putfield 66), 3, 8, 35, 3, 1100, 0) := (zl141_6 (Nat.le_of_ble_eq_true rfl)).trans rfl
theorem f141_155 : zi_fe 141 155 = some ((.aload_n 0), 1, 0, 0, 0, 0, 0) := (zl141_6 (Nat.le_of_ble_eq_true rfl)).trans rfl
theorem f141_156 : zi_fe 141 156 = some ((.iconst 4), 1, 0, 0, 0, 0, 0) := (zl141_6 (Nat.le_of_ble_eq_true rfl)).trans rfl
theorem f141_157 : zi_fe 141 157 = some ((.newarray .int), 2, 100, 0, 0, 183, 0) := (zl141_6 (Nat.le_of_ble_eq_true rfl)).trans rfl
theorem f141_159 : zi_fe 141 159 = some ((.putfield 69), 3, 8, 36, 3, 1101, 0) := (zl141_6 (Nat.le_of_ble_eq_true rfl)).trans rfl
theorem f141_162 : zi_fe 141 162 = some ((.aload_n 0), 1, 0, 0, 0, 0, 0) := (zl141_6 (Nat.le_of_ble_eq_true rfl)).trans rfl
theorem f141_163 : zi_fe 141 163 = some ((.sipush 160), 3, 0, 0, 0, 0, 0) := (zl141_6 (Nat.le_of_ble_eq_true rfl)).trans rfl
theorem zl141_7 {pc : Nat} (h : 166 ≤ pc) : zi_fe 141 pc = zu141_7.lookup pc := (zl141_6 (Nat.le_trans (Nat.le_of_ble_eq_true rfl) h)).trans (zi_lkA (a := zi_i141_6) (c := 166) rfl h)
theorem f141_166 : zi_fe 141 166 = some ((.newarray .int), 2, 100, 0, 0, 183, 0) := (zl141_7 (Nat.le_of_ble_eq_true rfl)).trans rfl
theorem f141_168 : zi_fe 141 168 = some ((.putfield 72), 3, 8, 37, 3, 1102, 0) := (zl141_7 (Nat.le_of_ble_eq_true rfl)).trans rfl
theorem f141_171 : zi_fe 141 171 = some ((.iconst 0), 1, 0, 0, 0, 0, 0) := (zl141_7 (Nat.le_of_ble_eq_true rfl)).trans rfl
theorem f141_172 : zi_fe 141 172 = some ((.istore_n 1), 1, 0, 0, 0, 0, 0) := (zl141_7 (Nat.le_of_ble_eq_true rfl)).trans rfl
theorem f141_173 : zi_fe 141 173 = some ((.iload_n 1), 1, 0, 0, 0, 0, 0) := (zl141_7 (Nat.le_of_ble_eq_true rfl)).trans rfl
theorem f141_174 : zi_fe 141 174 = some ((.iconst 4), 1, 0, 0, 0, 0, 0) := (zl141_7 (Nat.le_of_ble_eq_true rfl)).trans rfl
theorem f141_175 : zi_fe 141 175 = some ((.if_icmp .ge 17), 3, 0, 0, 0, 0, 0) := (zl141_7 (Nat.le_of_ble_eq_true rfl)).trans rfl
theorem f141_178 : zi_fe 141 178 = some ((.aload_n 0), 1, 0, 0, 0, 0, 0) := (zl141_7 (Nat.le_of_ble_eq_true rfl)).trans rfl
theorem f141_179 : zi_fe 141 179 = some ((.getfield 66), 3, 8, 35, 3, 1100, 0) := (zl141_7 (Nat.le_of_ble_eq_true rfl)).trans rfl
theorem f141_182 : zi_fe 141 182 = some ((.iload_n 1), 1, 0, 0, 0, 0, 0) := (zl141_7 (Nat.le_of_ble_eq_true rfl)).trans rfl
theorem f141_183 : zi_fe 141 183 = some ((.bipush (-4)), 2, 0, 0, 0, 0, 0) := (zl141_7 (Nat.le_of_ble_eq_true rfl)).trans rfl
theorem f141_185 : zi_fe 141 185 = some (.iastore, 1, 0, 0, 0, 0, 0) := (zl141_7 (Nat.le_of_ble_eq_true rfl)).trans rfl
theorem zl141_8 {pc : Nat} (h : 186 ≤ pc) : zi_fe 141 pc = zu141_8.lookup pc := (zl141_7 (Nat.le_trans (Nat.le_of_ble_eq_true rfl) h)).trans (zi_lkA (a := zi_i141_7) (c := 186) rfl h)
theorem f141_186 : zi_fe 141 186 = some ((.iinc 1 1), 3, 0, 0, 0, 0, 0) := (zl141_8 (Nat.le_of_ble_eq_true rfl)).trans rfl
theorem f141_189 : zi_fe 141 189 = some ((.goto (-16)), 3, 0, 0, 0, 0, 0) := (zl141_8 (Nat.le_of_ble_eq_true rfl)).trans rfl
theorem f141_192 : zi_fe 141 192 = some ((.aload_n 0), 1, 0, 0, 0, 0, 0) := (zl141_8 (Nat.le_of_ble_eq_true rfl)).trans rfl
theorem f141_193 : zi_fe 141 193 = some ((.iconst 3), 1, 0, 0, 0, 0, 0) := (zl141_8 (Nat.le_of_ble_eq_true rfl)).trans rfl
theorem f141_194 : zi_fe 141 194 = some ((.invokevirtual 75), 3, 148, 0, 8, 1057, 2) := (zl141_8 (Nat.le_of_ble_eq_true rfl)).trans rfl
theorem f141_197 : zi_fe 141 197 = some (.return_, 1, 0, 0, 0, 0, 0) := (zl141_8 (Nat.le_of_ble_eq_true rfl)).trans rfl
theorem b141_0 {h : zi_Hp} {a0 : Nat} {u1 : Value}  : zv 3 141 0 [.ref a0, u1] [] h = zv 3 141 10 [.ref a0, u1] [.ref (zh_n h), .ref a0] (zh_al h 100 387) := by
  refine Eq.trans (zv_next f141_0 rfl) ?_
  refine Eq.trans (zs_objI f141_1 (Nat.le_of_ble_eq_true rfl)) ?_
  refine Eq.trans (zv_next f141_4 rfl) ?_
  refine Eq.trans (zs_sp f141_5 sp_387) ?_
  refine Eq.trans (zs_newa (N := 387) f141_8 (by decide)) ?_
  rfl
theorem b141_10 {h : zi_Hp} {a0 : Nat} {u1 : Value} {t0 : Nat} {t1 : Nat} (g0 : t0 < zh_n h) (g1 : (zh_k h t0).1 = 8) : zv 3 141 10 [.ref a0, u1] [.ref t1, .ref t0] h = zv 3 141 19 [.ref a0, u1] [.ref (zh_n h), .ref a0] (zh_al (zh_wr h t0 0 (.ref t1)) 100 774) := by
  refine Eq.trans (zs_put f141_10 g0 g1 rfl) ?_
  refine Eq.trans (zv_next f141_13 rfl) ?_
  refine Eq.trans (zs_sp f141_14 sp_774) ?_
  refine Eq.trans (zs_newa (N := 774) f141_17 (by decide)) ?_
  rfl
theorem b141_19 {h : zi_Hp} {a0 : Nat} {u1 : Value} {t0 : Nat} {t1 : Nat} (g0 : t0 < zh_n h) (g1 : (zh_k h t0).1 = 8) : zv 3 141 19 [.ref a0, u1] [.ref t1, .ref t0] h = zv 3 141 26 [.ref a0, u1] [.ref (zh_n h), .ref a0] (zh_al (zh_wr h t0 1 (.ref t1)) 101 2) := by
  refine Eq.trans (zs_put f141_19 g0 g1 rfl) ?_
  refine Eq.trans (zv_next f141_22 rfl) ?_
  refine Eq.trans (zs_ic f141_23 ic_2) ?_
  refine Eq.trans (zs_newa (N := 2) f141_24 (by decide)) ?_
  rfl
theorem b141_26 {h : zi_Hp} {a0 : Nat} {u1 : Value} {t0 : Nat} {t1 : Nat} (g0 : t0 < zh_n h) (g1 : (zh_k h t0).1 = 8) : zv 3 141 26 [.ref a0, u1] [.ref t1, .ref t0] h = zv 3 141 33 [.ref a0, u1] [.ref (zh_n h), .ref a0] (zh_al (zh_wr h t0 2 (.ref t1)) 100 5) := by
  refine Eq.trans (zs_put f141_26 g0 g1 rfl) ?_
  refine Eq.trans (zv_next f141_29 rfl) ?_
  refine Eq.trans (zs_ic f141_30 ic_5) ?_
  refine Eq.trans (zs_newa (N := 5) f141_31 (by decide)) ?_
  rfl
theorem b141_33 {h : zi_Hp} {a0 : Nat} {u1 : Value} {t0 : Nat} {t1 : Nat} (g0 : t0 < zh_n h) (g1 : (zh_k h t0).1 = 8) : zv 3 141 33 [.ref a0, u1] [.ref t1, .ref t0] h = zv 3 141 40 [.ref a0, u1] [.ref (zh_n h), .ref a0] (zh_al (zh_wr h t0 3 (.ref t1)) 100 5) := by
  refine Eq.trans (zs_put f141_33 g0 g1 rfl) ?_
  refine Eq.trans (zv_next f141_36 rfl) ?_
  refine Eq.trans (zs_ic f141_37 ic_5) ?_
  refine Eq.trans (zs_newa (N := 5) f141_38 (by decide)) ?_
  rfl
theorem b141_40 {h : zi_Hp} {a0 : Nat} {u1 : Value} {t0 : Nat} {t1 : Nat} (g0 : t0 < zh_n h) (g1 : (zh_k h t0).1 = 8) : zv 3 141 40 [.ref a0, u1] [.ref t1, .ref t0] h = zv 3 141 47 [.ref a0, u1] [.ref (zh_n h), .ref a0] (zh_al (zh_wr h t0 4 (.ref t1)) 101 3) := by
  refine Eq.trans (zs_put f141_40 g0 g1 rfl) ?_
  refine Eq.trans (zv_next f141_43 rfl) ?_
  refine Eq.trans (zs_ic f141_44 ic_3) ?_
  refine Eq.trans (zs_newa (N := 3) f141_45 (by decide)) ?_
  rfl
theorem b141_47 {h : zi_Hp} {a0 : Nat} {u1 : Value} {t0 : Nat} {t1 : Nat} (g0 : t0 < zh_n h) (g1 : (zh_k h t0).1 = 8) : zv 3 141 47 [.ref a0, u1] [.ref t1, .ref t0] h = zv 3 141 56 [.ref a0, u1] [.ref (zh_n h), .ref a0] (zh_al (zh_wr h t0 6 (.ref t1)) 100 160) := by
  refine Eq.trans (zs_put f141_47 g0 g1 rfl) ?_
  refine Eq.trans (zv_next f141_50 rfl) ?_
  refine Eq.trans (zs_sp f141_51 sp_160) ?_
  refine Eq.trans (zs_newa (N := 160) f141_54 (by decide)) ?_
  rfl
theorem b141_56 {h : zi_Hp} {a0 : Nat} {u1 : Value} {t0 : Nat} {t1 : Nat} (g0 : t0 < zh_n h) (g1 : (zh_k h t0).1 = 8) : zv 3 141 56 [.ref a0, u1] [.ref t1, .ref t0] h = zv 3 141 64 [.ref a0, u1] [.ref (zh_n h), .ref a0] (zh_al (zh_wr h t0 7 (.ref t1)) 100 80) := by
  refine Eq.trans (zs_put f141_56 g0 g1 rfl) ?_
  refine Eq.trans (zv_next f141_59 rfl) ?_
  refine Eq.trans (zs_bp f141_60 bp_80) ?_
  refine Eq.trans (zs_newa (N := 80) f141_62 (by decide)) ?_
  rfl
theorem b141_64 {h : zi_Hp} {a0 : Nat} {u1 : Value} {t0 : Nat} {t1 : Nat} (g0 : t0 < zh_n h) (g1 : (zh_k h t0).1 = 8) : zv 3 141 64 [.ref a0, u1] [.ref t1, .ref t0] h = zv 3 141 72 [.ref a0, u1] [.ref (zh_n h), .ref a0] (zh_al (zh_wr h t0 17 (.ref t1)) 100 6) := by
  refine Eq.trans (zs_put f141_64 g0 g1 rfl) ?_
  refine Eq.trans (zv_next f141_67 rfl) ?_
  refine Eq.trans (zs_bp f141_68 bp_6) ?_
  refine Eq.trans (zs_newa (N := 6) f141_70 (by decide)) ?_
  rfl
theorem b141_72 {h : zi_Hp} {a0 : Nat} {u1 : Value} {t0 : Nat} {t1 : Nat} (g0 : t0 < zh_n h) (g1 : (zh_k h t0).1 = 8) : zv 3 141 72 [.ref a0, u1] [.ref t1, .ref t0] h = zv 3 141 81 [.ref a0, u1] [.ref (zh_n h), .ref a0] (zh_al (zh_wr h t0 19 (.ref t1)) 100 3096) := by
  refine Eq.trans (zs_put f141_72 g0 g1 rfl) ?_
  refine Eq.trans (zv_next f141_75 rfl) ?_
  refine Eq.trans (zs_sp f141_76 sp_3096) ?_
  refine Eq.trans (zs_newa (N := 3096) f141_79 (by decide)) ?_
  rfl
theorem b141_81 {h : zi_Hp} {a0 : Nat} {u1 : Value} {t0 : Nat} {t1 : Nat} (g0 : t0 < zh_n h) (g1 : (zh_k h t0).1 = 8) : zv 3 141 81 [.ref a0, u1] [.ref t1, .ref t0] h = zv 3 141 89 [.ref a0, u1] [.ref (zh_n h), .ref a0] (zh_al (zh_wr h t0 21 (.ref t1)) 100 8) := by
  refine Eq.trans (zs_put f141_81 g0 g1 rfl) ?_
  refine Eq.trans (zv_next f141_84 rfl) ?_
  refine Eq.trans (zs_bp f141_85 bp_8) ?_
  refine Eq.trans (zs_newa (N := 8) f141_87 (by decide)) ?_
  rfl
theorem b141_89 {h : zi_Hp} {a0 : Nat} {u1 : Value} {t0 : Nat} {t1 : Nat} (g0 : t0 < zh_n h) (g1 : (zh_k h t0).1 = 8) : zv 3 141 89 [.ref a0, u1] [.ref t1, .ref t0] h = zv 3 141 97 [.ref a0, u1] [.ref (zh_n h), .ref a0] (zh_al (zh_wr h t0 22 (.ref t1)) 100 8) := by
  refine Eq.trans (zs_put f141_89 g0 g1 rfl) ?_
  refine Eq.trans (zv_next f141_92 rfl) ?_
  refine Eq.trans (zs_bp f141_93 bp_8) ?_
  refine Eq.trans (zs_newa (N := 8) f141_95 (by decide)) ?_
  rfl
theorem b141_97 {h : zi_Hp} {a0 : Nat} {u1 : Value} {t0 : Nat} {t1 : Nat} (g0 : t0 < zh_n h) (g1 : (zh_k h t0).1 = 8) : zv 3 141 97 [.ref a0, u1] [.ref t1, .ref t0] h = zv 3 141 105 [.ref a0, u1] [.ref (zh_n h), .ref a0] (zh_al (zh_wr h t0 23 (.ref t1)) 100 8) := by
  refine Eq.trans (zs_put f141_97 g0 g1 rfl) ?_
  refine Eq.trans (zv_next f141_100 rfl) ?_
  refine Eq.trans (zs_bp f141_101 bp_8) ?_
  refine Eq.trans (zs_newa (N := 8) f141_103 (by decide)) ?_
  rfl
theorem b141_105 {h : zi_Hp} {a0 : Nat} {u1 : Value} {t0 : Nat} {t1 : Nat} (g0 : t0 < zh_n h) (g1 : (zh_k h t0).1 = 8) : zv 3 141 105 [.ref a0, u1] [.ref t1, .ref t0] h = zv 3 141 113 [.ref a0, u1] [.ref (zh_n h), .ref a0] (zh_al (zh_wr h t0 24 (.ref t1)) 100 8) := by
  refine Eq.trans (zs_put f141_105 g0 g1 rfl) ?_
  refine Eq.trans (zv_next f141_108 rfl) ?_
  refine Eq.trans (zs_bp f141_109 bp_8) ?_
  refine Eq.trans (zs_newa (N := 8) f141_111 (by decide)) ?_
  rfl
theorem b141_113 {h : zi_Hp} {a0 : Nat} {u1 : Value} {t0 : Nat} {t1 : Nat} (g0 : t0 < zh_n h) (g1 : (zh_k h t0).1 = 8) : zv 3 141 113 [.ref a0, u1] [.ref t1, .ref t0] h = zv 3 141 121 [.ref a0, u1] [.ref (zh_n h), .ref a0] (zh_al (zh_wr h t0 25 (.ref t1)) 102 8) := by
  refine Eq.trans (zs_put f141_113 g0 g1 rfl) ?_
  refine Eq.trans (zv_next f141_116 rfl) ?_
  refine Eq.trans (zs_bp f141_117 bp_8) ?_
  refine Eq.trans (zs_newa (N := 8) f141_119 (by decide)) ?_
  rfl
theorem b141_121 {h : zi_Hp} {a0 : Nat} {u1 : Value} {t0 : Nat} {t1 : Nat} (g0 : t0 < zh_n h) (g1 : (zh_k h t0).1 = 8) : zv 3 141 121 [.ref a0, u1] [.ref t1, .ref t0] h = zv 3 141 129 [.ref a0, u1] [.ref (zh_n h), .ref a0] (zh_al (zh_wr h t0 26 (.ref t1)) 100 6) := by
  refine Eq.trans (zs_put f141_121 g0 g1 rfl) ?_
  refine Eq.trans (zv_next f141_124 rfl) ?_
  refine Eq.trans (zs_bp f141_125 bp_6) ?_
  refine Eq.trans (zs_newa (N := 6) f141_127 (by decide)) ?_
  rfl
theorem b141_129 {h : zi_Hp} {a0 : Nat} {u1 : Value} {t0 : Nat} {t1 : Nat} (g0 : t0 < zh_n h) (g1 : (zh_k h t0).1 = 8) : zv 3 141 129 [.ref a0, u1] [.ref t1, .ref t0] h = zv 3 141 137 [.ref a0, u1] [.ref (zh_n h), .ref a0] (zh_al (zh_wr h t0 32 (.ref t1)) 100 6) := by
  refine Eq.trans (zs_put f141_129 g0 g1 rfl) ?_
  refine Eq.trans (zv_next f141_132 rfl) ?_
  refine Eq.trans (zs_bp f141_133 bp_6) ?_
  refine Eq.trans (zs_newa (N := 6) f141_135 (by decide)) ?_
  rfl
theorem b141_137 {h : zi_Hp} {a0 : Nat} {u1 : Value} {t0 : Nat} {t1 : Nat} (g0 : t0 < zh_n h) (g1 : (zh_k h t0).1 = 8) : zv 3 141 137 [.ref a0, u1] [.ref t1, .ref t0] h = zv 3 141 145 [.ref a0, u1] [.ref (zh_n h), .ref a0] (zh_al (zh_wr h t0 33 (.ref t1)) 102 6) := by
  refine Eq.trans (zs_put f141_137 g0 g1 rfl) ?_
  refine Eq.trans (zv_next f141_140 rfl) ?_
  refine Eq.trans (zs_bp f141_141 bp_6) ?_
  refine Eq.trans (zs_newa (N := 6) f141_143 (by decide)) ?_
  rfl
theorem b141_145 {h : zi_Hp} {a0 : Nat} {u1 : Value} {t0 : Nat} {t1 : Nat} (g0 : t0 < zh_n h) (g1 : (zh_k h t0).1 = 8) : zv 3 141 145 [.ref a0, u1] [.ref t1, .ref t0] h = zv 3 141 152 [.ref a0, u1] [.ref (zh_n h), .ref a0] (zh_al (zh_wr h t0 34 (.ref t1)) 100 4) := by
  refine Eq.trans (zs_put f141_145 g0 g1 rfl) ?_
  refine Eq.trans (zv_next f141_148 rfl) ?_
  refine Eq.trans (zs_ic f141_149 ic_4) ?_
  refine Eq.trans (zs_newa (N := 4) f141_150 (by decide)) ?_
  rfl
theorem b141_152 {h : zi_Hp} {a0 : Nat} {u1 : Value} {t0 : Nat} {t1 : Nat} (g0 : t0 < zh_n h) (g1 : (zh_k h t0).1 = 8) : zv 3 141 152 [.ref a0, u1] [.ref t1, .ref t0] h = zv 3 141 159 [.ref a0, u1] [.ref (zh_n h), .ref a0] (zh_al (zh_wr h t0 35 (.ref t1)) 100 4) := by
  refine Eq.trans (zs_put f141_152 g0 g1 rfl) ?_
  refine Eq.trans (zv_next f141_155 rfl) ?_
  refine Eq.trans (zs_ic f141_156 ic_4) ?_
  refine Eq.trans (zs_newa (N := 4) f141_157 (by decide)) ?_
  rfl
theorem b141_159 {h : zi_Hp} {a0 : Nat} {u1 : Value} {t0 : Nat} {t1 : Nat} (g0 : t0 < zh_n h) (g1 : (zh_k h t0).1 = 8) : zv 3 141 159 [.ref a0, u1] [.ref t1, .ref t0] h = zv 3 141 168 [.ref a0, u1] [.ref (zh_n h), .ref a0] (zh_al (zh_wr h t0 36 (.ref t1)) 100 160) := by
  refine Eq.trans (zs_put f141_159 g0 g1 rfl) ?_
  refine Eq.trans (zv_next f141_162 rfl) ?_
  refine Eq.trans (zs_sp f141_163 sp_160) ?_
  refine Eq.trans (zs_newa (N := 160) f141_166 (by decide)) ?_
  rfl
theorem b141_168 {h : zi_Hp} {a0 : Nat} {u1 : Value} {t0 : Nat} {t1 : Nat} (g0 : t0 < zh_n h) (g1 : (zh_k h t0).1 = 8) : zv 3 141 168 [.ref a0, u1] [.ref t1, .ref t0] h = zv 3 141 173 [.ref a0, .int 0] [] (zh_wr h t0 37 (.ref t1)) := by
  refine Eq.trans (zs_put f141_168 g0 g1 rfl) ?_
  refine Eq.trans (zs_ic f141_171 ic_0) ?_
  refine Eq.trans (zv_next f141_172 rfl) ?_
  rfl
theorem b141_173 {h : zi_Hp} {a0 : Nat} {x1 : Int32}  : zv 3 141 173 [.ref a0, .int x1] [] h = if x1 < 4 then zv 3 141 178 [.ref a0, .int x1] [] h else zv 3 141 192 [.ref a0, .int x1] [] h := by
  refine Eq.trans (zv_next f141_173 rfl) ?_
  refine Eq.trans (zs_ic f141_174 ic_4) ?_
  exact zs_icmp f141_175 rfl
theorem b141_178 {h : zi_Hp} {a0 : Nat} {x1 : Int32} (g0 : a0 < zh_n h) (g1 : (zh_k h a0).1 = 8) (g2 : zh_r h a0 35 = .ref (zq (zh_r h a0 35))) (g3 : (zq (zh_r h a0 35)) < zh_n h) (g4 : ¬ (x1 < 0 ∨ (zh_k h (zq (zh_r h a0 35))).2 ≤ x1.toNatClampNeg)) (g5 : (zh_k h (zq (zh_r h a0 35))).1 = 100) : zv 3 141 178 [.ref a0, .int x1] [] h = zv 3 141 173 [.ref a0, .int (x1 + 1)] [] (zh_wi h (zq (zh_r h a0 35)) x1.toNatClampNeg (-4)) := by
  refine Eq.trans (zv_next f141_178 rfl) ?_
  refine Eq.trans (zs_getr f141_179 g0 g1 g2) ?_
  refine Eq.trans (zv_next f141_182 rfl) ?_
  refine Eq.trans (zs_bp f141_183 bp_m4) ?_
  refine Eq.trans (zs_iast f141_185 g3 g5 g4) ?_
  refine Eq.trans (zs_inc f141_186 rfl ic_1 rfl) ?_
  refine Eq.trans (zs_goto (tgt := 173) f141_189 rfl) ?_
  rfl
theorem b141_192 {h : zi_Hp} {a0 : Nat} {x1 : Int32} (g0 : a0 < zh_n h) (g1 : (zh_k h a0).1 = 8) : zv 3 141 192 [.ref a0, .int x1] [] h = (zv 2 148 0 [.ref a0, .int 3, .double 0] [] h).bind fun r => zv 3 141 197 [.ref a0, .int x1] (r.1.toList ++ []) r.2 := by
  refine Eq.trans (zv_next f141_192 rfl) ?_
  refine Eq.trans (zs_ic f141_193 ic_3) ?_
  exact zs_callV f141_194 (Nat.le_of_ble_eq_true rfl) (Nat.le_of_ble_eq_true rfl) rfl g0 g1 me_148 (by decide) rfl
theorem b141_197 {h : zi_Hp} {a0 : Nat} {x1 : Int32}  : zv 3 141 197 [.ref a0, .int x1] [] h = some (none, h) := by
  exact zv_ret f141_197 rfl
set_option maxRecDepth 20000 in
theorem zq142 : zi_M[142]? = some zi_m142 := rfl
theorem zl142_0 {pc : Nat} (_ : 0 ≤ pc) : zi_fe 142 pc = zu142_0.lookup pc := zi_feA zq142 pc
theorem f142_0 : zi_fe 142 0 = some ((.lload_n 0), 1, 0, 0, 0, 0, 0) := (zl142_0 (Nat.le_of_ble_eq_true rfl)).trans rfl
theorem f142_1 : zi_fe 142 1 = some ((.lload_n 2), 1, 0, 0, 0, 0, 0) := (zl142_0 (Nat.le_of_ble_eq_true rfl)).trans rfl
theorem f142_2 : zi_fe 142 2 = some (.lcmp, 1, 0, 0, 0, 0, 0) := (zl142_0 (Nat.le_of_ble_eq_true rfl)).trans rfl
theorem f142_3 : zi_fe 142 3 = some ((.ifCond .lt 14), 3, 0, 0, 0, 0, 0) := (zl142_0 (Nat.le_of_ble_eq_true rfl)).trans rfl
theorem f142_6 : zi_fe 142 6 = some ((.lload_n 0), 1, 0, 0, 0, 0, 0) := (zl142_0 (Nat.le_of_ble_eq_true rfl)).trans rfl
theorem f142_7 : zi_fe 142 7 = some ((.lload 4), 2, 0, 0, 0, 0, 0) := (zl142_0 (Nat.le_of_ble_eq_true rfl)).trans rfl
theorem f142_9 : zi_fe 142 9 = some (.lcmp, 1, 0, 0, 0, 0, 0) := (zl142_0 (Nat.le_of_ble_eq_true rfl)).trans rfl
theorem f142_10 : zi_fe 142 10 = some ((.ifCond .gt 7), 3, 0, 0, 0, 0, 0) := (zl142_0 (Nat.le_of_ble_eq_true rfl)).trans rfl
theorem f142_13 : zi_fe 142 13 = some ((.iconst 1), 1, 0, 0, 0, 0, 0) := (zl142_0 (Nat.le_of_ble_eq_true rfl)).trans rfl
theorem f142_14 : zi_fe 142 14 = some ((.goto 4), 3, 0, 0, 0, 0, 0) := (zl142_0 (Nat.le_of_ble_eq_true rfl)).trans rfl
theorem f142_17 : zi_fe 142 17 = some ((.iconst 0), 1, 0, 0, 0, 0, 0) := (zl142_0 (Nat.le_of_ble_eq_true rfl)).trans rfl
theorem f142_18 : zi_fe 142 18 = some (.ireturn, 1, 1, 0, 0, 0, 0) := (zl142_0 (Nat.le_of_ble_eq_true rfl)).trans rfl
theorem b142_0 {h : zi_Hp} {y0 : Int64} {y2 : Int64} {y4 : Int64}  : zv 1 142 0 [.long y0, .double 1, .long y2, .double 1, .long y4, .double 1] [] h = if (lg_cmp y0 y2) < 0 then zv 1 142 17 [.long y0, .double 1, .long y2, .double 1, .long y4, .double 1] [] h else zv 1 142 6 [.long y0, .double 1, .long y2, .double 1, .long y4, .double 1] [] h := by
  refine Eq.trans (zv_next f142_0 rfl) ?_
  refine Eq.trans (zv_next f142_1 rfl) ?_
  refine Eq.trans (zv_next f142_2 rfl) ?_
  exact zs_if f142_3 rfl
theorem b142_6 {h : zi_Hp} {y0 : Int64} {y2 : Int64} {y4 : Int64}  : zv 1 142 6 [.long y0, .double 1, .long y2, .double 1, .long y4, .double 1] [] h = if 0 < (lg_cmp y0 y4) then zv 1 142 17 [.long y0, .double 1, .long y2, .double 1, .long y4, .double 1] [] h else zv 1 142 13 [.long y0, .double 1, .long y2, .double 1, .long y4, .double 1] [] h := by
  refine Eq.trans (zv_next f142_6 rfl) ?_
  refine Eq.trans (zv_next f142_7 rfl) ?_
  refine Eq.trans (zv_next f142_9 rfl) ?_
  exact zs_if f142_10 rfl
theorem b142_13 {h : zi_Hp} {y0 : Int64} {y2 : Int64} {y4 : Int64}  : zv 1 142 13 [.long y0, .double 1, .long y2, .double 1, .long y4, .double 1] [] h = zv 1 142 18 [.long y0, .double 1, .long y2, .double 1, .long y4, .double 1] [.int 1] h := by
  refine Eq.trans (zs_ic f142_13 ic_1) ?_
  refine Eq.trans (zs_goto (tgt := 18) f142_14 rfl) ?_
  rfl
theorem b142_17 {h : zi_Hp} {y0 : Int64} {y2 : Int64} {y4 : Int64}  : zv 1 142 17 [.long y0, .double 1, .long y2, .double 1, .long y4, .double 1] [] h = zv 1 142 18 [.long y0, .double 1, .long y2, .double 1, .long y4, .double 1] [.int 0] h := by
  refine Eq.trans (zs_ic f142_17 ic_0) ?_
  rfl
theorem b142_18 {h : zi_Hp} {y0 : Int64} {y2 : Int64} {y4 : Int64} {s0 : Int32} (g0 : s0 = 0 ∨ s0 = 1) : zv 1 142 18 [.long y0, .double 1, .long y2, .double 1, .long y4, .double 1] [.int s0] h = some (some (.int s0), h) := by
  exact zs_ret1 f142_18 g0
set_option maxRecDepth 20000 in
theorem zq143 : zi_M[143]? = some zi_m143 := rfl
theorem zl143_0 {pc : Nat} (_ : 0 ≤ pc) : zi_fe 143 pc = zu143_0.lookup pc := zi_feA zq143 pc
theorem f143_0 : zi_fe 143 0 = some ((.iload_n 0), 1, 0, 0, 0, 0, 0) := (zl143_0 (Nat.le_of_ble_eq_true rfl)).trans rfl
theorem f143_1 : zi_fe 143 1 = some ((.ifCond .eq 7), 3, 0, 0, 0, 0, 0) := (zl143_0 (Nat.le_of_ble_eq_true rfl)).trans rfl
theorem f143_4 : zi_fe 143 4 = some ((.iconst 1), 1, 0, 0, 0, 0, 0) := (zl143_0 (Nat.le_of_ble_eq_true rfl)).trans rfl
theorem f143_5 : zi_fe 143 5 = some ((.goto 4), 3, 0, 0, 0, 0, 0) := (zl143_0 (Nat.le_of_ble_eq_true rfl)).trans rfl
theorem f143_8 : zi_fe 143 8 = some ((.iconst 0), 1, 0, 0, 0, 0, 0) := (zl143_0 (Nat.le_of_ble_eq_true rfl)).trans rfl
theorem f143_9 : zi_fe 143 9 = some (.ireturn, 1, 0, 0, 0, 0, 0) := (zl143_0 (Nat.le_of_ble_eq_true rfl)).trans rfl
theorem b143_0 {h : zi_Hp} {x0 : Int32}  : zv 1 143 0 [.int x0] [] h = if x0 = 0 then zv 1 143 8 [.int x0] [] h else zv 1 143 4 [.int x0] [] h := by
  refine Eq.trans (zv_next f143_0 rfl) ?_
  exact zs_if f143_1 rfl
theorem b143_4 {h : zi_Hp} {x0 : Int32}  : zv 1 143 4 [.int x0] [] h = zv 1 143 9 [.int x0] [.int 1] h := by
  refine Eq.trans (zs_ic f143_4 ic_1) ?_
  refine Eq.trans (zs_goto (tgt := 9) f143_5 rfl) ?_
  rfl
theorem b143_8 {h : zi_Hp} {x0 : Int32}  : zv 1 143 8 [.int x0] [] h = zv 1 143 9 [.int x0] [.int 0] h := by
  refine Eq.trans (zs_ic f143_8 ic_0) ?_
  rfl
theorem b143_9 {h : zi_Hp} {x0 : Int32} {s0 : Int32}  : zv 1 143 9 [.int x0] [.int s0] h = some (some (.int s0), h) := by
  exact zs_ret0 f143_9
set_option maxRecDepth 20000 in
theorem zq144 : zi_M[144]? = some zi_m144 := rfl
theorem zl144_0 {pc : Nat} (_ : 0 ≤ pc) : zi_fe 144 pc = zu144_0.lookup pc := zi_feA zq144 pc
theorem f144_0 : zi_fe 144 0 = some ((.aload_n 0), 1, 0, 0, 0, 0, 0) := (zl144_0 (Nat.le_of_ble_eq_true rfl)).trans rfl
theorem f144_1 : zi_fe 144 1 = some ((.getfield 7), 3, 8, 0, 3, 1065, 0) := (zl144_0 (Nat.le_of_ble_eq_true rfl)).trans rfl
theorem f144_4 : zi_fe 144 4 = some ((.bipush 13), 2, 0, 0, 0, 0, 0) := (zl144_0 (Nat.le_of_ble_eq_true rfl)).trans rfl
theorem f144_6 : zi_fe 144 6 = some ((.iload_n 1), 1, 0, 0, 0, 0, 0) := (zl144_0 (Nat.le_of_ble_eq_true rfl)).trans rfl
theorem f144_7 : zi_fe 144 7 = some (.imul, 1, 0, 0, 0, 0, 0) := (zl144_0 (Nat.le_of_ble_eq_true rfl)).trans rfl
theorem f144_8 : zi_fe 144 8 = some ((.iload_n 2), 1, 0, 0, 0, 0, 0) := (zl144_0 (Nat.le_of_ble_eq_true rfl)).trans rfl
theorem f144_9 : zi_fe 144 9 = some (.iadd, 1, 0, 0, 0, 0, 0) := (zl144_0 (Nat.le_of_ble_eq_true rfl)).trans rfl
theorem f144_10 : zi_fe 144 10 = some (.iaload, 1, 0, 0, 0, 0, 0) := (zl144_0 (Nat.le_of_ble_eq_true rfl)).trans rfl
theorem f144_11 : zi_fe 144 11 = some (.ireturn, 1, 0, 0, 0, 0, 0) := (zl144_0 (Nat.le_of_ble_eq_true rfl)).trans rfl
theorem b144_0 {h : zi_Hp} {a0 : Nat} {x1 : Int32} {x2 : Int32} (g0 : a0 < zh_n h) (g1 : (zh_k h a0).1 = 8) (g2 : zh_r h a0 0 = .ref (zq (zh_r h a0 0))) (g3 : (zq (zh_r h a0 0)) < zh_n h) (g4 : ¬ (((13 * x1) + x2) < 0 ∨ (zh_k h (zq (zh_r h a0 0))).2 ≤ ((13 * x1) + x2).toNatClampNeg)) (g5 : (zh_k h (zq (zh_r h a0 0))).1 = 100) : zv 1 144 0 [.ref a0, .int x1, .int x2] [] h = some (some (.int (zh_i h (zq (zh_r h a0 0)) ((13 * x1) + x2).toNatClampNeg)), h) := by
  refine Eq.trans (zv_next f144_0 rfl) ?_
  refine Eq.trans (zs_getr f144_1 g0 g1 g2) ?_
  refine Eq.trans (zs_bp f144_4 bp_13) ?_
  refine Eq.trans (zv_next f144_6 rfl) ?_
  refine Eq.trans (zv_next f144_7 rfl) ?_
  refine Eq.trans (zv_next f144_8 rfl) ?_
  refine Eq.trans (zv_next f144_9 rfl) ?_
  refine Eq.trans (zs_iald f144_10 g3 g5 g4) ?_
  exact zs_ret0 f144_11
set_option maxRecDepth 20000 in
theorem zq145 : zi_M[145]? = some zi_m145 := rfl
theorem zl145_0 {pc : Nat} (_ : 0 ≤ pc) : zi_fe 145 pc = zu145_0.lookup pc := zi_feA zq145 pc
theorem f145_0 : zi_fe 145 0 = some ((.aload_n 0), 1, 0, 0, 0, 0, 0) := (zl145_0 (Nat.le_of_ble_eq_true rfl)).trans rfl
theorem f145_1 : zi_fe 145 1 = some ((.getfield 7), 3, 8, 0, 3, 1065, 0) := (zl145_0 (Nat.le_of_ble_eq_true rfl)).trans rfl
theorem f145_4 : zi_fe 145 4 = some ((.bipush 13), 2, 0, 0, 0, 0, 0) := (zl145_0 (Nat.le_of_ble_eq_true rfl)).trans rfl
theorem f145_6 : zi_fe 145 6 = some ((.iload_n 1), 1, 0, 0, 0, 0, 0) := (zl145_0 (Nat.le_of_ble_eq_true rfl)).trans rfl
theorem f145_7 : zi_fe 145 7 = some (.imul, 1, 0, 0, 0, 0, 0) := (zl145_0 (Nat.le_of_ble_eq_true rfl)).trans rfl
theorem f145_8 : zi_fe 145 8 = some ((.iload_n 2), 1, 0, 0, 0, 0, 0) := (zl145_0 (Nat.le_of_ble_eq_true rfl)).trans rfl
theorem f145_9 : zi_fe 145 9 = some (.iadd, 1, 0, 0, 0, 0, 0) := (zl145_0 (Nat.le_of_ble_eq_true rfl)).trans rfl
theorem f145_10 : zi_fe 145 10 = some ((.iload_n 3), 1, 0, 0, 0, 0, 0) := (zl145_0 (Nat.le_of_ble_eq_true rfl)).trans rfl
theorem f145_11 : zi_fe 145 11 = some (.iastore, 1, 0, 0, 0, 0, 0) := (zl145_0 (Nat.le_of_ble_eq_true rfl)).trans rfl
theorem f145_12 : zi_fe 145 12 = some (.return_, 1, 0, 0, 0, 0, 0) := (zl145_0 (Nat.le_of_ble_eq_true rfl)).trans rfl
theorem b145_0 {h : zi_Hp} {a0 : Nat} {x1 : Int32} {x2 : Int32} {x3 : Int32} (g0 : a0 < zh_n h) (g1 : (zh_k h a0).1 = 8) (g2 : zh_r h a0 0 = .ref (zq (zh_r h a0 0))) (g3 : (zq (zh_r h a0 0)) < zh_n h) (g4 : ¬ (((13 * x1) + x2) < 0 ∨ (zh_k h (zq (zh_r h a0 0))).2 ≤ ((13 * x1) + x2).toNatClampNeg)) (g5 : (zh_k h (zq (zh_r h a0 0))).1 = 100) : zv 1 145 0 [.ref a0, .int x1, .int x2, .int x3] [] h = some (none, zh_wi h (zq (zh_r h a0 0)) ((13 * x1) + x2).toNatClampNeg x3) := by
  refine Eq.trans (zv_next f145_0 rfl) ?_
  refine Eq.trans (zs_getr f145_1 g0 g1 g2) ?_
  refine Eq.trans (zs_bp f145_4 bp_13) ?_
  refine Eq.trans (zv_next f145_6 rfl) ?_
  refine Eq.trans (zv_next f145_7 rfl) ?_
  refine Eq.trans (zv_next f145_8 rfl) ?_
  refine Eq.trans (zv_next f145_9 rfl) ?_
  refine Eq.trans (zv_next f145_10 rfl) ?_
  refine Eq.trans (zs_iast f145_11 g3 g5 g4) ?_
  exact zv_ret f145_12 rfl
set_option maxRecDepth 20000 in
theorem zq146 : zi_M[146]? = some zi_m146 := rfl
theorem zl146_0 {pc : Nat} (_ : 0 ≤ pc) : zi_fe 146 pc = zu146_0.lookup pc := zi_feA zq146 pc
theorem f146_0 : zi_fe 146 0 = some ((.aload_n 0), 1, 0, 0, 0, 0, 0) := (zl146_0 (Nat.le_of_ble_eq_true rfl)).trans rfl
theorem f146_1 : zi_fe 146 1 = some ((.getfield 7), 3, 8, 0, 3, 1065, 0) := (zl146_0 (Nat.le_of_ble_eq_true rfl)).trans rfl
theorem f146_4 : zi_fe 146 4 = some ((.sipush 315), 3, 0, 0, 0, 0, 0) := (zl146_0 (Nat.le_of_ble_eq_true rfl)).trans rfl
theorem f146_7 : zi_fe 146 7 = some ((.bipush 24), 2, 0, 0, 0, 0, 0) := (zl146_0 (Nat.le_of_ble_eq_true rfl)).trans rfl
theorem f146_9 : zi_fe 146 9 = some ((.iload_n 1), 1, 0, 0, 0, 0, 0) := (zl146_0 (Nat.le_of_ble_eq_true rfl)).trans rfl
theorem f146_10 : zi_fe 146 10 = some (.imul, 1, 0, 0, 0, 0, 0) := (zl146_0 (Nat.le_of_ble_eq_true rfl)).trans rfl
theorem f146_11 : zi_fe 146 11 = some (.iadd, 1, 0, 0, 0, 0, 0) := (zl146_0 (Nat.le_of_ble_eq_true rfl)).trans rfl
theorem f146_12 : zi_fe 146 12 = some ((.iload_n 2), 1, 0, 0, 0, 0, 0) := (zl146_0 (Nat.le_of_ble_eq_true rfl)).trans rfl
theorem f146_13 : zi_fe 146 13 = some (.iadd, 1, 0, 0, 0, 0, 0) := (zl146_0 (Nat.le_of_ble_eq_true rfl)).trans rfl
theorem f146_14 : zi_fe 146 14 = some (.iaload, 1, 0, 0, 0, 0, 0) := (zl146_0 (Nat.le_of_ble_eq_true rfl)).trans rfl
theorem f146_15 : zi_fe 146 15 = some (.ireturn, 1, 0, 0, 0, 0, 0) := (zl146_0 (Nat.le_of_ble_eq_true rfl)).trans rfl
theorem b146_0 {h : zi_Hp} {a0 : Nat} {x1 : Int32} {x2 : Int32} (g0 : a0 < zh_n h) (g1 : (zh_k h a0).1 = 8) (g2 : zh_r h a0 0 = .ref (zq (zh_r h a0 0))) (g3 : (zq (zh_r h a0 0)) < zh_n h) (g4 : ¬ (((315 + (24 * x1)) + x2) < 0 ∨ (zh_k h (zq (zh_r h a0 0))).2 ≤ ((315 + (24 * x1)) + x2).toNatClampNeg)) (g5 : (zh_k h (zq (zh_r h a0 0))).1 = 100) : zv 1 146 0 [.ref a0, .int x1, .int x2] [] h = some (some (.int (zh_i h (zq (zh_r h a0 0)) ((315 + (24 * x1)) + x2).toNatClampNeg)), h) := by
  refine Eq.trans (zv_next f146_0 rfl) ?_
  refine Eq.trans (zs_getr f146_1 g0 g1 g2) ?_
  refine Eq.trans (zs_sp f146_4 sp_315) ?_
  refine Eq.trans (zs_bp f146_7 bp_24) ?_
  refine Eq.trans (zv_next f146_9 rfl) ?_
  refine Eq.trans (zv_next f146_10 rfl) ?_
  refine Eq.trans (zv_next f146_11 rfl) ?_
  refine Eq.trans (zv_next f146_12 rfl) ?_
  refine Eq.trans (zv_next f146_13 rfl) ?_
  refine Eq.trans (zs_iald f146_14 g3 g5 g4) ?_
  exact zs_ret0 f146_15
set_option maxRecDepth 20000 in
theorem zq147 : zi_M[147]? = some zi_m147 := rfl
theorem zl147_0 {pc : Nat} (_ : 0 ≤ pc) : zi_fe 147 pc = zu147_0.lookup pc := zi_feA zq147 pc
theorem f147_0 : zi_fe 147 0 = some ((.aload_n 0), 1, 0, 0, 0, 0, 0) := (zl147_0 (Nat.le_of_ble_eq_true rfl)).trans rfl
theorem f147_1 : zi_fe 147 1 = some ((.getfield 7), 3, 8, 0, 3, 1065, 0) := (zl147_0 (Nat.le_of_ble_eq_true rfl)).trans rfl
theorem f147_4 : zi_fe 147 4 = some ((.sipush 315), 3, 0, 0, 0, 0, 0) := (zl147_0 (Nat.le_of_ble_eq_true rfl)).trans rfl
theorem f147_7 : zi_fe 147 7 = some ((.bipush 24), 2, 0, 0, 0, 0, 0) := (zl147_0 (Nat.le_of_ble_eq_true rfl)).trans rfl
theorem f147_9 : zi_fe 147 9 = some ((.iload_n 1), 1, 0, 0, 0, 0, 0) := (zl147_0 (Nat.le_of_ble_eq_true rfl)).trans rfl
theorem f147_10 : zi_fe 147 10 = some (.imul, 1, 0, 0, 0, 0, 0) := (zl147_0 (Nat.le_of_ble_eq_true rfl)).trans rfl
theorem f147_11 : zi_fe 147 11 = some (.iadd, 1, 0, 0, 0, 0, 0) := (zl147_0 (Nat.le_of_ble_eq_true rfl)).trans rfl
theorem f147_12 : zi_fe 147 12 = some ((.iload_n 2), 1, 0, 0, 0, 0, 0) := (zl147_0 (Nat.le_of_ble_eq_true rfl)).trans rfl
theorem f147_13 : zi_fe 147 13 = some (.iadd, 1, 0, 0, 0, 0, 0) := (zl147_0 (Nat.le_of_ble_eq_true rfl)).trans rfl
theorem f147_14 : zi_fe 147 14 = some ((.iload_n 3), 1, 0, 0, 0, 0, 0) := (zl147_0 (Nat.le_of_ble_eq_true rfl)).trans rfl
theorem f147_15 : zi_fe 147 15 = some (.iastore, 1, 0, 0, 0, 0, 0) := (zl147_0 (Nat.le_of_ble_eq_true rfl)).trans rfl
theorem f147_16 : zi_fe 147 16 = some (.return_, 1, 0, 0, 0, 0, 0) := (zl147_0 (Nat.le_of_ble_eq_true rfl)).trans rfl
theorem b147_0 {h : zi_Hp} {a0 : Nat} {x1 : Int32} {x2 : Int32} {x3 : Int32} (g0 : a0 < zh_n h) (g1 : (zh_k h a0).1 = 8) (g2 : zh_r h a0 0 = .ref (zq (zh_r h a0 0))) (g3 : (zq (zh_r h a0 0)) < zh_n h) (g4 : ¬ (((315 + (24 * x1)) + x2) < 0 ∨ (zh_k h (zq (zh_r h a0 0))).2 ≤ ((315 + (24 * x1)) + x2).toNatClampNeg)) (g5 : (zh_k h (zq (zh_r h a0 0))).1 = 100) : zv 1 147 0 [.ref a0, .int x1, .int x2, .int x3] [] h = some (none, zh_wi h (zq (zh_r h a0 0)) ((315 + (24 * x1)) + x2).toNatClampNeg x3) := by
  refine Eq.trans (zv_next f147_0 rfl) ?_
  refine Eq.trans (zs_getr f147_1 g0 g1 g2) ?_
  refine Eq.trans (zs_sp f147_4 sp_315) ?_
  refine Eq.trans (zs_bp f147_7 bp_24) ?_
  refine Eq.trans (zv_next f147_9 rfl) ?_
  refine Eq.trans (zv_next f147_10 rfl) ?_
  refine Eq.trans (zv_next f147_11 rfl) ?_
  refine Eq.trans (zv_next f147_12 rfl) ?_
  refine Eq.trans (zv_next f147_13 rfl) ?_
  refine Eq.trans (zv_next f147_14 rfl) ?_
  refine Eq.trans (zs_iast f147_15 g3 g5 g4) ?_
  exact zv_ret f147_16 rfl
set_option maxRecDepth 20000 in
theorem zq148 : zi_M[148]? = some zi_m148 := rfl
theorem zl148_0 {pc : Nat} (_ : 0 ≤ pc) : zi_fe 148 pc = zu148_0.lookup pc := zi_feA zq148 pc
theorem f148_0 : zi_fe 148 0 = some ((.iconst 0), 1, 0, 0, 0, 0, 0) := (zl148_0 (Nat.le_of_ble_eq_true rfl)).trans rfl
theorem f148_1 : zi_fe 148 1 = some ((.istore_n 2), 1, 0, 0, 0, 0, 0) := (zl148_0 (Nat.le_of_ble_eq_true rfl)).trans rfl
theorem f148_2 : zi_fe 148 2 = some ((.iload_n 2), 1, 0, 0, 0, 0, 0) := (zl148_0 (Nat.le_of_ble_eq_true rfl)).trans rfl
theorem f148_3 : zi_fe 148 3 = some ((.sipush 387), 3, 0, 0, 0, 0, 0) := (zl148_0 (Nat.le_of_ble_eq_true rfl)).trans rfl
theorem f148_6 : zi_fe 148 6 = some ((.if_icmp .ge 16), 3, 0, 0, 0, 0, 0) := (zl148_0 (Nat.le_of_ble_eq_true rfl)).trans rfl
theorem f148_9 : zi_fe 148 9 = some ((.aload_n 0), 1, 0, 0, 0, 0, 0) := (zl148_0 (Nat.le_of_ble_eq_true rfl)).trans rfl
theorem f148_10 : zi_fe 148 10 = some ((.getfield 7), 3, 8, 0, 3, 1065, 0) := (zl148_0 (Nat.le_of_ble_eq_true rfl)).trans rfl
theorem f148_13 : zi_fe 148 13 = some ((.iload_n 2), 1, 0, 0, 0, 0, 0) := (zl148_0 (Nat.le_of_ble_eq_true rfl)).trans rfl
theorem f148_14 : zi_fe 148 14 = some ((.iconst 0), 1, 0, 0, 0, 0, 0) := (zl148_0 (Nat.le_of_ble_eq_true rfl)).trans rfl
theorem f148_15 : zi_fe 148 15 = some (.iastore, 1, 0, 0, 0, 0, 0) := (zl148_0 (Nat.le_of_ble_eq_true rfl)).trans rfl
theorem f148_16 : zi_fe 148 16 = some ((.iinc 2 1), 3, 0, 0, 0, 0, 0) := (zl148_0 (Nat.le_of_ble_eq_true rfl)).trans rfl
theorem f148_19 : zi_fe 148 19 = some ((.goto (-17)), 3, 0, 0, 0, 0, 0) := (zl148_0 (Nat.le_of_ble_eq_true rfl)).trans rfl
theorem zl148_1 {pc : Nat} (h : 22 ≤ pc) : zi_fe 148 pc = zu148_1.lookup pc := (zl148_0 (Nat.le_trans (Nat.le_of_ble_eq_true rfl) h)).trans (zi_lkA (a := zi_i148_0) (c := 22) rfl h)
theorem f148_22 : zi_fe 148 22 = some ((.aload_n 0), 1, 0, 0, 0, 0, 0) := (zl148_1 (Nat.le_of_ble_eq_true rfl)).trans rfl
theorem f148_23 : zi_fe 148 23 = some ((.iconst 0), 1, 0, 0, 0, 0, 0) := (zl148_1 (Nat.le_of_ble_eq_true rfl)).trans rfl
theorem f148_24 : zi_fe 148 24 = some ((.iconst 2), 1, 0, 0, 0, 0, 0) := (zl148_1 (Nat.le_of_ble_eq_true rfl)).trans rfl
theorem f148_25 : zi_fe 148 25 = some ((.bipush 100), 2, 0, 0, 0, 0, 0) := (zl148_1 (Nat.le_of_ble_eq_true rfl)).trans rfl
theorem f148_27 : zi_fe 148 27 = some ((.invokevirtual 79), 3, 145, 0, 8, 1061, 4) := (zl148_1 (Nat.le_of_ble_eq_true rfl)).trans rfl
theorem f148_30 : zi_fe 148 30 = some ((.aload_n 0), 1, 0, 0, 0, 0, 0) := (zl148_1 (Nat.le_of_ble_eq_true rfl)).trans rfl
theorem f148_31 : zi_fe 148 31 = some ((.iconst 0), 1, 0, 0, 0, 0, 0) := (zl148_1 (Nat.le_of_ble_eq_true rfl)).trans rfl
theorem f148_32 : zi_fe 148 32 = some ((.iconst 3), 1, 0, 0, 0, 0, 0) := (zl148_1 (Nat.le_of_ble_eq_true rfl)).trans rfl
theorem f148_33 : zi_fe 148 33 = some ((.bipush (-4)), 2, 0, 0, 0, 0, 0) := (zl148_1 (Nat.le_of_ble_eq_true rfl)).trans rfl
theorem f148_35 : zi_fe 148 35 = some ((.invokevirtual 79), 3, 145, 0, 8, 1061, 4) := (zl148_1 (Nat.le_of_ble_eq_true rfl)).trans rfl
theorem f148_38 : zi_fe 148 38 = some ((.aload_n 0), 1, 0, 0, 0, 0, 0) := (zl148_1 (Nat.le_of_ble_eq_true rfl)).trans rfl
theorem f148_39 : zi_fe 148 39 = some ((.getfield 7), 3, 8, 0, 3, 1065, 0) := (zl148_1 (Nat.le_of_ble_eq_true rfl)).trans rfl
theorem zl148_2 {pc : Nat} (h : 42 ≤ pc) : zi_fe 148 pc = zu148_2.lookup pc := (zl148_1 (Nat.le_trans (Nat.le_of_ble_eq_true rfl) h)).trans (zi_lkA (a := zi_i148_1) (c := 42) rfl h)
theorem f148_42 : zi_fe 148 42 = some ((.sipush 312), 3, 0, 0, 0, 0, 0) := (zl148_2 (Nat.le_of_ble_eq_true rfl)).trans rfl
theorem f148_45 : zi_fe 148 45 = some ((.iconst 1), 1, 0, 0, 0, 0, 0) := (zl148_2 (Nat.le_of_ble_eq_true rfl)).trans rfl
theorem f148_46 : zi_fe 148 46 = some (.iastore, 1, 0, 0, 0, 0, 0) := (zl148_2 (Nat.le_of_ble_eq_true rfl)).trans rfl
theorem f148_47 : zi_fe 148 47 = some ((.aload_n 0), 1, 0, 0, 0, 0, 0) := (zl148_2 (Nat.le_of_ble_eq_true rfl)).trans rfl
theorem f148_48 : zi_fe 148 48 = some ((.getfield 7), 3, 8, 0, 3, 1065, 0) := (zl148_2 (Nat.le_of_ble_eq_true rfl)).trans rfl
theorem f148_51 : zi_fe 148 51 = some ((.sipush 314), 3, 0, 0, 0, 0, 0) := (zl148_2 (Nat.le_of_ble_eq_true rfl)).trans rfl
theorem f148_54 : zi_fe 148 54 = some ((.iload_n 1), 1, 0, 0, 0, 0, 0) := (zl148_2 (Nat.le_of_ble_eq_true rfl)).trans rfl
theorem f148_55 : zi_fe 148 55 = some (.iastore, 1, 0, 0, 0, 0, 0) := (zl148_2 (Nat.le_of_ble_eq_true rfl)).trans rfl
theorem f148_56 : zi_fe 148 56 = some ((.aload_n 0), 1, 0, 0, 0, 0, 0) := (zl148_2 (Nat.le_of_ble_eq_true rfl)).trans rfl
theorem f148_57 : zi_fe 148 57 = some ((.getfield 16), 3, 8, 2, 3, 1067, 0) := (zl148_2 (Nat.le_of_ble_eq_true rfl)).trans rfl
theorem f148_60 : zi_fe 148 60 = some ((.iconst 0), 1, 0, 0, 0, 0, 0) := (zl148_2 (Nat.le_of_ble_eq_true rfl)).trans rfl
theorem f148_61 : zi_fe 148 61 = some ((.iconst 0), 1, 0, 0, 0, 0, 0) := (zl148_2 (Nat.le_of_ble_eq_true rfl)).trans rfl
theorem zl148_3 {pc : Nat} (h : 62 ≤ pc) : zi_fe 148 pc = zu148_3.lookup pc := (zl148_2 (Nat.le_trans (Nat.le_of_ble_eq_true rfl) h)).trans (zi_lkA (a := zi_i148_2) (c := 62) rfl h)
theorem f148_62 : zi_fe 148 62 = some (.bastore, 1, 0, 0, 0, 0, 0) := (zl148_3 (Nat.le_of_ble_eq_true rfl)).trans rfl
theorem f148_63 : zi_fe 148 63 = some ((.aload_n 0), 1, 0, 0, 0, 0, 0) := (zl148_3 (Nat.le_of_ble_eq_true rfl)).trans rfl
theorem f148_64 : zi_fe 148 64 = some ((.getfield 16), 3, 8, 2, 3, 1067, 0) := (zl148_3 (Nat.le_of_ble_eq_true rfl)).trans rfl
theorem f148_67 : zi_fe 148 67 = some ((.iconst 1), 1, 0, 0, 0, 0, 0) := (zl148_3 (Nat.le_of_ble_eq_true rfl)).trans rfl
theorem f148_68 : zi_fe 148 68 = some ((.iconst 0), 1, 0, 0, 0, 0, 0) := (zl148_3 (Nat.le_of_ble_eq_true rfl)).trans rfl
theorem f148_69 : zi_fe 148 69 = some (.bastore, 1, 0, 0, 0, 0, 0) := (zl148_3 (Nat.le_of_ble_eq_true rfl)).trans rfl
theorem f148_70 : zi_fe 148 70 = some (.return_, 1, 0, 0, 0, 0, 0) := (zl148_3 (Nat.le_of_ble_eq_true rfl)).trans rfl
theorem b148_0 {h : zi_Hp} {a0 : Nat} {x1 : Int32} {u2 : Value}  : zv 2 148 0 [.ref a0, .int x1, u2] [] h = zv 2 148 2 [.ref a0, .int x1, .int 0] [] h := by
  refine Eq.trans (zs_ic f148_0 ic_0) ?_
  refine Eq.trans (zv_next f148_1 rfl) ?_
  rfl
theorem b148_2 {h : zi_Hp} {a0 : Nat} {x1 : Int32} {x2 : Int32}  : zv 2 148 2 [.ref a0, .int x1, .int x2] [] h = if x2 < 387 then zv 2 148 9 [.ref a0, .int x1, .int x2] [] h else zv 2 148 22 [.ref a0, .int x1, .int x2] [] h := by
  refine Eq.trans (zv_next f148_2 rfl) ?_
  refine Eq.trans (zs_sp f148_3 sp_387) ?_
  exact zs_icmp f148_6 rfl
theorem b148_9 {h : zi_Hp} {a0 : Nat} {x1 : Int32} {x2 : Int32} (g0 : a0 < zh_n h) (g1 : (zh_k h a0).1 = 8) (g2 : zh_r h a0 0 = .ref (zq (zh_r h a0 0))) (g3 : (zq (zh_r h a0 0)) < zh_n h) (g4 : ¬ (x2 < 0 ∨ (zh_k h (zq (zh_r h a0 0))).2 ≤ x2.toNatClampNeg)) (g5 : (zh_k h (zq (zh_r h a0 0))).1 = 100) : zv 2 148 9 [.ref a0, .int x1, .int x2] [] h = zv 2 148 2 [.ref a0, .int x1, .int (x2 + 1)] [] (zh_wi h (zq (zh_r h a0 0)) x2.toNatClampNeg 0) := by
  refine Eq.trans (zv_next f148_9 rfl) ?_
  refine Eq.trans (zs_getr f148_10 g0 g1 g2) ?_
  refine Eq.trans (zv_next f148_13 rfl) ?_
  refine Eq.trans (zs_ic f148_14 ic_0) ?_
  refine Eq.trans (zs_iast f148_15 g3 g5 g4) ?_
  refine Eq.trans (zs_inc f148_16 rfl ic_1 rfl) ?_
  refine Eq.trans (zs_goto (tgt := 2) f148_19 rfl) ?_
  rfl
theorem b148_22 {h : zi_Hp} {a0 : Nat} {x1 : Int32} {x2 : Int32} (g0 : a0 < zh_n h) (g1 : (zh_k h a0).1 = 8) : zv 2 148 22 [.ref a0, .int x1, .int x2] [] h = (zv 1 145 0 [.ref a0, .int 0, .int 2, .int 100] [] h).bind fun r => zv 2 148 30 [.ref a0, .int x1, .int x2] (r.1.toList ++ []) r.2 := by
  refine Eq.trans (zv_next f148_22 rfl) ?_
  refine Eq.trans (zs_ic f148_23 ic_0) ?_
  refine Eq.trans (zs_ic f148_24 ic_2) ?_
  refine Eq.trans (zs_bp f148_25 bp_100) ?_
  exact zs_callV f148_27 (Nat.le_of_ble_eq_true rfl) (Nat.le_of_ble_eq_true rfl) rfl g0 g1 me_145 (by decide) rfl
theorem b148_30 {h : zi_Hp} {a0 : Nat} {x1 : Int32} {x2 : Int32} (g0 : a0 < zh_n h) (g1 : (zh_k h a0).1 = 8) : zv 2 148 30 [.ref a0, .int x1, .int x2] [] h = (zv 1 145 0 [.ref a0, .int 0, .int 3, .int (-4)] [] h).bind fun r => zv 2 148 38 [.ref a0, .int x1, .int x2] (r.1.toList ++ []) r.2 := by
  refine Eq.trans (zv_next f148_30 rfl) ?_
  refine Eq.trans (zs_ic f148_31 ic_0) ?_
  refine Eq.trans (zs_ic f148_32 ic_3) ?_
  refine Eq.trans (zs_bp f148_33 bp_m4) ?_
  exact zs_callV f148_35 (Nat.le_of_ble_eq_true rfl) (Nat.le_of_ble_eq_true rfl) rfl g0 g1 me_145 (by decide) rfl
theorem b148_38 {h : zi_Hp} {a0 : Nat} {x1 : Int32} {x2 : Int32} (g0 : a0 < zh_n h) (g1 : (zh_k h a0).1 = 8) (g2 : zh_r h a0 0 = .ref (zq (zh_r h a0 0))) (g3 : (zq (zh_r h a0 0)) < zh_n h) (g4 : 312 < (zh_k h (zq (zh_r h a0 0))).2) (g5 : (zh_k h (zq (zh_r h a0 0))).1 = 100) (g6 : 314 < (zh_k h (zq (zh_r h a0 0))).2) (g7 : zh_r h a0 2 = .ref (zq (zh_r h a0 2))) (g8 : (zq (zh_r h a0 2)) < zh_n h) (g9 : 0 < (zh_k h (zq (zh_r h a0 2))).2) (g10 : (zh_k h (zq (zh_r h a0 2))).1 = 101) (g11 : 1 < (zh_k h (zq (zh_r h a0 2))).2) : zv 2 148 38 [.ref a0, .int x1, .int x2] [] h = some (none, zh_wb (zh_wb (zh_wi (zh_wi h (zq (zh_r h a0 0)) 312 1) (zq (zh_r h a0 0)) 314 x1) (zq (zh_r h a0 2)) 0 false) (zq (zh_r h a0 2)) 1 false) := by
  refine Eq.trans (zv_next f148_38 rfl) ?_
  refine Eq.trans (zs_getr f148_39 g0 g1 g2) ?_
  refine Eq.trans (zs_sp f148_42 sp_312) ?_
  refine Eq.trans (zs_ic f148_45 ic_1) ?_
  refine Eq.trans (zs_iast f148_46 g3 g5 (zj_lit (by decide) g4)) ?_
  refine Eq.trans (zv_next f148_47 rfl) ?_
  refine Eq.trans (zs_getr f148_48 g0 g1 g2) ?_
  refine Eq.trans (zs_sp f148_51 sp_314) ?_
  refine Eq.trans (zv_next f148_54 rfl) ?_
  refine Eq.trans (zs_iast f148_55 g3 g5 (zj_lit (by decide) g6)) ?_
  refine Eq.trans (zv_next f148_56 rfl) ?_
  refine Eq.trans (zs_getr f148_57 g0 g1 g7) ?_
  refine Eq.trans (zs_ic f148_60 ic_0) ?_
  refine Eq.trans (zs_ic f148_61 ic_0) ?_
  refine Eq.trans (zs_bast f148_62 g8 g10 (zj_lit (by decide) g9) rfl) ?_
  refine Eq.trans (zv_next f148_63 rfl) ?_
  refine Eq.trans (zs_getr f148_64 g0 g1 g7) ?_
  refine Eq.trans (zs_ic f148_67 ic_1) ?_
  refine Eq.trans (zs_ic f148_68 ic_0) ?_
  refine Eq.trans (zs_bast f148_69 g8 g10 (zj_lit (by decide) g11) rfl) ?_
  exact zv_ret f148_70 rfl
set_option maxRecDepth 20000 in
theorem zq149 : zi_M[149]? = some zi_m149 := rfl
theorem zl149_0 {pc : Nat} (_ : 0 ≤ pc) : zi_fe 149 pc = zu149_0.lookup pc := zi_feA zq149 pc
theorem f149_0 : zi_fe 149 0 = some ((.bipush (-4)), 2, 0, 0, 0, 0, 0) := (zl149_0 (Nat.le_of_ble_eq_true rfl)).trans rfl
theorem f149_2 : zi_fe 149 2 = some ((.istore_n 2), 1, 0, 0, 0, 0, 0) := (zl149_0 (Nat.le_of_ble_eq_true rfl)).trans rfl
theorem f149_3 : zi_fe 149 3 = some ((.iconst 2), 1, 0, 0, 0, 0, 0) := (zl149_0 (Nat.le_of_ble_eq_true rfl)).trans rfl
theorem f149_4 : zi_fe 149 4 = some ((.istore_n 3), 1, 0, 0, 0, 0, 0) := (zl149_0 (Nat.le_of_ble_eq_true rfl)).trans rfl
theorem f149_5 : zi_fe 149 5 = some ((.iload_n 3), 1, 0, 0, 0, 0, 0) := (zl149_0 (Nat.le_of_ble_eq_true rfl)).trans rfl
theorem f149_6 : zi_fe 149 6 = some ((.ifCond .lt 57), 3, 0, 0, 0, 0, 0) := (zl149_0 (Nat.le_of_ble_eq_true rfl)).trans rfl
theorem f149_9 : zi_fe 149 9 = some ((.aload_n 0), 1, 0, 0, 0, 0, 0) := (zl149_0 (Nat.le_of_ble_eq_true rfl)).trans rfl
theorem f149_10 : zi_fe 149 10 = some ((.iload_n 3), 1, 0, 0, 0, 0, 0) := (zl149_0 (Nat.le_of_ble_eq_true rfl)).trans rfl
theorem f149_11 : zi_fe 149 11 = some ((.iconst 0), 1, 0, 0, 0, 0, 0) := (zl149_0 (Nat.le_of_ble_eq_true rfl)).trans rfl
theorem f149_12 : zi_fe 149 12 = some ((.invokevirtual 83), 3, 146, 0, 8, 1276, 3) := (zl149_0 (Nat.le_of_ble_eq_true rfl)).trans rfl
theorem f149_15 : zi_fe 149 15 = some ((.iconst 2), 1, 0, 0, 0, 0, 0) := (zl149_0 (Nat.le_of_ble_eq_true rfl)).trans rfl
theorem f149_16 : zi_fe 149 16 = some ((.if_icmp .eq 13), 3, 0, 0, 0, 0, 0) := (zl149_0 (Nat.le_of_ble_eq_true rfl)).trans rfl
theorem zl149_1 {pc : Nat} (h : 19 ≤ pc) : zi_fe 149 pc = zu149_1.lookup pc := (zl149_0 (Nat.le_trans (Nat.le_of_ble_eq_true rfl) h)).trans (zi_lkA (a := zi_i149_0) (c := 19) rfl h)
theorem f149_19 : zi_fe 149 19 = some ((.aload_n 0), 1, 0, 0, 0, 0, 0) := (zl149_1 (Nat.le_of_ble_eq_true rfl)).trans rfl
theorem f149_20 : zi_fe 149 20 = some ((.iload_n 3), 1, 0, 0, 0, 0, 0) := (zl149_1 (Nat.le_of_ble_eq_true rfl)).trans rfl
theorem f149_21 : zi_fe 149 21 = some ((.iconst 0), 1, 0, 0, 0, 0, 0) := (zl149_1 (Nat.le_of_ble_eq_true rfl)).trans rfl
theorem f149_22 : zi_fe 149 22 = some ((.invokevirtual 83), 3, 146, 0, 8, 1276, 3) := (zl149_1 (Nat.le_of_ble_eq_true rfl)).trans rfl
theorem f149_25 : zi_fe 149 25 = some ((.iconst 4), 1, 0, 0, 0, 0, 0) := (zl149_1 (Nat.le_of_ble_eq_true rfl)).trans rfl
theorem f149_26 : zi_fe 149 26 = some ((.if_icmp .ne 7), 3, 0, 0, 0, 0, 0) := (zl149_1 (Nat.le_of_ble_eq_true rfl)).trans rfl
theorem f149_29 : zi_fe 149 29 = some ((.iconst 1), 1, 0, 0, 0, 0, 0) := (zl149_1 (Nat.le_of_ble_eq_true rfl)).trans rfl
theorem f149_30 : zi_fe 149 30 = some ((.goto 4), 3, 0, 0, 0, 0, 0) := (zl149_1 (Nat.le_of_ble_eq_true rfl)).trans rfl
theorem f149_33 : zi_fe 149 33 = some ((.iconst 0), 1, 0, 0, 0, 0, 0) := (zl149_1 (Nat.le_of_ble_eq_true rfl)).trans rfl
theorem f149_34 : zi_fe 149 34 = some ((.istore 4), 2, 0, 0, 0, 0, 0) := (zl149_1 (Nat.le_of_ble_eq_true rfl)).trans rfl
theorem f149_36 : zi_fe 149 36 = some ((.iload 4), 2, 0, 0, 0, 0, 0) := (zl149_1 (Nat.le_of_ble_eq_true rfl)).trans rfl
theorem f149_38 : zi_fe 149 38 = some ((.ifCond .eq 17), 3, 0, 0, 0, 0, 0) := (zl149_1 (Nat.le_of_ble_eq_true rfl)).trans rfl
theorem zl149_2 {pc : Nat} (h : 41 ≤ pc) : zi_fe 149 pc = zu149_2.lookup pc := (zl149_1 (Nat.le_trans (Nat.le_of_ble_eq_true rfl) h)).trans (zi_lkA (a := zi_i149_1) (c := 41) rfl h)
theorem f149_41 : zi_fe 149 41 = some ((.aload_n 0), 1, 0, 0, 0, 0, 0) := (zl149_2 (Nat.le_of_ble_eq_true rfl)).trans rfl
theorem f149_42 : zi_fe 149 42 = some ((.iload_n 3), 1, 0, 0, 0, 0, 0) := (zl149_2 (Nat.le_of_ble_eq_true rfl)).trans rfl
theorem f149_43 : zi_fe 149 43 = some ((.iconst 3), 1, 0, 0, 0, 0, 0) := (zl149_2 (Nat.le_of_ble_eq_true rfl)).trans rfl
theorem f149_44 : zi_fe 149 44 = some ((.invokevirtual 83), 3, 146, 0, 8, 1276, 3) := (zl149_2 (Nat.le_of_ble_eq_true rfl)).trans rfl
theorem f149_47 : zi_fe 149 47 = some ((.iload_n 1), 1, 0, 0, 0, 0, 0) := (zl149_2 (Nat.le_of_ble_eq_true rfl)).trans rfl
theorem f149_48 : zi_fe 149 48 = some ((.if_icmp .ne 7), 3, 0, 0, 0, 0, 0) := (zl149_2 (Nat.le_of_ble_eq_true rfl)).trans rfl
theorem f149_51 : zi_fe 149 51 = some ((.iload_n 3), 1, 0, 0, 0, 0, 0) := (zl149_2 (Nat.le_of_ble_eq_true rfl)).trans rfl
theorem f149_52 : zi_fe 149 52 = some ((.goto 4), 3, 0, 0, 0, 0, 0) := (zl149_2 (Nat.le_of_ble_eq_true rfl)).trans rfl
theorem f149_55 : zi_fe 149 55 = some ((.iload_n 2), 1, 0, 0, 0, 0, 0) := (zl149_2 (Nat.le_of_ble_eq_true rfl)).trans rfl
theorem f149_56 : zi_fe 149 56 = some ((.istore_n 2), 1, 0, 0, 0, 0, 0) := (zl149_2 (Nat.le_of_ble_eq_true rfl)).trans rfl
theorem f149_57 : zi_fe 149 57 = some ((.iinc 3 (-1)), 3, 0, 0, 0, 0, 0) := (zl149_2 (Nat.le_of_ble_eq_true rfl)).trans rfl
theorem f149_60 : zi_fe 149 60 = some ((.goto (-55)), 3, 0, 0, 0, 0, 0) := (zl149_2 (Nat.le_of_ble_eq_true rfl)).trans rfl
theorem zl149_3 {pc : Nat} (h : 63 ≤ pc) : zi_fe 149 pc = zu149_3.lookup pc := (zl149_2 (Nat.le_trans (Nat.le_of_ble_eq_true rfl) h)).trans (zi_lkA (a := zi_i149_2) (c := 63) rfl h)
theorem f149_63 : zi_fe 149 63 = some ((.iload_n 2), 1, 0, 0, 0, 0, 0) := (zl149_3 (Nat.le_of_ble_eq_true rfl)).trans rfl
theorem f149_64 : zi_fe 149 64 = some (.ireturn, 1, 0, 0, 0, 0, 0) := (zl149_3 (Nat.le_of_ble_eq_true rfl)).trans rfl
theorem b149_0 {h : zi_Hp} {a0 : Nat} {x1 : Int32} {u2 : Value} {u3 : Value} {u4 : Value}  : zv 2 149 0 [.ref a0, .int x1, u2, u3, u4] [] h = zv 2 149 5 [.ref a0, .int x1, .int (-4), .int 2, u4] [] h := by
  refine Eq.trans (zs_bp f149_0 bp_m4) ?_
  refine Eq.trans (zv_next f149_2 rfl) ?_
  refine Eq.trans (zs_ic f149_3 ic_2) ?_
  refine Eq.trans (zv_next f149_4 rfl) ?_
  rfl
theorem b149_5 {h : zi_Hp} {a0 : Nat} {x1 : Int32} {x2 : Int32} {x3 : Int32} {u4 : Value}  : zv 2 149 5 [.ref a0, .int x1, .int x2, .int x3, u4] [] h = if x3 < 0 then zv 2 149 63 [.ref a0, .int x1, .int x2, .int x3, u4] [] h else zv 2 149 9 [.ref a0, .int x1, .int x2, .int x3, u4] [] h := by
  refine Eq.trans (zv_next f149_5 rfl) ?_
  exact zs_if f149_6 rfl
theorem b149_9 {h : zi_Hp} {a0 : Nat} {x1 : Int32} {x2 : Int32} {x3 : Int32} {u4 : Value} (g0 : a0 < zh_n h) (g1 : (zh_k h a0).1 = 8) : zv 2 149 9 [.ref a0, .int x1, .int x2, .int x3, u4] [] h = (zv 1 146 0 [.ref a0, .int x3, .int 0] [] h).bind fun r => zv 2 149 15 [.ref a0, .int x1, .int x2, .int x3, u4] (r.1.toList ++ []) r.2 := by
  refine Eq.trans (zv_next f149_9 rfl) ?_
  refine Eq.trans (zv_next f149_10 rfl) ?_
  refine Eq.trans (zs_ic f149_11 ic_0) ?_
  exact zs_callV f149_12 (Nat.le_of_ble_eq_true rfl) (Nat.le_of_ble_eq_true rfl) rfl g0 g1 me_146 (by decide) rfl
theorem b149_15 {h : zi_Hp} {a0 : Nat} {x1 : Int32} {x2 : Int32} {x3 : Int32} {u4 : Value} {s0 : Int32}  : zv 2 149 15 [.ref a0, .int x1, .int x2, .int x3, u4] [.int s0] h = if s0 = 2 then zv 2 149 29 [.ref a0, .int x1, .int x2, .int x3, u4] [] h else zv 2 149 19 [.ref a0, .int x1, .int x2, .int x3, u4] [] h := by
  refine Eq.trans (zs_ic f149_15 ic_2) ?_
  exact zs_icmp f149_16 rfl
theorem b149_19 {h : zi_Hp} {a0 : Nat} {x1 : Int32} {x2 : Int32} {x3 : Int32} {u4 : Value} (g0 : a0 < zh_n h) (g1 : (zh_k h a0).1 = 8) : zv 2 149 19 [.ref a0, .int x1, .int x2, .int x3, u4] [] h = (zv 1 146 0 [.ref a0, .int x3, .int 0] [] h).bind fun r => zv 2 149 25 [.ref a0, .int x1, .int x2, .int x3, u4] (r.1.toList ++ []) r.2 := by
  refine Eq.trans (zv_next f149_19 rfl) ?_
  refine Eq.trans (zv_next f149_20 rfl) ?_
  refine Eq.trans (zs_ic f149_21 ic_0) ?_
  exact zs_callV f149_22 (Nat.le_of_ble_eq_true rfl) (Nat.le_of_ble_eq_true rfl) rfl g0 g1 me_146 (by decide) rfl
theorem b149_25 {h : zi_Hp} {a0 : Nat} {x1 : Int32} {x2 : Int32} {x3 : Int32} {u4 : Value} {s0 : Int32}  : zv 2 149 25 [.ref a0, .int x1, .int x2, .int x3, u4] [.int s0] h = if s0 = 4 then zv 2 149 29 [.ref a0, .int x1, .int x2, .int x3, u4] [] h else zv 2 149 33 [.ref a0, .int x1, .int x2, .int x3, u4] [] h := by
  refine Eq.trans (zs_ic f149_25 ic_4) ?_
  exact zs_icmp f149_26 rfl
theorem b149_29 {h : zi_Hp} {a0 : Nat} {x1 : Int32} {x2 : Int32} {x3 : Int32} {u4 : Value}  : zv 2 149 29 [.ref a0, .int x1, .int x2, .int x3, u4] [] h = zv 2 149 34 [.ref a0, .int x1, .int x2, .int x3, u4] [.int 1] h := by
  refine Eq.trans (zs_ic f149_29 ic_1) ?_
  refine Eq.trans (zs_goto (tgt := 34) f149_30 rfl) ?_
  rfl
theorem b149_33 {h : zi_Hp} {a0 : Nat} {x1 : Int32} {x2 : Int32} {x3 : Int32} {u4 : Value}  : zv 2 149 33 [.ref a0, .int x1, .int x2, .int x3, u4] [] h = zv 2 149 34 [.ref a0, .int x1, .int x2, .int x3, u4] [.int 0] h := by
  refine Eq.trans (zs_ic f149_33 ic_0) ?_
  rfl
theorem b149_34 {h : zi_Hp} {a0 : Nat} {x1 : Int32} {x2 : Int32} {x3 : Int32} {u4 : Value} {s0 : Int32}  : zv 2 149 34 [.ref a0, .int x1, .int x2, .int x3, u4] [.int s0] h = if s0 = 0 then zv 2 149 55 [.ref a0, .int x1, .int x2, .int x3, .int s0] [] h else zv 2 149 41 [.ref a0, .int x1, .int x2, .int x3, .int s0] [] h := by
  refine Eq.trans (zv_next f149_34 rfl) ?_
  refine Eq.trans (zv_next f149_36 rfl) ?_
  exact zs_if f149_38 rfl
theorem b149_41 {h : zi_Hp} {a0 : Nat} {x1 : Int32} {x2 : Int32} {x3 : Int32} {x4 : Int32} (g0 : a0 < zh_n h) (g1 : (zh_k h a0).1 = 8) : zv 2 149 41 [.ref a0, .int x1, .int x2, .int x3, .int x4] [] h = (zv 1 146 0 [.ref a0, .int x3, .int 3] [] h).bind fun r => zv 2 149 47 [.ref a0, .int x1, .int x2, .int x3, .int x4] (r.1.toList ++ []) r.2 := by
  refine Eq.trans (zv_next f149_41 rfl) ?_
  refine Eq.trans (zv_next f149_42 rfl) ?_
  refine Eq.trans (zs_ic f149_43 ic_3) ?_
  exact zs_callV f149_44 (Nat.le_of_ble_eq_true rfl) (Nat.le_of_ble_eq_true rfl) rfl g0 g1 me_146 (by decide) rfl
theorem b149_47 {h : zi_Hp} {a0 : Nat} {x1 : Int32} {x2 : Int32} {x3 : Int32} {x4 : Int32} {s0 : Int32}  : zv 2 149 47 [.ref a0, .int x1, .int x2, .int x3, .int x4] [.int s0] h = if s0 = x1 then zv 2 149 51 [.ref a0, .int x1, .int x2, .int x3, .int x4] [] h else zv 2 149 55 [.ref a0, .int x1, .int x2, .int x3, .int x4] [] h := by
  refine Eq.trans (zv_next f149_47 rfl) ?_
  exact zs_icmp f149_48 rfl
theorem b149_51 {h : zi_Hp} {a0 : Nat} {x1 : Int32} {x2 : Int32} {x3 : Int32} {x4 : Int32}  : zv 2 149 51 [.ref a0, .int x1, .int x2, .int x3, .int x4] [] h = zv 2 149 56 [.ref a0, .int x1, .int x2, .int x3, .int x4] [.int x3] h := by
  refine Eq.trans (zv_next f149_51 rfl) ?_
  refine Eq.trans (zs_goto (tgt := 56) f149_52 rfl) ?_
  rfl
theorem b149_55 {h : zi_Hp} {a0 : Nat} {x1 : Int32} {x2 : Int32} {x3 : Int32} {x4 : Int32}  : zv 2 149 55 [.ref a0, .int x1, .int x2, .int x3, .int x4] [] h = zv 2 149 56 [.ref a0, .int x1, .int x2, .int x3, .int x4] [.int x2] h := by
  refine Eq.trans (zv_next f149_55 rfl) ?_
  rfl
theorem b149_56 {h : zi_Hp} {a0 : Nat} {x1 : Int32} {x2 : Int32} {x3 : Int32} {x4 : Int32} {s0 : Int32}  : zv 2 149 56 [.ref a0, .int x1, .int x2, .int x3, .int x4] [.int s0] h = zv 2 149 5 [.ref a0, .int x1, .int s0, .int (x3 + (-1)), .int x4] [] h := by
  refine Eq.trans (zv_next f149_56 rfl) ?_
  refine Eq.trans (zs_inc f149_57 rfl ic_m1 rfl) ?_
  refine Eq.trans (zs_goto (tgt := 5) f149_60 rfl) ?_
  rfl
theorem b149_63 {h : zi_Hp} {a0 : Nat} {x1 : Int32} {x2 : Int32} {x3 : Int32} {u4 : Value}  : zv 2 149 63 [.ref a0, .int x1, .int x2, .int x3, u4] [] h = some (some (.int x2), h) := by
  refine Eq.trans (zv_next f149_63 rfl) ?_
  exact zs_ret0 f149_64
set_option maxRecDepth 20000 in
theorem zq150 : zi_M[150]? = some zi_m150 := rfl
theorem zl150_0 {pc : Nat} (_ : 0 ≤ pc) : zi_fe 150 pc = zu150_0.lookup pc := zi_feA zq150 pc
theorem f150_0 : zi_fe 150 0 = some ((.iconst 0), 1, 0, 0, 0, 0, 0) := (zl150_0 (Nat.le_of_ble_eq_true rfl)).trans rfl
theorem f150_1 : zi_fe 150 1 = some ((.istore_n 3), 1, 0, 0, 0, 0, 0) := (zl150_0 (Nat.le_of_ble_eq_true rfl)).trans rfl
theorem f150_2 : zi_fe 150 2 = some ((.iconst 0), 1, 0, 0, 0, 0, 0) := (zl150_0 (Nat.le_of_ble_eq_true rfl)).trans rfl
theorem f150_3 : zi_fe 150 3 = some ((.istore 4), 2, 0, 0, 0, 0, 0) := (zl150_0 (Nat.le_of_ble_eq_true rfl)).trans rfl
theorem f150_5 : zi_fe 150 5 = some ((.iload 4), 2, 0, 0, 0, 0, 0) := (zl150_0 (Nat.le_of_ble_eq_true rfl)).trans rfl
theorem f150_7 : zi_fe 150 7 = some ((.aload_n 0), 1, 0, 0, 0, 0, 0) := (zl150_0 (Nat.le_of_ble_eq_true rfl)).trans rfl
theorem f150_8 : zi_fe 150 8 = some ((.iload_n 1), 1, 0, 0, 0, 0, 0) := (zl150_0 (Nat.le_of_ble_eq_true rfl)).trans rfl
theorem f150_9 : zi_fe 150 9 = some ((.iconst 1), 1, 0, 0, 0, 0, 0) := (zl150_0 (Nat.le_of_ble_eq_true rfl)).trans rfl
theorem f150_10 : zi_fe 150 10 = some ((.invokevirtual 87), 3, 144, 0, 8, 1261, 3) := (zl150_0 (Nat.le_of_ble_eq_true rfl)).trans rfl
theorem f150_13 : zi_fe 150 13 = some ((.if_icmp .ge 32), 3, 0, 0, 0, 0, 0) := (zl150_0 (Nat.le_of_ble_eq_true rfl)).trans rfl
theorem f150_16 : zi_fe 150 16 = some ((.iload_n 3), 1, 0, 0, 0, 0, 0) := (zl150_0 (Nat.le_of_ble_eq_true rfl)).trans rfl
theorem f150_17 : zi_fe 150 17 = some ((.ifCond .ne 16), 3, 0, 0, 0, 0, 0) := (zl150_0 (Nat.le_of_ble_eq_true rfl)).trans rfl
theorem zl150_1 {pc : Nat} (h : 20 ≤ pc) : zi_fe 150 pc = zu150_1.lookup pc := (zl150_0 (Nat.le_trans (Nat.le_of_ble_eq_true rfl) h)).trans (zi_lkA (a := zi_i150_0) (c := 20) rfl h)
theorem f150_20 : zi_fe 150 20 = some ((.aload_n 0), 1, 0, 0, 0, 0, 0) := (zl150_1 (Nat.le_of_ble_eq_true rfl)).trans rfl
theorem f150_21 : zi_fe 150 21 = some ((.iload_n 1), 1, 0, 0, 0, 0, 0) := (zl150_1 (Nat.le_of_ble_eq_true rfl)).trans rfl
theorem f150_22 : zi_fe 150 22 = some ((.iconst 5), 1, 0, 0, 0, 0, 0) := (zl150_1 (Nat.le_of_ble_eq_true rfl)).trans rfl
theorem f150_23 : zi_fe 150 23 = some ((.iload 4), 2, 0, 0, 0, 0, 0) := (zl150_1 (Nat.le_of_ble_eq_true rfl)).trans rfl
theorem f150_25 : zi_fe 150 25 = some (.iadd, 1, 0, 0, 0, 0, 0) := (zl150_1 (Nat.le_of_ble_eq_true rfl)).trans rfl
theorem f150_26 : zi_fe 150 26 = some ((.invokevirtual 87), 3, 144, 0, 8, 1261, 3) := (zl150_1 (Nat.le_of_ble_eq_true rfl)).trans rfl
theorem f150_29 : zi_fe 150 29 = some ((.iload_n 2), 1, 0, 0, 0, 0, 0) := (zl150_1 (Nat.le_of_ble_eq_true rfl)).trans rfl
theorem f150_30 : zi_fe 150 30 = some ((.if_icmp .ne 7), 3, 0, 0, 0, 0, 0) := (zl150_1 (Nat.le_of_ble_eq_true rfl)).trans rfl
theorem f150_33 : zi_fe 150 33 = some ((.iconst 1), 1, 0, 0, 0, 0, 0) := (zl150_1 (Nat.le_of_ble_eq_true rfl)).trans rfl
theorem f150_34 : zi_fe 150 34 = some ((.goto 4), 3, 0, 0, 0, 0, 0) := (zl150_1 (Nat.le_of_ble_eq_true rfl)).trans rfl
theorem f150_37 : zi_fe 150 37 = some ((.iconst 0), 1, 0, 0, 0, 0, 0) := (zl150_1 (Nat.le_of_ble_eq_true rfl)).trans rfl
theorem f150_38 : zi_fe 150 38 = some ((.istore_n 3), 1, 0, 0, 0, 0, 0) := (zl150_1 (Nat.le_of_ble_eq_true rfl)).trans rfl
theorem zl150_2 {pc : Nat} (h : 39 ≤ pc) : zi_fe 150 pc = zu150_2.lookup pc := (zl150_1 (Nat.le_trans (Nat.le_of_ble_eq_true rfl) h)).trans (zi_lkA (a := zi_i150_1) (c := 39) rfl h)
theorem f150_39 : zi_fe 150 39 = some ((.iinc 4 1), 3, 0, 0, 0, 0, 0) := (zl150_2 (Nat.le_of_ble_eq_true rfl)).trans rfl
theorem f150_42 : zi_fe 150 42 = some ((.goto (-37)), 3, 0, 0, 0, 0, 0) := (zl150_2 (Nat.le_of_ble_eq_true rfl)).trans rfl
theorem f150_45 : zi_fe 150 45 = some ((.iload_n 3), 1, 0, 0, 0, 0, 0) := (zl150_2 (Nat.le_of_ble_eq_true rfl)).trans rfl
theorem f150_46 : zi_fe 150 46 = some (.ireturn, 1, 1, 0, 0, 0, 0) := (zl150_2 (Nat.le_of_ble_eq_true rfl)).trans rfl
theorem b150_0 {h : zi_Hp} {a0 : Nat} {x1 : Int32} {x2 : Int32} {u3 : Value} {u4 : Value}  : zv 2 150 0 [.ref a0, .int x1, .int x2, u3, u4] [] h = zv 2 150 5 [.ref a0, .int x1, .int x2, .int 0, .int 0] [] h := by
  refine Eq.trans (zs_ic f150_0 ic_0) ?_
  refine Eq.trans (zv_next f150_1 rfl) ?_
  refine Eq.trans (zs_ic f150_2 ic_0) ?_
  refine Eq.trans (zv_next f150_3 rfl) ?_
  rfl
theorem b150_5 {h : zi_Hp} {a0 : Nat} {x1 : Int32} {x2 : Int32} {x3 : Int32} {x4 : Int32} (g0 : a0 < zh_n h) (g1 : (zh_k h a0).1 = 8) : zv 2 150 5 [.ref a0, .int x1, .int x2, .int x3, .int x4] [] h = (zv 1 144 0 [.ref a0, .int x1, .int 1] [] h).bind fun r => zv 2 150 13 [.ref a0, .int x1, .int x2, .int x3, .int x4] (r.1.toList ++ [.int x4]) r.2 := by
  refine Eq.trans (zv_next f150_5 rfl) ?_
  refine Eq.trans (zv_next f150_7 rfl) ?_
  refine Eq.trans (zv_next f150_8 rfl) ?_
  refine Eq.trans (zs_ic f150_9 ic_1) ?_
  exact zs_callV f150_10 (Nat.le_of_ble_eq_true rfl) (Nat.le_of_ble_eq_true rfl) rfl g0 g1 me_144 (by decide) rfl
theorem b150_13 {h : zi_Hp} {a0 : Nat} {x1 : Int32} {x2 : Int32} {x3 : Int32} {x4 : Int32} {s0 : Int32} {s1 : Int32}  : zv 2 150 13 [.ref a0, .int x1, .int x2, .int x3, .int x4] [.int s1, .int s0] h = if s0 < s1 then zv 2 150 16 [.ref a0, .int x1, .int x2, .int x3, .int x4] [] h else zv 2 150 45 [.ref a0, .int x1, .int x2, .int x3, .int x4] [] h := by
  exact zs_icmp f150_13 rfl
theorem b150_16 {h : zi_Hp} {a0 : Nat} {x1 : Int32} {x2 : Int32} {x3 : Int32} {x4 : Int32}  : zv 2 150 16 [.ref a0, .int x1, .int x2, .int x3, .int x4] [] h = if x3 = 0 then zv 2 150 20 [.ref a0, .int x1, .int x2, .int x3, .int x4] [] h else zv 2 150 33 [.ref a0, .int x1, .int x2, .int x3, .int x4] [] h := by
  refine Eq.trans (zv_next f150_16 rfl) ?_
  exact zs_if f150_17 rfl
theorem b150_20 {h : zi_Hp} {a0 : Nat} {x1 : Int32} {x2 : Int32} {x3 : Int32} {x4 : Int32} (g0 : a0 < zh_n h) (g1 : (zh_k h a0).1 = 8) : zv 2 150 20 [.ref a0, .int x1, .int x2, .int x3, .int x4] [] h = (zv 1 144 0 [.ref a0, .int x1, .int (5 + x4)] [] h).bind fun r => zv 2 150 29 [.ref a0, .int x1, .int x2, .int x3, .int x4] (r.1.toList ++ []) r.2 := by
  refine Eq.trans (zv_next f150_20 rfl) ?_
  refine Eq.trans (zv_next f150_21 rfl) ?_
  refine Eq.trans (zs_ic f150_22 ic_5) ?_
  refine Eq.trans (zv_next f150_23 rfl) ?_
  refine Eq.trans (zv_next f150_25 rfl) ?_
  exact zs_callV f150_26 (Nat.le_of_ble_eq_true rfl) (Nat.le_of_ble_eq_true rfl) rfl g0 g1 me_144 (by decide) rfl
theorem b150_29 {h : zi_Hp} {a0 : Nat} {x1 : Int32} {x2 : Int32} {x3 : Int32} {x4 : Int32} {s0 : Int32}  : zv 2 150 29 [.ref a0, .int x1, .int x2, .int x3, .int x4] [.int s0] h = if s0 = x2 then zv 2 150 33 [.ref a0, .int x1, .int x2, .int x3, .int x4] [] h else zv 2 150 37 [.ref a0, .int x1, .int x2, .int x3, .int x4] [] h := by
  refine Eq.trans (zv_next f150_29 rfl) ?_
  exact zs_icmp f150_30 rfl
theorem b150_33 {h : zi_Hp} {a0 : Nat} {x1 : Int32} {x2 : Int32} {x3 : Int32} {x4 : Int32}  : zv 2 150 33 [.ref a0, .int x1, .int x2, .int x3, .int x4] [] h = zv 2 150 38 [.ref a0, .int x1, .int x2, .int x3, .int x4] [.int 1] h := by
  refine Eq.trans (zs_ic f150_33 ic_1) ?_
  refine Eq.trans (zs_goto (tgt := 38) f150_34 rfl) ?_
  rfl
theorem b150_37 {h : zi_Hp} {a0 : Nat} {x1 : Int32} {x2 : Int32} {x3 : Int32} {x4 : Int32}  : zv 2 150 37 [.ref a0, .int x1, .int x2, .int x3, .int x4] [] h = zv 2 150 38 [.ref a0, .int x1, .int x2, .int x3, .int x4] [.int 0] h := by
  refine Eq.trans (zs_ic f150_37 ic_0) ?_
  rfl
theorem b150_38 {h : zi_Hp} {a0 : Nat} {x1 : Int32} {x2 : Int32} {x3 : Int32} {x4 : Int32} {s0 : Int32}  : zv 2 150 38 [.ref a0, .int x1, .int x2, .int x3, .int x4] [.int s0] h = zv 2 150 5 [.ref a0, .int x1, .int x2, .int s0, .int (x4 + 1)] [] h := by
  refine Eq.trans (zv_next f150_38 rfl) ?_
  refine Eq.trans (zs_inc f150_39 rfl ic_1 rfl) ?_
  refine Eq.trans (zs_goto (tgt := 5) f150_42 rfl) ?_
  rfl
theorem b150_45 {h : zi_Hp} {a0 : Nat} {x1 : Int32} {x2 : Int32} {x3 : Int32} {x4 : Int32} (g0 : x3 = 0 ∨ x3 = 1) : zv 2 150 45 [.ref a0, .int x1, .int x2, .int x3, .int x4] [] h = some (some (.int x3), h) := by
  refine Eq.trans (zv_next f150_45 rfl) ?_
  exact zs_ret1 f150_46 g0
set_option maxRecDepth 20000 in
theorem zq151 : zi_M[151]? = some zi_m151 := rfl
theorem zl151_0 {pc : Nat} (_ : 0 ≤ pc) : zi_fe 151 pc = zu151_0.lookup pc := zi_feA zq151 pc
theorem f151_0 : zi_fe 151 0 = some ((.iconst 0), 1, 0, 0, 0, 0, 0) := (zl151_0 (Nat.le_of_ble_eq_true rfl)).trans rfl
theorem f151_1 : zi_fe 151 1 = some ((.istore_n 2), 1, 0, 0, 0, 0, 0) := (zl151_0 (Nat.le_of_ble_eq_true rfl)).trans rfl
theorem f151_2 : zi_fe 151 2 = some ((.iconst 0), 1, 0, 0, 0, 0, 0) := (zl151_0 (Nat.le_of_ble_eq_true rfl)).trans rfl
theorem f151_3 : zi_fe 151 3 = some ((.istore_n 3), 1, 0, 0, 0, 0, 0) := (zl151_0 (Nat.le_of_ble_eq_true rfl)).trans rfl
theorem f151_4 : zi_fe 151 4 = some ((.iload_n 3), 1, 0, 0, 0, 0, 0) := (zl151_0 (Nat.le_of_ble_eq_true rfl)).trans rfl
theorem f151_5 : zi_fe 151 5 = some ((.aload_n 0), 1, 0, 0, 0, 0, 0) := (zl151_0 (Nat.le_of_ble_eq_true rfl)).trans rfl
theorem f151_6 : zi_fe 151 6 = some ((.getfield 7), 3, 8, 0, 3, 1065, 0) := (zl151_0 (Nat.le_of_ble_eq_true rfl)).trans rfl
theorem f151_9 : zi_fe 151 9 = some ((.sipush 312), 3, 0, 0, 0, 0, 0) := (zl151_0 (Nat.le_of_ble_eq_true rfl)).trans rfl
theorem f151_12 : zi_fe 151 12 = some (.iaload, 1, 0, 0, 0, 0, 0) := (zl151_0 (Nat.le_of_ble_eq_true rfl)).trans rfl
theorem f151_13 : zi_fe 151 13 = some ((.if_icmp .ge 46), 3, 0, 0, 0, 0, 0) := (zl151_0 (Nat.le_of_ble_eq_true rfl)).trans rfl
theorem f151_16 : zi_fe 151 16 = some ((.iload_n 2), 1, 0, 0, 0, 0, 0) := (zl151_0 (Nat.le_of_ble_eq_true rfl)).trans rfl
theorem f151_17 : zi_fe 151 17 = some ((.ifCond .ne 30), 3, 0, 0, 0, 0, 0) := (zl151_0 (Nat.le_of_ble_eq_true rfl)).trans rfl
theorem zl151_1 {pc : Nat} (h : 20 ≤ pc) : zi_fe 151 pc = zu151_1.lookup pc := (zl151_0 (Nat.le_trans (Nat.le_of_ble_eq_true rfl) h)).trans (zi_lkA (a := zi_i151_0) (c := 20) rfl h)
theorem f151_20 : zi_fe 151 20 = some ((.aload_n 0), 1, 0, 0, 0, 0, 0) := (zl151_1 (Nat.le_of_ble_eq_true rfl)).trans rfl
theorem f151_21 : zi_fe 151 21 = some ((.iload_n 3), 1, 0, 0, 0, 0, 0) := (zl151_1 (Nat.le_of_ble_eq_true rfl)).trans rfl
theorem f151_22 : zi_fe 151 22 = some ((.iconst 0), 1, 0, 0, 0, 0, 0) := (zl151_1 (Nat.le_of_ble_eq_true rfl)).trans rfl
theorem f151_23 : zi_fe 151 23 = some ((.invokevirtual 87), 3, 144, 0, 8, 1261, 3) := (zl151_1 (Nat.le_of_ble_eq_true rfl)).trans rfl
theorem f151_26 : zi_fe 151 26 = some ((.ifCond .ne 25), 3, 0, 0, 0, 0, 0) := (zl151_1 (Nat.le_of_ble_eq_true rfl)).trans rfl
theorem f151_29 : zi_fe 151 29 = some ((.aload_n 0), 1, 0, 0, 0, 0, 0) := (zl151_1 (Nat.le_of_ble_eq_true rfl)).trans rfl
theorem f151_30 : zi_fe 151 30 = some ((.iload_n 3), 1, 0, 0, 0, 0, 0) := (zl151_1 (Nat.le_of_ble_eq_true rfl)).trans rfl
theorem f151_31 : zi_fe 151 31 = some ((.iconst 4), 1, 0, 0, 0, 0, 0) := (zl151_1 (Nat.le_of_ble_eq_true rfl)).trans rfl
theorem f151_32 : zi_fe 151 32 = some ((.invokevirtual 87), 3, 144, 0, 8, 1261, 3) := (zl151_1 (Nat.le_of_ble_eq_true rfl)).trans rfl
theorem f151_35 : zi_fe 151 35 = some ((.ifCond .ne 16), 3, 0, 0, 0, 0, 0) := (zl151_1 (Nat.le_of_ble_eq_true rfl)).trans rfl
theorem f151_38 : zi_fe 151 38 = some ((.aload_n 0), 1, 0, 0, 0, 0, 0) := (zl151_1 (Nat.le_of_ble_eq_true rfl)).trans rfl
theorem f151_39 : zi_fe 151 39 = some ((.iload_n 3), 1, 0, 0, 0, 0, 0) := (zl151_1 (Nat.le_of_ble_eq_true rfl)).trans rfl
theorem zl151_2 {pc : Nat} (h : 40 ≤ pc) : zi_fe 151 pc = zu151_2.lookup pc := (zl151_1 (Nat.le_trans (Nat.le_of_ble_eq_true rfl) h)).trans (zi_lkA (a := zi_i151_1) (c := 40) rfl h)
theorem f151_40 : zi_fe 151 40 = some ((.iload_n 1), 1, 0, 0, 0, 0, 0) := (zl151_2 (Nat.le_of_ble_eq_true rfl)).trans rfl
theorem f151_41 : zi_fe 151 41 = some ((.invokevirtual 90), 3, 150, 0, 8, 1265, 3) := (zl151_2 (Nat.le_of_ble_eq_true rfl)).trans rfl
theorem f151_44 : zi_fe 151 44 = some ((.ifCond .eq 7), 3, 0, 0, 0, 0, 0) := (zl151_2 (Nat.le_of_ble_eq_true rfl)).trans rfl
theorem f151_47 : zi_fe 151 47 = some ((.iconst 1), 1, 0, 0, 0, 0, 0) := (zl151_2 (Nat.le_of_ble_eq_true rfl)).trans rfl
theorem f151_48 : zi_fe 151 48 = some ((.goto 4), 3, 0, 0, 0, 0, 0) := (zl151_2 (Nat.le_of_ble_eq_true rfl)).trans rfl
theorem f151_51 : zi_fe 151 51 = some ((.iconst 0), 1, 0, 0, 0, 0, 0) := (zl151_2 (Nat.le_of_ble_eq_true rfl)).trans rfl
theorem f151_52 : zi_fe 151 52 = some ((.istore_n 2), 1, 0, 0, 0, 0, 0) := (zl151_2 (Nat.le_of_ble_eq_true rfl)).trans rfl
theorem f151_53 : zi_fe 151 53 = some ((.iinc 3 1), 3, 0, 0, 0, 0, 0) := (zl151_2 (Nat.le_of_ble_eq_true rfl)).trans rfl
theorem f151_56 : zi_fe 151 56 = some ((.goto (-52)), 3, 0, 0, 0, 0, 0) := (zl151_2 (Nat.le_of_ble_eq_true rfl)).trans rfl
theorem f151_59 : zi_fe 151 59 = some ((.iload_n 2), 1, 0, 0, 0, 0, 0) := (zl151_2 (Nat.le_of_ble_eq_true rfl)).trans rfl
theorem f151_60 : zi_fe 151 60 = some ((.invokestatic 94), 3, 143, 1, 8, 1269, 1) := (zl151_2 (Nat.le_of_ble_eq_true rfl)).trans rfl
theorem f151_63 : zi_fe 151 63 = some (.ireturn, 1, 0, 0, 0, 0, 0) := (zl151_2 (Nat.le_of_ble_eq_true rfl)).trans rfl
theorem b151_0 {h : zi_Hp} {a0 : Nat} {x1 : Int32} {u2 : Value} {u3 : Value}  : zv 3 151 0 [.ref a0, .int x1, u2, u3] [] h = zv 3 151 4 [.ref a0, .int x1, .int 0, .int 0] [] h := by
  refine Eq.trans (zs_ic f151_0 ic_0) ?_
  refine Eq.trans (zv_next f151_1 rfl) ?_
  refine Eq.trans (zs_ic f151_2 ic_0) ?_
  refine Eq.trans (zv_next f151_3 rfl) ?_
  rfl
theorem b151_4 {h : zi_Hp} {a0 : Nat} {x1 : Int32} {x2 : Int32} {x3 : Int32} (g0 : a0 < zh_n h) (g1 : (zh_k h a0).1 = 8) (g2 : zh_r h a0 0 = .ref (zq (zh_r h a0 0))) (g3 : (zq (zh_r h a0 0)) < zh_n h) (g4 : 312 < (zh_k h (zq (zh_r h a0 0))).2) (g5 : (zh_k h (zq (zh_r h a0 0))).1 = 100) : zv 3 151 4 [.ref a0, .int x1, .int x2, .int x3] [] h = if x3 < (zh_i h (zq (zh_r h a0 0)) 312) then zv 3 151 16 [.ref a0, .int x1, .int x2, .int x3] [] h else zv 3 151 59 [.ref a0, .int x1, .int x2, .int x3] [] h := by
  refine Eq.trans (zv_next f151_4 rfl) ?_
  refine Eq.trans (zv_next f151_5 rfl) ?_
  refine Eq.trans (zs_getr f151_6 g0 g1 g2) ?_
  refine Eq.trans (zs_sp f151_9 sp_312) ?_
  refine Eq.trans (zs_iald f151_12 g3 g5 (zj_lit (by decide) g4)) ?_
  exact zs_icmp f151_13 rfl
theorem b151_16 {h : zi_Hp} {a0 : Nat} {x1 : Int32} {x2 : Int32} {x3 : Int32}  : zv 3 151 16 [.ref a0, .int x1, .int x2, .int x3] [] h = if x2 = 0 then zv 3 151 20 [.ref a0, .int x1, .int x2, .int x3] [] h else zv 3 151 47 [.ref a0, .int x1, .int x2, .int x3] [] h := by
  refine Eq.trans (zv_next f151_16 rfl) ?_
  exact zs_if f151_17 rfl
theorem b151_20 {h : zi_Hp} {a0 : Nat} {x1 : Int32} {x2 : Int32} {x3 : Int32} (g0 : a0 < zh_n h) (g1 : (zh_k h a0).1 = 8) : zv 3 151 20 [.ref a0, .int x1, .int x2, .int x3] [] h = (zv 1 144 0 [.ref a0, .int x3, .int 0] [] h).bind fun r => zv 3 151 26 [.ref a0, .int x1, .int x2, .int x3] (r.1.toList ++ []) r.2 := by
  refine Eq.trans (zv_next f151_20 rfl) ?_
  refine Eq.trans (zv_next f151_21 rfl) ?_
  refine Eq.trans (zs_ic f151_22 ic_0) ?_
  exact zs_callV f151_23 (Nat.le_of_ble_eq_true rfl) (Nat.le_of_ble_eq_true rfl) rfl g0 g1 me_144 (by decide) rfl
theorem b151_26 {h : zi_Hp} {a0 : Nat} {x1 : Int32} {x2 : Int32} {x3 : Int32} {s0 : Int32}  : zv 3 151 26 [.ref a0, .int x1, .int x2, .int x3] [.int s0] h = if s0 = 0 then zv 3 151 29 [.ref a0, .int x1, .int x2, .int x3] [] h else zv 3 151 51 [.ref a0, .int x1, .int x2, .int x3] [] h := by
  exact zs_if f151_26 rfl
theorem b151_29 {h : zi_Hp} {a0 : Nat} {x1 : Int32} {x2 : Int32} {x3 : Int32} (g0 : a0 < zh_n h) (g1 : (zh_k h a0).1 = 8) : zv 3 151 29 [.ref a0, .int x1, .int x2, .int x3] [] h = (zv 1 144 0 [.ref a0, .int x3, .int 4] [] h).bind fun r => zv 3 151 35 [.ref a0, .int x1, .int x2, .int x3] (r.1.toList ++ []) r.2 := by
  refine Eq.trans (zv_next f151_29 rfl) ?_
  refine Eq.trans (zv_next f151_30 rfl) ?_
  refine Eq.trans (zs_ic f151_31 ic_4) ?_
  exact zs_callV f151_32 (Nat.le_of_ble_eq_true rfl) (Nat.le_of_ble_eq_true rfl) rfl g0 g1 me_144 (by decide) rfl
theorem b151_35 {h : zi_Hp} {a0 : Nat} {x1 : Int32} {x2 : Int32} {x3 : Int32} {s0 : Int32}  : zv 3 151 35 [.ref a0, .int x1, .int x2, .int x3] [.int s0] h = if s0 = 0 then zv 3 151 38 [.ref a0, .int x1, .int x2, .int x3] [] h else zv 3 151 51 [.ref a0, .int x1, .int x2, .int x3] [] h := by
  exact zs_if f151_35 rfl
theorem b151_38 {h : zi_Hp} {a0 : Nat} {x1 : Int32} {x2 : Int32} {x3 : Int32} (g0 : a0 < zh_n h) (g1 : (zh_k h a0).1 = 8) : zv 3 151 38 [.ref a0, .int x1, .int x2, .int x3] [] h = (zv 2 150 0 [.ref a0, .int x3, .int x1, .double 0, .double 0] [] h).bind fun r => zv 3 151 44 [.ref a0, .int x1, .int x2, .int x3] (r.1.toList ++ []) r.2 := by
  refine Eq.trans (zv_next f151_38 rfl) ?_
  refine Eq.trans (zv_next f151_39 rfl) ?_
  refine Eq.trans (zv_next f151_40 rfl) ?_
  exact zs_callV f151_41 (Nat.le_of_ble_eq_true rfl) (Nat.le_of_ble_eq_true rfl) rfl g0 g1 me_150 (by decide) rfl
theorem b151_44 {h : zi_Hp} {a0 : Nat} {x1 : Int32} {x2 : Int32} {x3 : Int32} {s0 : Int32}  : zv 3 151 44 [.ref a0, .int x1, .int x2, .int x3] [.int s0] h = if s0 = 0 then zv 3 151 51 [.ref a0, .int x1, .int x2, .int x3] [] h else zv 3 151 47 [.ref a0, .int x1, .int x2, .int x3] [] h := by
  exact zs_if f151_44 rfl
theorem b151_47 {h : zi_Hp} {a0 : Nat} {x1 : Int32} {x2 : Int32} {x3 : Int32}  : zv 3 151 47 [.ref a0, .int x1, .int x2, .int x3] [] h = zv 3 151 52 [.ref a0, .int x1, .int x2, .int x3] [.int 1] h := by
  refine Eq.trans (zs_ic f151_47 ic_1) ?_
  refine Eq.trans (zs_goto (tgt := 52) f151_48 rfl) ?_
  rfl
theorem b151_51 {h : zi_Hp} {a0 : Nat} {x1 : Int32} {x2 : Int32} {x3 : Int32}  : zv 3 151 51 [.ref a0, .int x1, .int x2, .int x3] [] h = zv 3 151 52 [.ref a0, .int x1, .int x2, .int x3] [.int 0] h := by
  refine Eq.trans (zs_ic f151_51 ic_0) ?_
  rfl
theorem b151_52 {h : zi_Hp} {a0 : Nat} {x1 : Int32} {x2 : Int32} {x3 : Int32} {s0 : Int32}  : zv 3 151 52 [.ref a0, .int x1, .int x2, .int x3] [.int s0] h = zv 3 151 4 [.ref a0, .int x1, .int s0, .int (x3 + 1)] [] h := by
  refine Eq.trans (zv_next f151_52 rfl) ?_
  refine Eq.trans (zs_inc f151_53 rfl ic_1 rfl) ?_
  refine Eq.trans (zs_goto (tgt := 4) f151_56 rfl) ?_
  rfl
theorem b151_59 {h : zi_Hp} {a0 : Nat} {x1 : Int32} {x2 : Int32} {x3 : Int32}  : zv 3 151 59 [.ref a0, .int x1, .int x2, .int x3] [] h = (zv 1 143 0 [.int x2] [] h).bind fun r => zv 3 151 63 [.ref a0, .int x1, .int x2, .int x3] (r.1.toList ++ []) r.2 := by
  refine Eq.trans (zv_next f151_59 rfl) ?_
  exact zs_callS f151_60 (by decide) (Nat.le_of_ble_eq_true rfl) (Nat.le_of_ble_eq_true rfl) rfl me_143 (by decide) rfl
theorem b151_63 {h : zi_Hp} {a0 : Nat} {x1 : Int32} {x2 : Int32} {x3 : Int32} {s0 : Int32}  : zv 3 151 63 [.ref a0, .int x1, .int x2, .int x3] [.int s0] h = some (some (.int s0), h) := by
  exact zs_ret0 f151_63
set_option maxRecDepth 20000 in
theorem zq152 : zi_M[152]? = some zi_m152 := rfl
theorem zl152_0 {pc : Nat} (_ : 0 ≤ pc) : zi_fe 152 pc = zu152_0.lookup pc := zi_feA zq152 pc
theorem f152_0 : zi_fe 152 0 = some ((.iconst 0), 1, 0, 0, 0, 0, 0) := (zl152_0 (Nat.le_of_ble_eq_true rfl)).trans rfl
theorem f152_1 : zi_fe 152 1 = some ((.istore_n 3), 1, 0, 0, 0, 0, 0) := (zl152_0 (Nat.le_of_ble_eq_true rfl)).trans rfl
theorem f152_2 : zi_fe 152 2 = some ((.aload_n 0), 1, 0, 0, 0, 0, 0) := (zl152_0 (Nat.le_of_ble_eq_true rfl)).trans rfl
theorem f152_3 : zi_fe 152 3 = some ((.iload_n 1), 1, 0, 0, 0, 0, 0) := (zl152_0 (Nat.le_of_ble_eq_true rfl)).trans rfl
theorem f152_4 : zi_fe 152 4 = some ((.iconst 5), 1, 0, 0, 0, 0, 0) := (zl152_0 (Nat.le_of_ble_eq_true rfl)).trans rfl
theorem f152_5 : zi_fe 152 5 = some ((.iload_n 3), 1, 0, 0, 0, 0, 0) := (zl152_0 (Nat.le_of_ble_eq_true rfl)).trans rfl
theorem f152_6 : zi_fe 152 6 = some (.iadd, 1, 0, 0, 0, 0, 0) := (zl152_0 (Nat.le_of_ble_eq_true rfl)).trans rfl
theorem f152_7 : zi_fe 152 7 = some ((.invokevirtual 87), 3, 144, 0, 8, 1261, 3) := (zl152_0 (Nat.le_of_ble_eq_true rfl)).trans rfl
theorem f152_10 : zi_fe 152 10 = some ((.iload_n 2), 1, 0, 0, 0, 0, 0) := (zl152_0 (Nat.le_of_ble_eq_true rfl)).trans rfl
theorem f152_11 : zi_fe 152 11 = some ((.if_icmp .ge 9), 3, 0, 0, 0, 0, 0) := (zl152_0 (Nat.le_of_ble_eq_true rfl)).trans rfl
theorem f152_14 : zi_fe 152 14 = some ((.iinc 3 1), 3, 0, 0, 0, 0, 0) := (zl152_0 (Nat.le_of_ble_eq_true rfl)).trans rfl
theorem f152_17 : zi_fe 152 17 = some ((.goto (-15)), 3, 0, 0, 0, 0, 0) := (zl152_0 (Nat.le_of_ble_eq_true rfl)).trans rfl
theorem zl152_1 {pc : Nat} (h : 20 ≤ pc) : zi_fe 152 pc = zu152_1.lookup pc := (zl152_0 (Nat.le_trans (Nat.le_of_ble_eq_true rfl) h)).trans (zi_lkA (a := zi_i152_0) (c := 20) rfl h)
theorem f152_20 : zi_fe 152 20 = some ((.iload_n 3), 1, 0, 0, 0, 0, 0) := (zl152_1 (Nat.le_of_ble_eq_true rfl)).trans rfl
theorem f152_21 : zi_fe 152 21 = some (.ireturn, 1, 0, 0, 0, 0, 0) := (zl152_1 (Nat.le_of_ble_eq_true rfl)).trans rfl
theorem b152_0 {h : zi_Hp} {a0 : Nat} {x1 : Int32} {x2 : Int32} {u3 : Value}  : zv 2 152 0 [.ref a0, .int x1, .int x2, u3] [] h = zv 2 152 2 [.ref a0, .int x1, .int x2, .int 0] [] h := by
  refine Eq.trans (zs_ic f152_0 ic_0) ?_
  refine Eq.trans (zv_next f152_1 rfl) ?_
  rfl
theorem b152_2 {h : zi_Hp} {a0 : Nat} {x1 : Int32} {x2 : Int32} {x3 : Int32} (g0 : a0 < zh_n h) (g1 : (zh_k h a0).1 = 8) : zv 2 152 2 [.ref a0, .int x1, .int x2, .int x3] [] h = (zv 1 144 0 [.ref a0, .int x1, .int (5 + x3)] [] h).bind fun r => zv 2 152 10 [.ref a0, .int x1, .int x2, .int x3] (r.1.toList ++ []) r.2 := by
  refine Eq.trans (zv_next f152_2 rfl) ?_
  refine Eq.trans (zv_next f152_3 rfl) ?_
  refine Eq.trans (zs_ic f152_4 ic_5) ?_
  refine Eq.trans (zv_next f152_5 rfl) ?_
  refine Eq.trans (zv_next f152_6 rfl) ?_
  exact zs_callV f152_7 (Nat.le_of_ble_eq_true rfl) (Nat.le_of_ble_eq_true rfl) rfl g0 g1 me_144 (by decide) rfl
theorem b152_10 {h : zi_Hp} {a0 : Nat} {x1 : Int32} {x2 : Int32} {x3 : Int32} {s0 : Int32}  : zv 2 152 10 [.ref a0, .int x1, .int x2, .int x3] [.int s0] h = if s0 < x2 then zv 2 152 14 [.ref a0, .int x1, .int x2, .int x3] [] h else zv 2 152 20 [.ref a0, .int x1, .int x2, .int x3] [] h := by
  refine Eq.trans (zv_next f152_10 rfl) ?_
  exact zs_icmp f152_11 rfl
theorem b152_14 {h : zi_Hp} {a0 : Nat} {x1 : Int32} {x2 : Int32} {x3 : Int32}  : zv 2 152 14 [.ref a0, .int x1, .int x2, .int x3] [] h = zv 2 152 2 [.ref a0, .int x1, .int x2, .int (x3 + 1)] [] h := by
  refine Eq.trans (zs_inc f152_14 rfl ic_1 rfl) ?_
  refine Eq.trans (zs_goto (tgt := 2) f152_17 rfl) ?_
  rfl
theorem b152_20 {h : zi_Hp} {a0 : Nat} {x1 : Int32} {x2 : Int32} {x3 : Int32}  : zv 2 152 20 [.ref a0, .int x1, .int x2, .int x3] [] h = some (some (.int x3), h) := by
  refine Eq.trans (zv_next f152_20 rfl) ?_
  exact zs_ret0 f152_21
set_option maxRecDepth 20000 in
theorem zq153 : zi_M[153]? = some zi_m153 := rfl
theorem zl153_0 {pc : Nat} (_ : 0 ≤ pc) : zi_fe 153 pc = zu153_0.lookup pc := zi_feA zq153 pc
theorem f153_0 : zi_fe 153 0 = some ((.aload_n 0), 1, 0, 0, 0, 0, 0) := (zl153_0 (Nat.le_of_ble_eq_true rfl)).trans rfl
theorem f153_1 : zi_fe 153 1 = some ((.getfield 20), 3, 8, 3, 3, 1068, 0) := (zl153_0 (Nat.le_of_ble_eq_true rfl)).trans rfl
theorem f153_4 : zi_fe 153 4 = some ((.aload_n 0), 1, 0, 0, 0, 0, 0) := (zl153_0 (Nat.le_of_ble_eq_true rfl)).trans rfl
theorem f153_5 : zi_fe 153 5 = some ((.getfield 98), 3, 8, 5, 0, 1070, 0) := (zl153_0 (Nat.le_of_ble_eq_true rfl)).trans rfl
theorem f153_8 : zi_fe 153 8 = some ((.iload_n 1), 1, 0, 0, 0, 0, 0) := (zl153_0 (Nat.le_of_ble_eq_true rfl)).trans rfl
theorem f153_9 : zi_fe 153 9 = some (.iastore, 1, 0, 0, 0, 0, 0) := (zl153_0 (Nat.le_of_ble_eq_true rfl)).trans rfl
theorem f153_10 : zi_fe 153 10 = some ((.aload_n 0), 1, 0, 0, 0, 0, 0) := (zl153_0 (Nat.le_of_ble_eq_true rfl)).trans rfl
theorem f153_11 : zi_fe 153 11 = some ((.getfield 23), 3, 8, 4, 3, 1069, 0) := (zl153_0 (Nat.le_of_ble_eq_true rfl)).trans rfl
theorem f153_14 : zi_fe 153 14 = some ((.aload_n 0), 1, 0, 0, 0, 0, 0) := (zl153_0 (Nat.le_of_ble_eq_true rfl)).trans rfl
theorem f153_15 : zi_fe 153 15 = some ((.getfield 98), 3, 8, 5, 0, 1070, 0) := (zl153_0 (Nat.le_of_ble_eq_true rfl)).trans rfl
theorem f153_18 : zi_fe 153 18 = some ((.iload_n 2), 1, 0, 0, 0, 0, 0) := (zl153_0 (Nat.le_of_ble_eq_true rfl)).trans rfl
theorem f153_19 : zi_fe 153 19 = some (.iastore, 1, 0, 0, 0, 0, 0) := (zl153_0 (Nat.le_of_ble_eq_true rfl)).trans rfl
theorem zl153_1 {pc : Nat} (h : 20 ≤ pc) : zi_fe 153 pc = zu153_1.lookup pc := (zl153_0 (Nat.le_trans (Nat.le_of_ble_eq_true rfl) h)).trans (zi_lkA (a := zi_i153_0) (c := 20) rfl h)
theorem f153_20 : zi_fe 153 20 = some ((.aload_n 0), 1, 0, 0, 0, 0, 0) := (zl153_1 (Nat.le_of_ble_eq_true rfl)).trans rfl
theorem f153_21 : zi_fe 153 21 = some (.dup, 1, 0, 0, 0, 0, 0) := (zl153_1 (Nat.le_of_ble_eq_true rfl)).trans rfl
theorem f153_22 : zi_fe 153 22 = some ((.getfield 98), 3, 8, 5, 0, 1070, 0) := (zl153_1 (Nat.le_of_ble_eq_true rfl)).trans rfl
theorem f153_25 : zi_fe 153 25 = some ((.iconst 1), 1, 0, 0, 0, 0, 0) := (zl153_1 (Nat.le_of_ble_eq_true rfl)).trans rfl
theorem f153_26 : zi_fe 153 26 = some (.iadd, 1, 0, 0, 0, 0, 0) := (zl153_1 (Nat.le_of_ble_eq_true rfl)).trans rfl
theorem f153_27 : zi_fe 153 27 = some ((.putfield 98), 3, 8, 5, 0, 1070, 0) := (zl153_1 (Nat.le_of_ble_eq_true rfl)).trans rfl
theorem f153_30 : zi_fe 153 30 = some (.return_, 1, 0, 0, 0, 0, 0) := (zl153_1 (Nat.le_of_ble_eq_true rfl)).trans rfl
theorem b153_0 {h : zi_Hp} {a0 : Nat} {x1 : Int32} {x2 : Int32} (g0 : a0 < zh_n h) (g1 : (zh_k h a0).1 = 8) (g2 : zh_r h a0 3 = .ref (zq (zh_r h a0 3))) (g3 : (zq (zh_r h a0 3)) < zh_n h) (g4 : ¬ ((zh_i h a0 5) < 0 ∨ (zh_k h (zq (zh_r h a0 3))).2 ≤ (zh_i h a0 5).toNatClampNeg)) (g5 : (zh_k h (zq (zh_r h a0 3))).1 = 100) (g6 : zh_r h a0 4 = .ref (zq (zh_r h a0 4))) : zv 1 153 0 [.ref a0, .int x1, .int x2] [] h = zv 1 153 15 [.ref a0, .int x1, .int x2] [.ref a0, .ref (zq (zh_r h a0 4))] (zh_wi h (zq (zh_r h a0 3)) (zh_i h a0 5).toNatClampNeg x1) := by
  refine Eq.trans (zv_next f153_0 rfl) ?_
  refine Eq.trans (zs_getr f153_1 g0 g1 g2) ?_
  refine Eq.trans (zv_next f153_4 rfl) ?_
  refine Eq.trans (zs_geti f153_5 g0 g1) ?_
  refine Eq.trans (zv_next f153_8 rfl) ?_
  refine Eq.trans (zs_iast f153_9 g3 g5 g4) ?_
  refine Eq.trans (zv_next f153_10 rfl) ?_
  refine Eq.trans (zs_getr f153_11 g0 g1 g6) ?_
  refine Eq.trans (zv_next f153_14 rfl) ?_
  rfl
theorem b153_15 {h : zi_Hp} {a0 : Nat} {x1 : Int32} {x2 : Int32} {t0 : Nat} {t1 : Nat} (g0 : t1 < zh_n h) (g1 : (zh_k h t1).1 = 8) (g2 : t0 < zh_n h) (g3 : ¬ ((zh_i h t1 5) < 0 ∨ (zh_k h t0).2 ≤ (zh_i h t1 5).toNatClampNeg)) (g4 : (zh_k h t0).1 = 100) : zv 1 153 15 [.ref a0, .int x1, .int x2] [.ref t1, .ref t0] h = zv 1 153 22 [.ref a0, .int x1, .int x2] [.ref a0, .ref a0] (zh_wi h t0 (zh_i h t1 5).toNatClampNeg x2) := by
  refine Eq.trans (zs_geti f153_15 g0 g1) ?_
  refine Eq.trans (zv_next f153_18 rfl) ?_
  refine Eq.trans (zs_iast f153_19 g2 g4 g3) ?_
  refine Eq.trans (zv_next f153_20 rfl) ?_
  refine Eq.trans (zv_next f153_21 rfl) ?_
  rfl
theorem b153_22 {h : zi_Hp} {a0 : Nat} {x1 : Int32} {x2 : Int32} {t0 : Nat} {t1 : Nat} (g0 : t1 < zh_n h) (g1 : (zh_k h t1).1 = 8) (g2 : t0 < zh_n h) (g3 : (zh_k h t0).1 = 8) : zv 1 153 22 [.ref a0, .int x1, .int x2] [.ref t1, .ref t0] h = some (none, zh_wi h t0 5 ((zh_i h t1 5) + 1)) := by
  refine Eq.trans (zs_geti f153_22 g0 g1) ?_
  refine Eq.trans (zs_ic f153_25 ic_1) ?_
  refine Eq.trans (zv_next f153_26 rfl) ?_
  refine Eq.trans (zs_put f153_27 g2 g3 rfl) ?_
  exact zv_ret f153_30 rfl
set_option maxRecDepth 20000 in
theorem zq154 : zi_M[154]? = some zi_m154 := rfl
theorem zl154_0 {pc : Nat} (_ : 0 ≤ pc) : zi_fe 154 pc = zu154_0.lookup pc := zi_feA zq154 pc
theorem f154_0 : zi_fe 154 0 = some ((.iload_n 2), 1, 0, 0, 0, 0, 0) := (zl154_0 (Nat.le_of_ble_eq_true rfl)).trans rfl
theorem f154_1 : zi_fe 154 1 = some ((.istore 4), 2, 0, 0, 0, 0, 0) := (zl154_0 (Nat.le_of_ble_eq_true rfl)).trans rfl
theorem f154_3 : zi_fe 154 3 = some ((.iload 4), 2, 0, 0, 0, 0, 0) := (zl154_0 (Nat.le_of_ble_eq_true rfl)).trans rfl
theorem f154_5 : zi_fe 154 5 = some ((.iload_n 3), 1, 0, 0, 0, 0, 0) := (zl154_0 (Nat.le_of_ble_eq_true rfl)).trans rfl
theorem f154_6 : zi_fe 154 6 = some ((.if_icmp .ge 46), 3, 0, 0, 0, 0, 0) := (zl154_0 (Nat.le_of_ble_eq_true rfl)).trans rfl
theorem f154_9 : zi_fe 154 9 = some ((.aload_n 0), 1, 0, 0, 0, 0, 0) := (zl154_0 (Nat.le_of_ble_eq_true rfl)).trans rfl
theorem f154_10 : zi_fe 154 10 = some ((.iload_n 1), 1, 0, 0, 0, 0, 0) := (zl154_0 (Nat.le_of_ble_eq_true rfl)).trans rfl
theorem f154_11 : zi_fe 154 11 = some ((.iconst 5), 1, 0, 0, 0, 0, 0) := (zl154_0 (Nat.le_of_ble_eq_true rfl)).trans rfl
theorem f154_12 : zi_fe 154 12 = some ((.iload 4), 2, 0, 0, 0, 0, 0) := (zl154_0 (Nat.le_of_ble_eq_true rfl)).trans rfl
theorem f154_14 : zi_fe 154 14 = some (.iadd, 1, 0, 0, 0, 0, 0) := (zl154_0 (Nat.le_of_ble_eq_true rfl)).trans rfl
theorem f154_15 : zi_fe 154 15 = some ((.iload_n 2), 1, 0, 0, 0, 0, 0) := (zl154_0 (Nat.le_of_ble_eq_true rfl)).trans rfl
theorem f154_16 : zi_fe 154 16 = some (.isub, 1, 0, 0, 0, 0, 0) := (zl154_0 (Nat.le_of_ble_eq_true rfl)).trans rfl
theorem zl154_1 {pc : Nat} (h : 17 ≤ pc) : zi_fe 154 pc = zu154_1.lookup pc := (zl154_0 (Nat.le_trans (Nat.le_of_ble_eq_true rfl) h)).trans (zi_lkA (a := zi_i154_0) (c := 17) rfl h)
theorem f154_17 : zi_fe 154 17 = some ((.aload_n 0), 1, 0, 0, 0, 0, 0) := (zl154_1 (Nat.le_of_ble_eq_true rfl)).trans rfl
theorem f154_18 : zi_fe 154 18 = some ((.getfield 20), 3, 8, 3, 3, 1068, 0) := (zl154_1 (Nat.le_of_ble_eq_true rfl)).trans rfl
theorem f154_21 : zi_fe 154 21 = some ((.iload 4), 2, 0, 0, 0, 0, 0) := (zl154_1 (Nat.le_of_ble_eq_true rfl)).trans rfl
theorem f154_23 : zi_fe 154 23 = some (.iaload, 1, 0, 0, 0, 0, 0) := (zl154_1 (Nat.le_of_ble_eq_true rfl)).trans rfl
theorem f154_24 : zi_fe 154 24 = some ((.invokevirtual 79), 3, 145, 0, 8, 1061, 4) := (zl154_1 (Nat.le_of_ble_eq_true rfl)).trans rfl
theorem f154_27 : zi_fe 154 27 = some ((.aload_n 0), 1, 0, 0, 0, 0, 0) := (zl154_1 (Nat.le_of_ble_eq_true rfl)).trans rfl
theorem f154_28 : zi_fe 154 28 = some ((.iload_n 1), 1, 0, 0, 0, 0, 0) := (zl154_1 (Nat.le_of_ble_eq_true rfl)).trans rfl
theorem f154_29 : zi_fe 154 29 = some ((.bipush 9), 2, 0, 0, 0, 0, 0) := (zl154_1 (Nat.le_of_ble_eq_true rfl)).trans rfl
theorem f154_31 : zi_fe 154 31 = some ((.iload 4), 2, 0, 0, 0, 0, 0) := (zl154_1 (Nat.le_of_ble_eq_true rfl)).trans rfl
theorem f154_33 : zi_fe 154 33 = some (.iadd, 1, 0, 0, 0, 0, 0) := (zl154_1 (Nat.le_of_ble_eq_true rfl)).trans rfl
theorem f154_34 : zi_fe 154 34 = some ((.iload_n 2), 1, 0, 0, 0, 0, 0) := (zl154_1 (Nat.le_of_ble_eq_true rfl)).trans rfl
theorem f154_35 : zi_fe 154 35 = some (.isub, 1, 0, 0, 0, 0, 0) := (zl154_1 (Nat.le_of_ble_eq_true rfl)).trans rfl
theorem zl154_2 {pc : Nat} (h : 36 ≤ pc) : zi_fe 154 pc = zu154_2.lookup pc := (zl154_1 (Nat.le_trans (Nat.le_of_ble_eq_true rfl) h)).trans (zi_lkA (a := zi_i154_1) (c := 36) rfl h)
theorem f154_36 : zi_fe 154 36 = some ((.aload_n 0), 1, 0, 0, 0, 0, 0) := (zl154_2 (Nat.le_of_ble_eq_true rfl)).trans rfl
theorem f154_37 : zi_fe 154 37 = some ((.getfield 23), 3, 8, 4, 3, 1069, 0) := (zl154_2 (Nat.le_of_ble_eq_true rfl)).trans rfl
theorem f154_40 : zi_fe 154 40 = some ((.iload 4), 2, 0, 0, 0, 0, 0) := (zl154_2 (Nat.le_of_ble_eq_true rfl)).trans rfl
theorem f154_42 : zi_fe 154 42 = some (.iaload, 1, 0, 0, 0, 0, 0) := (zl154_2 (Nat.le_of_ble_eq_true rfl)).trans rfl
theorem f154_43 : zi_fe 154 43 = some ((.invokevirtual 79), 3, 145, 0, 8, 1061, 4) := (zl154_2 (Nat.le_of_ble_eq_true rfl)).trans rfl
theorem f154_46 : zi_fe 154 46 = some ((.iinc 4 1), 3, 0, 0, 0, 0, 0) := (zl154_2 (Nat.le_of_ble_eq_true rfl)).trans rfl
theorem f154_49 : zi_fe 154 49 = some ((.goto (-46)), 3, 0, 0, 0, 0, 0) := (zl154_2 (Nat.le_of_ble_eq_true rfl)).trans rfl
theorem f154_52 : zi_fe 154 52 = some ((.aload_n 0), 1, 0, 0, 0, 0, 0) := (zl154_2 (Nat.le_of_ble_eq_true rfl)).trans rfl
theorem f154_53 : zi_fe 154 53 = some ((.iload_n 1), 1, 0, 0, 0, 0, 0) := (zl154_2 (Nat.le_of_ble_eq_true rfl)).trans rfl
theorem f154_54 : zi_fe 154 54 = some ((.iconst 1), 1, 0, 0, 0, 0, 0) := (zl154_2 (Nat.le_of_ble_eq_true rfl)).trans rfl
theorem f154_55 : zi_fe 154 55 = some ((.iload_n 3), 1, 0, 0, 0, 0, 0) := (zl154_2 (Nat.le_of_ble_eq_true rfl)).trans rfl
theorem f154_56 : zi_fe 154 56 = some ((.iload_n 2), 1, 0, 0, 0, 0, 0) := (zl154_2 (Nat.le_of_ble_eq_true rfl)).trans rfl
theorem zl154_3 {pc : Nat} (h : 57 ≤ pc) : zi_fe 154 pc = zu154_3.lookup pc := (zl154_2 (Nat.le_trans (Nat.le_of_ble_eq_true rfl) h)).trans (zi_lkA (a := zi_i154_2) (c := 57) rfl h)
theorem f154_57 : zi_fe 154 57 = some (.isub, 1, 0, 0, 0, 0, 0) := (zl154_3 (Nat.le_of_ble_eq_true rfl)).trans rfl
theorem f154_58 : zi_fe 154 58 = some ((.invokevirtual 79), 3, 145, 0, 8, 1061, 4) := (zl154_3 (Nat.le_of_ble_eq_true rfl)).trans rfl
theorem f154_61 : zi_fe 154 61 = some (.return_, 1, 0, 0, 0, 0, 0) := (zl154_3 (Nat.le_of_ble_eq_true rfl)).trans rfl
theorem b154_0 {h : zi_Hp} {a0 : Nat} {x1 : Int32} {x2 : Int32} {x3 : Int32} {u4 : Value}  : zv 2 154 0 [.ref a0, .int x1, .int x2, .int x3, u4] [] h = zv 2 154 3 [.ref a0, .int x1, .int x2, .int x3, .int x2] [] h := by
  refine Eq.trans (zv_next f154_0 rfl) ?_
  refine Eq.trans (zv_next f154_1 rfl) ?_
  rfl
theorem b154_3 {h : zi_Hp} {a0 : Nat} {x1 : Int32} {x2 : Int32} {x3 : Int32} {x4 : Int32}  : zv 2 154 3 [.ref a0, .int x1, .int x2, .int x3, .int x4] [] h = if x4 < x3 then zv 2 154 9 [.ref a0, .int x1, .int x2, .int x3, .int x4] [] h else zv 2 154 52 [.ref a0, .int x1, .int x2, .int x3, .int x4] [] h := by
  refine Eq.trans (zv_next f154_3 rfl) ?_
  refine Eq.trans (zv_next f154_5 rfl) ?_
  exact zs_icmp f154_6 rfl
theorem b154_9 {h : zi_Hp} {a0 : Nat} {x1 : Int32} {x2 : Int32} {x3 : Int32} {x4 : Int32} (g0 : a0 < zh_n h) (g1 : (zh_k h a0).1 = 8) (g2 : zh_r h a0 3 = .ref (zq (zh_r h a0 3))) (g3 : (zq (zh_r h a0 3)) < zh_n h) (g4 : ¬ (x4 < 0 ∨ (zh_k h (zq (zh_r h a0 3))).2 ≤ x4.toNatClampNeg)) (g5 : (zh_k h (zq (zh_r h a0 3))).1 = 100) : zv 2 154 9 [.ref a0, .int x1, .int x2, .int x3, .int x4] [] h = (zv 1 145 0 [.ref a0, .int x1, .int ((5 + x4) - x2), .int (zh_i h (zq (zh_r h a0 3)) x4.toNatClampNeg)] [] h).bind fun r => zv 2 154 27 [.ref a0, .int x1, .int x2, .int x3, .int x4] (r.1.toList ++ []) r.2 := by
  refine Eq.trans (zv_next f154_9 rfl) ?_
  refine Eq.trans (zv_next f154_10 rfl) ?_
  refine Eq.trans (zs_ic f154_11 ic_5) ?_
  refine Eq.trans (zv_next f154_12 rfl) ?_
  refine Eq.trans (zv_next f154_14 rfl) ?_
  refine Eq.trans (zv_next f154_15 rfl) ?_
  refine Eq.trans (zv_next f154_16 rfl) ?_
  refine Eq.trans (zv_next f154_17 rfl) ?_
  refine Eq.trans (zs_getr f154_18 g0 g1 g2) ?_
  refine Eq.trans (zv_next f154_21 rfl) ?_
  refine Eq.trans (zs_iald f154_23 g3 g5 g4) ?_
  exact zs_callV f154_24 (Nat.le_of_ble_eq_true rfl) (Nat.le_of_ble_eq_true rfl) rfl g0 g1 me_145 (by decide) rfl
theorem b154_27 {h : zi_Hp} {a0 : Nat} {x1 : Int32} {x2 : Int32} {x3 : Int32} {x4 : Int32} (g0 : a0 < zh_n h) (g1 : (zh_k h a0).1 = 8) (g2 : zh_r h a0 4 = .ref (zq (zh_r h a0 4))) (g3 : (zq (zh_r h a0 4)) < zh_n h) (g4 : ¬ (x4 < 0 ∨ (zh_k h (zq (zh_r h a0 4))).2 ≤ x4.toNatClampNeg)) (g5 : (zh_k h (zq (zh_r h a0 4))).1 = 100) : zv 2 154 27 [.ref a0, .int x1, .int x2, .int x3, .int x4] [] h = (zv 1 145 0 [.ref a0, .int x1, .int ((9 + x4) - x2), .int (zh_i h (zq (zh_r h a0 4)) x4.toNatClampNeg)] [] h).bind fun r => zv 2 154 46 [.ref a0, .int x1, .int x2, .int x3, .int x4] (r.1.toList ++ []) r.2 := by
  refine Eq.trans (zv_next f154_27 rfl) ?_
  refine Eq.trans (zv_next f154_28 rfl) ?_
  refine Eq.trans (zs_bp f154_29 bp_9) ?_
  refine Eq.trans (zv_next f154_31 rfl) ?_
  refine Eq.trans (zv_next f154_33 rfl) ?_
  refine Eq.trans (zv_next f154_34 rfl) ?_
  refine Eq.trans (zv_next f154_35 rfl) ?_
  refine Eq.trans (zv_next f154_36 rfl) ?_
  refine Eq.trans (zs_getr f154_37 g0 g1 g2) ?_
  refine Eq.trans (zv_next f154_40 rfl) ?_
  refine Eq.trans (zs_iald f154_42 g3 g5 g4) ?_
  exact zs_callV f154_43 (Nat.le_of_ble_eq_true rfl) (Nat.le_of_ble_eq_true rfl) rfl g0 g1 me_145 (by decide) rfl
theorem b154_46 {h : zi_Hp} {a0 : Nat} {x1 : Int32} {x2 : Int32} {x3 : Int32} {x4 : Int32}  : zv 2 154 46 [.ref a0, .int x1, .int x2, .int x3, .int x4] [] h = zv 2 154 3 [.ref a0, .int x1, .int x2, .int x3, .int (x4 + 1)] [] h := by
  refine Eq.trans (zs_inc f154_46 rfl ic_1 rfl) ?_
  refine Eq.trans (zs_goto (tgt := 3) f154_49 rfl) ?_
  rfl
theorem b154_52 {h : zi_Hp} {a0 : Nat} {x1 : Int32} {x2 : Int32} {x3 : Int32} {x4 : Int32} (g0 : a0 < zh_n h) (g1 : (zh_k h a0).1 = 8) : zv 2 154 52 [.ref a0, .int x1, .int x2, .int x3, .int x4] [] h = (zv 1 145 0 [.ref a0, .int x1, .int 1, .int (x3 - x2)] [] h).bind fun r => zv 2 154 61 [.ref a0, .int x1, .int x2, .int x3, .int x4] (r.1.toList ++ []) r.2 := by
  refine Eq.trans (zv_next f154_52 rfl) ?_
  refine Eq.trans (zv_next f154_53 rfl) ?_
  refine Eq.trans (zs_ic f154_54 ic_1) ?_
  refine Eq.trans (zv_next f154_55 rfl) ?_
  refine Eq.trans (zv_next f154_56 rfl) ?_
  refine Eq.trans (zv_next f154_57 rfl) ?_
  exact zs_callV f154_58 (Nat.le_of_ble_eq_true rfl) (Nat.le_of_ble_eq_true rfl) rfl g0 g1 me_145 (by decide) rfl
theorem b154_61 {h : zi_Hp} {a0 : Nat} {x1 : Int32} {x2 : Int32} {x3 : Int32} {x4 : Int32}  : zv 2 154 61 [.ref a0, .int x1, .int x2, .int x3, .int x4] [] h = some (none, h) := by
  exact zv_ret f154_61 rfl
