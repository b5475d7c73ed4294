set_option maxRecDepth 20000 in
theorem zq178 : zi_M[178]? = some zi_m178 := rfl
theorem zl178_0 {pc : Nat} (_ : 0 ≤ pc) : zi_fe 178 pc = zu178_0.lookup pc := zi_feA zq178 pc
theorem f178_0 : zi_fe 178 0 = some ((.iconst 0), 1, 0, 0, 0, 0, 0) := (zl178_0 (Nat.le_of_ble_eq_true rfl)).trans rfl
theorem f178_1 : zi_fe 178 1 = some ((.istore_n 3), 1, 0, 0, 0, 0, 0) := (zl178_0 (Nat.le_of_ble_eq_true rfl)).trans rfl
theorem f178_2 : zi_fe 178 2 = some ((.iload_n 3), 1, 0, 0, 0, 0, 0) := (zl178_0 (Nat.le_of_ble_eq_true rfl)).trans rfl
theorem f178_3 : zi_fe 178 3 = some ((.iload_n 2), 1, 0, 0, 0, 0, 0) := (zl178_0 (Nat.le_of_ble_eq_true rfl)).trans rfl
theorem f178_4 : zi_fe 178 4 = some ((.if_icmp .ge 23), 3, 0, 0, 0, 0, 0) := (zl178_0 (Nat.le_of_ble_eq_true rfl)).trans rfl
theorem f178_7 : zi_fe 178 7 = some ((.aload_n 0), 1, 0, 0, 0, 0, 0) := (zl178_0 (Nat.le_of_ble_eq_true rfl)).trans rfl
theorem f178_8 : zi_fe 178 8 = some ((.iload_n 1), 1, 0, 0, 0, 0, 0) := (zl178_0 (Nat.le_of_ble_eq_true rfl)).trans rfl
theorem f178_9 : zi_fe 178 9 = some ((.invokevirtual 185), 3, 176, 0, 8, 1272, 2) := (zl178_0 (Nat.le_of_ble_eq_true rfl)).trans rfl
theorem f178_12 : zi_fe 178 12 = some ((.ifCond .eq 15), 3, 0, 0, 0, 0, 0) := (zl178_0 (Nat.le_of_ble_eq_true rfl)).trans rfl
theorem f178_15 : zi_fe 178 15 = some ((.aload_n 0), 1, 0, 0, 0, 0, 0) := (zl178_0 (Nat.le_of_ble_eq_true rfl)).trans rfl
theorem f178_16 : zi_fe 178 16 = some ((.iload_n 1), 1, 0, 0, 0, 0, 0) := (zl178_0 (Nat.le_of_ble_eq_true rfl)).trans rfl
theorem f178_17 : zi_fe 178 17 = some ((.invokevirtual 188), 3, 174, 0, 8, 1291, 2) := (zl178_0 (Nat.le_of_ble_eq_true rfl)).trans rfl
theorem zl178_1 {pc : Nat} (h : 20 ≤ pc) : zi_fe 178 pc = zu178_1.lookup pc := (zl178_0 (Nat.le_trans (Nat.le_of_ble_eq_true rfl) h)).trans (zi_lkA (a := zi_i178_0) (c := 20) rfl h)
theorem f178_20 : zi_fe 178 20 = some (.pop, 1, 0, 0, 0, 0, 0) := (zl178_1 (Nat.le_of_ble_eq_true rfl)).trans rfl
theorem f178_21 : zi_fe 178 21 = some ((.iinc 3 1), 3, 0, 0, 0, 0, 0) := (zl178_1 (Nat.le_of_ble_eq_true rfl)).trans rfl
theorem f178_24 : zi_fe 178 24 = some ((.goto (-22)), 3, 0, 0, 0, 0, 0) := (zl178_1 (Nat.le_of_ble_eq_true rfl)).trans rfl
theorem f178_27 : zi_fe 178 27 = some ((.iload_n 3), 1, 0, 0, 0, 0, 0) := (zl178_1 (Nat.le_of_ble_eq_true rfl)).trans rfl
theorem f178_28 : zi_fe 178 28 = some (.ireturn, 1, 0, 0, 0, 0, 0) := (zl178_1 (Nat.le_of_ble_eq_true rfl)).trans rfl
theorem b178_0 {h : zi_Hp} {a0 : Nat} {x1 : Int32} {x2 : Int32} {u3 : Value}  : zv 7 178 0 [.ref a0, .int x1, .int x2, u3] [] h = zv 7 178 2 [.ref a0, .int x1, .int x2, .int 0] [] h := by
  refine Eq.trans (zs_ic f178_0 ic_0) ?_
  refine Eq.trans (zv_next f178_1 rfl) ?_
  rfl
theorem b178_2 {h : zi_Hp} {a0 : Nat} {x1 : Int32} {x2 : Int32} {x3 : Int32}  : zv 7 178 2 [.ref a0, .int x1, .int x2, .int x3] [] h = if x3 < x2 then zv 7 178 7 [.ref a0, .int x1, .int x2, .int x3] [] h else zv 7 178 27 [.ref a0, .int x1, .int x2, .int x3] [] h := by
  refine Eq.trans (zv_next f178_2 rfl) ?_
  refine Eq.trans (zv_next f178_3 rfl) ?_
  exact zs_icmp f178_4 rfl
theorem b178_7 {h : zi_Hp} {a0 : Nat} {x1 : Int32} {x2 : Int32} {x3 : Int32} (g0 : a0 < zh_n h) (g1 : (zh_k h a0).1 = 8) : zv 7 178 7 [.ref a0, .int x1, .int x2, .int x3] [] h = (zv 4 176 0 [.ref a0, .int x1] [] h).bind fun r => zv 7 178 12 [.ref a0, .int x1, .int x2, .int x3] (r.1.toList ++ []) r.2 := by
  refine Eq.trans (zv_next f178_7 rfl) ?_
  refine Eq.trans (zv_next f178_8 rfl) ?_
  exact zs_callV f178_9 (Nat.le_of_ble_eq_true rfl) (Nat.le_of_ble_eq_true rfl) rfl g0 g1 me_176 (by decide) rfl
theorem b178_12 {h : zi_Hp} {a0 : Nat} {x1 : Int32} {x2 : Int32} {x3 : Int32} {s0 : Int32}  : zv 7 178 12 [.ref a0, .int x1, .int x2, .int x3] [.int s0] h = if s0 = 0 then zv 7 178 27 [.ref a0, .int x1, .int x2, .int x3] [] h else zv 7 178 15 [.ref a0, .int x1, .int x2, .int x3] [] h := by
  exact zs_if f178_12 rfl
theorem b178_15 {h : zi_Hp} {a0 : Nat} {x1 : Int32} {x2 : Int32} {x3 : Int32} (g0 : a0 < zh_n h) (g1 : (zh_k h a0).1 = 8) : zv 7 178 15 [.ref a0, .int x1, .int x2, .int x3] [] h = (zv 6 174 0 [.ref a0, .int x1, .double 0, .double 0] [] h).bind fun r => zv 7 178 20 [.ref a0, .int x1, .int x2, .int x3] (r.1.toList ++ []) r.2 := by
  refine Eq.trans (zv_next f178_15 rfl) ?_
  refine Eq.trans (zv_next f178_16 rfl) ?_
  exact zs_callV f178_17 (Nat.le_of_ble_eq_true rfl) (Nat.le_of_ble_eq_true rfl) rfl g0 g1 me_174 (by decide) rfl
theorem b178_20 {h : zi_Hp} {a0 : Nat} {x1 : Int32} {x2 : Int32} {x3 : Int32} {s0 : Int32}  : zv 7 178 20 [.ref a0, .int x1, .int x2, .int x3] [.int s0] h = zv 7 178 2 [.ref a0, .int x1, .int x2, .int (x3 + 1)] [] h := by
  refine Eq.trans (zv_next f178_20 rfl) ?_
  refine Eq.trans (zs_inc f178_21 rfl ic_1 rfl) ?_
  refine Eq.trans (zs_goto (tgt := 2) f178_24 rfl) ?_
  rfl
theorem b178_27 {h : zi_Hp} {a0 : Nat} {x1 : Int32} {x2 : Int32} {x3 : Int32}  : zv 7 178 27 [.ref a0, .int x1, .int x2, .int x3] [] h = some (some (.int x3), h) := by
  refine Eq.trans (zv_next f178_27 rfl) ?_
  exact zs_ret0 f178_28
set_option maxRecDepth 20000 in
theorem zq179 : zi_M[179]? = some zi_m179 := rfl
theorem zl179_0 {pc : Nat} (_ : 0 ≤ pc) : zi_fe 179 pc = zu179_0.lookup pc := zi_feA zq179 pc
theorem f179_0 : zi_fe 179 0 = some ((.aload_n 0), 1, 0, 0, 0, 0, 0) := (zl179_0 (Nat.le_of_ble_eq_true rfl)).trans rfl
theorem f179_1 : zi_fe 179 1 = some ((.iconst 0), 1, 0, 0, 0, 0, 0) := (zl179_0 (Nat.le_of_ble_eq_true rfl)).trans rfl
theorem f179_2 : zi_fe 179 2 = some ((.iload_n 1), 1, 0, 0, 0, 0, 0) := (zl179_0 (Nat.le_of_ble_eq_true rfl)).trans rfl
theorem f179_3 : zi_fe 179 3 = some ((.iload_n 2), 1, 0, 0, 0, 0, 0) := (zl179_0 (Nat.le_of_ble_eq_true rfl)).trans rfl
theorem f179_4 : zi_fe 179 4 = some ((.invokevirtual 191), 3, 177, 0, 8, 1249, 4) := (zl179_0 (Nat.le_of_ble_eq_true rfl)).trans rfl
theorem f179_7 : zi_fe 179 7 = some ((.aload_n 0), 1, 0, 0, 0, 0, 0) := (zl179_0 (Nat.le_of_ble_eq_true rfl)).trans rfl
theorem f179_8 : zi_fe 179 8 = some ((.iconst 0), 1, 0, 0, 0, 0, 0) := (zl179_0 (Nat.le_of_ble_eq_true rfl)).trans rfl
theorem f179_9 : zi_fe 179 9 = some ((.invokevirtual 185), 3, 176, 0, 8, 1272, 2) := (zl179_0 (Nat.le_of_ble_eq_true rfl)).trans rfl
theorem f179_12 : zi_fe 179 12 = some ((.ifCond .eq 12), 3, 0, 0, 0, 0, 0) := (zl179_0 (Nat.le_of_ble_eq_true rfl)).trans rfl
theorem f179_15 : zi_fe 179 15 = some ((.aload_n 0), 1, 0, 0, 0, 0, 0) := (zl179_0 (Nat.le_of_ble_eq_true rfl)).trans rfl
theorem f179_16 : zi_fe 179 16 = some ((.iconst 0), 1, 0, 0, 0, 0, 0) := (zl179_0 (Nat.le_of_ble_eq_true rfl)).trans rfl
theorem f179_17 : zi_fe 179 17 = some ((.invokevirtual 188), 3, 174, 0, 8, 1291, 2) := (zl179_0 (Nat.le_of_ble_eq_true rfl)).trans rfl
theorem zl179_1 {pc : Nat} (h : 20 ≤ pc) : zi_fe 179 pc = zu179_1.lookup pc := (zl179_0 (Nat.le_trans (Nat.le_of_ble_eq_true rfl) h)).trans (zi_lkA (a := zi_i179_0) (c := 20) rfl h)
theorem f179_20 : zi_fe 179 20 = some (.pop, 1, 0, 0, 0, 0, 0) := (zl179_1 (Nat.le_of_ble_eq_true rfl)).trans rfl
theorem f179_21 : zi_fe 179 21 = some ((.goto (-14)), 3, 0, 0, 0, 0, 0) := (zl179_1 (Nat.le_of_ble_eq_true rfl)).trans rfl
theorem f179_24 : zi_fe 179 24 = some ((.aload_n 0), 1, 0, 0, 0, 0, 0) := (zl179_1 (Nat.le_of_ble_eq_true rfl)).trans rfl
theorem f179_25 : zi_fe 179 25 = some ((.iconst 0), 1, 0, 0, 0, 0, 0) := (zl179_1 (Nat.le_of_ble_eq_true rfl)).trans rfl
theorem f179_26 : zi_fe 179 26 = some ((.iconst 0), 1, 0, 0, 0, 0, 0) := (zl179_1 (Nat.le_of_ble_eq_true rfl)).trans rfl
theorem f179_27 : zi_fe 179 27 = some ((.iconst 0), 1, 0, 0, 0, 0, 0) := (zl179_1 (Nat.le_of_ble_eq_true rfl)).trans rfl
theorem f179_28 : zi_fe 179 28 = some ((.invokevirtual 102), 3, 147, 0, 8, 1253, 4) := (zl179_1 (Nat.le_of_ble_eq_true rfl)).trans rfl
theorem f179_31 : zi_fe 179 31 = some ((.aload_n 0), 1, 0, 0, 0, 0, 0) := (zl179_1 (Nat.le_of_ble_eq_true rfl)).trans rfl
theorem f179_32 : zi_fe 179 32 = some ((.iconst 0), 1, 0, 0, 0, 0, 0) := (zl179_1 (Nat.le_of_ble_eq_true rfl)).trans rfl
theorem f179_33 : zi_fe 179 33 = some ((.iconst 4), 1, 0, 0, 0, 0, 0) := (zl179_1 (Nat.le_of_ble_eq_true rfl)).trans rfl
theorem f179_34 : zi_fe 179 34 = some ((.invokevirtual 83), 3, 146, 0, 8, 1276, 3) := (zl179_1 (Nat.le_of_ble_eq_true rfl)).trans rfl
theorem f179_37 : zi_fe 179 37 = some (.ireturn, 1, 0, 0, 0, 0, 0) := (zl179_1 (Nat.le_of_ble_eq_true rfl)).trans rfl
theorem b179_0 {h : zi_Hp} {a0 : Nat} {x1 : Int32} {x2 : Int32} (g0 : a0 < zh_n h) (g1 : (zh_k h a0).1 = 8) : zv 7 179 0 [.ref a0, .int x1, .int x2] [] h = (zv 4 177 0 [.ref a0, .int 0, .int x1, .int x2, .double 0] [] h).bind fun r => zv 7 179 7 [.ref a0, .int x1, .int x2] (r.1.toList ++ []) r.2 := by
  refine Eq.trans (zv_next f179_0 rfl) ?_
  refine Eq.trans (zs_ic f179_1 ic_0) ?_
  refine Eq.trans (zv_next f179_2 rfl) ?_
  refine Eq.trans (zv_next f179_3 rfl) ?_
  exact zs_callV f179_4 (Nat.le_of_ble_eq_true rfl) (Nat.le_of_ble_eq_true rfl) rfl g0 g1 me_177 (by decide) rfl
theorem b179_7 {h : zi_Hp} {a0 : Nat} {x1 : Int32} {x2 : Int32} (g0 : a0 < zh_n h) (g1 : (zh_k h a0).1 = 8) : zv 7 179 7 [.ref a0, .int x1, .int x2] [] h = (zv 4 176 0 [.ref a0, .int 0] [] h).bind fun r => zv 7 179 12 [.ref a0, .int x1, .int x2] (r.1.toList ++ []) r.2 := by
  refine Eq.trans (zv_next f179_7 rfl) ?_
  refine Eq.trans (zs_ic f179_8 ic_0) ?_
  exact zs_callV f179_9 (Nat.le_of_ble_eq_true rfl) (Nat.le_of_ble_eq_true rfl) rfl g0 g1 me_176 (by decide) rfl
theorem b179_12 {h : zi_Hp} {a0 : Nat} {x1 : Int32} {x2 : Int32} {s0 : Int32}  : zv 7 179 12 [.ref a0, .int x1, .int x2] [.int s0] h = if s0 = 0 then zv 7 179 24 [.ref a0, .int x1, .int x2] [] h else zv 7 179 15 [.ref a0, .int x1, .int x2] [] h := by
  exact zs_if f179_12 rfl
theorem b179_15 {h : zi_Hp} {a0 : Nat} {x1 : Int32} {x2 : Int32} (g0 : a0 < zh_n h) (g1 : (zh_k h a0).1 = 8) : zv 7 179 15 [.ref a0, .int x1, .int x2] [] h = (zv 6 174 0 [.ref a0, .int 0, .double 0, .double 0] [] h).bind fun r => zv 7 179 20 [.ref a0, .int x1, .int x2] (r.1.toList ++ []) r.2 := by
  refine Eq.trans (zv_next f179_15 rfl) ?_
  refine Eq.trans (zs_ic f179_16 ic_0) ?_
  exact zs_callV f179_17 (Nat.le_of_ble_eq_true rfl) (Nat.le_of_ble_eq_true rfl) rfl g0 g1 me_174 (by decide) rfl
theorem b179_20 {h : zi_Hp} {a0 : Nat} {x1 : Int32} {x2 : Int32} {s0 : Int32}  : zv 7 179 20 [.ref a0, .int x1, .int x2] [.int s0] h = zv 7 179 7 [.ref a0, .int x1, .int x2] [] h := by
  refine Eq.trans (zv_next f179_20 rfl) ?_
  refine Eq.trans (zs_goto (tgt := 7) f179_21 rfl) ?_
  rfl
theorem b179_24 {h : zi_Hp} {a0 : Nat} {x1 : Int32} {x2 : Int32} (g0 : a0 < zh_n h) (g1 : (zh_k h a0).1 = 8) : zv 7 179 24 [.ref a0, .int x1, .int x2] [] h = (zv 1 147 0 [.ref a0, .int 0, .int 0, .int 0] [] h).bind fun r => zv 7 179 31 [.ref a0, .int x1, .int x2] (r.1.toList ++ []) r.2 := by
  refine Eq.trans (zv_next f179_24 rfl) ?_
  refine Eq.trans (zs_ic f179_25 ic_0) ?_
  refine Eq.trans (zs_ic f179_26 ic_0) ?_
  refine Eq.trans (zs_ic f179_27 ic_0) ?_
  exact zs_callV f179_28 (Nat.le_of_ble_eq_true rfl) (Nat.le_of_ble_eq_true rfl) rfl g0 g1 me_147 (by decide) rfl
theorem b179_31 {h : zi_Hp} {a0 : Nat} {x1 : Int32} {x2 : Int32} (g0 : a0 < zh_n h) (g1 : (zh_k h a0).1 = 8) : zv 7 179 31 [.ref a0, .int x1, .int x2] [] h = (zv 1 146 0 [.ref a0, .int 0, .int 4] [] h).bind fun r => zv 7 179 37 [.ref a0, .int x1, .int x2] (r.1.toList ++ []) r.2 := by
  refine Eq.trans (zv_next f179_31 rfl) ?_
  refine Eq.trans (zs_ic f179_32 ic_0) ?_
  refine Eq.trans (zs_ic f179_33 ic_4) ?_
  exact zs_callV f179_34 (Nat.le_of_ble_eq_true rfl) (Nat.le_of_ble_eq_true rfl) rfl g0 g1 me_146 (by decide) rfl
theorem b179_37 {h : zi_Hp} {a0 : Nat} {x1 : Int32} {x2 : Int32} {s0 : Int32}  : zv 7 179 37 [.ref a0, .int x1, .int x2] [.int s0] h = some (some (.int s0), h) := by
  exact zs_ret0 f179_37
set_option maxRecDepth 20000 in
theorem zq180 : zi_M[180]? = some zi_m180 := rfl
theorem zl180_0 {pc : Nat} (_ : 0 ≤ pc) : zi_fe 180 pc = zu180_0.lookup pc := zi_feA zq180 pc
theorem f180_0 : zi_fe 180 0 = some ((.iload_n 1), 1, 0, 0, 0, 0, 0) := (zl180_0 (Nat.le_of_ble_eq_true rfl)).trans rfl
theorem f180_1 : zi_fe 180 1 = some (.i2l, 1, 0, 0, 0, 0, 0) := (zl180_0 (Nat.le_of_ble_eq_true rfl)).trans rfl
theorem f180_2 : zi_fe 180 2 = some ((.lconst 0), 1, 0, 0, 0, 0, 0) := (zl180_0 (Nat.le_of_ble_eq_true rfl)).trans rfl
theorem f180_3 : zi_fe 180 3 = some ((.ldc2_w 194), 3, 0, 0, 0, 1188, 127) := (zl180_0 (Nat.le_of_ble_eq_true rfl)).trans rfl
theorem f180_6 : zi_fe 180 6 = some ((.invokestatic 196), 3, 142, 1, 8, 1189, 3) := (zl180_0 (Nat.le_of_ble_eq_true rfl)).trans rfl
theorem f180_9 : zi_fe 180 9 = some ((.ifCond .ne 5), 3, 0, 0, 0, 0, 0) := (zl180_0 (Nat.le_of_ble_eq_true rfl)).trans rfl
theorem f180_12 : zi_fe 180 12 = some ((.iconst (-1)), 1, 0, 0, 0, 0, 0) := (zl180_0 (Nat.le_of_ble_eq_true rfl)).trans rfl
theorem f180_13 : zi_fe 180 13 = some (.ireturn, 1, 0, 0, 0, 0, 0) := (zl180_0 (Nat.le_of_ble_eq_true rfl)).trans rfl
theorem f180_14 : zi_fe 180 14 = some ((.aload_n 0), 1, 0, 0, 0, 0, 0) := (zl180_0 (Nat.le_of_ble_eq_true rfl)).trans rfl
theorem f180_15 : zi_fe 180 15 = some ((.getfield 200), 3, 8, 8, 0, 1073, 0) := (zl180_0 (Nat.le_of_ble_eq_true rfl)).trans rfl
theorem f180_18 : zi_fe 180 18 = some ((.sipush 160), 3, 0, 0, 0, 0, 0) := (zl180_0 (Nat.le_of_ble_eq_true rfl)).trans rfl
theorem f180_21 : zi_fe 180 21 = some ((.if_icmp .ne 6), 3, 0, 0, 0, 0, 0) := (zl180_0 (Nat.le_of_ble_eq_true rfl)).trans rfl
theorem zl180_1 {pc : Nat} (h : 24 ≤ pc) : zi_fe 180 pc = zu180_1.lookup pc := (zl180_0 (Nat.le_trans (Nat.le_of_ble_eq_true rfl) h)).trans (zi_lkA (a := zi_i180_0) (c := 24) rfl h)
theorem f180_24 : zi_fe 180 24 = some ((.bipush (-3)), 2, 0, 0, 0, 0, 0) := (zl180_1 (Nat.le_of_ble_eq_true rfl)).trans rfl
theorem f180_26 : zi_fe 180 26 = some (.ireturn, 1, 0, 0, 0, 0, 0) := (zl180_1 (Nat.le_of_ble_eq_true rfl)).trans rfl
theorem f180_27 : zi_fe 180 27 = some ((.aload_n 0), 1, 0, 0, 0, 0, 0) := (zl180_1 (Nat.le_of_ble_eq_true rfl)).trans rfl
theorem f180_28 : zi_fe 180 28 = some ((.getfield 29), 3, 8, 7, 3, 1072, 0) := (zl180_1 (Nat.le_of_ble_eq_true rfl)).trans rfl
theorem f180_31 : zi_fe 180 31 = some ((.aload_n 0), 1, 0, 0, 0, 0, 0) := (zl180_1 (Nat.le_of_ble_eq_true rfl)).trans rfl
theorem f180_32 : zi_fe 180 32 = some ((.getfield 200), 3, 8, 8, 0, 1073, 0) := (zl180_1 (Nat.le_of_ble_eq_true rfl)).trans rfl
theorem f180_35 : zi_fe 180 35 = some ((.iload_n 1), 1, 0, 0, 0, 0, 0) := (zl180_1 (Nat.le_of_ble_eq_true rfl)).trans rfl
theorem f180_36 : zi_fe 180 36 = some (.iastore, 1, 0, 0, 0, 0, 0) := (zl180_1 (Nat.le_of_ble_eq_true rfl)).trans rfl
theorem f180_37 : zi_fe 180 37 = some ((.aload_n 0), 1, 0, 0, 0, 0, 0) := (zl180_1 (Nat.le_of_ble_eq_true rfl)).trans rfl
theorem f180_38 : zi_fe 180 38 = some (.dup, 1, 0, 0, 0, 0, 0) := (zl180_1 (Nat.le_of_ble_eq_true rfl)).trans rfl
theorem f180_39 : zi_fe 180 39 = some ((.getfield 200), 3, 8, 8, 0, 1073, 0) := (zl180_1 (Nat.le_of_ble_eq_true rfl)).trans rfl
theorem f180_42 : zi_fe 180 42 = some ((.iconst 1), 1, 0, 0, 0, 0, 0) := (zl180_1 (Nat.le_of_ble_eq_true rfl)).trans rfl
theorem zl180_2 {pc : Nat} (h : 43 ≤ pc) : zi_fe 180 pc = zu180_2.lookup pc := (zl180_1 (Nat.le_trans (Nat.le_of_ble_eq_true rfl) h)).trans (zi_lkA (a := zi_i180_1) (c := 43) rfl h)
theorem f180_43 : zi_fe 180 43 = some (.iadd, 1, 0, 0, 0, 0, 0) := (zl180_2 (Nat.le_of_ble_eq_true rfl)).trans rfl
theorem f180_44 : zi_fe 180 44 = some ((.putfield 200), 3, 8, 8, 0, 1073, 0) := (zl180_2 (Nat.le_of_ble_eq_true rfl)).trans rfl
theorem f180_47 : zi_fe 180 47 = some ((.aload_n 0), 1, 0, 0, 0, 0, 0) := (zl180_2 (Nat.le_of_ble_eq_true rfl)).trans rfl
theorem f180_48 : zi_fe 180 48 = some ((.getfield 200), 3, 8, 8, 0, 1073, 0) := (zl180_2 (Nat.le_of_ble_eq_true rfl)).trans rfl
theorem f180_51 : zi_fe 180 51 = some (.ireturn, 1, 0, 0, 0, 0, 0) := (zl180_2 (Nat.le_of_ble_eq_true rfl)).trans rfl
theorem b180_0 {h : zi_Hp} {a0 : Nat} {x1 : Int32}  : zv 2 180 0 [.ref a0, .int x1] [] h = (zv 1 142 0 [.long ((x1).toInt64), .double 1, .long 0, .double 1, .long 127, .double 1] [] h).bind fun r => zv 2 180 9 [.ref a0, .int x1] (r.1.toList ++ []) r.2 := by
  refine Eq.trans (zv_next f180_0 rfl) ?_
  refine Eq.trans (zv_next f180_1 rfl) ?_
  refine Eq.trans (zs_lc f180_2 lc_0) ?_
  refine Eq.trans (zs_l2 f180_3 l2_127) ?_
  exact zs_callS f180_6 (by decide) (Nat.le_of_ble_eq_true rfl) (Nat.le_of_ble_eq_true rfl) rfl me_142 (by decide) rfl
theorem b180_9 {h : zi_Hp} {a0 : Nat} {x1 : Int32} {s0 : Int32}  : zv 2 180 9 [.ref a0, .int x1] [.int s0] h = if s0 = 0 then zv 2 180 12 [.ref a0, .int x1] [] h else zv 2 180 14 [.ref a0, .int x1] [] h := by
  exact zs_if f180_9 rfl
theorem b180_12 {h : zi_Hp} {a0 : Nat} {x1 : Int32}  : zv 2 180 12 [.ref a0, .int x1] [] h = some (some (.int (-1)), h) := by
  refine Eq.trans (zs_ic f180_12 ic_m1) ?_
  exact zs_ret0 f180_13
theorem b180_14 {h : zi_Hp} {a0 : Nat} {x1 : Int32} (g0 : a0 < zh_n h) (g1 : (zh_k h a0).1 = 8) : zv 2 180 14 [.ref a0, .int x1] [] h = if (zh_i h a0 8) = 160 then zv 2 180 24 [.ref a0, .int x1] [] h else zv 2 180 27 [.ref a0, .int x1] [] h := by
  refine Eq.trans (zv_next f180_14 rfl) ?_
  refine Eq.trans (zs_geti f180_15 g0 g1) ?_
  refine Eq.trans (zs_sp f180_18 sp_160) ?_
  exact zs_icmp f180_21 rfl
theorem b180_24 {h : zi_Hp} {a0 : Nat} {x1 : Int32}  : zv 2 180 24 [.ref a0, .int x1] [] h = some (some (.int (-3)), h) := by
  refine Eq.trans (zs_bp f180_24 bp_m3) ?_
  exact zs_ret0 f180_26
theorem b180_27 {h : zi_Hp} {a0 : Nat} {x1 : Int32} (g0 : a0 < zh_n h) (g1 : (zh_k h a0).1 = 8) (g2 : zh_r h a0 7 = .ref (zq (zh_r h a0 7))) (g3 : (zq (zh_r h a0 7)) < zh_n h) (g4 : ¬ ((zh_i h a0 8) < 0 ∨ (zh_k h (zq (zh_r h a0 7))).2 ≤ (zh_i h a0 8).toNatClampNeg)) (g5 : (zh_k h (zq (zh_r h a0 7))).1 = 100) : zv 2 180 27 [.ref a0, .int x1] [] h = zv 2 180 39 [.ref a0, .int x1] [.ref a0, .ref a0] (zh_wi h (zq (zh_r h a0 7)) (zh_i h a0 8).toNatClampNeg x1) := by
  refine Eq.trans (zv_next f180_27 rfl) ?_
  refine Eq.trans (zs_getr f180_28 g0 g1 g2) ?_
  refine Eq.trans (zv_next f180_31 rfl) ?_
  refine Eq.trans (zs_geti f180_32 g0 g1) ?_
  refine Eq.trans (zv_next f180_35 rfl) ?_
  refine Eq.trans (zs_iast f180_36 g3 g5 g4) ?_
  refine Eq.trans (zv_next f180_37 rfl) ?_
  refine Eq.trans (zv_next f180_38 rfl) ?_
  rfl
theorem b180_39 {h : zi_Hp} {a0 : Nat} {x1 : Int32} {t0 : Nat} {t1 : Nat} (g0 : t1 < zh_n h) (g1 : (zh_k h t1).1 = 8) (g2 : t0 < zh_n h) (g3 : (zh_k h t0).1 = 8) : zv 2 180 39 [.ref a0, .int x1] [.ref t1, .ref t0] h = zv 2 180 48 [.ref a0, .int x1] [.ref a0] (zh_wi h t0 8 ((zh_i h t1 8) + 1)) := by
  refine Eq.trans (zs_geti f180_39 g0 g1) ?_
  refine Eq.trans (zs_ic f180_42 ic_1) ?_
  refine Eq.trans (zv_next f180_43 rfl) ?_
  refine Eq.trans (zs_put f180_44 g2 g3 rfl) ?_
  refine Eq.trans (zv_next f180_47 rfl) ?_
  rfl
theorem b180_48 {h : zi_Hp} {a0 : Nat} {x1 : Int32} {t0 : Nat} (g0 : t0 < zh_n h) (g1 : (zh_k h t0).1 = 8) : zv 2 180 48 [.ref a0, .int x1] [.ref t0] h = some (some (.int (zh_i h t0 8)), h) := by
  refine Eq.trans (zs_geti f180_48 g0 g1) ?_
  exact zs_ret0 f180_51
set_option maxRecDepth 20000 in
theorem zq181 : zi_M[181]? = some zi_m181 := rfl
theorem zl181_0 {pc : Nat} (_ : 0 ≤ pc) : zi_fe 181 pc = zu181_0.lookup pc := zi_feA zq181 pc
theorem f181_0 : zi_fe 181 0 = some ((.iload_n 1), 1, 0, 0, 0, 0, 0) := (zl181_0 (Nat.le_of_ble_eq_true rfl)).trans rfl
theorem f181_1 : zi_fe 181 1 = some (.i2l, 1, 0, 0, 0, 0, 0) := (zl181_0 (Nat.le_of_ble_eq_true rfl)).trans rfl
theorem f181_2 : zi_fe 181 2 = some ((.lconst 0), 1, 0, 0, 0, 0, 0) := (zl181_0 (Nat.le_of_ble_eq_true rfl)).trans rfl
theorem f181_3 : zi_fe 181 3 = some ((.aload_n 0), 1, 0, 0, 0, 0, 0) := (zl181_0 (Nat.le_of_ble_eq_true rfl)).trans rfl
theorem f181_4 : zi_fe 181 4 = some ((.getfield 200), 3, 8, 8, 0, 1073, 0) := (zl181_0 (Nat.le_of_ble_eq_true rfl)).trans rfl
theorem f181_7 : zi_fe 181 7 = some (.i2l, 1, 0, 0, 0, 0, 0) := (zl181_0 (Nat.le_of_ble_eq_true rfl)).trans rfl
theorem f181_8 : zi_fe 181 8 = some ((.invokestatic 196), 3, 142, 1, 8, 1189, 3) := (zl181_0 (Nat.le_of_ble_eq_true rfl)).trans rfl
theorem f181_11 : zi_fe 181 11 = some ((.ifCond .ne 5), 3, 0, 0, 0, 0, 0) := (zl181_0 (Nat.le_of_ble_eq_true rfl)).trans rfl
theorem f181_14 : zi_fe 181 14 = some ((.iconst (-1)), 1, 0, 0, 0, 0, 0) := (zl181_0 (Nat.le_of_ble_eq_true rfl)).trans rfl
theorem f181_15 : zi_fe 181 15 = some (.ireturn, 1, 0, 0, 0, 0, 0) := (zl181_0 (Nat.le_of_ble_eq_true rfl)).trans rfl
theorem f181_16 : zi_fe 181 16 = some ((.aload_n 0), 1, 0, 0, 0, 0, 0) := (zl181_0 (Nat.le_of_ble_eq_true rfl)).trans rfl
theorem f181_17 : zi_fe 181 17 = some ((.getfield 200), 3, 8, 8, 0, 1073, 0) := (zl181_0 (Nat.le_of_ble_eq_true rfl)).trans rfl
theorem zl181_1 {pc : Nat} (h : 20 ≤ pc) : zi_fe 181 pc = zu181_1.lookup pc := (zl181_0 (Nat.le_trans (Nat.le_of_ble_eq_true rfl) h)).trans (zi_lkA (a := zi_i181_0) (c := 20) rfl h)
theorem f181_20 : zi_fe 181 20 = some ((.istore_n 2), 1, 0, 0, 0, 0, 0) := (zl181_1 (Nat.le_of_ble_eq_true rfl)).trans rfl
theorem f181_21 : zi_fe 181 21 = some ((.aload_n 0), 1, 0, 0, 0, 0, 0) := (zl181_1 (Nat.le_of_ble_eq_true rfl)).trans rfl
theorem f181_22 : zi_fe 181 22 = some ((.iload_n 1), 1, 0, 0, 0, 0, 0) := (zl181_1 (Nat.le_of_ble_eq_true rfl)).trans rfl
theorem f181_23 : zi_fe 181 23 = some ((.putfield 200), 3, 8, 8, 0, 1073, 0) := (zl181_1 (Nat.le_of_ble_eq_true rfl)).trans rfl
theorem f181_26 : zi_fe 181 26 = some ((.iload_n 2), 1, 0, 0, 0, 0, 0) := (zl181_1 (Nat.le_of_ble_eq_true rfl)).trans rfl
theorem f181_27 : zi_fe 181 27 = some (.ireturn, 1, 0, 0, 0, 0, 0) := (zl181_1 (Nat.le_of_ble_eq_true rfl)).trans rfl
theorem b181_0 {h : zi_Hp} {a0 : Nat} {x1 : Int32} {u2 : Value} (g0 : a0 < zh_n h) (g1 : (zh_k h a0).1 = 8) : zv 2 181 0 [.ref a0, .int x1, u2] [] h = (zv 1 142 0 [.long ((x1).toInt64), .double 1, .long 0, .double 1, .long (((zh_i h a0 8)).toInt64), .double 1] [] h).bind fun r => zv 2 181 11 [.ref a0, .int x1, u2] (r.1.toList ++ []) r.2 := by
  refine Eq.trans (zv_next f181_0 rfl) ?_
  refine Eq.trans (zv_next f181_1 rfl) ?_
  refine Eq.trans (zs_lc f181_2 lc_0) ?_
  refine Eq.trans (zv_next f181_3 rfl) ?_
  refine Eq.trans (zs_geti f181_4 g0 g1) ?_
  refine Eq.trans (zv_next f181_7 rfl) ?_
  exact zs_callS f181_8 (by decide) (Nat.le_of_ble_eq_true rfl) (Nat.le_of_ble_eq_true rfl) rfl me_142 (by decide) rfl
theorem b181_11 {h : zi_Hp} {a0 : Nat} {x1 : Int32} {u2 : Value} {s0 : Int32}  : zv 2 181 11 [.ref a0, .int x1, u2] [.int s0] h = if s0 = 0 then zv 2 181 14 [.ref a0, .int x1, u2] [] h else zv 2 181 16 [.ref a0, .int x1, u2] [] h := by
  exact zs_if f181_11 rfl
theorem b181_14 {h : zi_Hp} {a0 : Nat} {x1 : Int32} {u2 : Value}  : zv 2 181 14 [.ref a0, .int x1, u2] [] h = some (some (.int (-1)), h) := by
  refine Eq.trans (zs_ic f181_14 ic_m1) ?_
  exact zs_ret0 f181_15
theorem b181_16 {h : zi_Hp} {a0 : Nat} {x1 : Int32} {u2 : Value} (g0 : a0 < zh_n h) (g1 : (zh_k h a0).1 = 8) : zv 2 181 16 [.ref a0, .int x1, u2] [] h = some (some (.int (zh_i h a0 8)), zh_wi h a0 8 x1) := by
  refine Eq.trans (zv_next f181_16 rfl) ?_
  refine Eq.trans (zs_geti f181_17 g0 g1) ?_
  refine Eq.trans (zv_next f181_20 rfl) ?_
  refine Eq.trans (zv_next f181_21 rfl) ?_
  refine Eq.trans (zv_next f181_22 rfl) ?_
  refine Eq.trans (zs_put f181_23 g0 g1 rfl) ?_
  refine Eq.trans (zv_next f181_26 rfl) ?_
  exact zs_ret0 f181_27
set_option maxRecDepth 20000 in
theorem zq182 : zi_M[182]? = some zi_m182 := rfl
theorem zl182_0 {pc : Nat} (_ : 0 ≤ pc) : zi_fe 182 pc = zu182_0.lookup pc := zi_feA zq182 pc
theorem f182_0 : zi_fe 182 0 = some ((.iload_n 1), 1, 0, 0, 0, 0, 0) := (zl182_0 (Nat.le_of_ble_eq_true rfl)).trans rfl
theorem f182_1 : zi_fe 182 1 = some ((.ifCond .ne 23), 3, 0, 0, 0, 0, 0) := (zl182_0 (Nat.le_of_ble_eq_true rfl)).trans rfl
theorem f182_4 : zi_fe 182 4 = some ((.aload_n 0), 1, 0, 0, 0, 0, 0) := (zl182_0 (Nat.le_of_ble_eq_true rfl)).trans rfl
theorem f182_5 : zi_fe 182 5 = some ((.getfield 203), 3, 8, 13, 0, 1078, 0) := (zl182_0 (Nat.le_of_ble_eq_true rfl)).trans rfl
theorem f182_8 : zi_fe 182 8 = some ((.ifCond .ne 16), 3, 0, 0, 0, 0, 0) := (zl182_0 (Nat.le_of_ble_eq_true rfl)).trans rfl
theorem f182_11 : zi_fe 182 11 = some ((.aload_n 0), 1, 0, 0, 0, 0, 0) := (zl182_0 (Nat.le_of_ble_eq_true rfl)).trans rfl
theorem f182_12 : zi_fe 182 12 = some ((.iload_n 2), 1, 0, 0, 0, 0, 0) := (zl182_0 (Nat.le_of_ble_eq_true rfl)).trans rfl
theorem f182_13 : zi_fe 182 13 = some ((.putfield 203), 3, 8, 13, 0, 1078, 0) := (zl182_0 (Nat.le_of_ble_eq_true rfl)).trans rfl
theorem f182_16 : zi_fe 182 16 = some ((.aload_n 0), 1, 0, 0, 0, 0, 0) := (zl182_0 (Nat.le_of_ble_eq_true rfl)).trans rfl
theorem f182_17 : zi_fe 182 17 = some ((.aload_n 0), 1, 0, 0, 0, 0, 0) := (zl182_0 (Nat.le_of_ble_eq_true rfl)).trans rfl
theorem f182_18 : zi_fe 182 18 = some ((.getfield 206), 3, 8, 10, 0, 1075, 0) := (zl182_0 (Nat.le_of_ble_eq_true rfl)).trans rfl
theorem f182_21 : zi_fe 182 21 = some ((.putfield 209), 3, 8, 14, 0, 1079, 0) := (zl182_0 (Nat.le_of_ble_eq_true rfl)).trans rfl
theorem zl182_1 {pc : Nat} (h : 24 ≤ pc) : zi_fe 182 pc = zu182_1.lookup pc := (zl182_0 (Nat.le_trans (Nat.le_of_ble_eq_true rfl) h)).trans (zi_lkA (a := zi_i182_0) (c := 24) rfl h)
theorem f182_24 : zi_fe 182 24 = some (.return_, 1, 0, 0, 0, 0, 0) := (zl182_1 (Nat.le_of_ble_eq_true rfl)).trans rfl
theorem b182_0 {h : zi_Hp} {a0 : Nat} {x1 : Int32} {x2 : Int32}  : zv 1 182 0 [.ref a0, .int x1, .int x2] [] h = if x1 = 0 then zv 1 182 4 [.ref a0, .int x1, .int x2] [] h else zv 1 182 24 [.ref a0, .int x1, .int x2] [] h := by
  refine Eq.trans (zv_next f182_0 rfl) ?_
  exact zs_if f182_1 rfl
theorem b182_4 {h : zi_Hp} {a0 : Nat} {x1 : Int32} {x2 : Int32} (g0 : a0 < zh_n h) (g1 : (zh_k h a0).1 = 8) : zv 1 182 4 [.ref a0, .int x1, .int x2] [] h = if (zh_i h a0 13) = 0 then zv 1 182 11 [.ref a0, .int x1, .int x2] [] h else zv 1 182 24 [.ref a0, .int x1, .int x2] [] h := by
  refine Eq.trans (zv_next f182_4 rfl) ?_
  refine Eq.trans (zs_geti f182_5 g0 g1) ?_
  exact zs_if f182_8 rfl
theorem b182_11 {h : zi_Hp} {a0 : Nat} {x1 : Int32} {x2 : Int32} (g0 : a0 < zh_n h) (g1 : (zh_k h a0).1 = 8) : zv 1 182 11 [.ref a0, .int x1, .int x2] [] h = zv 1 182 18 [.ref a0, .int x1, .int x2] [.ref a0, .ref a0] (zh_wi h a0 13 x2) := by
  refine Eq.trans (zv_next f182_11 rfl) ?_
  refine Eq.trans (zv_next f182_12 rfl) ?_
  refine Eq.trans (zs_put f182_13 g0 g1 rfl) ?_
  refine Eq.trans (zv_next f182_16 rfl) ?_
  refine Eq.trans (zv_next f182_17 rfl) ?_
  rfl
theorem b182_18 {h : zi_Hp} {a0 : Nat} {x1 : Int32} {x2 : Int32} {t0 : Nat} {t1 : Nat} (g0 : t1 < zh_n h) (g1 : (zh_k h t1).1 = 8) (g2 : t0 < zh_n h) (g3 : (zh_k h t0).1 = 8) : zv 1 182 18 [.ref a0, .int x1, .int x2] [.ref t1, .ref t0] h = zv 1 182 24 [.ref a0, .int x1, .int x2] [] (zh_wi h t0 14 (zh_i h t1 10)) := by
  refine Eq.trans (zs_geti f182_18 g0 g1) ?_
  refine Eq.trans (zs_put f182_21 g2 g3 rfl) ?_
  rfl
theorem b182_24 {h : zi_Hp} {a0 : Nat} {x1 : Int32} {x2 : Int32}  : zv 1 182 24 [.ref a0, .int x1, .int x2] [] h = some (none, h) := by
  exact zv_ret f182_24 rfl
set_option maxRecDepth 20000 in
theorem zq183 : zi_M[183]? = some zi_m183 := rfl
theorem zl183_0 {pc : Nat} (_ : 0 ≤ pc) : zi_fe 183 pc = zu183_0.lookup pc := zi_feA zq183 pc
theorem f183_0 : zi_fe 183 0 = some ((.iload_n 1), 1, 0, 0, 0, 0, 0) := (zl183_0 (Nat.le_of_ble_eq_true rfl)).trans rfl
theorem f183_1 : zi_fe 183 1 = some ((.aload_n 0), 1, 0, 0, 0, 0, 0) := (zl183_0 (Nat.le_of_ble_eq_true rfl)).trans rfl
theorem f183_2 : zi_fe 183 2 = some ((.getfield 200), 3, 8, 8, 0, 1073, 0) := (zl183_0 (Nat.le_of_ble_eq_true rfl)).trans rfl
theorem f183_5 : zi_fe 183 5 = some ((.if_icmp .ge 12), 3, 0, 0, 0, 0, 0) := (zl183_0 (Nat.le_of_ble_eq_true rfl)).trans rfl
theorem f183_8 : zi_fe 183 8 = some ((.aload_n 0), 1, 0, 0, 0, 0, 0) := (zl183_0 (Nat.le_of_ble_eq_true rfl)).trans rfl
theorem f183_9 : zi_fe 183 9 = some ((.getfield 29), 3, 8, 7, 3, 1072, 0) := (zl183_0 (Nat.le_of_ble_eq_true rfl)).trans rfl
theorem f183_12 : zi_fe 183 12 = some ((.iload_n 1), 1, 0, 0, 0, 0, 0) := (zl183_0 (Nat.le_of_ble_eq_true rfl)).trans rfl
theorem f183_13 : zi_fe 183 13 = some (.iaload, 1, 0, 0, 0, 0, 0) := (zl183_0 (Nat.le_of_ble_eq_true rfl)).trans rfl
theorem f183_14 : zi_fe 183 14 = some ((.goto 4), 3, 0, 0, 0, 0, 0) := (zl183_0 (Nat.le_of_ble_eq_true rfl)).trans rfl
theorem f183_17 : zi_fe 183 17 = some ((.iconst (-1)), 1, 0, 0, 0, 0, 0) := (zl183_0 (Nat.le_of_ble_eq_true rfl)).trans rfl
theorem f183_18 : zi_fe 183 18 = some (.ireturn, 1, 0, 0, 0, 0, 0) := (zl183_0 (Nat.le_of_ble_eq_true rfl)).trans rfl
theorem b183_0 {h : zi_Hp} {a0 : Nat} {x1 : Int32} (g0 : a0 < zh_n h) (g1 : (zh_k h a0).1 = 8) : zv 1 183 0 [.ref a0, .int x1] [] h = if x1 < (zh_i h a0 8) then zv 1 183 8 [.ref a0, .int x1] [] h else zv 1 183 17 [.ref a0, .int x1] [] h := by
  refine Eq.trans (zv_next f183_0 rfl) ?_
  refine Eq.trans (zv_next f183_1 rfl) ?_
  refine Eq.trans (zs_geti f183_2 g0 g1) ?_
  exact zs_icmp f183_5 rfl
theorem b183_8 {h : zi_Hp} {a0 : Nat} {x1 : Int32} (g0 : a0 < zh_n h) (g1 : (zh_k h a0).1 = 8) (g2 : zh_r h a0 7 = .ref (zq (zh_r h a0 7))) (g3 : (zq (zh_r h a0 7)) < zh_n h) (g4 : ¬ (x1 < 0 ∨ (zh_k h (zq (zh_r h a0 7))).2 ≤ x1.toNatClampNeg)) (g5 : (zh_k h (zq (zh_r h a0 7))).1 = 100) : zv 1 183 8 [.ref a0, .int x1] [] h = zv 1 183 18 [.ref a0, .int x1] [.int (zh_i h (zq (zh_r h a0 7)) x1.toNatClampNeg)] h := by
  refine Eq.trans (zv_next f183_8 rfl) ?_
  refine Eq.trans (zs_getr f183_9 g0 g1 g2) ?_
  refine Eq.trans (zv_next f183_12 rfl) ?_
  refine Eq.trans (zs_iald f183_13 g3 g5 g4) ?_
  refine Eq.trans (zs_goto (tgt := 18) f183_14 rfl) ?_
  rfl
theorem b183_17 {h : zi_Hp} {a0 : Nat} {x1 : Int32}  : zv 1 183 17 [.ref a0, .int x1] [] h = zv 1 183 18 [.ref a0, .int x1] [.int (-1)] h := by
  refine Eq.trans (zs_ic f183_17 ic_m1) ?_
  rfl
theorem b183_18 {h : zi_Hp} {a0 : Nat} {x1 : Int32} {s0 : Int32}  : zv 1 183 18 [.ref a0, .int x1] [.int s0] h = some (some (.int s0), h) := by
  exact zs_ret0 f183_18
set_option maxRecDepth 20000 in
theorem zq184 : zi_M[184]? = some zi_m184 := rfl
theorem zl184_0 {pc : Nat} (_ : 0 ≤ pc) : zi_fe 184 pc = zu184_0.lookup pc := zi_feA zq184 pc
theorem f184_0 : zi_fe 184 0 = some ((.aload_n 0), 1, 0, 0, 0, 0, 0) := (zl184_0 (Nat.le_of_ble_eq_true rfl)).trans rfl
theorem f184_1 : zi_fe 184 1 = some ((.getfield 212), 3, 8, 9, 0, 1074, 0) := (zl184_0 (Nat.le_of_ble_eq_true rfl)).trans rfl
theorem f184_4 : zi_fe 184 4 = some ((.aload_n 0), 1, 0, 0, 0, 0, 0) := (zl184_0 (Nat.le_of_ble_eq_true rfl)).trans rfl
theorem f184_5 : zi_fe 184 5 = some ((.getfield 206), 3, 8, 10, 0, 1075, 0) := (zl184_0 (Nat.le_of_ble_eq_true rfl)).trans rfl
theorem f184_8 : zi_fe 184 8 = some (.isub, 1, 0, 0, 0, 0, 0) := (zl184_0 (Nat.le_of_ble_eq_true rfl)).trans rfl
theorem f184_9 : zi_fe 184 9 = some ((.iload_n 1), 1, 0, 0, 0, 0, 0) := (zl184_0 (Nat.le_of_ble_eq_true rfl)).trans rfl
theorem f184_10 : zi_fe 184 10 = some ((.if_icmp .ne 68), 3, 0, 0, 0, 0, 0) := (zl184_0 (Nat.le_of_ble_eq_true rfl)).trans rfl
theorem f184_13 : zi_fe 184 13 = some ((.aload_n 0), 1, 0, 0, 0, 0, 0) := (zl184_0 (Nat.le_of_ble_eq_true rfl)).trans rfl
theorem f184_14 : zi_fe 184 14 = some ((.aload_n 0), 1, 0, 0, 0, 0, 0) := (zl184_0 (Nat.le_of_ble_eq_true rfl)).trans rfl
theorem f184_15 : zi_fe 184 15 = some ((.getfield 206), 3, 8, 10, 0, 1075, 0) := (zl184_0 (Nat.le_of_ble_eq_true rfl)).trans rfl
theorem f184_18 : zi_fe 184 18 = some ((.invokevirtual 215), 3, 183, 0, 8, 1204, 2) := (zl184_0 (Nat.le_of_ble_eq_true rfl)).trans rfl
theorem f184_21 : zi_fe 184 21 = some ((.iload_n 2), 1, 0, 0, 0, 0, 0) := (zl184_0 (Nat.le_of_ble_eq_true rfl)).trans rfl
theorem zl184_1 {pc : Nat} (h : 22 ≤ pc) : zi_fe 184 pc = zu184_1.lookup pc := (zl184_0 (Nat.le_trans (Nat.le_of_ble_eq_true rfl) h)).trans (zi_lkA (a := zi_i184_0) (c := 22) rfl h)
theorem f184_22 : zi_fe 184 22 = some ((.if_icmp .ne 56), 3, 0, 0, 0, 0, 0) := (zl184_1 (Nat.le_of_ble_eq_true rfl)).trans rfl
theorem f184_25 : zi_fe 184 25 = some ((.aload_n 0), 1, 0, 0, 0, 0, 0) := (zl184_1 (Nat.le_of_ble_eq_true rfl)).trans rfl
theorem f184_26 : zi_fe 184 26 = some ((.aload_n 0), 1, 0, 0, 0, 0, 0) := (zl184_1 (Nat.le_of_ble_eq_true rfl)).trans rfl
theorem f184_27 : zi_fe 184 27 = some ((.getfield 206), 3, 8, 10, 0, 1075, 0) := (zl184_1 (Nat.le_of_ble_eq_true rfl)).trans rfl
theorem f184_30 : zi_fe 184 30 = some ((.iconst 1), 1, 0, 0, 0, 0, 0) := (zl184_1 (Nat.le_of_ble_eq_true rfl)).trans rfl
theorem f184_31 : zi_fe 184 31 = some (.iadd, 1, 0, 0, 0, 0, 0) := (zl184_1 (Nat.le_of_ble_eq_true rfl)).trans rfl
theorem f184_32 : zi_fe 184 32 = some ((.invokevirtual 215), 3, 183, 0, 8, 1204, 2) := (zl184_1 (Nat.le_of_ble_eq_true rfl)).trans rfl
theorem f184_35 : zi_fe 184 35 = some ((.iload_n 3), 1, 0, 0, 0, 0, 0) := (zl184_1 (Nat.le_of_ble_eq_true rfl)).trans rfl
theorem f184_36 : zi_fe 184 36 = some ((.if_icmp .ne 42), 3, 0, 0, 0, 0, 0) := (zl184_1 (Nat.le_of_ble_eq_true rfl)).trans rfl
theorem f184_39 : zi_fe 184 39 = some ((.aload_n 0), 1, 0, 0, 0, 0, 0) := (zl184_1 (Nat.le_of_ble_eq_true rfl)).trans rfl
theorem f184_40 : zi_fe 184 40 = some ((.aload_n 0), 1, 0, 0, 0, 0, 0) := (zl184_1 (Nat.le_of_ble_eq_true rfl)).trans rfl
theorem f184_41 : zi_fe 184 41 = some ((.getfield 206), 3, 8, 10, 0, 1075, 0) := (zl184_1 (Nat.le_of_ble_eq_true rfl)).trans rfl
theorem zl184_2 {pc : Nat} (h : 44 ≤ pc) : zi_fe 184 pc = zu184_2.lookup pc := (zl184_1 (Nat.le_trans (Nat.le_of_ble_eq_true rfl) h)).trans (zi_lkA (a := zi_i184_1) (c := 44) rfl h)
theorem f184_44 : zi_fe 184 44 = some ((.iconst 2), 1, 0, 0, 0, 0, 0) := (zl184_2 (Nat.le_of_ble_eq_true rfl)).trans rfl
theorem f184_45 : zi_fe 184 45 = some (.iadd, 1, 0, 0, 0, 0, 0) := (zl184_2 (Nat.le_of_ble_eq_true rfl)).trans rfl
theorem f184_46 : zi_fe 184 46 = some ((.invokevirtual 215), 3, 183, 0, 8, 1204, 2) := (zl184_2 (Nat.le_of_ble_eq_true rfl)).trans rfl
theorem f184_49 : zi_fe 184 49 = some ((.iload 4), 2, 0, 0, 0, 0, 0) := (zl184_2 (Nat.le_of_ble_eq_true rfl)).trans rfl
theorem f184_51 : zi_fe 184 51 = some ((.if_icmp .ne 27), 3, 0, 0, 0, 0, 0) := (zl184_2 (Nat.le_of_ble_eq_true rfl)).trans rfl
theorem f184_54 : zi_fe 184 54 = some ((.iload_n 1), 1, 0, 0, 0, 0, 0) := (zl184_2 (Nat.le_of_ble_eq_true rfl)).trans rfl
theorem f184_55 : zi_fe 184 55 = some ((.iconst 4), 1, 0, 0, 0, 0, 0) := (zl184_2 (Nat.le_of_ble_eq_true rfl)).trans rfl
theorem f184_56 : zi_fe 184 56 = some ((.if_icmp .lt 18), 3, 0, 0, 0, 0, 0) := (zl184_2 (Nat.le_of_ble_eq_true rfl)).trans rfl
theorem f184_59 : zi_fe 184 59 = some ((.aload_n 0), 1, 0, 0, 0, 0, 0) := (zl184_2 (Nat.le_of_ble_eq_true rfl)).trans rfl
theorem f184_60 : zi_fe 184 60 = some ((.aload_n 0), 1, 0, 0, 0, 0, 0) := (zl184_2 (Nat.le_of_ble_eq_true rfl)).trans rfl
theorem f184_61 : zi_fe 184 61 = some ((.getfield 206), 3, 8, 10, 0, 1075, 0) := (zl184_2 (Nat.le_of_ble_eq_true rfl)).trans rfl
theorem f184_64 : zi_fe 184 64 = some ((.iconst 3), 1, 0, 0, 0, 0, 0) := (zl184_2 (Nat.le_of_ble_eq_true rfl)).trans rfl
theorem zl184_3 {pc : Nat} (h : 65 ≤ pc) : zi_fe 184 pc = zu184_3.lookup pc := (zl184_2 (Nat.le_trans (Nat.le_of_ble_eq_true rfl) h)).trans (zi_lkA (a := zi_i184_2) (c := 65) rfl h)
theorem f184_65 : zi_fe 184 65 = some (.iadd, 1, 0, 0, 0, 0, 0) := (zl184_3 (Nat.le_of_ble_eq_true rfl)).trans rfl
theorem f184_66 : zi_fe 184 66 = some ((.invokevirtual 215), 3, 183, 0, 8, 1204, 2) := (zl184_3 (Nat.le_of_ble_eq_true rfl)).trans rfl
theorem f184_69 : zi_fe 184 69 = some ((.iload 5), 2, 0, 0, 0, 0, 0) := (zl184_3 (Nat.le_of_ble_eq_true rfl)).trans rfl
theorem f184_71 : zi_fe 184 71 = some ((.if_icmp .ne 7), 3, 0, 0, 0, 0, 0) := (zl184_3 (Nat.le_of_ble_eq_true rfl)).trans rfl
theorem f184_74 : zi_fe 184 74 = some ((.iconst 1), 1, 0, 0, 0, 0, 0) := (zl184_3 (Nat.le_of_ble_eq_true rfl)).trans rfl
theorem f184_75 : zi_fe 184 75 = some ((.goto 4), 3, 0, 0, 0, 0, 0) := (zl184_3 (Nat.le_of_ble_eq_true rfl)).trans rfl
theorem f184_78 : zi_fe 184 78 = some ((.iconst 0), 1, 0, 0, 0, 0, 0) := (zl184_3 (Nat.le_of_ble_eq_true rfl)).trans rfl
theorem f184_79 : zi_fe 184 79 = some (.ireturn, 1, 1, 0, 0, 0, 0) := (zl184_3 (Nat.le_of_ble_eq_true rfl)).trans rfl
theorem b184_0 {h : zi_Hp} {a0 : Nat} {x1 : Int32} {x2 : Int32} {x3 : Int32} {x4 : Int32} {x5 : Int32} (g0 : a0 < zh_n h) (g1 : (zh_k h a0).1 = 8) : zv 2 184 0 [.ref a0, .int x1, .int x2, .int x3, .int x4, .int x5] [] h = if ((zh_i h a0 9) - (zh_i h a0 10)) = x1 then zv 2 184 13 [.ref a0, .int x1, .int x2, .int x3, .int x4, .int x5] [] h else zv 2 184 78 [.ref a0, .int x1, .int x2, .int x3, .int x4, .int x5] [] h := by
  refine Eq.trans (zv_next f184_0 rfl) ?_
  refine Eq.trans (zs_geti f184_1 g0 g1) ?_
  refine Eq.trans (zv_next f184_4 rfl) ?_
  refine Eq.trans (zs_geti f184_5 g0 g1) ?_
  refine Eq.trans (zv_next f184_8 rfl) ?_
  refine Eq.trans (zv_next f184_9 rfl) ?_
  exact zs_icmp f184_10 rfl
theorem b184_13 {h : zi_Hp} {a0 : Nat} {x1 : Int32} {x2 : Int32} {x3 : Int32} {x4 : Int32} {x5 : Int32} (g0 : a0 < zh_n h) (g1 : (zh_k h a0).1 = 8) : zv 2 184 13 [.ref a0, .int x1, .int x2, .int x3, .int x4, .int x5] [] h = (zv 1 183 0 [.ref a0, .int (zh_i h a0 10)] [] h).bind fun r => zv 2 184 21 [.ref a0, .int x1, .int x2, .int x3, .int x4, .int x5] (r.1.toList ++ []) r.2 := by
  refine Eq.trans (zv_next f184_13 rfl) ?_
  refine Eq.trans (zv_next f184_14 rfl) ?_
  refine Eq.trans (zs_geti f184_15 g0 g1) ?_
  exact zs_callV f184_18 (Nat.le_of_ble_eq_true rfl) (Nat.le_of_ble_eq_true rfl) rfl g0 g1 me_183 (by decide) rfl
theorem b184_21 {h : zi_Hp} {a0 : Nat} {x1 : Int32} {x2 : Int32} {x3 : Int32} {x4 : Int32} {x5 : Int32} {s0 : Int32}  : zv 2 184 21 [.ref a0, .int x1, .int x2, .int x3, .int x4, .int x5] [.int s0] h = if s0 = x2 then zv 2 184 25 [.ref a0, .int x1, .int x2, .int x3, .int x4, .int x5] [] h else zv 2 184 78 [.ref a0, .int x1, .int x2, .int x3, .int x4, .int x5] [] h := by
  refine Eq.trans (zv_next f184_21 rfl) ?_
  exact zs_icmp f184_22 rfl
theorem b184_25 {h : zi_Hp} {a0 : Nat} {x1 : Int32} {x2 : Int32} {x3 : Int32} {x4 : Int32} {x5 : Int32} (g0 : a0 < zh_n h) (g1 : (zh_k h a0).1 = 8) : zv 2 184 25 [.ref a0, .int x1, .int x2, .int x3, .int x4, .int x5] [] h = (zv 1 183 0 [.ref a0, .int ((zh_i h a0 10) + 1)] [] h).bind fun r => zv 2 184 35 [.ref a0, .int x1, .int x2, .int x3, .int x4, .int x5] (r.1.toList ++ []) r.2 := by
  refine Eq.trans (zv_next f184_25 rfl) ?_
  refine Eq.trans (zv_next f184_26 rfl) ?_
  refine Eq.trans (zs_geti f184_27 g0 g1) ?_
  refine Eq.trans (zs_ic f184_30 ic_1) ?_
  refine Eq.trans (zv_next f184_31 rfl) ?_
  exact zs_callV f184_32 (Nat.le_of_ble_eq_true rfl) (Nat.le_of_ble_eq_true rfl) rfl g0 g1 me_183 (by decide) rfl
theorem b184_35 {h : zi_Hp} {a0 : Nat} {x1 : Int32} {x2 : Int32} {x3 : Int32} {x4 : Int32} {x5 : Int32} {s0 : Int32}  : zv 2 184 35 [.ref a0, .int x1, .int x2, .int x3, .int x4, .int x5] [.int s0] h = if s0 = x3 then zv 2 184 39 [.ref a0, .int x1, .int x2, .int x3, .int x4, .int x5] [] h else zv 2 184 78 [.ref a0, .int x1, .int x2, .int x3, .int x4, .int x5] [] h := by
  refine Eq.trans (zv_next f184_35 rfl) ?_
  exact zs_icmp f184_36 rfl
theorem b184_39 {h : zi_Hp} {a0 : Nat} {x1 : Int32} {x2 : Int32} {x3 : Int32} {x4 : Int32} {x5 : Int32} (g0 : a0 < zh_n h) (g1 : (zh_k h a0).1 = 8) : zv 2 184 39 [.ref a0, .int x1, .int x2, .int x3, .int x4, .int x5] [] h = (zv 1 183 0 [.ref a0, .int ((zh_i h a0 10) + 2)] [] h).bind fun r => zv 2 184 49 [.ref a0, .int x1, .int x2, .int x3, .int x4, .int x5] (r.1.toList ++ []) r.2 := by
  refine Eq.trans (zv_next f184_39 rfl) ?_
  refine Eq.trans (zv_next f184_40 rfl) ?_
  refine Eq.trans (zs_geti f184_41 g0 g1) ?_
  refine Eq.trans (zs_ic f184_44 ic_2) ?_
  refine Eq.trans (zv_next f184_45 rfl) ?_
  exact zs_callV f184_46 (Nat.le_of_ble_eq_true rfl) (Nat.le_of_ble_eq_true rfl) rfl g0 g1 me_183 (by decide) rfl
theorem b184_49 {h : zi_Hp} {a0 : Nat} {x1 : Int32} {x2 : Int32} {x3 : Int32} {x4 : Int32} {x5 : Int32} {s0 : Int32}  : zv 2 184 49 [.ref a0, .int x1, .int x2, .int x3, .int x4, .int x5] [.int s0] h = if s0 = x4 then zv 2 184 54 [.ref a0, .int x1, .int x2, .int x3, .int x4, .int x5] [] h else zv 2 184 78 [.ref a0, .int x1, .int x2, .int x3, .int x4, .int x5] [] h := by
  refine Eq.trans (zv_next f184_49 rfl) ?_
  exact zs_icmp f184_51 rfl
theorem b184_54 {h : zi_Hp} {a0 : Nat} {x1 : Int32} {x2 : Int32} {x3 : Int32} {x4 : Int32} {x5 : Int32}  : zv 2 184 54 [.ref a0, .int x1, .int x2, .int x3, .int x4, .int x5] [] h = if x1 < 4 then zv 2 184 74 [.ref a0, .int x1, .int x2, .int x3, .int x4, .int x5] [] h else zv 2 184 59 [.ref a0, .int x1, .int x2, .int x3, .int x4, .int x5] [] h := by
  refine Eq.trans (zv_next f184_54 rfl) ?_
  refine Eq.trans (zs_ic f184_55 ic_4) ?_
  exact zs_icmp f184_56 rfl
theorem b184_59 {h : zi_Hp} {a0 : Nat} {x1 : Int32} {x2 : Int32} {x3 : Int32} {x4 : Int32} {x5 : Int32} (g0 : a0 < zh_n h) (g1 : (zh_k h a0).1 = 8) : zv 2 184 59 [.ref a0, .int x1, .int x2, .int x3, .int x4, .int x5] [] h = (zv 1 183 0 [.ref a0, .int ((zh_i h a0 10) + 3)] [] h).bind fun r => zv 2 184 69 [.ref a0, .int x1, .int x2, .int x3, .int x4, .int x5] (r.1.toList ++ []) r.2 := by
  refine Eq.trans (zv_next f184_59 rfl) ?_
  refine Eq.trans (zv_next f184_60 rfl) ?_
  refine Eq.trans (zs_geti f184_61 g0 g1) ?_
  refine Eq.trans (zs_ic f184_64 ic_3) ?_
  refine Eq.trans (zv_next f184_65 rfl) ?_
  exact zs_callV f184_66 (Nat.le_of_ble_eq_true rfl) (Nat.le_of_ble_eq_true rfl) rfl g0 g1 me_183 (by decide) rfl
theorem b184_69 {h : zi_Hp} {a0 : Nat} {x1 : Int32} {x2 : Int32} {x3 : Int32} {x4 : Int32} {x5 : Int32} {s0 : Int32}  : zv 2 184 69 [.ref a0, .int x1, .int x2, .int x3, .int x4, .int x5] [.int s0] h = if s0 = x5 then zv 2 184 74 [.ref a0, .int x1, .int x2, .int x3, .int x4, .int x5] [] h else zv 2 184 78 [.ref a0, .int x1, .int x2, .int x3, .int x4, .int x5] [] h := by
  refine Eq.trans (zv_next f184_69 rfl) ?_
  exact zs_icmp f184_71 rfl
theorem b184_74 {h : zi_Hp} {a0 : Nat} {x1 : Int32} {x2 : Int32} {x3 : Int32} {x4 : Int32} {x5 : Int32}  : zv 2 184 74 [.ref a0, .int x1, .int x2, .int x3, .int x4, .int x5] [] h = zv 2 184 79 [.ref a0, .int x1, .int x2, .int x3, .int x4, .int x5] [.int 1] h := by
  refine Eq.trans (zs_ic f184_74 ic_1) ?_
  refine Eq.trans (zs_goto (tgt := 79) f184_75 rfl) ?_
  rfl
theorem b184_78 {h : zi_Hp} {a0 : Nat} {x1 : Int32} {x2 : Int32} {x3 : Int32} {x4 : Int32} {x5 : Int32}  : zv 2 184 78 [.ref a0, .int x1, .int x2, .int x3, .int x4, .int x5] [] h = zv 2 184 79 [.ref a0, .int x1, .int x2, .int x3, .int x4, .int x5] [.int 0] h := by
  refine Eq.trans (zs_ic f184_78 ic_0) ?_
  rfl
theorem b184_79 {h : zi_Hp} {a0 : Nat} {x1 : Int32} {x2 : Int32} {x3 : Int32} {x4 : Int32} {x5 : Int32} {s0 : Int32} (g0 : s0 = 0 ∨ s0 = 1) : zv 2 184 79 [.ref a0, .int x1, .int x2, .int x3, .int x4, .int x5] [.int s0] h = some (some (.int s0), h) := by
  exact zs_ret1 f184_79 g0
set_option maxRecDepth 20000 in
theorem zq185 : zi_M[185]? = some zi_m185 := rfl
theorem zl185_0 {pc : Nat} (_ : 0 ≤ pc) : zi_fe 185 pc = zu185_0.lookup pc := zi_feA zq185 pc
theorem f185_0 : zi_fe 185 0 = some ((.aload_n 0), 1, 0, 0, 0, 0, 0) := (zl185_0 (Nat.le_of_ble_eq_true rfl)).trans rfl
theorem f185_1 : zi_fe 185 1 = some ((.iconst 4), 1, 0, 0, 0, 0, 0) := (zl185_0 (Nat.le_of_ble_eq_true rfl)).trans rfl
theorem f185_2 : zi_fe 185 2 = some ((.bipush 114), 2, 0, 0, 0, 0, 0) := (zl185_0 (Nat.le_of_ble_eq_true rfl)).trans rfl
theorem f185_4 : zi_fe 185 4 = some ((.bipush 111), 2, 0, 0, 0, 0, 0) := (zl185_0 (Nat.le_of_ble_eq_true rfl)).trans rfl
theorem f185_6 : zi_fe 185 6 = some ((.bipush 111), 2, 0, 0, 0, 0, 0) := (zl185_0 (Nat.le_of_ble_eq_true rfl)).trans rfl
theorem f185_8 : zi_fe 185 8 = some ((.bipush 109), 2, 0, 0, 0, 0, 0) := (zl185_0 (Nat.le_of_ble_eq_true rfl)).trans rfl
theorem f185_10 : zi_fe 185 10 = some ((.invokevirtual 218), 3, 184, 0, 8, 1224, 6) := (zl185_0 (Nat.le_of_ble_eq_true rfl)).trans rfl
theorem f185_13 : zi_fe 185 13 = some ((.ifCond .eq 5), 3, 0, 0, 0, 0, 0) := (zl185_0 (Nat.le_of_ble_eq_true rfl)).trans rfl
theorem f185_16 : zi_fe 185 16 = some ((.iconst 0), 1, 0, 0, 0, 0, 0) := (zl185_0 (Nat.le_of_ble_eq_true rfl)).trans rfl
theorem f185_17 : zi_fe 185 17 = some (.ireturn, 1, 0, 0, 0, 0, 0) := (zl185_0 (Nat.le_of_ble_eq_true rfl)).trans rfl
theorem f185_18 : zi_fe 185 18 = some ((.aload_n 0), 1, 0, 0, 0, 0, 0) := (zl185_0 (Nat.le_of_ble_eq_true rfl)).trans rfl
theorem f185_19 : zi_fe 185 19 = some ((.iconst 3), 1, 0, 0, 0, 0, 0) := (zl185_0 (Nat.le_of_ble_eq_true rfl)).trans rfl
theorem zl185_1 {pc : Nat} (h : 20 ≤ pc) : zi_fe 185 pc = zu185_1.lookup pc := (zl185_0 (Nat.le_trans (Nat.le_of_ble_eq_true rfl) h)).trans (zi_lkA (a := zi_i185_0) (c := 20) rfl h)
theorem f185_20 : zi_fe 185 20 = some ((.bipush 112), 2, 0, 0, 0, 0, 0) := (zl185_1 (Nat.le_of_ble_eq_true rfl)).trans rfl
theorem f185_22 : zi_fe 185 22 = some ((.bipush 117), 2, 0, 0, 0, 0, 0) := (zl185_1 (Nat.le_of_ble_eq_true rfl)).trans rfl
theorem f185_24 : zi_fe 185 24 = some ((.bipush 116), 2, 0, 0, 0, 0, 0) := (zl185_1 (Nat.le_of_ble_eq_true rfl)).trans rfl
theorem f185_26 : zi_fe 185 26 = some ((.iconst 0), 1, 0, 0, 0, 0, 0) := (zl185_1 (Nat.le_of_ble_eq_true rfl)).trans rfl
theorem f185_27 : zi_fe 185 27 = some ((.invokevirtual 218), 3, 184, 0, 8, 1224, 6) := (zl185_1 (Nat.le_of_ble_eq_true rfl)).trans rfl
theorem f185_30 : zi_fe 185 30 = some ((.ifCond .eq 5), 3, 0, 0, 0, 0, 0) := (zl185_1 (Nat.le_of_ble_eq_true rfl)).trans rfl
theorem f185_33 : zi_fe 185 33 = some ((.iconst 1), 1, 0, 0, 0, 0, 0) := (zl185_1 (Nat.le_of_ble_eq_true rfl)).trans rfl
theorem f185_34 : zi_fe 185 34 = some (.ireturn, 1, 0, 0, 0, 0, 0) := (zl185_1 (Nat.le_of_ble_eq_true rfl)).trans rfl
theorem f185_35 : zi_fe 185 35 = some ((.aload_n 0), 1, 0, 0, 0, 0, 0) := (zl185_1 (Nat.le_of_ble_eq_true rfl)).trans rfl
theorem f185_36 : zi_fe 185 36 = some ((.iconst 4), 1, 0, 0, 0, 0, 0) := (zl185_1 (Nat.le_of_ble_eq_true rfl)).trans rfl
theorem f185_37 : zi_fe 185 37 = some ((.bipush 116), 2, 0, 0, 0, 0, 0) := (zl185_1 (Nat.le_of_ble_eq_true rfl)).trans rfl
theorem f185_39 : zi_fe 185 39 = some ((.bipush 97), 2, 0, 0, 0, 0, 0) := (zl185_1 (Nat.le_of_ble_eq_true rfl)).trans rfl
theorem zl185_2 {pc : Nat} (h : 41 ≤ pc) : zi_fe 185 pc = zu185_2.lookup pc := (zl185_1 (Nat.le_trans (Nat.le_of_ble_eq_true rfl) h)).trans (zi_lkA (a := zi_i185_1) (c := 41) rfl h)
theorem f185_41 : zi_fe 185 41 = some ((.bipush 107), 2, 0, 0, 0, 0, 0) := (zl185_2 (Nat.le_of_ble_eq_true rfl)).trans rfl
theorem f185_43 : zi_fe 185 43 = some ((.bipush 101), 2, 0, 0, 0, 0, 0) := (zl185_2 (Nat.le_of_ble_eq_true rfl)).trans rfl
theorem f185_45 : zi_fe 185 45 = some ((.invokevirtual 218), 3, 184, 0, 8, 1224, 6) := (zl185_2 (Nat.le_of_ble_eq_true rfl)).trans rfl
theorem f185_48 : zi_fe 185 48 = some ((.ifCond .eq 7), 3, 0, 0, 0, 0, 0) := (zl185_2 (Nat.le_of_ble_eq_true rfl)).trans rfl
theorem f185_51 : zi_fe 185 51 = some ((.iconst 2), 1, 0, 0, 0, 0, 0) := (zl185_2 (Nat.le_of_ble_eq_true rfl)).trans rfl
theorem f185_52 : zi_fe 185 52 = some ((.goto 25), 3, 0, 0, 0, 0, 0) := (zl185_2 (Nat.le_of_ble_eq_true rfl)).trans rfl
theorem f185_55 : zi_fe 185 55 = some ((.aload_n 0), 1, 0, 0, 0, 0, 0) := (zl185_2 (Nat.le_of_ble_eq_true rfl)).trans rfl
theorem f185_56 : zi_fe 185 56 = some ((.iconst 4), 1, 0, 0, 0, 0, 0) := (zl185_2 (Nat.le_of_ble_eq_true rfl)).trans rfl
theorem f185_57 : zi_fe 185 57 = some ((.bipush 102), 2, 0, 0, 0, 0, 0) := (zl185_2 (Nat.le_of_ble_eq_true rfl)).trans rfl
theorem f185_59 : zi_fe 185 59 = some ((.bipush 105), 2, 0, 0, 0, 0, 0) := (zl185_2 (Nat.le_of_ble_eq_true rfl)).trans rfl
theorem f185_61 : zi_fe 185 61 = some ((.bipush 110), 2, 0, 0, 0, 0, 0) := (zl185_2 (Nat.le_of_ble_eq_true rfl)).trans rfl
theorem f185_63 : zi_fe 185 63 = some ((.bipush 100), 2, 0, 0, 0, 0, 0) := (zl185_2 (Nat.le_of_ble_eq_true rfl)).trans rfl
theorem zl185_3 {pc : Nat} (h : 65 ≤ pc) : zi_fe 185 pc = zu185_3.lookup pc := (zl185_2 (Nat.le_trans (Nat.le_of_ble_eq_true rfl) h)).trans (zi_lkA (a := zi_i185_2) (c := 65) rfl h)
theorem f185_65 : zi_fe 185 65 = some ((.invokevirtual 218), 3, 184, 0, 8, 1224, 6) := (zl185_3 (Nat.le_of_ble_eq_true rfl)).trans rfl
theorem f185_68 : zi_fe 185 68 = some ((.ifCond .eq 7), 3, 0, 0, 0, 0, 0) := (zl185_3 (Nat.le_of_ble_eq_true rfl)).trans rfl
theorem f185_71 : zi_fe 185 71 = some ((.iconst 3), 1, 0, 0, 0, 0, 0) := (zl185_3 (Nat.le_of_ble_eq_true rfl)).trans rfl
theorem f185_72 : zi_fe 185 72 = some ((.goto 5), 3, 0, 0, 0, 0, 0) := (zl185_3 (Nat.le_of_ble_eq_true rfl)).trans rfl
theorem f185_75 : zi_fe 185 75 = some ((.bipush (-4)), 2, 0, 0, 0, 0, 0) := (zl185_3 (Nat.le_of_ble_eq_true rfl)).trans rfl
theorem f185_77 : zi_fe 185 77 = some (.ireturn, 1, 0, 0, 0, 0, 0) := (zl185_3 (Nat.le_of_ble_eq_true rfl)).trans rfl
theorem b185_0 {h : zi_Hp} {a0 : Nat} (g0 : a0 < zh_n h) (g1 : (zh_k h a0).1 = 8) : zv 3 185 0 [.ref a0] [] h = (zv 2 184 0 [.ref a0, .int 4, .int 114, .int 111, .int 111, .int 109] [] h).bind fun r => zv 3 185 13 [.ref a0] (r.1.toList ++ []) r.2 := by
  refine Eq.trans (zv_next f185_0 rfl) ?_
  refine Eq.trans (zs_ic f185_1 ic_4) ?_
  refine Eq.trans (zs_bp f185_2 bp_114) ?_
  refine Eq.trans (zs_bp f185_4 bp_111) ?_
  refine Eq.trans (zs_bp f185_6 bp_111) ?_
  refine Eq.trans (zs_bp f185_8 bp_109) ?_
  exact zs_callV f185_10 (Nat.le_of_ble_eq_true rfl) (Nat.le_of_ble_eq_true rfl) rfl g0 g1 me_184 (by decide) rfl
theorem b185_13 {h : zi_Hp} {a0 : Nat} {s0 : Int32}  : zv 3 185 13 [.ref a0] [.int s0] h = if s0 = 0 then zv 3 185 18 [.ref a0] [] h else zv 3 185 16 [.ref a0] [] h := by
  exact zs_if f185_13 rfl
theorem b185_16 {h : zi_Hp} {a0 : Nat}  : zv 3 185 16 [.ref a0] [] h = some (some (.int 0), h) := by
  refine Eq.trans (zs_ic f185_16 ic_0) ?_
  exact zs_ret0 f185_17
theorem b185_18 {h : zi_Hp} {a0 : Nat} (g0 : a0 < zh_n h) (g1 : (zh_k h a0).1 = 8) : zv 3 185 18 [.ref a0] [] h = (zv 2 184 0 [.ref a0, .int 3, .int 112, .int 117, .int 116, .int 0] [] h).bind fun r => zv 3 185 30 [.ref a0] (r.1.toList ++ []) r.2 := by
  refine Eq.trans (zv_next f185_18 rfl) ?_
  refine Eq.trans (zs_ic f185_19 ic_3) ?_
  refine Eq.trans (zs_bp f185_20 bp_112) ?_
  refine Eq.trans (zs_bp f185_22 bp_117) ?_
  refine Eq.trans (zs_bp f185_24 bp_116) ?_
  refine Eq.trans (zs_ic f185_26 ic_0) ?_
  exact zs_callV f185_27 (Nat.le_of_ble_eq_true rfl) (Nat.le_of_ble_eq_true rfl) rfl g0 g1 me_184 (by decide) rfl
theorem b185_30 {h : zi_Hp} {a0 : Nat} {s0 : Int32}  : zv 3 185 30 [.ref a0] [.int s0] h = if s0 = 0 then zv 3 185 35 [.ref a0] [] h else zv 3 185 33 [.ref a0] [] h := by
  exact zs_if f185_30 rfl
theorem b185_33 {h : zi_Hp} {a0 : Nat}  : zv 3 185 33 [.ref a0] [] h = some (some (.int 1), h) := by
  refine Eq.trans (zs_ic f185_33 ic_1) ?_
  exact zs_ret0 f185_34
theorem b185_35 {h : zi_Hp} {a0 : Nat} (g0 : a0 < zh_n h) (g1 : (zh_k h a0).1 = 8) : zv 3 185 35 [.ref a0] [] h = (zv 2 184 0 [.ref a0, .int 4, .int 116, .int 97, .int 107, .int 101] [] h).bind fun r => zv 3 185 48 [.ref a0] (r.1.toList ++ []) r.2 := by
  refine Eq.trans (zv_next f185_35 rfl) ?_
  refine Eq.trans (zs_ic f185_36 ic_4) ?_
  refine Eq.trans (zs_bp f185_37 bp_116) ?_
  refine Eq.trans (zs_bp f185_39 bp_97) ?_
  refine Eq.trans (zs_bp f185_41 bp_107) ?_
  refine Eq.trans (zs_bp f185_43 bp_101) ?_
  exact zs_callV f185_45 (Nat.le_of_ble_eq_true rfl) (Nat.le_of_ble_eq_true rfl) rfl g0 g1 me_184 (by decide) rfl
theorem b185_48 {h : zi_Hp} {a0 : Nat} {s0 : Int32}  : zv 3 185 48 [.ref a0] [.int s0] h = if s0 = 0 then zv 3 185 55 [.ref a0] [] h else zv 3 185 51 [.ref a0] [] h := by
  exact zs_if f185_48 rfl
theorem b185_51 {h : zi_Hp} {a0 : Nat}  : zv 3 185 51 [.ref a0] [] h = zv 3 185 77 [.ref a0] [.int 2] h := by
  refine Eq.trans (zs_ic f185_51 ic_2) ?_
  refine Eq.trans (zs_goto (tgt := 77) f185_52 rfl) ?_
  rfl
theorem b185_55 {h : zi_Hp} {a0 : Nat} (g0 : a0 < zh_n h) (g1 : (zh_k h a0).1 = 8) : zv 3 185 55 [.ref a0] [] h = (zv 2 184 0 [.ref a0, .int 4, .int 102, .int 105, .int 110, .int 100] [] h).bind fun r => zv 3 185 68 [.ref a0] (r.1.toList ++ []) r.2 := by
  refine Eq.trans (zv_next f185_55 rfl) ?_
  refine Eq.trans (zs_ic f185_56 ic_4) ?_
  refine Eq.trans (zs_bp f185_57 bp_102) ?_
  refine Eq.trans (zs_bp f185_59 bp_105) ?_
  refine Eq.trans (zs_bp f185_61 bp_110) ?_
  refine Eq.trans (zs_bp f185_63 bp_100) ?_
  exact zs_callV f185_65 (Nat.le_of_ble_eq_true rfl) (Nat.le_of_ble_eq_true rfl) rfl g0 g1 me_184 (by decide) rfl
theorem b185_68 {h : zi_Hp} {a0 : Nat} {s0 : Int32}  : zv 3 185 68 [.ref a0] [.int s0] h = if s0 = 0 then zv 3 185 75 [.ref a0] [] h else zv 3 185 71 [.ref a0] [] h := by
  exact zs_if f185_68 rfl
theorem b185_71 {h : zi_Hp} {a0 : Nat}  : zv 3 185 71 [.ref a0] [] h = zv 3 185 77 [.ref a0] [.int 3] h := by
  refine Eq.trans (zs_ic f185_71 ic_3) ?_
  refine Eq.trans (zs_goto (tgt := 77) f185_72 rfl) ?_
  rfl
theorem b185_75 {h : zi_Hp} {a0 : Nat}  : zv 3 185 75 [.ref a0] [] h = zv 3 185 77 [.ref a0] [.int (-4)] h := by
  refine Eq.trans (zs_bp f185_75 bp_m4) ?_
  rfl
theorem b185_77 {h : zi_Hp} {a0 : Nat} {s0 : Int32}  : zv 3 185 77 [.ref a0] [.int s0] h = some (some (.int s0), h) := by
  exact zs_ret0 f185_77
set_option maxRecDepth 20000 in
theorem zq186 : zi_M[186]? = some zi_m186 := rfl
theorem zl186_0 {pc : Nat} (_ : 0 ≤ pc) : zi_fe 186 pc = zu186_0.lookup pc := zi_feA zq186 pc
theorem f186_0 : zi_fe 186 0 = some ((.aload_n 0), 1, 0, 0, 0, 0, 0) := (zl186_0 (Nat.le_of_ble_eq_true rfl)).trans rfl
theorem f186_1 : zi_fe 186 1 = some ((.getfield 203), 3, 8, 13, 0, 1078, 0) := (zl186_0 (Nat.le_of_ble_eq_true rfl)).trans rfl
theorem f186_4 : zi_fe 186 4 = some ((.ifCond .le 4), 3, 0, 0, 0, 0, 0) := (zl186_0 (Nat.le_of_ble_eq_true rfl)).trans rfl
theorem f186_7 : zi_fe 186 7 = some (.return_, 1, 0, 0, 0, 0, 0) := (zl186_0 (Nat.le_of_ble_eq_true rfl)).trans rfl
theorem f186_8 : zi_fe 186 8 = some ((.aload_n 0), 1, 0, 0, 0, 0, 0) := (zl186_0 (Nat.le_of_ble_eq_true rfl)).trans rfl
theorem f186_9 : zi_fe 186 9 = some ((.aload_n 0), 1, 0, 0, 0, 0, 0) := (zl186_0 (Nat.le_of_ble_eq_true rfl)).trans rfl
theorem f186_10 : zi_fe 186 10 = some ((.getfield 212), 3, 8, 9, 0, 1074, 0) := (zl186_0 (Nat.le_of_ble_eq_true rfl)).trans rfl
theorem f186_13 : zi_fe 186 13 = some ((.invokevirtual 215), 3, 183, 0, 8, 1204, 2) := (zl186_0 (Nat.le_of_ble_eq_true rfl)).trans rfl
theorem f186_16 : zi_fe 186 16 = some ((.bipush 32), 2, 0, 0, 0, 0, 0) := (zl186_0 (Nat.le_of_ble_eq_true rfl)).trans rfl
theorem f186_18 : zi_fe 186 18 = some ((.if_icmp .ne 16), 3, 0, 0, 0, 0, 0) := (zl186_0 (Nat.le_of_ble_eq_true rfl)).trans rfl
theorem f186_21 : zi_fe 186 21 = some ((.aload_n 0), 1, 0, 0, 0, 0, 0) := (zl186_0 (Nat.le_of_ble_eq_true rfl)).trans rfl
theorem f186_22 : zi_fe 186 22 = some (.dup, 1, 0, 0, 0, 0, 0) := (zl186_0 (Nat.le_of_ble_eq_true rfl)).trans rfl
theorem zl186_1 {pc : Nat} (h : 23 ≤ pc) : zi_fe 186 pc = zu186_1.lookup pc := (zl186_0 (Nat.le_trans (Nat.le_of_ble_eq_true rfl) h)).trans (zi_lkA (a := zi_i186_0) (c := 23) rfl h)
theorem f186_23 : zi_fe 186 23 = some ((.getfield 212), 3, 8, 9, 0, 1074, 0) := (zl186_1 (Nat.le_of_ble_eq_true rfl)).trans rfl
theorem f186_26 : zi_fe 186 26 = some ((.iconst 1), 1, 0, 0, 0, 0, 0) := (zl186_1 (Nat.le_of_ble_eq_true rfl)).trans rfl
theorem f186_27 : zi_fe 186 27 = some (.iadd, 1, 0, 0, 0, 0, 0) := (zl186_1 (Nat.le_of_ble_eq_true rfl)).trans rfl
theorem f186_28 : zi_fe 186 28 = some ((.putfield 212), 3, 8, 9, 0, 1074, 0) := (zl186_1 (Nat.le_of_ble_eq_true rfl)).trans rfl
theorem f186_31 : zi_fe 186 31 = some ((.goto (-23)), 3, 0, 0, 0, 0, 0) := (zl186_1 (Nat.le_of_ble_eq_true rfl)).trans rfl
theorem f186_34 : zi_fe 186 34 = some ((.aload_n 0), 1, 0, 0, 0, 0, 0) := (zl186_1 (Nat.le_of_ble_eq_true rfl)).trans rfl
theorem f186_35 : zi_fe 186 35 = some ((.aload_n 0), 1, 0, 0, 0, 0, 0) := (zl186_1 (Nat.le_of_ble_eq_true rfl)).trans rfl
theorem f186_36 : zi_fe 186 36 = some ((.getfield 212), 3, 8, 9, 0, 1074, 0) := (zl186_1 (Nat.le_of_ble_eq_true rfl)).trans rfl
theorem f186_39 : zi_fe 186 39 = some ((.putfield 206), 3, 8, 10, 0, 1075, 0) := (zl186_1 (Nat.le_of_ble_eq_true rfl)).trans rfl
theorem f186_42 : zi_fe 186 42 = some ((.aload_n 0), 1, 0, 0, 0, 0, 0) := (zl186_1 (Nat.le_of_ble_eq_true rfl)).trans rfl
theorem f186_43 : zi_fe 186 43 = some ((.aload_n 0), 1, 0, 0, 0, 0, 0) := (zl186_1 (Nat.le_of_ble_eq_true rfl)).trans rfl
theorem f186_44 : zi_fe 186 44 = some ((.getfield 212), 3, 8, 9, 0, 1074, 0) := (zl186_1 (Nat.le_of_ble_eq_true rfl)).trans rfl
theorem zl186_2 {pc : Nat} (h : 47 ≤ pc) : zi_fe 186 pc = zu186_2.lookup pc := (zl186_1 (Nat.le_trans (Nat.le_of_ble_eq_true rfl) h)).trans (zi_lkA (a := zi_i186_1) (c := 47) rfl h)
theorem f186_47 : zi_fe 186 47 = some ((.invokevirtual 215), 3, 183, 0, 8, 1204, 2) := (zl186_2 (Nat.le_of_ble_eq_true rfl)).trans rfl
theorem f186_50 : zi_fe 186 50 = some ((.istore_n 1), 1, 0, 0, 0, 0, 0) := (zl186_2 (Nat.le_of_ble_eq_true rfl)).trans rfl
theorem f186_51 : zi_fe 186 51 = some ((.iload_n 1), 1, 0, 0, 0, 0, 0) := (zl186_2 (Nat.le_of_ble_eq_true rfl)).trans rfl
theorem f186_52 : zi_fe 186 52 = some ((.ifCond .ge 11), 3, 0, 0, 0, 0, 0) := (zl186_2 (Nat.le_of_ble_eq_true rfl)).trans rfl
theorem f186_55 : zi_fe 186 55 = some ((.aload_n 0), 1, 0, 0, 0, 0, 0) := (zl186_2 (Nat.le_of_ble_eq_true rfl)).trans rfl
theorem f186_56 : zi_fe 186 56 = some ((.iconst 0), 1, 0, 0, 0, 0, 0) := (zl186_2 (Nat.le_of_ble_eq_true rfl)).trans rfl
theorem f186_57 : zi_fe 186 57 = some ((.putfield 222), 3, 8, 11, 0, 1076, 0) := (zl186_2 (Nat.le_of_ble_eq_true rfl)).trans rfl
theorem f186_60 : zi_fe 186 60 = some ((.goto 214), 3, 0, 0, 0, 0, 0) := (zl186_2 (Nat.le_of_ble_eq_true rfl)).trans rfl
theorem f186_63 : zi_fe 186 63 = some ((.iload_n 1), 1, 0, 0, 0, 0, 0) := (zl186_2 (Nat.le_of_ble_eq_true rfl)).trans rfl
theorem f186_64 : zi_fe 186 64 = some (.i2l, 1, 0, 0, 0, 0, 0) := (zl186_2 (Nat.le_of_ble_eq_true rfl)).trans rfl
theorem f186_65 : zi_fe 186 65 = some ((.ldc2_w 225), 3, 0, 0, 0, 1208, 97) := (zl186_2 (Nat.le_of_ble_eq_true rfl)).trans rfl
theorem f186_68 : zi_fe 186 68 = some ((.ldc2_w 227), 3, 0, 0, 0, 1209, 122) := (zl186_2 (Nat.le_of_ble_eq_true rfl)).trans rfl
theorem zl186_3 {pc : Nat} (h : 71 ≤ pc) : zi_fe 186 pc = zu186_3.lookup pc := (zl186_2 (Nat.le_trans (Nat.le_of_ble_eq_true rfl) h)).trans (zi_lkA (a := zi_i186_2) (c := 71) rfl h)
theorem f186_71 : zi_fe 186 71 = some ((.invokestatic 196), 3, 142, 1, 8, 1189, 3) := (zl186_3 (Nat.le_of_ble_eq_true rfl)).trans rfl
theorem f186_74 : zi_fe 186 74 = some ((.ifCond .eq 42), 3, 0, 0, 0, 0, 0) := (zl186_3 (Nat.le_of_ble_eq_true rfl)).trans rfl
theorem f186_77 : zi_fe 186 77 = some ((.aload_n 0), 1, 0, 0, 0, 0, 0) := (zl186_3 (Nat.le_of_ble_eq_true rfl)).trans rfl
theorem f186_78 : zi_fe 186 78 = some ((.iconst 1), 1, 0, 0, 0, 0, 0) := (zl186_3 (Nat.le_of_ble_eq_true rfl)).trans rfl
theorem f186_79 : zi_fe 186 79 = some ((.putfield 222), 3, 8, 11, 0, 1076, 0) := (zl186_3 (Nat.le_of_ble_eq_true rfl)).trans rfl
theorem f186_82 : zi_fe 186 82 = some ((.aload_n 0), 1, 0, 0, 0, 0, 0) := (zl186_3 (Nat.le_of_ble_eq_true rfl)).trans rfl
theorem f186_83 : zi_fe 186 83 = some ((.aload_n 0), 1, 0, 0, 0, 0, 0) := (zl186_3 (Nat.le_of_ble_eq_true rfl)).trans rfl
theorem f186_84 : zi_fe 186 84 = some ((.getfield 212), 3, 8, 9, 0, 1074, 0) := (zl186_3 (Nat.le_of_ble_eq_true rfl)).trans rfl
theorem f186_87 : zi_fe 186 87 = some ((.invokevirtual 215), 3, 183, 0, 8, 1204, 2) := (zl186_3 (Nat.le_of_ble_eq_true rfl)).trans rfl
theorem f186_90 : zi_fe 186 90 = some (.i2l, 1, 0, 0, 0, 0, 0) := (zl186_3 (Nat.le_of_ble_eq_true rfl)).trans rfl
theorem f186_91 : zi_fe 186 91 = some ((.ldc2_w 225), 3, 0, 0, 0, 1208, 97) := (zl186_3 (Nat.le_of_ble_eq_true rfl)).trans rfl
theorem f186_94 : zi_fe 186 94 = some ((.ldc2_w 227), 3, 0, 0, 0, 1209, 122) := (zl186_3 (Nat.le_of_ble_eq_true rfl)).trans rfl
theorem zl186_4 {pc : Nat} (h : 97 ≤ pc) : zi_fe 186 pc = zu186_4.lookup pc := (zl186_3 (Nat.le_trans (Nat.le_of_ble_eq_true rfl) h)).trans (zi_lkA (a := zi_i186_3) (c := 97) rfl h)
theorem f186_97 : zi_fe 186 97 = some ((.invokestatic 196), 3, 142, 1, 8, 1189, 3) := (zl186_4 (Nat.le_of_ble_eq_true rfl)).trans rfl
theorem f186_100 : zi_fe 186 100 = some ((.ifCond .eq 174), 3, 0, 0, 0, 0, 0) := (zl186_4 (Nat.le_of_ble_eq_true rfl)).trans rfl
theorem f186_103 : zi_fe 186 103 = some ((.aload_n 0), 1, 0, 0, 0, 0, 0) := (zl186_4 (Nat.le_of_ble_eq_true rfl)).trans rfl
theorem f186_104 : zi_fe 186 104 = some (.dup, 1, 0, 0, 0, 0, 0) := (zl186_4 (Nat.le_of_ble_eq_true rfl)).trans rfl
theorem f186_105 : zi_fe 186 105 = some ((.getfield 212), 3, 8, 9, 0, 1074, 0) := (zl186_4 (Nat.le_of_ble_eq_true rfl)).trans rfl
theorem f186_108 : zi_fe 186 108 = some ((.iconst 1), 1, 0, 0, 0, 0, 0) := (zl186_4 (Nat.le_of_ble_eq_true rfl)).trans rfl
theorem f186_109 : zi_fe 186 109 = some (.iadd, 1, 0, 0, 0, 0, 0) := (zl186_4 (Nat.le_of_ble_eq_true rfl)).trans rfl
theorem f186_110 : zi_fe 186 110 = some ((.putfield 212), 3, 8, 9, 0, 1074, 0) := (zl186_4 (Nat.le_of_ble_eq_true rfl)).trans rfl
theorem f186_113 : zi_fe 186 113 = some ((.goto (-31)), 3, 0, 0, 0, 0, 0) := (zl186_4 (Nat.le_of_ble_eq_true rfl)).trans rfl
theorem f186_116 : zi_fe 186 116 = some ((.iload_n 1), 1, 0, 0, 0, 0, 0) := (zl186_4 (Nat.le_of_ble_eq_true rfl)).trans rfl
theorem f186_117 : zi_fe 186 117 = some (.i2l, 1, 0, 0, 0, 0, 0) := (zl186_4 (Nat.le_of_ble_eq_true rfl)).trans rfl
theorem f186_118 : zi_fe 186 118 = some ((.ldc2_w 229), 3, 0, 0, 0, 1210, 48) := (zl186_4 (Nat.le_of_ble_eq_true rfl)).trans rfl
theorem zl186_5 {pc : Nat} (h : 121 ≤ pc) : zi_fe 186 pc = zu186_5.lookup pc := (zl186_4 (Nat.le_trans (Nat.le_of_ble_eq_true rfl) h)).trans (zi_lkA (a := zi_i186_4) (c := 121) rfl h)
theorem f186_121 : zi_fe 186 121 = some ((.ldc2_w 231), 3, 0, 0, 0, 1211, 57) := (zl186_5 (Nat.le_of_ble_eq_true rfl)).trans rfl
theorem f186_124 : zi_fe 186 124 = some ((.invokestatic 196), 3, 142, 1, 8, 1189, 3) := (zl186_5 (Nat.le_of_ble_eq_true rfl)).trans rfl
theorem f186_127 : zi_fe 186 127 = some ((.ifCond .eq 116), 3, 0, 0, 0, 0, 0) := (zl186_5 (Nat.le_of_ble_eq_true rfl)).trans rfl
theorem f186_130 : zi_fe 186 130 = some ((.aload_n 0), 1, 0, 0, 0, 0, 0) := (zl186_5 (Nat.le_of_ble_eq_true rfl)).trans rfl
theorem f186_131 : zi_fe 186 131 = some ((.iconst 2), 1, 0, 0, 0, 0, 0) := (zl186_5 (Nat.le_of_ble_eq_true rfl)).trans rfl
theorem f186_132 : zi_fe 186 132 = some ((.putfield 222), 3, 8, 11, 0, 1076, 0) := (zl186_5 (Nat.le_of_ble_eq_true rfl)).trans rfl
theorem f186_135 : zi_fe 186 135 = some ((.aload_n 0), 1, 0, 0, 0, 0, 0) := (zl186_5 (Nat.le_of_ble_eq_true rfl)).trans rfl
theorem f186_136 : zi_fe 186 136 = some ((.iconst 0), 1, 0, 0, 0, 0, 0) := (zl186_5 (Nat.le_of_ble_eq_true rfl)).trans rfl
theorem f186_137 : zi_fe 186 137 = some ((.putfield 233), 3, 8, 12, 0, 1077, 0) := (zl186_5 (Nat.le_of_ble_eq_true rfl)).trans rfl
theorem f186_140 : zi_fe 186 140 = some ((.aload_n 0), 1, 0, 0, 0, 0, 0) := (zl186_5 (Nat.le_of_ble_eq_true rfl)).trans rfl
theorem f186_141 : zi_fe 186 141 = some ((.aload_n 0), 1, 0, 0, 0, 0, 0) := (zl186_5 (Nat.le_of_ble_eq_true rfl)).trans rfl
theorem f186_142 : zi_fe 186 142 = some ((.getfield 212), 3, 8, 9, 0, 1074, 0) := (zl186_5 (Nat.le_of_ble_eq_true rfl)).trans rfl
theorem zl186_6 {pc : Nat} (h : 145 ≤ pc) : zi_fe 186 pc = zu186_6.lookup pc := (zl186_5 (Nat.le_trans (Nat.le_of_ble_eq_true rfl) h)).trans (zi_lkA (a := zi_i186_5) (c := 145) rfl h)
theorem f186_145 : zi_fe 186 145 = some ((.invokevirtual 215), 3, 183, 0, 8, 1204, 2) := (zl186_6 (Nat.le_of_ble_eq_true rfl)).trans rfl
theorem f186_148 : zi_fe 186 148 = some (.i2l, 1, 0, 0, 0, 0, 0) := (zl186_6 (Nat.le_of_ble_eq_true rfl)).trans rfl
theorem f186_149 : zi_fe 186 149 = some ((.ldc2_w 229), 3, 0, 0, 0, 1210, 48) := (zl186_6 (Nat.le_of_ble_eq_true rfl)).trans rfl
theorem f186_152 : zi_fe 186 152 = some ((.ldc2_w 231), 3, 0, 0, 0, 1211, 57) := (zl186_6 (Nat.le_of_ble_eq_true rfl)).trans rfl
theorem f186_155 : zi_fe 186 155 = some ((.invokestatic 196), 3, 142, 1, 8, 1189, 3) := (zl186_6 (Nat.le_of_ble_eq_true rfl)).trans rfl
theorem f186_158 : zi_fe 186 158 = some ((.ifCond .eq 59), 3, 0, 0, 0, 0, 0) := (zl186_6 (Nat.le_of_ble_eq_true rfl)).trans rfl
theorem f186_161 : zi_fe 186 161 = some ((.aload_n 0), 1, 0, 0, 0, 0, 0) := (zl186_6 (Nat.le_of_ble_eq_true rfl)).trans rfl
theorem f186_162 : zi_fe 186 162 = some ((.aload_n 0), 1, 0, 0, 0, 0, 0) := (zl186_6 (Nat.le_of_ble_eq_true rfl)).trans rfl
theorem f186_163 : zi_fe 186 163 = some ((.getfield 212), 3, 8, 9, 0, 1074, 0) := (zl186_6 (Nat.le_of_ble_eq_true rfl)).trans rfl
theorem f186_166 : zi_fe 186 166 = some ((.aload_n 0), 1, 0, 0, 0, 0, 0) := (zl186_6 (Nat.le_of_ble_eq_true rfl)).trans rfl
theorem f186_167 : zi_fe 186 167 = some ((.getfield 206), 3, 8, 10, 0, 1075, 0) := (zl186_6 (Nat.le_of_ble_eq_true rfl)).trans rfl
theorem f186_170 : zi_fe 186 170 = some (.isub, 1, 0, 0, 0, 0, 0) := (zl186_6 (Nat.le_of_ble_eq_true rfl)).trans rfl
theorem zl186_7 {pc : Nat} (h : 171 ≤ pc) : zi_fe 186 pc = zu186_7.lookup pc := (zl186_6 (Nat.le_trans (Nat.le_of_ble_eq_true rfl) h)).trans (zi_lkA (a := zi_i186_6) (c := 171) rfl h)
theorem f186_171 : zi_fe 186 171 = some ((.iconst 2), 1, 0, 0, 0, 0, 0) := (zl186_7 (Nat.le_of_ble_eq_true rfl)).trans rfl
theorem f186_172 : zi_fe 186 172 = some ((.if_icmp .ge 25), 3, 0, 0, 0, 0, 0) := (zl186_7 (Nat.le_of_ble_eq_true rfl)).trans rfl
theorem f186_175 : zi_fe 186 175 = some ((.bipush 10), 2, 0, 0, 0, 0, 0) := (zl186_7 (Nat.le_of_ble_eq_true rfl)).trans rfl
theorem f186_177 : zi_fe 186 177 = some ((.aload_n 0), 1, 0, 0, 0, 0, 0) := (zl186_7 (Nat.le_of_ble_eq_true rfl)).trans rfl
theorem f186_178 : zi_fe 186 178 = some ((.getfield 233), 3, 8, 12, 0, 1077, 0) := (zl186_7 (Nat.le_of_ble_eq_true rfl)).trans rfl
theorem f186_181 : zi_fe 186 181 = some (.imul, 1, 0, 0, 0, 0, 0) := (zl186_7 (Nat.le_of_ble_eq_true rfl)).trans rfl
theorem f186_182 : zi_fe 186 182 = some ((.aload_n 0), 1, 0, 0, 0, 0, 0) := (zl186_7 (Nat.le_of_ble_eq_true rfl)).trans rfl
theorem f186_183 : zi_fe 186 183 = some ((.aload_n 0), 1, 0, 0, 0, 0, 0) := (zl186_7 (Nat.le_of_ble_eq_true rfl)).trans rfl
theorem f186_184 : zi_fe 186 184 = some ((.getfield 212), 3, 8, 9, 0, 1074, 0) := (zl186_7 (Nat.le_of_ble_eq_true rfl)).trans rfl
theorem f186_187 : zi_fe 186 187 = some ((.invokevirtual 215), 3, 183, 0, 8, 1204, 2) := (zl186_7 (Nat.le_of_ble_eq_true rfl)).trans rfl
theorem f186_190 : zi_fe 186 190 = some (.iadd, 1, 0, 0, 0, 0, 0) := (zl186_7 (Nat.le_of_ble_eq_true rfl)).trans rfl
theorem f186_191 : zi_fe 186 191 = some ((.bipush 48), 2, 0, 0, 0, 0, 0) := (zl186_7 (Nat.le_of_ble_eq_true rfl)).trans rfl
theorem zl186_8 {pc : Nat} (h : 193 ≤ pc) : zi_fe 186 pc = zu186_8.lookup pc := (zl186_7 (Nat.le_trans (Nat.le_of_ble_eq_true rfl) h)).trans (zi_lkA (a := zi_i186_7) (c := 193) rfl h)
theorem f186_193 : zi_fe 186 193 = some (.isub, 1, 0, 0, 0, 0, 0) := (zl186_8 (Nat.le_of_ble_eq_true rfl)).trans rfl
theorem f186_194 : zi_fe 186 194 = some ((.goto 7), 3, 0, 0, 0, 0, 0) := (zl186_8 (Nat.le_of_ble_eq_true rfl)).trans rfl
theorem f186_197 : zi_fe 186 197 = some ((.aload_n 0), 1, 0, 0, 0, 0, 0) := (zl186_8 (Nat.le_of_ble_eq_true rfl)).trans rfl
theorem f186_198 : zi_fe 186 198 = some ((.getfield 233), 3, 8, 12, 0, 1077, 0) := (zl186_8 (Nat.le_of_ble_eq_true rfl)).trans rfl
theorem f186_201 : zi_fe 186 201 = some ((.putfield 233), 3, 8, 12, 0, 1077, 0) := (zl186_8 (Nat.le_of_ble_eq_true rfl)).trans rfl
theorem f186_204 : zi_fe 186 204 = some ((.aload_n 0), 1, 0, 0, 0, 0, 0) := (zl186_8 (Nat.le_of_ble_eq_true rfl)).trans rfl
theorem f186_205 : zi_fe 186 205 = some (.dup, 1, 0, 0, 0, 0, 0) := (zl186_8 (Nat.le_of_ble_eq_true rfl)).trans rfl
theorem f186_206 : zi_fe 186 206 = some ((.getfield 212), 3, 8, 9, 0, 1074, 0) := (zl186_8 (Nat.le_of_ble_eq_true rfl)).trans rfl
theorem f186_209 : zi_fe 186 209 = some ((.iconst 1), 1, 0, 0, 0, 0, 0) := (zl186_8 (Nat.le_of_ble_eq_true rfl)).trans rfl
theorem f186_210 : zi_fe 186 210 = some (.iadd, 1, 0, 0, 0, 0, 0) := (zl186_8 (Nat.le_of_ble_eq_true rfl)).trans rfl
theorem f186_211 : zi_fe 186 211 = some ((.putfield 212), 3, 8, 9, 0, 1074, 0) := (zl186_8 (Nat.le_of_ble_eq_true rfl)).trans rfl
theorem f186_214 : zi_fe 186 214 = some ((.goto (-74)), 3, 0, 0, 0, 0, 0) := (zl186_8 (Nat.le_of_ble_eq_true rfl)).trans rfl
theorem zl186_9 {pc : Nat} (h : 217 ≤ pc) : zi_fe 186 pc = zu186_9.lookup pc := (zl186_8 (Nat.le_trans (Nat.le_of_ble_eq_true rfl) h)).trans (zi_lkA (a := zi_i186_8) (c := 217) rfl h)
theorem f186_217 : zi_fe 186 217 = some ((.aload_n 0), 1, 0, 0, 0, 0, 0) := (zl186_9 (Nat.le_of_ble_eq_true rfl)).trans rfl
theorem f186_218 : zi_fe 186 218 = some ((.aload_n 0), 1, 0, 0, 0, 0, 0) := (zl186_9 (Nat.le_of_ble_eq_true rfl)).trans rfl
theorem f186_219 : zi_fe 186 219 = some ((.getfield 212), 3, 8, 9, 0, 1074, 0) := (zl186_9 (Nat.le_of_ble_eq_true rfl)).trans rfl
theorem f186_222 : zi_fe 186 222 = some ((.aload_n 0), 1, 0, 0, 0, 0, 0) := (zl186_9 (Nat.le_of_ble_eq_true rfl)).trans rfl
theorem f186_223 : zi_fe 186 223 = some ((.getfield 206), 3, 8, 10, 0, 1075, 0) := (zl186_9 (Nat.le_of_ble_eq_true rfl)).trans rfl
theorem f186_226 : zi_fe 186 226 = some (.isub, 1, 0, 0, 0, 0, 0) := (zl186_9 (Nat.le_of_ble_eq_true rfl)).trans rfl
theorem f186_227 : zi_fe 186 227 = some ((.iconst 2), 1, 0, 0, 0, 0, 0) := (zl186_9 (Nat.le_of_ble_eq_true rfl)).trans rfl
theorem f186_228 : zi_fe 186 228 = some ((.if_icmp .gt 7), 3, 0, 0, 0, 0, 0) := (zl186_9 (Nat.le_of_ble_eq_true rfl)).trans rfl
theorem f186_231 : zi_fe 186 231 = some ((.iconst 1), 1, 0, 0, 0, 0, 0) := (zl186_9 (Nat.le_of_ble_eq_true rfl)).trans rfl
theorem f186_232 : zi_fe 186 232 = some ((.goto 4), 3, 0, 0, 0, 0, 0) := (zl186_9 (Nat.le_of_ble_eq_true rfl)).trans rfl
theorem f186_235 : zi_fe 186 235 = some ((.iconst 0), 1, 0, 0, 0, 0, 0) := (zl186_9 (Nat.le_of_ble_eq_true rfl)).trans rfl
theorem f186_236 : zi_fe 186 236 = some ((.iconst 1), 1, 0, 0, 0, 0, 0) := (zl186_9 (Nat.le_of_ble_eq_true rfl)).trans rfl
theorem zl186_10 {pc : Nat} (h : 237 ≤ pc) : zi_fe 186 pc = zu186_10.lookup pc := (zl186_9 (Nat.le_trans (Nat.le_of_ble_eq_true rfl) h)).trans (zi_lkA (a := zi_i186_9) (c := 237) rfl h)
theorem f186_237 : zi_fe 186 237 = some ((.invokevirtual 236), 3, 182, 0, 8, 1212, 3) := (zl186_10 (Nat.le_of_ble_eq_true rfl)).trans rfl
theorem f186_240 : zi_fe 186 240 = some ((.goto 34), 3, 0, 0, 0, 0, 0) := (zl186_10 (Nat.le_of_ble_eq_true rfl)).trans rfl
theorem f186_243 : zi_fe 186 243 = some ((.aload_n 0), 1, 0, 0, 0, 0, 0) := (zl186_10 (Nat.le_of_ble_eq_true rfl)).trans rfl
theorem f186_244 : zi_fe 186 244 = some ((.iconst 3), 1, 0, 0, 0, 0, 0) := (zl186_10 (Nat.le_of_ble_eq_true rfl)).trans rfl
theorem f186_245 : zi_fe 186 245 = some ((.putfield 222), 3, 8, 11, 0, 1076, 0) := (zl186_10 (Nat.le_of_ble_eq_true rfl)).trans rfl
theorem f186_248 : zi_fe 186 248 = some ((.aload_n 0), 1, 0, 0, 0, 0, 0) := (zl186_10 (Nat.le_of_ble_eq_true rfl)).trans rfl
theorem f186_249 : zi_fe 186 249 = some ((.iload_n 1), 1, 0, 0, 0, 0, 0) := (zl186_10 (Nat.le_of_ble_eq_true rfl)).trans rfl
theorem f186_250 : zi_fe 186 250 = some ((.bipush 59), 2, 0, 0, 0, 0, 0) := (zl186_10 (Nat.le_of_ble_eq_true rfl)).trans rfl
theorem f186_252 : zi_fe 186 252 = some ((.if_icmp .ne 7), 3, 0, 0, 0, 0, 0) := (zl186_10 (Nat.le_of_ble_eq_true rfl)).trans rfl
theorem f186_255 : zi_fe 186 255 = some ((.iconst 1), 1, 0, 0, 0, 0, 0) := (zl186_10 (Nat.le_of_ble_eq_true rfl)).trans rfl
theorem f186_256 : zi_fe 186 256 = some ((.goto 4), 3, 0, 0, 0, 0, 0) := (zl186_10 (Nat.le_of_ble_eq_true rfl)).trans rfl
theorem f186_259 : zi_fe 186 259 = some ((.iconst 0), 1, 0, 0, 0, 0, 0) := (zl186_10 (Nat.le_of_ble_eq_true rfl)).trans rfl
theorem zl186_11 {pc : Nat} (h : 260 ≤ pc) : zi_fe 186 pc = zu186_11.lookup pc := (zl186_10 (Nat.le_trans (Nat.le_of_ble_eq_true rfl) h)).trans (zi_lkA (a := zi_i186_10) (c := 260) rfl h)
theorem f186_260 : zi_fe 186 260 = some ((.iconst 1), 1, 0, 0, 0, 0, 0) := (zl186_11 (Nat.le_of_ble_eq_true rfl)).trans rfl
theorem f186_261 : zi_fe 186 261 = some ((.invokevirtual 236), 3, 182, 0, 8, 1212, 3) := (zl186_11 (Nat.le_of_ble_eq_true rfl)).trans rfl
theorem f186_264 : zi_fe 186 264 = some ((.aload_n 0), 1, 0, 0, 0, 0, 0) := (zl186_11 (Nat.le_of_ble_eq_true rfl)).trans rfl
theorem f186_265 : zi_fe 186 265 = some (.dup, 1, 0, 0, 0, 0, 0) := (zl186_11 (Nat.le_of_ble_eq_true rfl)).trans rfl
theorem f186_266 : zi_fe 186 266 = some ((.getfield 212), 3, 8, 9, 0, 1074, 0) := (zl186_11 (Nat.le_of_ble_eq_true rfl)).trans rfl
theorem f186_269 : zi_fe 186 269 = some ((.iconst 1), 1, 0, 0, 0, 0, 0) := (zl186_11 (Nat.le_of_ble_eq_true rfl)).trans rfl
theorem f186_270 : zi_fe 186 270 = some (.iadd, 1, 0, 0, 0, 0, 0) := (zl186_11 (Nat.le_of_ble_eq_true rfl)).trans rfl
theorem f186_271 : zi_fe 186 271 = some ((.putfield 212), 3, 8, 9, 0, 1074, 0) := (zl186_11 (Nat.le_of_ble_eq_true rfl)).trans rfl
theorem f186_274 : zi_fe 186 274 = some (.return_, 1, 0, 0, 0, 0, 0) := (zl186_11 (Nat.le_of_ble_eq_true rfl)).trans rfl
theorem b186_0 {h : zi_Hp} {a0 : Nat} {u1 : Value} (g0 : a0 < zh_n h) (g1 : (zh_k h a0).1 = 8) : zv 2 186 0 [.ref a0, u1] [] h = if 0 < (zh_i h a0 13) then zv 2 186 7 [.ref a0, u1] [] h else zv 2 186 8 [.ref a0, u1] [] h := by
  refine Eq.trans (zv_next f186_0 rfl) ?_
  refine Eq.trans (zs_geti f186_1 g0 g1) ?_
  exact zs_if f186_4 rfl
theorem b186_7 {h : zi_Hp} {a0 : Nat} {u1 : Value}  : zv 2 186 7 [.ref a0, u1] [] h = some (none, h) := by
  exact zv_ret f186_7 rfl
theorem b186_8 {h : zi_Hp} {a0 : Nat} {u1 : Value} (g0 : a0 < zh_n h) (g1 : (zh_k h a0).1 = 8) : zv 2 186 8 [.ref a0, u1] [] h = (zv 1 183 0 [.ref a0, .int (zh_i h a0 9)] [] h).bind fun r => zv 2 186 16 [.ref a0, u1] (r.1.toList ++ []) r.2 := by
  refine Eq.trans (zv_next f186_8 rfl) ?_
  refine Eq.trans (zv_next f186_9 rfl) ?_
  refine Eq.trans (zs_geti f186_10 g0 g1) ?_
  exact zs_callV f186_13 (Nat.le_of_ble_eq_true rfl) (Nat.le_of_ble_eq_true rfl) rfl g0 g1 me_183 (by decide) rfl
theorem b186_16 {h : zi_Hp} {a0 : Nat} {u1 : Value} {s0 : Int32}  : zv 2 186 16 [.ref a0, u1] [.int s0] h = if s0 = 32 then zv 2 186 21 [.ref a0, u1] [] h else zv 2 186 34 [.ref a0, u1] [] h := by
  refine Eq.trans (zs_bp f186_16 bp_32) ?_
  exact zs_icmp f186_18 rfl
theorem b186_21 {h : zi_Hp} {a0 : Nat} {u1 : Value} (g0 : a0 < zh_n h) (g1 : (zh_k h a0).1 = 8) : zv 2 186 21 [.ref a0, u1] [] h = zv 2 186 8 [.ref a0, u1] [] (zh_wi h a0 9 ((zh_i h a0 9) + 1)) := by
  refine Eq.trans (zv_next f186_21 rfl) ?_
  refine Eq.trans (zv_next f186_22 rfl) ?_
  refine Eq.trans (zs_geti f186_23 g0 g1) ?_
  refine Eq.trans (zs_ic f186_26 ic_1) ?_
  refine Eq.trans (zv_next f186_27 rfl) ?_
  refine Eq.trans (zs_put f186_28 g0 g1 rfl) ?_
  refine Eq.trans (zs_goto (tgt := 8) f186_31 rfl) ?_
  rfl
theorem b186_34 {h : zi_Hp} {a0 : Nat} {u1 : Value} (g0 : a0 < zh_n h) (g1 : (zh_k h a0).1 = 8) : zv 2 186 34 [.ref a0, u1] [] h = zv 2 186 44 [.ref a0, u1] [.ref a0, .ref a0] (zh_wi h a0 10 (zh_i h a0 9)) := by
  refine Eq.trans (zv_next f186_34 rfl) ?_
  refine Eq.trans (zv_next f186_35 rfl) ?_
  refine Eq.trans (zs_geti f186_36 g0 g1) ?_
  refine Eq.trans (zs_put f186_39 g0 g1 rfl) ?_
  refine Eq.trans (zv_next f186_42 rfl) ?_
  refine Eq.trans (zv_next f186_43 rfl) ?_
  rfl
theorem b186_44 {h : zi_Hp} {a0 : Nat} {u1 : Value} {t0 : Nat} {t1 : Nat} (g0 : t1 < zh_n h) (g1 : (zh_k h t1).1 = 8) (g2 : t0 < zh_n h) (g3 : (zh_k h t0).1 = 8) : zv 2 186 44 [.ref a0, u1] [.ref t1, .ref t0] h = (zv 1 183 0 [.ref t0, .int (zh_i h t1 9)] [] h).bind fun r => zv 2 186 50 [.ref a0, u1] (r.1.toList ++ []) r.2 := by
  refine Eq.trans (zs_geti f186_44 g0 g1) ?_
  exact zs_callV f186_47 (Nat.le_of_ble_eq_true rfl) (Nat.le_of_ble_eq_true rfl) rfl g2 g3 me_183 (by decide) rfl
theorem b186_50 {h : zi_Hp} {a0 : Nat} {u1 : Value} {s0 : Int32}  : zv 2 186 50 [.ref a0, u1] [.int s0] h = if s0 < 0 then zv 2 186 55 [.ref a0, .int s0] [] h else zv 2 186 63 [.ref a0, .int s0] [] h := by
  refine Eq.trans (zv_next f186_50 rfl) ?_
  refine Eq.trans (zv_next f186_51 rfl) ?_
  exact zs_if f186_52 rfl
theorem b186_55 {h : zi_Hp} {a0 : Nat} {x1 : Int32} (g0 : a0 < zh_n h) (g1 : (zh_k h a0).1 = 8) : zv 2 186 55 [.ref a0, .int x1] [] h = zv 2 186 274 [.ref a0, .int x1] [] (zh_wi h a0 11 0) := by
  refine Eq.trans (zv_next f186_55 rfl) ?_
  refine Eq.trans (zs_ic f186_56 ic_0) ?_
  refine Eq.trans (zs_put f186_57 g0 g1 rfl) ?_
  refine Eq.trans (zs_goto (tgt := 274) f186_60 rfl) ?_
  rfl
theorem b186_63 {h : zi_Hp} {a0 : Nat} {x1 : Int32}  : zv 2 186 63 [.ref a0, .int x1] [] h = (zv 1 142 0 [.long ((x1).toInt64), .double 1, .long 97, .double 1, .long 122, .double 1] [] h).bind fun r => zv 2 186 74 [.ref a0, .int x1] (r.1.toList ++ []) r.2 := by
  refine Eq.trans (zv_next f186_63 rfl) ?_
  refine Eq.trans (zv_next f186_64 rfl) ?_
  refine Eq.trans (zs_l2 f186_65 l2_97) ?_
  refine Eq.trans (zs_l2 f186_68 l2_122) ?_
  exact zs_callS f186_71 (by decide) (Nat.le_of_ble_eq_true rfl) (Nat.le_of_ble_eq_true rfl) rfl me_142 (by decide) rfl
theorem b186_74 {h : zi_Hp} {a0 : Nat} {x1 : Int32} {s0 : Int32}  : zv 2 186 74 [.ref a0, .int x1] [.int s0] h = if s0 = 0 then zv 2 186 116 [.ref a0, .int x1] [] h else zv 2 186 77 [.ref a0, .int x1] [] h := by
  exact zs_if f186_74 rfl
theorem b186_77 {h : zi_Hp} {a0 : Nat} {x1 : Int32} (g0 : a0 < zh_n h) (g1 : (zh_k h a0).1 = 8) : zv 2 186 77 [.ref a0, .int x1] [] h = zv 2 186 82 [.ref a0, .int x1] [] (zh_wi h a0 11 1) := by
  refine Eq.trans (zv_next f186_77 rfl) ?_
  refine Eq.trans (zs_ic f186_78 ic_1) ?_
  refine Eq.trans (zs_put f186_79 g0 g1 rfl) ?_
  rfl
theorem b186_82 {h : zi_Hp} {a0 : Nat} {x1 : Int32} (g0 : a0 < zh_n h) (g1 : (zh_k h a0).1 = 8) : zv 2 186 82 [.ref a0, .int x1] [] h = (zv 1 183 0 [.ref a0, .int (zh_i h a0 9)] [] h).bind fun r => zv 2 186 90 [.ref a0, .int x1] (r.1.toList ++ []) r.2 := by
  refine Eq.trans (zv_next f186_82 rfl) ?_
  refine Eq.trans (zv_next f186_83 rfl) ?_
  refine Eq.trans (zs_geti f186_84 g0 g1) ?_
  exact zs_callV f186_87 (Nat.le_of_ble_eq_true rfl) (Nat.le_of_ble_eq_true rfl) rfl g0 g1 me_183 (by decide) rfl
theorem b186_90 {h : zi_Hp} {a0 : Nat} {x1 : Int32} {s0 : Int32}  : zv 2 186 90 [.ref a0, .int x1] [.int s0] h = (zv 1 142 0 [.long ((s0).toInt64), .double 1, .long 97, .double 1, .long 122, .double 1] [] h).bind fun r => zv 2 186 100 [.ref a0, .int x1] (r.1.toList ++ []) r.2 := by
  refine Eq.trans (zv_next f186_90 rfl) ?_
  refine Eq.trans (zs_l2 f186_91 l2_97) ?_
  refine Eq.trans (zs_l2 f186_94 l2_122) ?_
  exact zs_callS f186_97 (by decide) (Nat.le_of_ble_eq_true rfl) (Nat.le_of_ble_eq_true rfl) rfl me_142 (by decide) rfl
theorem b186_100 {h : zi_Hp} {a0 : Nat} {x1 : Int32} {s0 : Int32}  : zv 2 186 100 [.ref a0, .int x1] [.int s0] h = if s0 = 0 then zv 2 186 274 [.ref a0, .int x1] [] h else zv 2 186 103 [.ref a0, .int x1] [] h := by
  exact zs_if f186_100 rfl
theorem b186_103 {h : zi_Hp} {a0 : Nat} {x1 : Int32} (g0 : a0 < zh_n h) (g1 : (zh_k h a0).1 = 8) : zv 2 186 103 [.ref a0, .int x1] [] h = zv 2 186 82 [.ref a0, .int x1] [] (zh_wi h a0 9 ((zh_i h a0 9) + 1)) := by
  refine Eq.trans (zv_next f186_103 rfl) ?_
  refine Eq.trans (zv_next f186_104 rfl) ?_
  refine Eq.trans (zs_geti f186_105 g0 g1) ?_
  refine Eq.trans (zs_ic f186_108 ic_1) ?_
  refine Eq.trans (zv_next f186_109 rfl) ?_
  refine Eq.trans (zs_put f186_110 g0 g1 rfl) ?_
  refine Eq.trans (zs_goto (tgt := 82) f186_113 rfl) ?_
  rfl
theorem b186_116 {h : zi_Hp} {a0 : Nat} {x1 : Int32}  : zv 2 186 116 [.ref a0, .int x1] [] h = (zv 1 142 0 [.long ((x1).toInt64), .double 1, .long 48, .double 1, .long 57, .double 1] [] h).bind fun r => zv 2 186 127 [.ref a0, .int x1] (r.1.toList ++ []) r.2 := by
  refine Eq.trans (zv_next f186_116 rfl) ?_
  refine Eq.trans (zv_next f186_117 rfl) ?_
  refine Eq.trans (zs_l2 f186_118 l2_48) ?_
  refine Eq.trans (zs_l2 f186_121 l2_57) ?_
  exact zs_callS f186_124 (by decide) (Nat.le_of_ble_eq_true rfl) (Nat.le_of_ble_eq_true rfl) rfl me_142 (by decide) rfl
theorem b186_127 {h : zi_Hp} {a0 : Nat} {x1 : Int32} {s0 : Int32}  : zv 2 186 127 [.ref a0, .int x1] [.int s0] h = if s0 = 0 then zv 2 186 243 [.ref a0, .int x1] [] h else zv 2 186 130 [.ref a0, .int x1] [] h := by
  exact zs_if f186_127 rfl
theorem b186_130 {h : zi_Hp} {a0 : Nat} {x1 : Int32} (g0 : a0 < zh_n h) (g1 : (zh_k h a0).1 = 8) : zv 2 186 130 [.ref a0, .int x1] [] h = zv 2 186 140 [.ref a0, .int x1] [] (zh_wi (zh_wi h a0 11 2) a0 12 0) := by
  refine Eq.trans (zv_next f186_130 rfl) ?_
  refine Eq.trans (zs_ic f186_131 ic_2) ?_
  refine Eq.trans (zs_put f186_132 g0 g1 rfl) ?_
  refine Eq.trans (zv_next f186_135 rfl) ?_
  refine Eq.trans (zs_ic f186_136 ic_0) ?_
  refine Eq.trans (zs_put f186_137 g0 g1 rfl) ?_
  rfl
theorem b186_140 {h : zi_Hp} {a0 : Nat} {x1 : Int32} (g0 : a0 < zh_n h) (g1 : (zh_k h a0).1 = 8) : zv 2 186 140 [.ref a0, .int x1] [] h = (zv 1 183 0 [.ref a0, .int (zh_i h a0 9)] [] h).bind fun r => zv 2 186 148 [.ref a0, .int x1] (r.1.toList ++ []) r.2 := by
  refine Eq.trans (zv_next f186_140 rfl) ?_
  refine Eq.trans (zv_next f186_141 rfl) ?_
  refine Eq.trans (zs_geti f186_142 g0 g1) ?_
  exact zs_callV f186_145 (Nat.le_of_ble_eq_true rfl) (Nat.le_of_ble_eq_true rfl) rfl g0 g1 me_183 (by decide) rfl
theorem b186_148 {h : zi_Hp} {a0 : Nat} {x1 : Int32} {s0 : Int32}  : zv 2 186 148 [.ref a0, .int x1] [.int s0] h = (zv 1 142 0 [.long ((s0).toInt64), .double 1, .long 48, .double 1, .long 57, .double 1] [] h).bind fun r => zv 2 186 158 [.ref a0, .int x1] (r.1.toList ++ []) r.2 := by
  refine Eq.trans (zv_next f186_148 rfl) ?_
  refine Eq.trans (zs_l2 f186_149 l2_48) ?_
  refine Eq.trans (zs_l2 f186_152 l2_57) ?_
  exact zs_callS f186_155 (by decide) (Nat.le_of_ble_eq_true rfl) (Nat.le_of_ble_eq_true rfl) rfl me_142 (by decide) rfl
theorem b186_158 {h : zi_Hp} {a0 : Nat} {x1 : Int32} {s0 : Int32}  : zv 2 186 158 [.ref a0, .int x1] [.int s0] h = if s0 = 0 then zv 2 186 217 [.ref a0, .int x1] [] h else zv 2 186 161 [.ref a0, .int x1] [] h := by
  exact zs_if f186_158 rfl
theorem b186_161 {h : zi_Hp} {a0 : Nat} {x1 : Int32} (g0 : a0 < zh_n h) (g1 : (zh_k h a0).1 = 8) : zv 2 186 161 [.ref a0, .int x1] [] h = if ((zh_i h a0 9) - (zh_i h a0 10)) < 2 then zv 2 186 175 [.ref a0, .int x1] [.ref a0] h else zv 2 186 197 [.ref a0, .int x1] [.ref a0] h := by
  refine Eq.trans (zv_next f186_161 rfl) ?_
  refine Eq.trans (zv_next f186_162 rfl) ?_
  refine Eq.trans (zs_geti f186_163 g0 g1) ?_
  refine Eq.trans (zv_next f186_166 rfl) ?_
  refine Eq.trans (zs_geti f186_167 g0 g1) ?_
  refine Eq.trans (zv_next f186_170 rfl) ?_
  refine Eq.trans (zs_ic f186_171 ic_2) ?_
  exact zs_icmp f186_172 rfl
theorem b186_175 {h : zi_Hp} {a0 : Nat} {x1 : Int32} {t0 : Nat} (g0 : a0 < zh_n h) (g1 : (zh_k h a0).1 = 8) : zv 2 186 175 [.ref a0, .int x1] [.ref t0] h = (zv 1 183 0 [.ref a0, .int (zh_i h a0 9)] [] h).bind fun r => zv 2 186 190 [.ref a0, .int x1] (r.1.toList ++ [.int (10 * (zh_i h a0 12)), .ref t0]) r.2 := by
  refine Eq.trans (zs_bp f186_175 bp_10) ?_
  refine Eq.trans (zv_next f186_177 rfl) ?_
  refine Eq.trans (zs_geti f186_178 g0 g1) ?_
  refine Eq.trans (zv_next f186_181 rfl) ?_
  refine Eq.trans (zv_next f186_182 rfl) ?_
  refine Eq.trans (zv_next f186_183 rfl) ?_
  refine Eq.trans (zs_geti f186_184 g0 g1) ?_
  exact zs_callV f186_187 (Nat.le_of_ble_eq_true rfl) (Nat.le_of_ble_eq_true rfl) rfl g0 g1 me_183 (by decide) rfl
theorem b186_190 {h : zi_Hp} {a0 : Nat} {x1 : Int32} {t0 : Nat} {s1 : Int32} {s2 : Int32}  : zv 2 186 190 [.ref a0, .int x1] [.int s2, .int s1, .ref t0] h = zv 2 186 201 [.ref a0, .int x1] [.int ((s1 + s2) - 48), .ref t0] h := by
  refine Eq.trans (zv_next f186_190 rfl) ?_
  refine Eq.trans (zs_bp f186_191 bp_48) ?_
  refine Eq.trans (zv_next f186_193 rfl) ?_
  refine Eq.trans (zs_goto (tgt := 201) f186_194 rfl) ?_
  rfl
theorem b186_197 {h : zi_Hp} {a0 : Nat} {x1 : Int32} {t0 : Nat} (g0 : a0 < zh_n h) (g1 : (zh_k h a0).1 = 8) : zv 2 186 197 [.ref a0, .int x1] [.ref t0] h = zv 2 186 201 [.ref a0, .int x1] [.int (zh_i h a0 12), .ref t0] h := by
  refine Eq.trans (zv_next f186_197 rfl) ?_
  refine Eq.trans (zs_geti f186_198 g0 g1) ?_
  rfl
theorem b186_201 {h : zi_Hp} {a0 : Nat} {x1 : Int32} {t0 : Nat} {s1 : Int32} (g0 : t0 < zh_n h) (g1 : (zh_k h t0).1 = 8) : zv 2 186 201 [.ref a0, .int x1] [.int s1, .ref t0] h = zv 2 186 206 [.ref a0, .int x1] [.ref a0, .ref a0] (zh_wi h t0 12 s1) := by
  refine Eq.trans (zs_put f186_201 g0 g1 rfl) ?_
  refine Eq.trans (zv_next f186_204 rfl) ?_
  refine Eq.trans (zv_next f186_205 rfl) ?_
  rfl
theorem b186_206 {h : zi_Hp} {a0 : Nat} {x1 : Int32} {t0 : Nat} {t1 : Nat} (g0 : t1 < zh_n h) (g1 : (zh_k h t1).1 = 8) (g2 : t0 < zh_n h) (g3 : (zh_k h t0).1 = 8) : zv 2 186 206 [.ref a0, .int x1] [.ref t1, .ref t0] h = zv 2 186 140 [.ref a0, .int x1] [] (zh_wi h t0 9 ((zh_i h t1 9) + 1)) := by
  refine Eq.trans (zs_geti f186_206 g0 g1) ?_
  refine Eq.trans (zs_ic f186_209 ic_1) ?_
  refine Eq.trans (zv_next f186_210 rfl) ?_
  refine Eq.trans (zs_put f186_211 g2 g3 rfl) ?_
  refine Eq.trans (zs_goto (tgt := 140) f186_214 rfl) ?_
  rfl
theorem b186_217 {h : zi_Hp} {a0 : Nat} {x1 : Int32} (g0 : a0 < zh_n h) (g1 : (zh_k h a0).1 = 8) : zv 2 186 217 [.ref a0, .int x1] [] h = if 2 < ((zh_i h a0 9) - (zh_i h a0 10)) then zv 2 186 235 [.ref a0, .int x1] [.ref a0] h else zv 2 186 231 [.ref a0, .int x1] [.ref a0] h := by
  refine Eq.trans (zv_next f186_217 rfl) ?_
  refine Eq.trans (zv_next f186_218 rfl) ?_
  refine Eq.trans (zs_geti f186_219 g0 g1) ?_
  refine Eq.trans (zv_next f186_222 rfl) ?_
  refine Eq.trans (zs_geti f186_223 g0 g1) ?_
  refine Eq.trans (zv_next f186_226 rfl) ?_
  refine Eq.trans (zs_ic f186_227 ic_2) ?_
  exact zs_icmp f186_228 rfl
theorem b186_231 {h : zi_Hp} {a0 : Nat} {x1 : Int32} {t0 : Nat}  : zv 2 186 231 [.ref a0, .int x1] [.ref t0] h = zv 2 186 236 [.ref a0, .int x1] [.int 1, .ref t0] h := by
  refine Eq.trans (zs_ic f186_231 ic_1) ?_
  refine Eq.trans (zs_goto (tgt := 236) f186_232 rfl) ?_
  rfl
theorem b186_235 {h : zi_Hp} {a0 : Nat} {x1 : Int32} {t0 : Nat}  : zv 2 186 235 [.ref a0, .int x1] [.ref t0] h = zv 2 186 236 [.ref a0, .int x1] [.int 0, .ref t0] h := by
  refine Eq.trans (zs_ic f186_235 ic_0) ?_
  rfl
theorem b186_236 {h : zi_Hp} {a0 : Nat} {x1 : Int32} {t0 : Nat} {s1 : Int32} (g0 : t0 < zh_n h) (g1 : (zh_k h t0).1 = 8) : zv 2 186 236 [.ref a0, .int x1] [.int s1, .ref t0] h = (zv 1 182 0 [.ref t0, .int s1, .int 1] [] h).bind fun r => zv 2 186 240 [.ref a0, .int x1] (r.1.toList ++ []) r.2 := by
  refine Eq.trans (zs_ic f186_236 ic_1) ?_
  exact zs_callV f186_237 (Nat.le_of_ble_eq_true rfl) (Nat.le_of_ble_eq_true rfl) rfl g0 g1 me_182 (by decide) rfl
theorem b186_240 {h : zi_Hp} {a0 : Nat} {x1 : Int32}  : zv 2 186 240 [.ref a0, .int x1] [] h = zv 2 186 274 [.ref a0, .int x1] [] h := by
  refine Eq.trans (zs_goto (tgt := 274) f186_240 rfl) ?_
  rfl
theorem b186_243 {h : zi_Hp} {a0 : Nat} {x1 : Int32} (g0 : a0 < zh_n h) (g1 : (zh_k h a0).1 = 8) : zv 2 186 243 [.ref a0, .int x1] [] h = if x1 = 59 then zv 2 186 255 [.ref a0, .int x1] [.ref a0] (zh_wi h a0 11 3) else zv 2 186 259 [.ref a0, .int x1] [.ref a0] (zh_wi h a0 11 3) := by
  refine Eq.trans (zv_next f186_243 rfl) ?_
  refine Eq.trans (zs_ic f186_244 ic_3) ?_
  refine Eq.trans (zs_put f186_245 g0 g1 rfl) ?_
  refine Eq.trans (zv_next f186_248 rfl) ?_
  refine Eq.trans (zv_next f186_249 rfl) ?_
  refine Eq.trans (zs_bp f186_250 bp_59) ?_
  exact zs_icmp f186_252 rfl
theorem b186_255 {h : zi_Hp} {a0 : Nat} {x1 : Int32} {t0 : Nat}  : zv 2 186 255 [.ref a0, .int x1] [.ref t0] h = zv 2 186 260 [.ref a0, .int x1] [.int 1, .ref t0] h := by
  refine Eq.trans (zs_ic f186_255 ic_1) ?_
  refine Eq.trans (zs_goto (tgt := 260) f186_256 rfl) ?_
  rfl
theorem b186_259 {h : zi_Hp} {a0 : Nat} {x1 : Int32} {t0 : Nat}  : zv 2 186 259 [.ref a0, .int x1] [.ref t0] h = zv 2 186 260 [.ref a0, .int x1] [.int 0, .ref t0] h := by
  refine Eq.trans (zs_ic f186_259 ic_0) ?_
  rfl
theorem b186_260 {h : zi_Hp} {a0 : Nat} {x1 : Int32} {t0 : Nat} {s1 : Int32} (g0 : t0 < zh_n h) (g1 : (zh_k h t0).1 = 8) : zv 2 186 260 [.ref a0, .int x1] [.int s1, .ref t0] h = (zv 1 182 0 [.ref t0, .int s1, .int 1] [] h).bind fun r => zv 2 186 264 [.ref a0, .int x1] (r.1.toList ++ []) r.2 := by
  refine Eq.trans (zs_ic f186_260 ic_1) ?_
  exact zs_callV f186_261 (Nat.le_of_ble_eq_true rfl) (Nat.le_of_ble_eq_true rfl) rfl g0 g1 me_182 (by decide) rfl
theorem b186_264 {h : zi_Hp} {a0 : Nat} {x1 : Int32} (g0 : a0 < zh_n h) (g1 : (zh_k h a0).1 = 8) : zv 2 186 264 [.ref a0, .int x1] [] h = zv 2 186 274 [.ref a0, .int x1] [] (zh_wi h a0 9 ((zh_i h a0 9) + 1)) := by
  refine Eq.trans (zv_next f186_264 rfl) ?_
  refine Eq.trans (zv_next f186_265 rfl) ?_
  refine Eq.trans (zs_geti f186_266 g0 g1) ?_
  refine Eq.trans (zs_ic f186_269 ic_1) ?_
  refine Eq.trans (zv_next f186_270 rfl) ?_
  refine Eq.trans (zs_put f186_271 g0 g1 rfl) ?_
  rfl
theorem b186_274 {h : zi_Hp} {a0 : Nat} {x1 : Int32}  : zv 2 186 274 [.ref a0, .int x1] [] h = some (none, h) := by
  exact zv_ret f186_274 rfl
set_option maxRecDepth 20000 in
theorem zq187 : zi_M[187]? = some zi_m187 := rfl
theorem zl187_0 {pc : Nat} (_ : 0 ≤ pc) : zi_fe 187 pc = zu187_0.lookup pc := zi_feA zq187 pc
theorem f187_0 : zi_fe 187 0 = some ((.aload_n 0), 1, 0, 0, 0, 0, 0) := (zl187_0 (Nat.le_of_ble_eq_true rfl)).trans rfl
theorem f187_1 : zi_fe 187 1 = some ((.getfield 203), 3, 8, 13, 0, 1078, 0) := (zl187_0 (Nat.le_of_ble_eq_true rfl)).trans rfl
theorem f187_4 : zi_fe 187 4 = some ((.ifCond .ne 21), 3, 0, 0, 0, 0, 0) := (zl187_0 (Nat.le_of_ble_eq_true rfl)).trans rfl
theorem f187_7 : zi_fe 187 7 = some ((.aload_n 0), 1, 0, 0, 0, 0, 0) := (zl187_0 (Nat.le_of_ble_eq_true rfl)).trans rfl
theorem f187_8 : zi_fe 187 8 = some ((.aload_n 0), 1, 0, 0, 0, 0, 0) := (zl187_0 (Nat.le_of_ble_eq_true rfl)).trans rfl
theorem f187_9 : zi_fe 187 9 = some ((.getfield 222), 3, 8, 11, 0, 1076, 0) := (zl187_0 (Nat.le_of_ble_eq_true rfl)).trans rfl
theorem f187_12 : zi_fe 187 12 = some ((.iconst 2), 1, 0, 0, 0, 0, 0) := (zl187_0 (Nat.le_of_ble_eq_true rfl)).trans rfl
theorem f187_13 : zi_fe 187 13 = some ((.if_icmp .ne 7), 3, 0, 0, 0, 0, 0) := (zl187_0 (Nat.le_of_ble_eq_true rfl)).trans rfl
theorem f187_16 : zi_fe 187 16 = some ((.iconst 1), 1, 0, 0, 0, 0, 0) := (zl187_0 (Nat.le_of_ble_eq_true rfl)).trans rfl
theorem f187_17 : zi_fe 187 17 = some ((.goto 4), 3, 0, 0, 0, 0, 0) := (zl187_0 (Nat.le_of_ble_eq_true rfl)).trans rfl
theorem f187_20 : zi_fe 187 20 = some ((.iconst 0), 1, 0, 0, 0, 0, 0) := (zl187_0 (Nat.le_of_ble_eq_true rfl)).trans rfl
theorem f187_21 : zi_fe 187 21 = some ((.iconst 2), 1, 0, 0, 0, 0, 0) := (zl187_0 (Nat.le_of_ble_eq_true rfl)).trans rfl
theorem zl187_1 {pc : Nat} (h : 22 ≤ pc) : zi_fe 187 pc = zu187_1.lookup pc := (zl187_0 (Nat.le_trans (Nat.le_of_ble_eq_true rfl) h)).trans (zi_lkA (a := zi_i187_0) (c := 22) rfl h)
theorem f187_22 : zi_fe 187 22 = some ((.invokevirtual 236), 3, 182, 0, 8, 1212, 3) := (zl187_1 (Nat.le_of_ble_eq_true rfl)).trans rfl
theorem f187_25 : zi_fe 187 25 = some ((.aload_n 0), 1, 0, 0, 0, 0, 0) := (zl187_1 (Nat.le_of_ble_eq_true rfl)).trans rfl
theorem f187_26 : zi_fe 187 26 = some ((.getfield 203), 3, 8, 13, 0, 1078, 0) := (zl187_1 (Nat.le_of_ble_eq_true rfl)).trans rfl
theorem f187_29 : zi_fe 187 29 = some ((.ifCond .ne 20), 3, 0, 0, 0, 0, 0) := (zl187_1 (Nat.le_of_ble_eq_true rfl)).trans rfl
theorem f187_32 : zi_fe 187 32 = some ((.aload_n 0), 1, 0, 0, 0, 0, 0) := (zl187_1 (Nat.le_of_ble_eq_true rfl)).trans rfl
theorem f187_33 : zi_fe 187 33 = some ((.aload_n 0), 1, 0, 0, 0, 0, 0) := (zl187_1 (Nat.le_of_ble_eq_true rfl)).trans rfl
theorem f187_34 : zi_fe 187 34 = some ((.getfield 233), 3, 8, 12, 0, 1077, 0) := (zl187_1 (Nat.le_of_ble_eq_true rfl)).trans rfl
theorem f187_37 : zi_fe 187 37 = some (.i2l, 1, 0, 0, 0, 0, 0) := (zl187_1 (Nat.le_of_ble_eq_true rfl)).trans rfl
theorem f187_38 : zi_fe 187 38 = some ((.iload_n 1), 1, 0, 0, 0, 0, 0) := (zl187_1 (Nat.le_of_ble_eq_true rfl)).trans rfl
theorem f187_39 : zi_fe 187 39 = some (.i2l, 1, 0, 0, 0, 0, 0) := (zl187_1 (Nat.le_of_ble_eq_true rfl)).trans rfl
theorem f187_40 : zi_fe 187 40 = some ((.iload_n 2), 1, 0, 0, 0, 0, 0) := (zl187_1 (Nat.le_of_ble_eq_true rfl)).trans rfl
theorem f187_41 : zi_fe 187 41 = some (.i2l, 1, 0, 0, 0, 0, 0) := (zl187_1 (Nat.le_of_ble_eq_true rfl)).trans rfl
theorem zl187_2 {pc : Nat} (h : 42 ≤ pc) : zi_fe 187 pc = zu187_2.lookup pc := (zl187_1 (Nat.le_trans (Nat.le_of_ble_eq_true rfl) h)).trans (zi_lkA (a := zi_i187_1) (c := 42) rfl h)
theorem f187_42 : zi_fe 187 42 = some ((.invokestatic 196), 3, 142, 1, 8, 1189, 3) := (zl187_2 (Nat.le_of_ble_eq_true rfl)).trans rfl
theorem f187_45 : zi_fe 187 45 = some ((.iconst 3), 1, 0, 0, 0, 0, 0) := (zl187_2 (Nat.le_of_ble_eq_true rfl)).trans rfl
theorem f187_46 : zi_fe 187 46 = some ((.invokevirtual 236), 3, 182, 0, 8, 1212, 3) := (zl187_2 (Nat.le_of_ble_eq_true rfl)).trans rfl
theorem f187_49 : zi_fe 187 49 = some ((.aload_n 0), 1, 0, 0, 0, 0, 0) := (zl187_2 (Nat.le_of_ble_eq_true rfl)).trans rfl
theorem f187_50 : zi_fe 187 50 = some ((.getfield 203), 3, 8, 13, 0, 1078, 0) := (zl187_2 (Nat.le_of_ble_eq_true rfl)).trans rfl
theorem f187_53 : zi_fe 187 53 = some ((.ifCond .ne 10), 3, 0, 0, 0, 0, 0) := (zl187_2 (Nat.le_of_ble_eq_true rfl)).trans rfl
theorem f187_56 : zi_fe 187 56 = some ((.aload_n 0), 1, 0, 0, 0, 0, 0) := (zl187_2 (Nat.le_of_ble_eq_true rfl)).trans rfl
theorem f187_57 : zi_fe 187 57 = some ((.getfield 233), 3, 8, 12, 0, 1077, 0) := (zl187_2 (Nat.le_of_ble_eq_true rfl)).trans rfl
theorem f187_60 : zi_fe 187 60 = some ((.goto 4), 3, 0, 0, 0, 0, 0) := (zl187_2 (Nat.le_of_ble_eq_true rfl)).trans rfl
theorem f187_63 : zi_fe 187 63 = some ((.iconst 0), 1, 0, 0, 0, 0, 0) := (zl187_2 (Nat.le_of_ble_eq_true rfl)).trans rfl
theorem f187_64 : zi_fe 187 64 = some ((.istore_n 3), 1, 0, 0, 0, 0, 0) := (zl187_2 (Nat.le_of_ble_eq_true rfl)).trans rfl
theorem f187_65 : zi_fe 187 65 = some ((.aload_n 0), 1, 0, 0, 0, 0, 0) := (zl187_2 (Nat.le_of_ble_eq_true rfl)).trans rfl
theorem zl187_3 {pc : Nat} (h : 66 ≤ pc) : zi_fe 187 pc = zu187_3.lookup pc := (zl187_2 (Nat.le_trans (Nat.le_of_ble_eq_true rfl) h)).trans (zi_lkA (a := zi_i187_2) (c := 66) rfl h)
theorem f187_66 : zi_fe 187 66 = some ((.invokevirtual 240), 3, 186, 0, 8, 1200, 1) := (zl187_3 (Nat.le_of_ble_eq_true rfl)).trans rfl
theorem f187_69 : zi_fe 187 69 = some ((.iload_n 3), 1, 0, 0, 0, 0, 0) := (zl187_3 (Nat.le_of_ble_eq_true rfl)).trans rfl
theorem f187_70 : zi_fe 187 70 = some (.ireturn, 1, 0, 0, 0, 0, 0) := (zl187_3 (Nat.le_of_ble_eq_true rfl)).trans rfl
theorem b187_0 {h : zi_Hp} {a0 : Nat} {x1 : Int32} {x2 : Int32} {u3 : Value} (g0 : a0 < zh_n h) (g1 : (zh_k h a0).1 = 8) : zv 3 187 0 [.ref a0, .int x1, .int x2, u3] [] h = if (zh_i h a0 13) = 0 then zv 3 187 7 [.ref a0, .int x1, .int x2, u3] [] h else zv 3 187 25 [.ref a0, .int x1, .int x2, u3] [] h := by
  refine Eq.trans (zv_next f187_0 rfl) ?_
  refine Eq.trans (zs_geti f187_1 g0 g1) ?_
  exact zs_if f187_4 rfl
theorem b187_7 {h : zi_Hp} {a0 : Nat} {x1 : Int32} {x2 : Int32} {u3 : Value} (g0 : a0 < zh_n h) (g1 : (zh_k h a0).1 = 8) : zv 3 187 7 [.ref a0, .int x1, .int x2, u3] [] h = if (zh_i h a0 11) = 2 then zv 3 187 16 [.ref a0, .int x1, .int x2, u3] [.ref a0] h else zv 3 187 20 [.ref a0, .int x1, .int x2, u3] [.ref a0] h := by
  refine Eq.trans (zv_next f187_7 rfl) ?_
  refine Eq.trans (zv_next f187_8 rfl) ?_
  refine Eq.trans (zs_geti f187_9 g0 g1) ?_
  refine Eq.trans (zs_ic f187_12 ic_2) ?_
  exact zs_icmp f187_13 rfl
theorem b187_16 {h : zi_Hp} {a0 : Nat} {x1 : Int32} {x2 : Int32} {u3 : Value} {t0 : Nat}  : zv 3 187 16 [.ref a0, .int x1, .int x2, u3] [.ref t0] h = zv 3 187 21 [.ref a0, .int x1, .int x2, u3] [.int 1, .ref t0] h := by
  refine Eq.trans (zs_ic f187_16 ic_1) ?_
  refine Eq.trans (zs_goto (tgt := 21) f187_17 rfl) ?_
  rfl
theorem b187_20 {h : zi_Hp} {a0 : Nat} {x1 : Int32} {x2 : Int32} {u3 : Value} {t0 : Nat}  : zv 3 187 20 [.ref a0, .int x1, .int x2, u3] [.ref t0] h = zv 3 187 21 [.ref a0, .int x1, .int x2, u3] [.int 0, .ref t0] h := by
  refine Eq.trans (zs_ic f187_20 ic_0) ?_
  rfl
theorem b187_21 {h : zi_Hp} {a0 : Nat} {x1 : Int32} {x2 : Int32} {u3 : Value} {t0 : Nat} {s1 : Int32} (g0 : t0 < zh_n h) (g1 : (zh_k h t0).1 = 8) : zv 3 187 21 [.ref a0, .int x1, .int x2, u3] [.int s1, .ref t0] h = (zv 1 182 0 [.ref t0, .int s1, .int 2] [] h).bind fun r => zv 3 187 25 [.ref a0, .int x1, .int x2, u3] (r.1.toList ++ []) r.2 := by
  refine Eq.trans (zs_ic f187_21 ic_2) ?_
  exact zs_callV f187_22 (Nat.le_of_ble_eq_true rfl) (Nat.le_of_ble_eq_true rfl) rfl g0 g1 me_182 (by decide) rfl
theorem b187_25 {h : zi_Hp} {a0 : Nat} {x1 : Int32} {x2 : Int32} {u3 : Value} (g0 : a0 < zh_n h) (g1 : (zh_k h a0).1 = 8) : zv 3 187 25 [.ref a0, .int x1, .int x2, u3] [] h = if (zh_i h a0 13) = 0 then zv 3 187 32 [.ref a0, .int x1, .int x2, u3] [] h else zv 3 187 49 [.ref a0, .int x1, .int x2, u3] [] h := by
  refine Eq.trans (zv_next f187_25 rfl) ?_
  refine Eq.trans (zs_geti f187_26 g0 g1) ?_
  exact zs_if f187_29 rfl
theorem b187_32 {h : zi_Hp} {a0 : Nat} {x1 : Int32} {x2 : Int32} {u3 : Value} (g0 : a0 < zh_n h) (g1 : (zh_k h a0).1 = 8) : zv 3 187 32 [.ref a0, .int x1, .int x2, u3] [] h = (zv 1 142 0 [.long (((zh_i h a0 12)).toInt64), .double 1, .long ((x1).toInt64), .double 1, .long ((x2).toInt64), .double 1] [] h).bind fun r => zv 3 187 45 [.ref a0, .int x1, .int x2, u3] (r.1.toList ++ [.ref a0]) r.2 := by
  refine Eq.trans (zv_next f187_32 rfl) ?_
  refine Eq.trans (zv_next f187_33 rfl) ?_
  refine Eq.trans (zs_geti f187_34 g0 g1) ?_
  refine Eq.trans (zv_next f187_37 rfl) ?_
  refine Eq.trans (zv_next f187_38 rfl) ?_
  refine Eq.trans (zv_next f187_39 rfl) ?_
  refine Eq.trans (zv_next f187_40 rfl) ?_
  refine Eq.trans (zv_next f187_41 rfl) ?_
  exact zs_callS f187_42 (by decide) (Nat.le_of_ble_eq_true rfl) (Nat.le_of_ble_eq_true rfl) rfl me_142 (by decide) rfl
theorem b187_45 {h : zi_Hp} {a0 : Nat} {x1 : Int32} {x2 : Int32} {u3 : Value} {t0 : Nat} {s1 : Int32} (g0 : t0 < zh_n h) (g1 : (zh_k h t0).1 = 8) : zv 3 187 45 [.ref a0, .int x1, .int x2, u3] [.int s1, .ref t0] h = (zv 1 182 0 [.ref t0, .int s1, .int 3] [] h).bind fun r => zv 3 187 49 [.ref a0, .int x1, .int x2, u3] (r.1.toList ++ []) r.2 := by
  refine Eq.trans (zs_ic f187_45 ic_3) ?_
  exact zs_callV f187_46 (Nat.le_of_ble_eq_true rfl) (Nat.le_of_ble_eq_true rfl) rfl g0 g1 me_182 (by decide) rfl
theorem b187_49 {h : zi_Hp} {a0 : Nat} {x1 : Int32} {x2 : Int32} {u3 : Value} (g0 : a0 < zh_n h) (g1 : (zh_k h a0).1 = 8) : zv 3 187 49 [.ref a0, .int x1, .int x2, u3] [] h = if (zh_i h a0 13) = 0 then zv 3 187 56 [.ref a0, .int x1, .int x2, u3] [] h else zv 3 187 63 [.ref a0, .int x1, .int x2, u3] [] h := by
  refine Eq.trans (zv_next f187_49 rfl) ?_
  refine Eq.trans (zs_geti f187_50 g0 g1) ?_
  exact zs_if f187_53 rfl
theorem b187_56 {h : zi_Hp} {a0 : Nat} {x1 : Int32} {x2 : Int32} {u3 : Value} (g0 : a0 < zh_n h) (g1 : (zh_k h a0).1 = 8) : zv 3 187 56 [.ref a0, .int x1, .int x2, u3] [] h = zv 3 187 64 [.ref a0, .int x1, .int x2, u3] [.int (zh_i h a0 12)] h := by
  refine Eq.trans (zv_next f187_56 rfl) ?_
  refine Eq.trans (zs_geti f187_57 g0 g1) ?_
  refine Eq.trans (zs_goto (tgt := 64) f187_60 rfl) ?_
  rfl
theorem b187_63 {h : zi_Hp} {a0 : Nat} {x1 : Int32} {x2 : Int32} {u3 : Value}  : zv 3 187 63 [.ref a0, .int x1, .int x2, u3] [] h = zv 3 187 64 [.ref a0, .int x1, .int x2, u3] [.int 0] h := by
  refine Eq.trans (zs_ic f187_63 ic_0) ?_
  rfl
theorem b187_64 {h : zi_Hp} {a0 : Nat} {x1 : Int32} {x2 : Int32} {u3 : Value} {s0 : Int32} (g0 : a0 < zh_n h) (g1 : (zh_k h a0).1 = 8) : zv 3 187 64 [.ref a0, .int x1, .int x2, u3] [.int s0] h = (zv 2 186 0 [.ref a0, .double 0] [] h).bind fun r => zv 3 187 69 [.ref a0, .int x1, .int x2, .int s0] (r.1.toList ++ []) r.2 := by
  refine Eq.trans (zv_next f187_64 rfl) ?_
  refine Eq.trans (zv_next f187_65 rfl) ?_
  exact zs_callV f187_66 (Nat.le_of_ble_eq_true rfl) (Nat.le_of_ble_eq_true rfl) rfl g0 g1 me_186 (by decide) rfl
theorem b187_69 {h : zi_Hp} {a0 : Nat} {x1 : Int32} {x2 : Int32} {x3 : Int32}  : zv 3 187 69 [.ref a0, .int x1, .int x2, .int x3] [] h = some (some (.int x3), h) := by
  refine Eq.trans (zv_next f187_69 rfl) ?_
  exact zs_ret0 f187_70
set_option maxRecDepth 20000 in
theorem zq188 : zi_M[188]? = some zi_m188 := rfl
theorem zl188_0 {pc : Nat} (_ : 0 ≤ pc) : zi_fe 188 pc = zu188_0.lookup pc := zi_feA zq188 pc
theorem f188_0 : zi_fe 188 0 = some ((.iconst 0), 1, 0, 0, 0, 0, 0) := (zl188_0 (Nat.le_of_ble_eq_true rfl)).trans rfl
theorem f188_1 : zi_fe 188 1 = some ((.istore_n 2), 1, 0, 0, 0, 0, 0) := (zl188_0 (Nat.le_of_ble_eq_true rfl)).trans rfl
theorem f188_2 : zi_fe 188 2 = some ((.iconst 0), 1, 0, 0, 0, 0, 0) := (zl188_0 (Nat.le_of_ble_eq_true rfl)).trans rfl
theorem f188_3 : zi_fe 188 3 = some ((.istore_n 3), 1, 0, 0, 0, 0, 0) := (zl188_0 (Nat.le_of_ble_eq_true rfl)).trans rfl
theorem f188_4 : zi_fe 188 4 = some ((.iload_n 3), 1, 0, 0, 0, 0, 0) := (zl188_0 (Nat.le_of_ble_eq_true rfl)).trans rfl
theorem f188_5 : zi_fe 188 5 = some ((.aload_n 0), 1, 0, 0, 0, 0, 0) := (zl188_0 (Nat.le_of_ble_eq_true rfl)).trans rfl
theorem f188_6 : zi_fe 188 6 = some ((.getfield 243), 3, 8, 20, 0, 1085, 0) := (zl188_0 (Nat.le_of_ble_eq_true rfl)).trans rfl
theorem f188_9 : zi_fe 188 9 = some ((.if_icmp .ge 31), 3, 0, 0, 0, 0, 0) := (zl188_0 (Nat.le_of_ble_eq_true rfl)).trans rfl
theorem f188_12 : zi_fe 188 12 = some ((.iload_n 2), 1, 0, 0, 0, 0, 0) := (zl188_0 (Nat.le_of_ble_eq_true rfl)).trans rfl
theorem f188_13 : zi_fe 188 13 = some ((.ifCond .ne 15), 3, 0, 0, 0, 0, 0) := (zl188_0 (Nat.le_of_ble_eq_true rfl)).trans rfl
theorem f188_16 : zi_fe 188 16 = some ((.aload_n 0), 1, 0, 0, 0, 0, 0) := (zl188_0 (Nat.le_of_ble_eq_true rfl)).trans rfl
theorem f188_17 : zi_fe 188 17 = some ((.getfield 35), 3, 8, 19, 3, 1084, 0) := (zl188_0 (Nat.le_of_ble_eq_true rfl)).trans rfl
theorem zl188_1 {pc : Nat} (h : 20 ≤ pc) : zi_fe 188 pc = zu188_1.lookup pc := (zl188_0 (Nat.le_trans (Nat.le_of_ble_eq_true rfl) h)).trans (zi_lkA (a := zi_i188_0) (c := 20) rfl h)
theorem f188_20 : zi_fe 188 20 = some ((.iconst 2), 1, 0, 0, 0, 0, 0) := (zl188_1 (Nat.le_of_ble_eq_true rfl)).trans rfl
theorem f188_21 : zi_fe 188 21 = some ((.iload_n 3), 1, 0, 0, 0, 0, 0) := (zl188_1 (Nat.le_of_ble_eq_true rfl)).trans rfl
theorem f188_22 : zi_fe 188 22 = some (.imul, 1, 0, 0, 0, 0, 0) := (zl188_1 (Nat.le_of_ble_eq_true rfl)).trans rfl
theorem f188_23 : zi_fe 188 23 = some (.iaload, 1, 0, 0, 0, 0, 0) := (zl188_1 (Nat.le_of_ble_eq_true rfl)).trans rfl
theorem f188_24 : zi_fe 188 24 = some ((.iload_n 1), 1, 0, 0, 0, 0, 0) := (zl188_1 (Nat.le_of_ble_eq_true rfl)).trans rfl
theorem f188_25 : zi_fe 188 25 = some ((.if_icmp .ne 7), 3, 0, 0, 0, 0, 0) := (zl188_1 (Nat.le_of_ble_eq_true rfl)).trans rfl
theorem f188_28 : zi_fe 188 28 = some ((.iconst 1), 1, 0, 0, 0, 0, 0) := (zl188_1 (Nat.le_of_ble_eq_true rfl)).trans rfl
theorem f188_29 : zi_fe 188 29 = some ((.goto 4), 3, 0, 0, 0, 0, 0) := (zl188_1 (Nat.le_of_ble_eq_true rfl)).trans rfl
theorem f188_32 : zi_fe 188 32 = some ((.iconst 0), 1, 0, 0, 0, 0, 0) := (zl188_1 (Nat.le_of_ble_eq_true rfl)).trans rfl
theorem f188_33 : zi_fe 188 33 = some ((.istore_n 2), 1, 0, 0, 0, 0, 0) := (zl188_1 (Nat.le_of_ble_eq_true rfl)).trans rfl
theorem f188_34 : zi_fe 188 34 = some ((.iinc 3 1), 3, 0, 0, 0, 0, 0) := (zl188_1 (Nat.le_of_ble_eq_true rfl)).trans rfl
theorem f188_37 : zi_fe 188 37 = some ((.goto (-33)), 3, 0, 0, 0, 0, 0) := (zl188_1 (Nat.le_of_ble_eq_true rfl)).trans rfl
theorem zl188_2 {pc : Nat} (h : 40 ≤ pc) : zi_fe 188 pc = zu188_2.lookup pc := (zl188_1 (Nat.le_trans (Nat.le_of_ble_eq_true rfl) h)).trans (zi_lkA (a := zi_i188_1) (c := 40) rfl h)
theorem f188_40 : zi_fe 188 40 = some ((.iload_n 2), 1, 0, 0, 0, 0, 0) := (zl188_2 (Nat.le_of_ble_eq_true rfl)).trans rfl
theorem f188_41 : zi_fe 188 41 = some (.ireturn, 1, 1, 0, 0, 0, 0) := (zl188_2 (Nat.le_of_ble_eq_true rfl)).trans rfl
theorem b188_0 {h : zi_Hp} {a0 : Nat} {x1 : Int32} {u2 : Value} {u3 : Value}  : zv 1 188 0 [.ref a0, .int x1, u2, u3] [] h = zv 1 188 4 [.ref a0, .int x1, .int 0, .int 0] [] h := by
  refine Eq.trans (zs_ic f188_0 ic_0) ?_
  refine Eq.trans (zv_next f188_1 rfl) ?_
  refine Eq.trans (zs_ic f188_2 ic_0) ?_
  refine Eq.trans (zv_next f188_3 rfl) ?_
  rfl
theorem b188_4 {h : zi_Hp} {a0 : Nat} {x1 : Int32} {x2 : Int32} {x3 : Int32} (g0 : a0 < zh_n h) (g1 : (zh_k h a0).1 = 8) : zv 1 188 4 [.ref a0, .int x1, .int x2, .int x3] [] h = if x3 < (zh_i h a0 20) then zv 1 188 12 [.ref a0, .int x1, .int x2, .int x3] [] h else zv 1 188 40 [.ref a0, .int x1, .int x2, .int x3] [] h := by
  refine Eq.trans (zv_next f188_4 rfl) ?_
  refine Eq.trans (zv_next f188_5 rfl) ?_
  refine Eq.trans (zs_geti f188_6 g0 g1) ?_
  exact zs_icmp f188_9 rfl
theorem b188_12 {h : zi_Hp} {a0 : Nat} {x1 : Int32} {x2 : Int32} {x3 : Int32}  : zv 1 188 12 [.ref a0, .int x1, .int x2, .int x3] [] h = if x2 = 0 then zv 1 188 16 [.ref a0, .int x1, .int x2, .int x3] [] h else zv 1 188 28 [.ref a0, .int x1, .int x2, .int x3] [] h := by
  refine Eq.trans (zv_next f188_12 rfl) ?_
  exact zs_if f188_13 rfl
theorem b188_16 {h : zi_Hp} {a0 : Nat} {x1 : Int32} {x2 : Int32} {x3 : Int32} (g0 : a0 < zh_n h) (g1 : (zh_k h a0).1 = 8) (g2 : zh_r h a0 19 = .ref (zq (zh_r h a0 19))) (g3 : (zq (zh_r h a0 19)) < zh_n h) (g4 : ¬ ((2 * x3) < 0 ∨ (zh_k h (zq (zh_r h a0 19))).2 ≤ (2 * x3).toNatClampNeg)) (g5 : (zh_k h (zq (zh_r h a0 19))).1 = 100) : zv 1 188 16 [.ref a0, .int x1, .int x2, .int x3] [] h = if (zh_i h (zq (zh_r h a0 19)) (2 * x3).toNatClampNeg) = x1 then zv 1 188 28 [.ref a0, .int x1, .int x2, .int x3] [] h else zv 1 188 32 [.ref a0, .int x1, .int x2, .int x3] [] h := by
  refine Eq.trans (zv_next f188_16 rfl) ?_
  refine Eq.trans (zs_getr f188_17 g0 g1 g2) ?_
  refine Eq.trans (zs_ic f188_20 ic_2) ?_
  refine Eq.trans (zv_next f188_21 rfl) ?_
  refine Eq.trans (zv_next f188_22 rfl) ?_
  refine Eq.trans (zs_iald f188_23 g3 g5 g4) ?_
  refine Eq.trans (zv_next f188_24 rfl) ?_
  exact zs_icmp f188_25 rfl
theorem b188_28 {h : zi_Hp} {a0 : Nat} {x1 : Int32} {x2 : Int32} {x3 : Int32}  : zv 1 188 28 [.ref a0, .int x1, .int x2, .int x3] [] h = zv 1 188 33 [.ref a0, .int x1, .int x2, .int x3] [.int 1] h := by
  refine Eq.trans (zs_ic f188_28 ic_1) ?_
  refine Eq.trans (zs_goto (tgt := 33) f188_29 rfl) ?_
  rfl
theorem b188_32 {h : zi_Hp} {a0 : Nat} {x1 : Int32} {x2 : Int32} {x3 : Int32}  : zv 1 188 32 [.ref a0, .int x1, .int x2, .int x3] [] h = zv 1 188 33 [.ref a0, .int x1, .int x2, .int x3] [.int 0] h := by
  refine Eq.trans (zs_ic f188_32 ic_0) ?_
  rfl
theorem b188_33 {h : zi_Hp} {a0 : Nat} {x1 : Int32} {x2 : Int32} {x3 : Int32} {s0 : Int32}  : zv 1 188 33 [.ref a0, .int x1, .int x2, .int x3] [.int s0] h = zv 1 188 4 [.ref a0, .int x1, .int s0, .int (x3 + 1)] [] h := by
  refine Eq.trans (zv_next f188_33 rfl) ?_
  refine Eq.trans (zs_inc f188_34 rfl ic_1 rfl) ?_
  refine Eq.trans (zs_goto (tgt := 4) f188_37 rfl) ?_
  rfl
theorem b188_40 {h : zi_Hp} {a0 : Nat} {x1 : Int32} {x2 : Int32} {x3 : Int32} (g0 : x2 = 0 ∨ x2 = 1) : zv 1 188 40 [.ref a0, .int x1, .int x2, .int x3] [] h = some (some (.int x2), h) := by
  refine Eq.trans (zv_next f188_40 rfl) ?_
  exact zs_ret1 f188_41 g0
set_option maxRecDepth 20000 in
theorem zq189 : zi_M[189]? = some zi_m189 := rfl
theorem zl189_0 {pc : Nat} (_ : 0 ≤ pc) : zi_fe 189 pc = zu189_0.lookup pc := zi_feA zq189 pc
theorem f189_0 : zi_fe 189 0 = some ((.aload_n 0), 1, 0, 0, 0, 0, 0) := (zl189_0 (Nat.le_of_ble_eq_true rfl)).trans rfl
theorem f189_1 : zi_fe 189 1 = some ((.getfield 203), 3, 8, 13, 0, 1078, 0) := (zl189_0 (Nat.le_of_ble_eq_true rfl)).trans rfl
theorem f189_4 : zi_fe 189 4 = some ((.ifCond .ne 21), 3, 0, 0, 0, 0, 0) := (zl189_0 (Nat.le_of_ble_eq_true rfl)).trans rfl
theorem f189_7 : zi_fe 189 7 = some ((.aload_n 0), 1, 0, 0, 0, 0, 0) := (zl189_0 (Nat.le_of_ble_eq_true rfl)).trans rfl
theorem f189_8 : zi_fe 189 8 = some ((.aload_n 0), 1, 0, 0, 0, 0, 0) := (zl189_0 (Nat.le_of_ble_eq_true rfl)).trans rfl
theorem f189_9 : zi_fe 189 9 = some ((.getfield 222), 3, 8, 11, 0, 1076, 0) := (zl189_0 (Nat.le_of_ble_eq_true rfl)).trans rfl
theorem f189_12 : zi_fe 189 12 = some ((.iconst 2), 1, 0, 0, 0, 0, 0) := (zl189_0 (Nat.le_of_ble_eq_true rfl)).trans rfl
theorem f189_13 : zi_fe 189 13 = some ((.if_icmp .ne 7), 3, 0, 0, 0, 0, 0) := (zl189_0 (Nat.le_of_ble_eq_true rfl)).trans rfl
theorem f189_16 : zi_fe 189 16 = some ((.iconst 1), 1, 0, 0, 0, 0, 0) := (zl189_0 (Nat.le_of_ble_eq_true rfl)).trans rfl
theorem f189_17 : zi_fe 189 17 = some ((.goto 4), 3, 0, 0, 0, 0, 0) := (zl189_0 (Nat.le_of_ble_eq_true rfl)).trans rfl
theorem f189_20 : zi_fe 189 20 = some ((.iconst 0), 1, 0, 0, 0, 0, 0) := (zl189_0 (Nat.le_of_ble_eq_true rfl)).trans rfl
theorem f189_21 : zi_fe 189 21 = some ((.iconst 2), 1, 0, 0, 0, 0, 0) := (zl189_0 (Nat.le_of_ble_eq_true rfl)).trans rfl
theorem zl189_1 {pc : Nat} (h : 22 ≤ pc) : zi_fe 189 pc = zu189_1.lookup pc := (zl189_0 (Nat.le_trans (Nat.le_of_ble_eq_true rfl) h)).trans (zi_lkA (a := zi_i189_0) (c := 22) rfl h)
theorem f189_22 : zi_fe 189 22 = some ((.invokevirtual 236), 3, 182, 0, 8, 1212, 3) := (zl189_1 (Nat.le_of_ble_eq_true rfl)).trans rfl
theorem f189_25 : zi_fe 189 25 = some ((.aload_n 0), 1, 0, 0, 0, 0, 0) := (zl189_1 (Nat.le_of_ble_eq_true rfl)).trans rfl
theorem f189_26 : zi_fe 189 26 = some ((.getfield 203), 3, 8, 13, 0, 1078, 0) := (zl189_1 (Nat.le_of_ble_eq_true rfl)).trans rfl
theorem f189_29 : zi_fe 189 29 = some ((.ifCond .ne 20), 3, 0, 0, 0, 0, 0) := (zl189_1 (Nat.le_of_ble_eq_true rfl)).trans rfl
theorem f189_32 : zi_fe 189 32 = some ((.aload_n 0), 1, 0, 0, 0, 0, 0) := (zl189_1 (Nat.le_of_ble_eq_true rfl)).trans rfl
theorem f189_33 : zi_fe 189 33 = some ((.aload_n 0), 1, 0, 0, 0, 0, 0) := (zl189_1 (Nat.le_of_ble_eq_true rfl)).trans rfl
theorem f189_34 : zi_fe 189 34 = some ((.getfield 233), 3, 8, 12, 0, 1077, 0) := (zl189_1 (Nat.le_of_ble_eq_true rfl)).trans rfl
theorem f189_37 : zi_fe 189 37 = some (.i2l, 1, 0, 0, 0, 0, 0) := (zl189_1 (Nat.le_of_ble_eq_true rfl)).trans rfl
theorem f189_38 : zi_fe 189 38 = some ((.lconst 0), 1, 0, 0, 0, 0, 0) := (zl189_1 (Nat.le_of_ble_eq_true rfl)).trans rfl
theorem f189_39 : zi_fe 189 39 = some ((.ldc2_w 246), 3, 0, 0, 0, 1236, 2) := (zl189_1 (Nat.le_of_ble_eq_true rfl)).trans rfl
theorem f189_42 : zi_fe 189 42 = some ((.invokestatic 196), 3, 142, 1, 8, 1189, 3) := (zl189_1 (Nat.le_of_ble_eq_true rfl)).trans rfl
theorem f189_45 : zi_fe 189 45 = some ((.iconst 3), 1, 0, 0, 0, 0, 0) := (zl189_1 (Nat.le_of_ble_eq_true rfl)).trans rfl
theorem zl189_2 {pc : Nat} (h : 46 ≤ pc) : zi_fe 189 pc = zu189_2.lookup pc := (zl189_1 (Nat.le_trans (Nat.le_of_ble_eq_true rfl) h)).trans (zi_lkA (a := zi_i189_1) (c := 46) rfl h)
theorem f189_46 : zi_fe 189 46 = some ((.invokevirtual 236), 3, 182, 0, 8, 1212, 3) := (zl189_2 (Nat.le_of_ble_eq_true rfl)).trans rfl
theorem f189_49 : zi_fe 189 49 = some ((.aload_n 0), 1, 0, 0, 0, 0, 0) := (zl189_2 (Nat.le_of_ble_eq_true rfl)).trans rfl
theorem f189_50 : zi_fe 189 50 = some ((.getfield 203), 3, 8, 13, 0, 1078, 0) := (zl189_2 (Nat.le_of_ble_eq_true rfl)).trans rfl
theorem f189_53 : zi_fe 189 53 = some ((.ifCond .ne 24), 3, 0, 0, 0, 0, 0) := (zl189_2 (Nat.le_of_ble_eq_true rfl)).trans rfl
theorem f189_56 : zi_fe 189 56 = some ((.aload_n 0), 1, 0, 0, 0, 0, 0) := (zl189_2 (Nat.le_of_ble_eq_true rfl)).trans rfl
theorem f189_57 : zi_fe 189 57 = some ((.aload_n 0), 1, 0, 0, 0, 0, 0) := (zl189_2 (Nat.le_of_ble_eq_true rfl)).trans rfl
theorem f189_58 : zi_fe 189 58 = some ((.aload_n 0), 1, 0, 0, 0, 0, 0) := (zl189_2 (Nat.le_of_ble_eq_true rfl)).trans rfl
theorem f189_59 : zi_fe 189 59 = some ((.getfield 233), 3, 8, 12, 0, 1077, 0) := (zl189_2 (Nat.le_of_ble_eq_true rfl)).trans rfl
theorem f189_62 : zi_fe 189 62 = some ((.invokevirtual 248), 3, 188, 0, 8, 1237, 2) := (zl189_2 (Nat.le_of_ble_eq_true rfl)).trans rfl
theorem f189_65 : zi_fe 189 65 = some ((.ifCond .ne 7), 3, 0, 0, 0, 0, 0) := (zl189_2 (Nat.le_of_ble_eq_true rfl)).trans rfl
theorem f189_68 : zi_fe 189 68 = some ((.iconst 1), 1, 0, 0, 0, 0, 0) := (zl189_2 (Nat.le_of_ble_eq_true rfl)).trans rfl
theorem f189_69 : zi_fe 189 69 = some ((.goto 4), 3, 0, 0, 0, 0, 0) := (zl189_2 (Nat.le_of_ble_eq_true rfl)).trans rfl
theorem zl189_3 {pc : Nat} (h : 72 ≤ pc) : zi_fe 189 pc = zu189_3.lookup pc := (zl189_2 (Nat.le_trans (Nat.le_of_ble_eq_true rfl) h)).trans (zi_lkA (a := zi_i189_2) (c := 72) rfl h)
theorem f189_72 : zi_fe 189 72 = some ((.iconst 0), 1, 0, 0, 0, 0, 0) := (zl189_3 (Nat.le_of_ble_eq_true rfl)).trans rfl
theorem f189_73 : zi_fe 189 73 = some ((.iconst 4), 1, 0, 0, 0, 0, 0) := (zl189_3 (Nat.le_of_ble_eq_true rfl)).trans rfl
theorem f189_74 : zi_fe 189 74 = some ((.invokevirtual 236), 3, 182, 0, 8, 1212, 3) := (zl189_3 (Nat.le_of_ble_eq_true rfl)).trans rfl
theorem f189_77 : zi_fe 189 77 = some ((.aload_n 0), 1, 0, 0, 0, 0, 0) := (zl189_3 (Nat.le_of_ble_eq_true rfl)).trans rfl
theorem f189_78 : zi_fe 189 78 = some ((.getfield 203), 3, 8, 13, 0, 1078, 0) := (zl189_3 (Nat.le_of_ble_eq_true rfl)).trans rfl
theorem f189_81 : zi_fe 189 81 = some ((.ifCond .le 4), 3, 0, 0, 0, 0, 0) := (zl189_3 (Nat.le_of_ble_eq_true rfl)).trans rfl
theorem f189_84 : zi_fe 189 84 = some (.return_, 1, 0, 0, 0, 0, 0) := (zl189_3 (Nat.le_of_ble_eq_true rfl)).trans rfl
theorem f189_85 : zi_fe 189 85 = some ((.aload_n 0), 1, 0, 0, 0, 0, 0) := (zl189_3 (Nat.le_of_ble_eq_true rfl)).trans rfl
theorem f189_86 : zi_fe 189 86 = some ((.getfield 233), 3, 8, 12, 0, 1077, 0) := (zl189_3 (Nat.le_of_ble_eq_true rfl)).trans rfl
theorem f189_89 : zi_fe 189 89 = some ((.istore_n 1), 1, 0, 0, 0, 0, 0) := (zl189_3 (Nat.le_of_ble_eq_true rfl)).trans rfl
theorem f189_90 : zi_fe 189 90 = some ((.aload_n 0), 1, 0, 0, 0, 0, 0) := (zl189_3 (Nat.le_of_ble_eq_true rfl)).trans rfl
theorem f189_91 : zi_fe 189 91 = some ((.invokevirtual 240), 3, 186, 0, 8, 1200, 1) := (zl189_3 (Nat.le_of_ble_eq_true rfl)).trans rfl
theorem zl189_4 {pc : Nat} (h : 94 ≤ pc) : zi_fe 189 pc = zu189_4.lookup pc := (zl189_3 (Nat.le_trans (Nat.le_of_ble_eq_true rfl) h)).trans (zi_lkA (a := zi_i189_3) (c := 94) rfl h)
theorem f189_94 : zi_fe 189 94 = some ((.aload_n 0), 1, 0, 0, 0, 0, 0) := (zl189_4 (Nat.le_of_ble_eq_true rfl)).trans rfl
theorem f189_95 : zi_fe 189 95 = some ((.iconst 0), 1, 0, 0, 0, 0, 0) := (zl189_4 (Nat.le_of_ble_eq_true rfl)).trans rfl
theorem f189_96 : zi_fe 189 96 = some ((.bipush 99), 2, 0, 0, 0, 0, 0) := (zl189_4 (Nat.le_of_ble_eq_true rfl)).trans rfl
theorem f189_98 : zi_fe 189 98 = some ((.invokevirtual 251), 3, 187, 0, 8, 1228, 3) := (zl189_4 (Nat.le_of_ble_eq_true rfl)).trans rfl
theorem f189_101 : zi_fe 189 101 = some ((.istore_n 2), 1, 0, 0, 0, 0, 0) := (zl189_4 (Nat.le_of_ble_eq_true rfl)).trans rfl
theorem f189_102 : zi_fe 189 102 = some ((.aload_n 0), 1, 0, 0, 0, 0, 0) := (zl189_4 (Nat.le_of_ble_eq_true rfl)).trans rfl
theorem f189_103 : zi_fe 189 103 = some ((.getfield 203), 3, 8, 13, 0, 1078, 0) := (zl189_4 (Nat.le_of_ble_eq_true rfl)).trans rfl
theorem f189_106 : zi_fe 189 106 = some ((.ifCond .ne 39), 3, 0, 0, 0, 0, 0) := (zl189_4 (Nat.le_of_ble_eq_true rfl)).trans rfl
theorem f189_109 : zi_fe 189 109 = some ((.aload_n 0), 1, 0, 0, 0, 0, 0) := (zl189_4 (Nat.le_of_ble_eq_true rfl)).trans rfl
theorem f189_110 : zi_fe 189 110 = some ((.getfield 35), 3, 8, 19, 3, 1084, 0) := (zl189_4 (Nat.le_of_ble_eq_true rfl)).trans rfl
theorem f189_113 : zi_fe 189 113 = some ((.iconst 2), 1, 0, 0, 0, 0, 0) := (zl189_4 (Nat.le_of_ble_eq_true rfl)).trans rfl
theorem f189_114 : zi_fe 189 114 = some ((.aload_n 0), 1, 0, 0, 0, 0, 0) := (zl189_4 (Nat.le_of_ble_eq_true rfl)).trans rfl
theorem zl189_5 {pc : Nat} (h : 115 ≤ pc) : zi_fe 189 pc = zu189_5.lookup pc := (zl189_4 (Nat.le_trans (Nat.le_of_ble_eq_true rfl) h)).trans (zi_lkA (a := zi_i189_4) (c := 115) rfl h)
theorem f189_115 : zi_fe 189 115 = some ((.getfield 243), 3, 8, 20, 0, 1085, 0) := (zl189_5 (Nat.le_of_ble_eq_true rfl)).trans rfl
theorem f189_118 : zi_fe 189 118 = some (.imul, 1, 0, 0, 0, 0, 0) := (zl189_5 (Nat.le_of_ble_eq_true rfl)).trans rfl
theorem f189_119 : zi_fe 189 119 = some ((.iload_n 1), 1, 0, 0, 0, 0, 0) := (zl189_5 (Nat.le_of_ble_eq_true rfl)).trans rfl
theorem f189_120 : zi_fe 189 120 = some (.iastore, 1, 0, 0, 0, 0, 0) := (zl189_5 (Nat.le_of_ble_eq_true rfl)).trans rfl
theorem f189_121 : zi_fe 189 121 = some ((.aload_n 0), 1, 0, 0, 0, 0, 0) := (zl189_5 (Nat.le_of_ble_eq_true rfl)).trans rfl
theorem f189_122 : zi_fe 189 122 = some ((.getfield 35), 3, 8, 19, 3, 1084, 0) := (zl189_5 (Nat.le_of_ble_eq_true rfl)).trans rfl
theorem f189_125 : zi_fe 189 125 = some ((.iconst 2), 1, 0, 0, 0, 0, 0) := (zl189_5 (Nat.le_of_ble_eq_true rfl)).trans rfl
theorem f189_126 : zi_fe 189 126 = some ((.aload_n 0), 1, 0, 0, 0, 0, 0) := (zl189_5 (Nat.le_of_ble_eq_true rfl)).trans rfl
theorem f189_127 : zi_fe 189 127 = some ((.getfield 243), 3, 8, 20, 0, 1085, 0) := (zl189_5 (Nat.le_of_ble_eq_true rfl)).trans rfl
theorem f189_130 : zi_fe 189 130 = some (.imul, 1, 0, 0, 0, 0, 0) := (zl189_5 (Nat.le_of_ble_eq_true rfl)).trans rfl
theorem f189_131 : zi_fe 189 131 = some ((.iconst 1), 1, 0, 0, 0, 0, 0) := (zl189_5 (Nat.le_of_ble_eq_true rfl)).trans rfl
theorem f189_132 : zi_fe 189 132 = some (.iadd, 1, 0, 0, 0, 0, 0) := (zl189_5 (Nat.le_of_ble_eq_true rfl)).trans rfl
theorem zl189_6 {pc : Nat} (h : 133 ≤ pc) : zi_fe 189 pc = zu189_6.lookup pc := (zl189_5 (Nat.le_trans (Nat.le_of_ble_eq_true rfl) h)).trans (zi_lkA (a := zi_i189_5) (c := 133) rfl h)
theorem f189_133 : zi_fe 189 133 = some ((.iload_n 2), 1, 0, 0, 0, 0, 0) := (zl189_6 (Nat.le_of_ble_eq_true rfl)).trans rfl
theorem f189_134 : zi_fe 189 134 = some (.iastore, 1, 0, 0, 0, 0, 0) := (zl189_6 (Nat.le_of_ble_eq_true rfl)).trans rfl
theorem f189_135 : zi_fe 189 135 = some ((.aload_n 0), 1, 0, 0, 0, 0, 0) := (zl189_6 (Nat.le_of_ble_eq_true rfl)).trans rfl
theorem f189_136 : zi_fe 189 136 = some (.dup, 1, 0, 0, 0, 0, 0) := (zl189_6 (Nat.le_of_ble_eq_true rfl)).trans rfl
theorem f189_137 : zi_fe 189 137 = some ((.getfield 243), 3, 8, 20, 0, 1085, 0) := (zl189_6 (Nat.le_of_ble_eq_true rfl)).trans rfl
theorem f189_140 : zi_fe 189 140 = some ((.iconst 1), 1, 0, 0, 0, 0, 0) := (zl189_6 (Nat.le_of_ble_eq_true rfl)).trans rfl
theorem f189_141 : zi_fe 189 141 = some (.iadd, 1, 0, 0, 0, 0, 0) := (zl189_6 (Nat.le_of_ble_eq_true rfl)).trans rfl
theorem f189_142 : zi_fe 189 142 = some ((.putfield 243), 3, 8, 20, 0, 1085, 0) := (zl189_6 (Nat.le_of_ble_eq_true rfl)).trans rfl
theorem f189_145 : zi_fe 189 145 = some (.return_, 1, 0, 0, 0, 0, 0) := (zl189_6 (Nat.le_of_ble_eq_true rfl)).trans rfl
theorem b189_0 {h : zi_Hp} {a0 : Nat} {u1 : Value} {u2 : Value} (g0 : a0 < zh_n h) (g1 : (zh_k h a0).1 = 8) : zv 4 189 0 [.ref a0, u1, u2] [] h = if (zh_i h a0 13) = 0 then zv 4 189 7 [.ref a0, u1, u2] [] h else zv 4 189 25 [.ref a0, u1, u2] [] h := by
  refine Eq.trans (zv_next f189_0 rfl) ?_
  refine Eq.trans (zs_geti f189_1 g0 g1) ?_
  exact zs_if f189_4 rfl
theorem b189_7 {h : zi_Hp} {a0 : Nat} {u1 : Value} {u2 : Value} (g0 : a0 < zh_n h) (g1 : (zh_k h a0).1 = 8) : zv 4 189 7 [.ref a0, u1, u2] [] h = if (zh_i h a0 11) = 2 then zv 4 189 16 [.ref a0, u1, u2] [.ref a0] h else zv 4 189 20 [.ref a0, u1, u2] [.ref a0] h := by
  refine Eq.trans (zv_next f189_7 rfl) ?_
  refine Eq.trans (zv_next f189_8 rfl) ?_
  refine Eq.trans (zs_geti f189_9 g0 g1) ?_
  refine Eq.trans (zs_ic f189_12 ic_2) ?_
  exact zs_icmp f189_13 rfl
theorem b189_16 {h : zi_Hp} {a0 : Nat} {u1 : Value} {u2 : Value} {t0 : Nat}  : zv 4 189 16 [.ref a0, u1, u2] [.ref t0] h = zv 4 189 21 [.ref a0, u1, u2] [.int 1, .ref t0] h := by
  refine Eq.trans (zs_ic f189_16 ic_1) ?_
  refine Eq.trans (zs_goto (tgt := 21) f189_17 rfl) ?_
  rfl
theorem b189_20 {h : zi_Hp} {a0 : Nat} {u1 : Value} {u2 : Value} {t0 : Nat}  : zv 4 189 20 [.ref a0, u1, u2] [.ref t0] h = zv 4 189 21 [.ref a0, u1, u2] [.int 0, .ref t0] h := by
  refine Eq.trans (zs_ic f189_20 ic_0) ?_
  rfl
theorem b189_21 {h : zi_Hp} {a0 : Nat} {u1 : Value} {u2 : Value} {t0 : Nat} {s1 : Int32} (g0 : t0 < zh_n h) (g1 : (zh_k h t0).1 = 8) : zv 4 189 21 [.ref a0, u1, u2] [.int s1, .ref t0] h = (zv 1 182 0 [.ref t0, .int s1, .int 2] [] h).bind fun r => zv 4 189 25 [.ref a0, u1, u2] (r.1.toList ++ []) r.2 := by
  refine Eq.trans (zs_ic f189_21 ic_2) ?_
  exact zs_callV f189_22 (Nat.le_of_ble_eq_true rfl) (Nat.le_of_ble_eq_true rfl) rfl g0 g1 me_182 (by decide) rfl
theorem b189_25 {h : zi_Hp} {a0 : Nat} {u1 : Value} {u2 : Value} (g0 : a0 < zh_n h) (g1 : (zh_k h a0).1 = 8) : zv 4 189 25 [.ref a0, u1, u2] [] h = if (zh_i h a0 13) = 0 then zv 4 189 32 [.ref a0, u1, u2] [] h else zv 4 189 49 [.ref a0, u1, u2] [] h := by
  refine Eq.trans (zv_next f189_25 rfl) ?_
  refine Eq.trans (zs_geti f189_26 g0 g1) ?_
  exact zs_if f189_29 rfl
theorem b189_32 {h : zi_Hp} {a0 : Nat} {u1 : Value} {u2 : Value} (g0 : a0 < zh_n h) (g1 : (zh_k h a0).1 = 8) : zv 4 189 32 [.ref a0, u1, u2] [] h = (zv 1 142 0 [.long (((zh_i h a0 12)).toInt64), .double 1, .long 0, .double 1, .long 2, .double 1] [] h).bind fun r => zv 4 189 45 [.ref a0, u1, u2] (r.1.toList ++ [.ref a0]) r.2 := by
  refine Eq.trans (zv_next f189_32 rfl) ?_
  refine Eq.trans (zv_next f189_33 rfl) ?_
  refine Eq.trans (zs_geti f189_34 g0 g1) ?_
  refine Eq.trans (zv_next f189_37 rfl) ?_
  refine Eq.trans (zs_lc f189_38 lc_0) ?_
  refine Eq.trans (zs_l2 f189_39 l2_2) ?_
  exact zs_callS f189_42 (by decide) (Nat.le_of_ble_eq_true rfl) (Nat.le_of_ble_eq_true rfl) rfl me_142 (by decide) rfl
theorem b189_45 {h : zi_Hp} {a0 : Nat} {u1 : Value} {u2 : Value} {t0 : Nat} {s1 : Int32} (g0 : t0 < zh_n h) (g1 : (zh_k h t0).1 = 8) : zv 4 189 45 [.ref a0, u1, u2] [.int s1, .ref t0] h = (zv 1 182 0 [.ref t0, .int s1, .int 3] [] h).bind fun r => zv 4 189 49 [.ref a0, u1, u2] (r.1.toList ++ []) r.2 := by
  refine Eq.trans (zs_ic f189_45 ic_3) ?_
  exact zs_callV f189_46 (Nat.le_of_ble_eq_true rfl) (Nat.le_of_ble_eq_true rfl) rfl g0 g1 me_182 (by decide) rfl
theorem b189_49 {h : zi_Hp} {a0 : Nat} {u1 : Value} {u2 : Value} (g0 : a0 < zh_n h) (g1 : (zh_k h a0).1 = 8) : zv 4 189 49 [.ref a0, u1, u2] [] h = if (zh_i h a0 13) = 0 then zv 4 189 56 [.ref a0, u1, u2] [] h else zv 4 189 77 [.ref a0, u1, u2] [] h := by
  refine Eq.trans (zv_next f189_49 rfl) ?_
  refine Eq.trans (zs_geti f189_50 g0 g1) ?_
  exact zs_if f189_53 rfl
theorem b189_56 {h : zi_Hp} {a0 : Nat} {u1 : Value} {u2 : Value} (g0 : a0 < zh_n h) (g1 : (zh_k h a0).1 = 8) : zv 4 189 56 [.ref a0, u1, u2] [] h = (zv 1 188 0 [.ref a0, .int (zh_i h a0 12), .double 0, .double 0] [] h).bind fun r => zv 4 189 65 [.ref a0, u1, u2] (r.1.toList ++ [.ref a0]) r.2 := by
  refine Eq.trans (zv_next f189_56 rfl) ?_
  refine Eq.trans (zv_next f189_57 rfl) ?_
  refine Eq.trans (zv_next f189_58 rfl) ?_
  refine Eq.trans (zs_geti f189_59 g0 g1) ?_
  exact zs_callV f189_62 (Nat.le_of_ble_eq_true rfl) (Nat.le_of_ble_eq_true rfl) rfl g0 g1 me_188 (by decide) rfl
theorem b189_65 {h : zi_Hp} {a0 : Nat} {u1 : Value} {u2 : Value} {t0 : Nat} {s1 : Int32}  : zv 4 189 65 [.ref a0, u1, u2] [.int s1, .ref t0] h = if s1 = 0 then zv 4 189 68 [.ref a0, u1, u2] [.ref t0] h else zv 4 189 72 [.ref a0, u1, u2] [.ref t0] h := by
  exact zs_if f189_65 rfl
theorem b189_68 {h : zi_Hp} {a0 : Nat} {u1 : Value} {u2 : Value} {t0 : Nat}  : zv 4 189 68 [.ref a0, u1, u2] [.ref t0] h = zv 4 189 73 [.ref a0, u1, u2] [.int 1, .ref t0] h := by
  refine Eq.trans (zs_ic f189_68 ic_1) ?_
  refine Eq.trans (zs_goto (tgt := 73) f189_69 rfl) ?_
  rfl
theorem b189_72 {h : zi_Hp} {a0 : Nat} {u1 : Value} {u2 : Value} {t0 : Nat}  : zv 4 189 72 [.ref a0, u1, u2] [.ref t0] h = zv 4 189 73 [.ref a0, u1, u2] [.int 0, .ref t0] h := by
  refine Eq.trans (zs_ic f189_72 ic_0) ?_
  rfl
theorem b189_73 {h : zi_Hp} {a0 : Nat} {u1 : Value} {u2 : Value} {t0 : Nat} {s1 : Int32} (g0 : t0 < zh_n h) (g1 : (zh_k h t0).1 = 8) : zv 4 189 73 [.ref a0, u1, u2] [.int s1, .ref t0] h = (zv 1 182 0 [.ref t0, .int s1, .int 4] [] h).bind fun r => zv 4 189 77 [.ref a0, u1, u2] (r.1.toList ++ []) r.2 := by
  refine Eq.trans (zs_ic f189_73 ic_4) ?_
  exact zs_callV f189_74 (Nat.le_of_ble_eq_true rfl) (Nat.le_of_ble_eq_true rfl) rfl g0 g1 me_182 (by decide) rfl
theorem b189_77 {h : zi_Hp} {a0 : Nat} {u1 : Value} {u2 : Value} (g0 : a0 < zh_n h) (g1 : (zh_k h a0).1 = 8) : zv 4 189 77 [.ref a0, u1, u2] [] h = if 0 < (zh_i h a0 13) then zv 4 189 84 [.ref a0, u1, u2] [] h else zv 4 189 85 [.ref a0, u1, u2] [] h := by
  refine Eq.trans (zv_next f189_77 rfl) ?_
  refine Eq.trans (zs_geti f189_78 g0 g1) ?_
  exact zs_if f189_81 rfl
theorem b189_84 {h : zi_Hp} {a0 : Nat} {u1 : Value} {u2 : Value}  : zv 4 189 84 [.ref a0, u1, u2] [] h = some (none, h) := by
  exact zv_ret f189_84 rfl
theorem b189_85 {h : zi_Hp} {a0 : Nat} {u1 : Value} {u2 : Value} (g0 : a0 < zh_n h) (g1 : (zh_k h a0).1 = 8) : zv 4 189 85 [.ref a0, u1, u2] [] h = (zv 2 186 0 [.ref a0, .double 0] [] h).bind fun r => zv 4 189 94 [.ref a0, .int (zh_i h a0 12), u2] (r.1.toList ++ []) r.2 := by
  refine Eq.trans (zv_next f189_85 rfl) ?_
  refine Eq.trans (zs_geti f189_86 g0 g1) ?_
  refine Eq.trans (zv_next f189_89 rfl) ?_
  refine Eq.trans (zv_next f189_90 rfl) ?_
  exact zs_callV f189_91 (Nat.le_of_ble_eq_true rfl) (Nat.le_of_ble_eq_true rfl) rfl g0 g1 me_186 (by decide) rfl
theorem b189_94 {h : zi_Hp} {a0 : Nat} {x1 : Int32} {u2 : Value} (g0 : a0 < zh_n h) (g1 : (zh_k h a0).1 = 8) : zv 4 189 94 [.ref a0, .int x1, u2] [] h = (zv 3 187 0 [.ref a0, .int 0, .int 99, .double 0] [] h).bind fun r => zv 4 189 101 [.ref a0, .int x1, u2] (r.1.toList ++ []) r.2 := by
  refine Eq.trans (zv_next f189_94 rfl) ?_
  refine Eq.trans (zs_ic f189_95 ic_0) ?_
  refine Eq.trans (zs_bp f189_96 bp_99) ?_
  exact zs_callV f189_98 (Nat.le_of_ble_eq_true rfl) (Nat.le_of_ble_eq_true rfl) rfl g0 g1 me_187 (by decide) rfl
theorem b189_101 {h : zi_Hp} {a0 : Nat} {x1 : Int32} {u2 : Value} {s0 : Int32} (g0 : a0 < zh_n h) (g1 : (zh_k h a0).1 = 8) : zv 4 189 101 [.ref a0, .int x1, u2] [.int s0] h = if (zh_i h a0 13) = 0 then zv 4 189 109 [.ref a0, .int x1, .int s0] [] h else zv 4 189 145 [.ref a0, .int x1, .int s0] [] h := by
  refine Eq.trans (zv_next f189_101 rfl) ?_
  refine Eq.trans (zv_next f189_102 rfl) ?_
  refine Eq.trans (zs_geti f189_103 g0 g1) ?_
  exact zs_if f189_106 rfl
theorem b189_109 {h : zi_Hp} {a0 : Nat} {x1 : Int32} {x2 : Int32} (g0 : a0 < zh_n h) (g1 : (zh_k h a0).1 = 8) (g2 : zh_r h a0 19 = .ref (zq (zh_r h a0 19))) (g3 : (zq (zh_r h a0 19)) < zh_n h) (g4 : ¬ ((2 * (zh_i h a0 20)) < 0 ∨ (zh_k h (zq (zh_r h a0 19))).2 ≤ (2 * (zh_i h a0 20)).toNatClampNeg)) (g5 : (zh_k h (zq (zh_r h a0 19))).1 = 100) : zv 4 189 109 [.ref a0, .int x1, .int x2] [] h = zv 4 189 127 [.ref a0, .int x1, .int x2] [.ref a0, .int 2, .ref (zq (zh_r h a0 19))] (zh_wi h (zq (zh_r h a0 19)) (2 * (zh_i h a0 20)).toNatClampNeg x1) := by
  refine Eq.trans (zv_next f189_109 rfl) ?_
  refine Eq.trans (zs_getr f189_110 g0 g1 g2) ?_
  refine Eq.trans (zs_ic f189_113 ic_2) ?_
  refine Eq.trans (zv_next f189_114 rfl) ?_
  refine Eq.trans (zs_geti f189_115 g0 g1) ?_
  refine Eq.trans (zv_next f189_118 rfl) ?_
  refine Eq.trans (zv_next f189_119 rfl) ?_
  refine Eq.trans (zs_iast f189_120 g3 g5 g4) ?_
  refine Eq.trans (zv_next f189_121 rfl) ?_
  refine Eq.trans (zs_getr f189_122 g0 g1 g2) ?_
  refine Eq.trans (zs_ic f189_125 ic_2) ?_
  refine Eq.trans (zv_next f189_126 rfl) ?_
  rfl
theorem b189_127 {h : zi_Hp} {a0 : Nat} {x1 : Int32} {x2 : Int32} {t0 : Nat} {s1 : Int32} {t2 : Nat} (g0 : t2 < zh_n h) (g1 : (zh_k h t2).1 = 8) (g2 : t0 < zh_n h) (g3 : ¬ (((s1 * (zh_i h t2 20)) + 1) < 0 ∨ (zh_k h t0).2 ≤ ((s1 * (zh_i h t2 20)) + 1).toNatClampNeg)) (g4 : (zh_k h t0).1 = 100) : zv 4 189 127 [.ref a0, .int x1, .int x2] [.ref t2, .int s1, .ref t0] h = zv 4 189 137 [.ref a0, .int x1, .int x2] [.ref a0, .ref a0] (zh_wi h t0 ((s1 * (zh_i h t2 20)) + 1).toNatClampNeg x2) := by
  refine Eq.trans (zs_geti f189_127 g0 g1) ?_
  refine Eq.trans (zv_next f189_130 rfl) ?_
  refine Eq.trans (zs_ic f189_131 ic_1) ?_
  refine Eq.trans (zv_next f189_132 rfl) ?_
  refine Eq.trans (zv_next f189_133 rfl) ?_
  refine Eq.trans (zs_iast f189_134 g2 g4 g3) ?_
  refine Eq.trans (zv_next f189_135 rfl) ?_
  refine Eq.trans (zv_next f189_136 rfl) ?_
  rfl
theorem b189_137 {h : zi_Hp} {a0 : Nat} {x1 : Int32} {x2 : Int32} {t0 : Nat} {t1 : Nat} (g0 : t1 < zh_n h) (g1 : (zh_k h t1).1 = 8) (g2 : t0 < zh_n h) (g3 : (zh_k h t0).1 = 8) : zv 4 189 137 [.ref a0, .int x1, .int x2] [.ref t1, .ref t0] h = zv 4 189 145 [.ref a0, .int x1, .int x2] [] (zh_wi h t0 20 ((zh_i h t1 20) + 1)) := by
  refine Eq.trans (zs_geti f189_137 g0 g1) ?_
  refine Eq.trans (zs_ic f189_140 ic_1) ?_
  refine Eq.trans (zv_next f189_141 rfl) ?_
  refine Eq.trans (zs_put f189_142 g2 g3 rfl) ?_
  rfl
theorem b189_145 {h : zi_Hp} {a0 : Nat} {x1 : Int32} {x2 : Int32}  : zv 4 189 145 [.ref a0, .int x1, .int x2] [] h = some (none, h) := by
  exact zv_ret f189_145 rfl
set_option maxRecDepth 20000 in
theorem zq190 : zi_M[190]? = some zi_m190 := rfl
theorem zl190_0 {pc : Nat} (_ : 0 ≤ pc) : zi_fe 190 pc = zu190_0.lookup pc := zi_feA zq190 pc
theorem f190_0 : zi_fe 190 0 = some ((.aload_n 0), 1, 0, 0, 0, 0, 0) := (zl190_0 (Nat.le_of_ble_eq_true rfl)).trans rfl
theorem f190_1 : zi_fe 190 1 = some ((.aload_n 0), 1, 0, 0, 0, 0, 0) := (zl190_0 (Nat.le_of_ble_eq_true rfl)).trans rfl
theorem f190_2 : zi_fe 190 2 = some ((.getfield 222), 3, 8, 11, 0, 1076, 0) := (zl190_0 (Nat.le_of_ble_eq_true rfl)).trans rfl
theorem f190_5 : zi_fe 190 5 = some ((.iconst 2), 1, 0, 0, 0, 0, 0) := (zl190_0 (Nat.le_of_ble_eq_true rfl)).trans rfl
theorem f190_6 : zi_fe 190 6 = some ((.if_icmp .ne 7), 3, 0, 0, 0, 0, 0) := (zl190_0 (Nat.le_of_ble_eq_true rfl)).trans rfl
theorem f190_9 : zi_fe 190 9 = some ((.iconst 1), 1, 0, 0, 0, 0, 0) := (zl190_0 (Nat.le_of_ble_eq_true rfl)).trans rfl
theorem f190_10 : zi_fe 190 10 = some ((.goto 4), 3, 0, 0, 0, 0, 0) := (zl190_0 (Nat.le_of_ble_eq_true rfl)).trans rfl
theorem f190_13 : zi_fe 190 13 = some ((.iconst 0), 1, 0, 0, 0, 0, 0) := (zl190_0 (Nat.le_of_ble_eq_true rfl)).trans rfl
theorem f190_14 : zi_fe 190 14 = some ((.iconst 2), 1, 0, 0, 0, 0, 0) := (zl190_0 (Nat.le_of_ble_eq_true rfl)).trans rfl
theorem f190_15 : zi_fe 190 15 = some ((.invokevirtual 236), 3, 182, 0, 8, 1212, 3) := (zl190_0 (Nat.le_of_ble_eq_true rfl)).trans rfl
theorem f190_18 : zi_fe 190 18 = some ((.aload_n 0), 1, 0, 0, 0, 0, 0) := (zl190_0 (Nat.le_of_ble_eq_true rfl)).trans rfl
theorem f190_19 : zi_fe 190 19 = some ((.getfield 203), 3, 8, 13, 0, 1078, 0) := (zl190_0 (Nat.le_of_ble_eq_true rfl)).trans rfl
theorem zl190_1 {pc : Nat} (h : 22 ≤ pc) : zi_fe 190 pc = zu190_1.lookup pc := (zl190_0 (Nat.le_trans (Nat.le_of_ble_eq_true rfl) h)).trans (zi_lkA (a := zi_i190_0) (c := 22) rfl h)
theorem f190_22 : zi_fe 190 22 = some ((.ifCond .ne 82), 3, 0, 0, 0, 0, 0) := (zl190_1 (Nat.le_of_ble_eq_true rfl)).trans rfl
theorem f190_25 : zi_fe 190 25 = some ((.aload_n 0), 1, 0, 0, 0, 0, 0) := (zl190_1 (Nat.le_of_ble_eq_true rfl)).trans rfl
theorem f190_26 : zi_fe 190 26 = some ((.getfield 222), 3, 8, 11, 0, 1076, 0) := (zl190_1 (Nat.le_of_ble_eq_true rfl)).trans rfl
theorem f190_29 : zi_fe 190 29 = some ((.iconst 2), 1, 0, 0, 0, 0, 0) := (zl190_1 (Nat.le_of_ble_eq_true rfl)).trans rfl
theorem f190_30 : zi_fe 190 30 = some ((.if_icmp .ne 74), 3, 0, 0, 0, 0, 0) := (zl190_1 (Nat.le_of_ble_eq_true rfl)).trans rfl
theorem f190_33 : zi_fe 190 33 = some ((.aload_n 0), 1, 0, 0, 0, 0, 0) := (zl190_1 (Nat.le_of_ble_eq_true rfl)).trans rfl
theorem f190_34 : zi_fe 190 34 = some ((.aload_n 0), 1, 0, 0, 0, 0, 0) := (zl190_1 (Nat.le_of_ble_eq_true rfl)).trans rfl
theorem f190_35 : zi_fe 190 35 = some ((.getfield 254), 3, 8, 18, 0, 1083, 0) := (zl190_1 (Nat.le_of_ble_eq_true rfl)).trans rfl
theorem f190_38 : zi_fe 190 38 = some ((.bipush 40), 2, 0, 0, 0, 0, 0) := (zl190_1 (Nat.le_of_ble_eq_true rfl)).trans rfl
theorem f190_40 : zi_fe 190 40 = some ((.if_icmp .ge 7), 3, 0, 0, 0, 0, 0) := (zl190_1 (Nat.le_of_ble_eq_true rfl)).trans rfl
theorem f190_43 : zi_fe 190 43 = some ((.iconst 1), 1, 0, 0, 0, 0, 0) := (zl190_1 (Nat.le_of_ble_eq_true rfl)).trans rfl
theorem f190_44 : zi_fe 190 44 = some ((.goto 4), 3, 0, 0, 0, 0, 0) := (zl190_1 (Nat.le_of_ble_eq_true rfl)).trans rfl
theorem zl190_2 {pc : Nat} (h : 47 ≤ pc) : zi_fe 190 pc = zu190_2.lookup pc := (zl190_1 (Nat.le_trans (Nat.le_of_ble_eq_true rfl) h)).trans (zi_lkA (a := zi_i190_1) (c := 47) rfl h)
theorem f190_47 : zi_fe 190 47 = some ((.iconst 0), 1, 0, 0, 0, 0, 0) := (zl190_2 (Nat.le_of_ble_eq_true rfl)).trans rfl
theorem f190_48 : zi_fe 190 48 = some ((.iconst 5), 1, 0, 0, 0, 0, 0) := (zl190_2 (Nat.le_of_ble_eq_true rfl)).trans rfl
theorem f190_49 : zi_fe 190 49 = some ((.invokevirtual 236), 3, 182, 0, 8, 1212, 3) := (zl190_2 (Nat.le_of_ble_eq_true rfl)).trans rfl
theorem f190_52 : zi_fe 190 52 = some ((.aload_n 0), 1, 0, 0, 0, 0, 0) := (zl190_2 (Nat.le_of_ble_eq_true rfl)).trans rfl
theorem f190_53 : zi_fe 190 53 = some ((.getfield 203), 3, 8, 13, 0, 1078, 0) := (zl190_2 (Nat.le_of_ble_eq_true rfl)).trans rfl
theorem f190_56 : zi_fe 190 56 = some ((.ifCond .ne (-38)), 3, 0, 0, 0, 0, 0) := (zl190_2 (Nat.le_of_ble_eq_true rfl)).trans rfl
theorem f190_59 : zi_fe 190 59 = some ((.aload_n 0), 1, 0, 0, 0, 0, 0) := (zl190_2 (Nat.le_of_ble_eq_true rfl)).trans rfl
theorem f190_60 : zi_fe 190 60 = some ((.getfield 32), 3, 8, 17, 3, 1082, 0) := (zl190_2 (Nat.le_of_ble_eq_true rfl)).trans rfl
theorem f190_63 : zi_fe 190 63 = some ((.iconst 2), 1, 0, 0, 0, 0, 0) := (zl190_2 (Nat.le_of_ble_eq_true rfl)).trans rfl
theorem f190_64 : zi_fe 190 64 = some ((.aload_n 0), 1, 0, 0, 0, 0, 0) := (zl190_2 (Nat.le_of_ble_eq_true rfl)).trans rfl
theorem f190_65 : zi_fe 190 65 = some ((.getfield 254), 3, 8, 18, 0, 1083, 0) := (zl190_2 (Nat.le_of_ble_eq_true rfl)).trans rfl
theorem f190_68 : zi_fe 190 68 = some (.imul, 1, 0, 0, 0, 0, 0) := (zl190_2 (Nat.le_of_ble_eq_true rfl)).trans rfl
theorem zl190_3 {pc : Nat} (h : 69 ≤ pc) : zi_fe 190 pc = zu190_3.lookup pc := (zl190_2 (Nat.le_trans (Nat.le_of_ble_eq_true rfl) h)).trans (zi_lkA (a := zi_i190_2) (c := 69) rfl h)
theorem f190_69 : zi_fe 190 69 = some ((.iload_n 1), 1, 0, 0, 0, 0, 0) := (zl190_3 (Nat.le_of_ble_eq_true rfl)).trans rfl
theorem f190_70 : zi_fe 190 70 = some (.iastore, 1, 0, 0, 0, 0, 0) := (zl190_3 (Nat.le_of_ble_eq_true rfl)).trans rfl
theorem f190_71 : zi_fe 190 71 = some ((.aload_n 0), 1, 0, 0, 0, 0, 0) := (zl190_3 (Nat.le_of_ble_eq_true rfl)).trans rfl
theorem f190_72 : zi_fe 190 72 = some ((.getfield 32), 3, 8, 17, 3, 1082, 0) := (zl190_3 (Nat.le_of_ble_eq_true rfl)).trans rfl
theorem f190_75 : zi_fe 190 75 = some ((.iconst 2), 1, 0, 0, 0, 0, 0) := (zl190_3 (Nat.le_of_ble_eq_true rfl)).trans rfl
theorem f190_76 : zi_fe 190 76 = some ((.aload_n 0), 1, 0, 0, 0, 0, 0) := (zl190_3 (Nat.le_of_ble_eq_true rfl)).trans rfl
theorem f190_77 : zi_fe 190 77 = some ((.getfield 254), 3, 8, 18, 0, 1083, 0) := (zl190_3 (Nat.le_of_ble_eq_true rfl)).trans rfl
theorem f190_80 : zi_fe 190 80 = some (.imul, 1, 0, 0, 0, 0, 0) := (zl190_3 (Nat.le_of_ble_eq_true rfl)).trans rfl
theorem f190_81 : zi_fe 190 81 = some ((.iconst 1), 1, 0, 0, 0, 0, 0) := (zl190_3 (Nat.le_of_ble_eq_true rfl)).trans rfl
theorem f190_82 : zi_fe 190 82 = some (.iadd, 1, 0, 0, 0, 0, 0) := (zl190_3 (Nat.le_of_ble_eq_true rfl)).trans rfl
theorem f190_83 : zi_fe 190 83 = some ((.aload_n 0), 1, 0, 0, 0, 0, 0) := (zl190_3 (Nat.le_of_ble_eq_true rfl)).trans rfl
theorem f190_84 : zi_fe 190 84 = some ((.iconst 0), 1, 0, 0, 0, 0, 0) := (zl190_3 (Nat.le_of_ble_eq_true rfl)).trans rfl
theorem zl190_4 {pc : Nat} (h : 85 ≤ pc) : zi_fe 190 pc = zu190_4.lookup pc := (zl190_3 (Nat.le_trans (Nat.le_of_ble_eq_true rfl) h)).trans (zi_lkA (a := zi_i190_3) (c := 85) rfl h)
theorem f190_85 : zi_fe 190 85 = some ((.bipush 99), 2, 0, 0, 0, 0, 0) := (zl190_4 (Nat.le_of_ble_eq_true rfl)).trans rfl
theorem f190_87 : zi_fe 190 87 = some ((.invokevirtual 251), 3, 187, 0, 8, 1228, 3) := (zl190_4 (Nat.le_of_ble_eq_true rfl)).trans rfl
theorem f190_90 : zi_fe 190 90 = some (.iastore, 1, 0, 0, 0, 0, 0) := (zl190_4 (Nat.le_of_ble_eq_true rfl)).trans rfl
theorem f190_91 : zi_fe 190 91 = some ((.aload_n 0), 1, 0, 0, 0, 0, 0) := (zl190_4 (Nat.le_of_ble_eq_true rfl)).trans rfl
theorem f190_92 : zi_fe 190 92 = some (.dup, 1, 0, 0, 0, 0, 0) := (zl190_4 (Nat.le_of_ble_eq_true rfl)).trans rfl
theorem f190_93 : zi_fe 190 93 = some ((.getfield 254), 3, 8, 18, 0, 1083, 0) := (zl190_4 (Nat.le_of_ble_eq_true rfl)).trans rfl
theorem f190_96 : zi_fe 190 96 = some ((.iconst 1), 1, 0, 0, 0, 0, 0) := (zl190_4 (Nat.le_of_ble_eq_true rfl)).trans rfl
theorem f190_97 : zi_fe 190 97 = some (.iadd, 1, 0, 0, 0, 0, 0) := (zl190_4 (Nat.le_of_ble_eq_true rfl)).trans rfl
theorem f190_98 : zi_fe 190 98 = some ((.putfield 254), 3, 8, 18, 0, 1083, 0) := (zl190_4 (Nat.le_of_ble_eq_true rfl)).trans rfl
theorem f190_101 : zi_fe 190 101 = some ((.goto (-83)), 3, 0, 0, 0, 0, 0) := (zl190_4 (Nat.le_of_ble_eq_true rfl)).trans rfl
theorem f190_104 : zi_fe 190 104 = some (.return_, 1, 0, 0, 0, 0, 0) := (zl190_4 (Nat.le_of_ble_eq_true rfl)).trans rfl
theorem b190_0 {h : zi_Hp} {a0 : Nat} {x1 : Int32} (g0 : a0 < zh_n h) (g1 : (zh_k h a0).1 = 8) : zv 4 190 0 [.ref a0, .int x1] [] h = if (zh_i h a0 11) = 2 then zv 4 190 9 [.ref a0, .int x1] [.ref a0] h else zv 4 190 13 [.ref a0, .int x1] [.ref a0] h := by
  refine Eq.trans (zv_next f190_0 rfl) ?_
  refine Eq.trans (zv_next f190_1 rfl) ?_
  refine Eq.trans (zs_geti f190_2 g0 g1) ?_
  refine Eq.trans (zs_ic f190_5 ic_2) ?_
  exact zs_icmp f190_6 rfl
theorem b190_9 {h : zi_Hp} {a0 : Nat} {x1 : Int32} {t0 : Nat}  : zv 4 190 9 [.ref a0, .int x1] [.ref t0] h = zv 4 190 14 [.ref a0, .int x1] [.int 1, .ref t0] h := by
  refine Eq.trans (zs_ic f190_9 ic_1) ?_
  refine Eq.trans (zs_goto (tgt := 14) f190_10 rfl) ?_
  rfl
theorem b190_13 {h : zi_Hp} {a0 : Nat} {x1 : Int32} {t0 : Nat}  : zv 4 190 13 [.ref a0, .int x1] [.ref t0] h = zv 4 190 14 [.ref a0, .int x1] [.int 0, .ref t0] h := by
  refine Eq.trans (zs_ic f190_13 ic_0) ?_
  rfl
theorem b190_14 {h : zi_Hp} {a0 : Nat} {x1 : Int32} {t0 : Nat} {s1 : Int32} (g0 : t0 < zh_n h) (g1 : (zh_k h t0).1 = 8) : zv 4 190 14 [.ref a0, .int x1] [.int s1, .ref t0] h = (zv 1 182 0 [.ref t0, .int s1, .int 2] [] h).bind fun r => zv 4 190 18 [.ref a0, .int x1] (r.1.toList ++ []) r.2 := by
  refine Eq.trans (zs_ic f190_14 ic_2) ?_
  exact zs_callV f190_15 (Nat.le_of_ble_eq_true rfl) (Nat.le_of_ble_eq_true rfl) rfl g0 g1 me_182 (by decide) rfl
theorem b190_18 {h : zi_Hp} {a0 : Nat} {x1 : Int32} (g0 : a0 < zh_n h) (g1 : (zh_k h a0).1 = 8) : zv 4 190 18 [.ref a0, .int x1] [] h = if (zh_i h a0 13) = 0 then zv 4 190 25 [.ref a0, .int x1] [] h else zv 4 190 104 [.ref a0, .int x1] [] h := by
  refine Eq.trans (zv_next f190_18 rfl) ?_
  refine Eq.trans (zs_geti f190_19 g0 g1) ?_
  exact zs_if f190_22 rfl
theorem b190_25 {h : zi_Hp} {a0 : Nat} {x1 : Int32} (g0 : a0 < zh_n h) (g1 : (zh_k h a0).1 = 8) : zv 4 190 25 [.ref a0, .int x1] [] h = if (zh_i h a0 11) = 2 then zv 4 190 33 [.ref a0, .int x1] [] h else zv 4 190 104 [.ref a0, .int x1] [] h := by
  refine Eq.trans (zv_next f190_25 rfl) ?_
  refine Eq.trans (zs_geti f190_26 g0 g1) ?_
  refine Eq.trans (zs_ic f190_29 ic_2) ?_
  exact zs_icmp f190_30 rfl
theorem b190_33 {h : zi_Hp} {a0 : Nat} {x1 : Int32} (g0 : a0 < zh_n h) (g1 : (zh_k h a0).1 = 8) : zv 4 190 33 [.ref a0, .int x1] [] h = if (zh_i h a0 18) < 40 then zv 4 190 43 [.ref a0, .int x1] [.ref a0] h else zv 4 190 47 [.ref a0, .int x1] [.ref a0] h := by
  refine Eq.trans (zv_next f190_33 rfl) ?_
  refine Eq.trans (zv_next f190_34 rfl) ?_
  refine Eq.trans (zs_geti f190_35 g0 g1) ?_
  refine Eq.trans (zs_bp f190_38 bp_40) ?_
  exact zs_icmp f190_40 rfl
theorem b190_43 {h : zi_Hp} {a0 : Nat} {x1 : Int32} {t0 : Nat}  : zv 4 190 43 [.ref a0, .int x1] [.ref t0] h = zv 4 190 48 [.ref a0, .int x1] [.int 1, .ref t0] h := by
  refine Eq.trans (zs_ic f190_43 ic_1) ?_
  refine Eq.trans (zs_goto (tgt := 48) f190_44 rfl) ?_
  rfl
theorem b190_47 {h : zi_Hp} {a0 : Nat} {x1 : Int32} {t0 : Nat}  : zv 4 190 47 [.ref a0, .int x1] [.ref t0] h = zv 4 190 48 [.ref a0, .int x1] [.int 0, .ref t0] h := by
  refine Eq.trans (zs_ic f190_47 ic_0) ?_
  rfl
theorem b190_48 {h : zi_Hp} {a0 : Nat} {x1 : Int32} {t0 : Nat} {s1 : Int32} (g0 : t0 < zh_n h) (g1 : (zh_k h t0).1 = 8) : zv 4 190 48 [.ref a0, .int x1] [.int s1, .ref t0] h = (zv 1 182 0 [.ref t0, .int s1, .int 5] [] h).bind fun r => zv 4 190 52 [.ref a0, .int x1] (r.1.toList ++ []) r.2 := by
  refine Eq.trans (zs_ic f190_48 ic_5) ?_
  exact zs_callV f190_49 (Nat.le_of_ble_eq_true rfl) (Nat.le_of_ble_eq_true rfl) rfl g0 g1 me_182 (by decide) rfl
theorem b190_52 {h : zi_Hp} {a0 : Nat} {x1 : Int32} (g0 : a0 < zh_n h) (g1 : (zh_k h a0).1 = 8) : zv 4 190 52 [.ref a0, .int x1] [] h = if (zh_i h a0 13) = 0 then zv 4 190 59 [.ref a0, .int x1] [] h else zv 4 190 18 [.ref a0, .int x1] [] h := by
  refine Eq.trans (zv_next f190_52 rfl) ?_
  refine Eq.trans (zs_geti f190_53 g0 g1) ?_
  exact zs_if f190_56 rfl
theorem b190_59 {h : zi_Hp} {a0 : Nat} {x1 : Int32} (g0 : a0 < zh_n h) (g1 : (zh_k h a0).1 = 8) (g2 : zh_r h a0 17 = .ref (zq (zh_r h a0 17))) (g3 : (zq (zh_r h a0 17)) < zh_n h) (g4 : ¬ ((2 * (zh_i h a0 18)) < 0 ∨ (zh_k h (zq (zh_r h a0 17))).2 ≤ (2 * (zh_i h a0 18)).toNatClampNeg)) (g5 : (zh_k h (zq (zh_r h a0 17))).1 = 100) : zv 4 190 59 [.ref a0, .int x1] [] h = zv 4 190 77 [.ref a0, .int x1] [.ref a0, .int 2, .ref (zq (zh_r h a0 17))] (zh_wi h (zq (zh_r h a0 17)) (2 * (zh_i h a0 18)).toNatClampNeg x1) := by
  refine Eq.trans (zv_next f190_59 rfl) ?_
  refine Eq.trans (zs_getr f190_60 g0 g1 g2) ?_
  refine Eq.trans (zs_ic f190_63 ic_2) ?_
  refine Eq.trans (zv_next f190_64 rfl) ?_
  refine Eq.trans (zs_geti f190_65 g0 g1) ?_
  refine Eq.trans (zv_next f190_68 rfl) ?_
  refine Eq.trans (zv_next f190_69 rfl) ?_
  refine Eq.trans (zs_iast f190_70 g3 g5 g4) ?_
  refine Eq.trans (zv_next f190_71 rfl) ?_
  refine Eq.trans (zs_getr f190_72 g0 g1 g2) ?_
  refine Eq.trans (zs_ic f190_75 ic_2) ?_
  refine Eq.trans (zv_next f190_76 rfl) ?_
  rfl
theorem b190_77 {h : zi_Hp} {a0 : Nat} {x1 : Int32} {t0 : Nat} {s1 : Int32} {t2 : Nat} (g0 : t2 < zh_n h) (g1 : (zh_k h t2).1 = 8) (g2 : a0 < zh_n h) (g3 : (zh_k h a0).1 = 8) : zv 4 190 77 [.ref a0, .int x1] [.ref t2, .int s1, .ref t0] h = (zv 3 187 0 [.ref a0, .int 0, .int 99, .double 0] [] h).bind fun r => zv 4 190 90 [.ref a0, .int x1] (r.1.toList ++ [.int ((s1 * (zh_i h t2 18)) + 1), .ref t0]) r.2 := by
  refine Eq.trans (zs_geti f190_77 g0 g1) ?_
  refine Eq.trans (zv_next f190_80 rfl) ?_
  refine Eq.trans (zs_ic f190_81 ic_1) ?_
  refine Eq.trans (zv_next f190_82 rfl) ?_
  refine Eq.trans (zv_next f190_83 rfl) ?_
  refine Eq.trans (zs_ic f190_84 ic_0) ?_
  refine Eq.trans (zs_bp f190_85 bp_99) ?_
  exact zs_callV f190_87 (Nat.le_of_ble_eq_true rfl) (Nat.le_of_ble_eq_true rfl) rfl g2 g3 me_187 (by decide) rfl
theorem b190_90 {h : zi_Hp} {a0 : Nat} {x1 : Int32} {t0 : Nat} {s1 : Int32} {s2 : Int32} (g0 : t0 < zh_n h) (g1 : ¬ (s1 < 0 ∨ (zh_k h t0).2 ≤ s1.toNatClampNeg)) (g2 : (zh_k h t0).1 = 100) : zv 4 190 90 [.ref a0, .int x1] [.int s2, .int s1, .ref t0] h = zv 4 190 93 [.ref a0, .int x1] [.ref a0, .ref a0] (zh_wi h t0 s1.toNatClampNeg s2) := by
  refine Eq.trans (zs_iast f190_90 g0 g2 g1) ?_
  refine Eq.trans (zv_next f190_91 rfl) ?_
  refine Eq.trans (zv_next f190_92 rfl) ?_
  rfl
theorem b190_93 {h : zi_Hp} {a0 : Nat} {x1 : Int32} {t0 : Nat} {t1 : Nat} (g0 : t1 < zh_n h) (g1 : (zh_k h t1).1 = 8) (g2 : t0 < zh_n h) (g3 : (zh_k h t0).1 = 8) : zv 4 190 93 [.ref a0, .int x1] [.ref t1, .ref t0] h = zv 4 190 18 [.ref a0, .int x1] [] (zh_wi h t0 18 ((zh_i h t1 18) + 1)) := by
  refine Eq.trans (zs_geti f190_93 g0 g1) ?_
  refine Eq.trans (zs_ic f190_96 ic_1) ?_
  refine Eq.trans (zv_next f190_97 rfl) ?_
  refine Eq.trans (zs_put f190_98 g2 g3 rfl) ?_
  refine Eq.trans (zs_goto (tgt := 18) f190_101 rfl) ?_
  rfl
theorem b190_104 {h : zi_Hp} {a0 : Nat} {x1 : Int32}  : zv 4 190 104 [.ref a0, .int x1] [] h = some (none, h) := by
  exact zv_ret f190_104 rfl
set_option maxRecDepth 20000 in
theorem zq191 : zi_M[191]? = some zi_m191 := rfl
theorem zl191_0 {pc : Nat} (_ : 0 ≤ pc) : zi_fe 191 pc = zu191_0.lookup pc := zi_feA zq191 pc
theorem f191_0 : zi_fe 191 0 = some ((.aload_n 0), 1, 0, 0, 0, 0, 0) := (zl191_0 (Nat.le_of_ble_eq_true rfl)).trans rfl
theorem f191_1 : zi_fe 191 1 = some ((.getfield 222), 3, 8, 11, 0, 1076, 0) := (zl191_0 (Nat.le_of_ble_eq_true rfl)).trans rfl
theorem f191_4 : zi_fe 191 4 = some ((.iconst 1), 1, 0, 0, 0, 0, 0) := (zl191_0 (Nat.le_of_ble_eq_true rfl)).trans rfl
theorem f191_5 : zi_fe 191 5 = some ((.if_icmp .ne 10), 3, 0, 0, 0, 0, 0) := (zl191_0 (Nat.le_of_ble_eq_true rfl)).trans rfl
theorem f191_8 : zi_fe 191 8 = some ((.aload_n 0), 1, 0, 0, 0, 0, 0) := (zl191_0 (Nat.le_of_ble_eq_true rfl)).trans rfl
theorem f191_9 : zi_fe 191 9 = some ((.invokevirtual 257), 3, 185, 0, 8, 1220, 1) := (zl191_0 (Nat.le_of_ble_eq_true rfl)).trans rfl
theorem f191_12 : zi_fe 191 12 = some ((.goto 5), 3, 0, 0, 0, 0, 0) := (zl191_0 (Nat.le_of_ble_eq_true rfl)).trans rfl
theorem f191_15 : zi_fe 191 15 = some ((.bipush (-4)), 2, 0, 0, 0, 0, 0) := (zl191_0 (Nat.le_of_ble_eq_true rfl)).trans rfl
theorem f191_17 : zi_fe 191 17 = some ((.istore_n 1), 1, 0, 0, 0, 0, 0) := (zl191_0 (Nat.le_of_ble_eq_true rfl)).trans rfl
theorem f191_18 : zi_fe 191 18 = some ((.aload_n 0), 1, 0, 0, 0, 0, 0) := (zl191_0 (Nat.le_of_ble_eq_true rfl)).trans rfl
theorem f191_19 : zi_fe 191 19 = some ((.iload_n 1), 1, 0, 0, 0, 0, 0) := (zl191_0 (Nat.le_of_ble_eq_true rfl)).trans rfl
theorem f191_20 : zi_fe 191 20 = some ((.bipush (-4)), 2, 0, 0, 0, 0, 0) := (zl191_0 (Nat.le_of_ble_eq_true rfl)).trans rfl
theorem zl191_1 {pc : Nat} (h : 22 ≤ pc) : zi_fe 191 pc = zu191_1.lookup pc := (zl191_0 (Nat.le_trans (Nat.le_of_ble_eq_true rfl) h)).trans (zi_lkA (a := zi_i191_0) (c := 22) rfl h)
theorem f191_22 : zi_fe 191 22 = some ((.if_icmp .eq 7), 3, 0, 0, 0, 0, 0) := (zl191_1 (Nat.le_of_ble_eq_true rfl)).trans rfl
theorem f191_25 : zi_fe 191 25 = some ((.iconst 1), 1, 0, 0, 0, 0, 0) := (zl191_1 (Nat.le_of_ble_eq_true rfl)).trans rfl
theorem f191_26 : zi_fe 191 26 = some ((.goto 4), 3, 0, 0, 0, 0, 0) := (zl191_1 (Nat.le_of_ble_eq_true rfl)).trans rfl
theorem f191_29 : zi_fe 191 29 = some ((.iconst 0), 1, 0, 0, 0, 0, 0) := (zl191_1 (Nat.le_of_ble_eq_true rfl)).trans rfl
theorem f191_30 : zi_fe 191 30 = some ((.iconst 2), 1, 0, 0, 0, 0, 0) := (zl191_1 (Nat.le_of_ble_eq_true rfl)).trans rfl
theorem f191_31 : zi_fe 191 31 = some ((.invokevirtual 236), 3, 182, 0, 8, 1212, 3) := (zl191_1 (Nat.le_of_ble_eq_true rfl)).trans rfl
theorem f191_34 : zi_fe 191 34 = some ((.aload_n 0), 1, 0, 0, 0, 0, 0) := (zl191_1 (Nat.le_of_ble_eq_true rfl)).trans rfl
theorem f191_35 : zi_fe 191 35 = some ((.iload_n 1), 1, 0, 0, 0, 0, 0) := (zl191_1 (Nat.le_of_ble_eq_true rfl)).trans rfl
theorem f191_36 : zi_fe 191 36 = some ((.ifCond .ne 10), 3, 0, 0, 0, 0, 0) := (zl191_1 (Nat.le_of_ble_eq_true rfl)).trans rfl
theorem f191_39 : zi_fe 191 39 = some ((.aload_n 0), 1, 0, 0, 0, 0, 0) := (zl191_1 (Nat.le_of_ble_eq_true rfl)).trans rfl
theorem f191_40 : zi_fe 191 40 = some ((.getfield 261), 3, 8, 15, 1, 1080, 0) := (zl191_1 (Nat.le_of_ble_eq_true rfl)).trans rfl
theorem f191_43 : zi_fe 191 43 = some ((.ifCond .ne 7), 3, 0, 0, 0, 0, 0) := (zl191_1 (Nat.le_of_ble_eq_true rfl)).trans rfl
theorem zl191_2 {pc : Nat} (h : 46 ≤ pc) : zi_fe 191 pc = zu191_2.lookup pc := (zl191_1 (Nat.le_trans (Nat.le_of_ble_eq_true rfl) h)).trans (zi_lkA (a := zi_i191_1) (c := 46) rfl h)
theorem f191_46 : zi_fe 191 46 = some ((.iconst 1), 1, 0, 0, 0, 0, 0) := (zl191_2 (Nat.le_of_ble_eq_true rfl)).trans rfl
theorem f191_47 : zi_fe 191 47 = some ((.goto 4), 3, 0, 0, 0, 0, 0) := (zl191_2 (Nat.le_of_ble_eq_true rfl)).trans rfl
theorem f191_50 : zi_fe 191 50 = some ((.iconst 0), 1, 0, 0, 0, 0, 0) := (zl191_2 (Nat.le_of_ble_eq_true rfl)).trans rfl
theorem f191_51 : zi_fe 191 51 = some ((.iconst 4), 1, 0, 0, 0, 0, 0) := (zl191_2 (Nat.le_of_ble_eq_true rfl)).trans rfl
theorem f191_52 : zi_fe 191 52 = some ((.invokevirtual 236), 3, 182, 0, 8, 1212, 3) := (zl191_2 (Nat.le_of_ble_eq_true rfl)).trans rfl
theorem f191_55 : zi_fe 191 55 = some ((.aload_n 0), 1, 0, 0, 0, 0, 0) := (zl191_2 (Nat.le_of_ble_eq_true rfl)).trans rfl
theorem f191_56 : zi_fe 191 56 = some ((.aload_n 0), 1, 0, 0, 0, 0, 0) := (zl191_2 (Nat.le_of_ble_eq_true rfl)).trans rfl
theorem f191_57 : zi_fe 191 57 = some ((.getfield 261), 3, 8, 15, 1, 1080, 0) := (zl191_2 (Nat.le_of_ble_eq_true rfl)).trans rfl
theorem f191_60 : zi_fe 191 60 = some ((.ifCond .ne 7), 3, 0, 0, 0, 0, 0) := (zl191_2 (Nat.le_of_ble_eq_true rfl)).trans rfl
theorem f191_63 : zi_fe 191 63 = some ((.iload_n 1), 1, 0, 0, 0, 0, 0) := (zl191_2 (Nat.le_of_ble_eq_true rfl)).trans rfl
theorem f191_64 : zi_fe 191 64 = some ((.ifCond .ne 7), 3, 0, 0, 0, 0, 0) := (zl191_2 (Nat.le_of_ble_eq_true rfl)).trans rfl
theorem f191_67 : zi_fe 191 67 = some ((.iconst 1), 1, 0, 0, 0, 0, 0) := (zl191_2 (Nat.le_of_ble_eq_true rfl)).trans rfl
theorem zl191_3 {pc : Nat} (h : 68 ≤ pc) : zi_fe 191 pc = zu191_3.lookup pc := (zl191_2 (Nat.le_trans (Nat.le_of_ble_eq_true rfl) h)).trans (zi_lkA (a := zi_i191_2) (c := 68) rfl h)
theorem f191_68 : zi_fe 191 68 = some ((.goto 4), 3, 0, 0, 0, 0, 0) := (zl191_3 (Nat.le_of_ble_eq_true rfl)).trans rfl
theorem f191_71 : zi_fe 191 71 = some ((.iconst 0), 1, 0, 0, 0, 0, 0) := (zl191_3 (Nat.le_of_ble_eq_true rfl)).trans rfl
theorem f191_72 : zi_fe 191 72 = some ((.putfield 261), 3, 8, 15, 1, 1080, 0) := (zl191_3 (Nat.le_of_ble_eq_true rfl)).trans rfl
theorem f191_75 : zi_fe 191 75 = some ((.aload_n 0), 1, 0, 0, 0, 0, 0) := (zl191_3 (Nat.le_of_ble_eq_true rfl)).trans rfl
theorem f191_76 : zi_fe 191 76 = some ((.invokevirtual 240), 3, 186, 0, 8, 1200, 1) := (zl191_3 (Nat.le_of_ble_eq_true rfl)).trans rfl
theorem f191_79 : zi_fe 191 79 = some ((.aload_n 0), 1, 0, 0, 0, 0, 0) := (zl191_3 (Nat.le_of_ble_eq_true rfl)).trans rfl
theorem f191_80 : zi_fe 191 80 = some ((.getfield 203), 3, 8, 13, 0, 1078, 0) := (zl191_3 (Nat.le_of_ble_eq_true rfl)).trans rfl
theorem f191_83 : zi_fe 191 83 = some ((.ifCond .le 4), 3, 0, 0, 0, 0, 0) := (zl191_3 (Nat.le_of_ble_eq_true rfl)).trans rfl
theorem f191_86 : zi_fe 191 86 = some (.return_, 1, 0, 0, 0, 0, 0) := (zl191_3 (Nat.le_of_ble_eq_true rfl)).trans rfl
theorem f191_87 : zi_fe 191 87 = some ((.iload_n 1), 1, 0, 0, 0, 0, 0) := (zl191_3 (Nat.le_of_ble_eq_true rfl)).trans rfl
theorem f191_88 : zi_fe 191 88 = some ((.ifCond .ne 16), 3, 0, 0, 0, 0, 0) := (zl191_3 (Nat.le_of_ble_eq_true rfl)).trans rfl
theorem f191_91 : zi_fe 191 91 = some ((.aload_n 0), 1, 0, 0, 0, 0, 0) := (zl191_3 (Nat.le_of_ble_eq_true rfl)).trans rfl
theorem zl191_4 {pc : Nat} (h : 92 ≤ pc) : zi_fe 191 pc = zu191_4.lookup pc := (zl191_3 (Nat.le_trans (Nat.le_of_ble_eq_true rfl) h)).trans (zi_lkA (a := zi_i191_3) (c := 92) rfl h)
theorem f191_92 : zi_fe 191 92 = some ((.aload_n 0), 1, 0, 0, 0, 0, 0) := (zl191_4 (Nat.le_of_ble_eq_true rfl)).trans rfl
theorem f191_93 : zi_fe 191 93 = some ((.iconst 2), 1, 0, 0, 0, 0, 0) := (zl191_4 (Nat.le_of_ble_eq_true rfl)).trans rfl
theorem f191_94 : zi_fe 191 94 = some ((.iconst 4), 1, 0, 0, 0, 0, 0) := (zl191_4 (Nat.le_of_ble_eq_true rfl)).trans rfl
theorem f191_95 : zi_fe 191 95 = some ((.invokevirtual 251), 3, 187, 0, 8, 1228, 3) := (zl191_4 (Nat.le_of_ble_eq_true rfl)).trans rfl
theorem f191_98 : zi_fe 191 98 = some ((.putfield 265), 3, 8, 16, 0, 1081, 0) := (zl191_4 (Nat.le_of_ble_eq_true rfl)).trans rfl
theorem f191_101 : zi_fe 191 101 = some ((.goto 20), 3, 0, 0, 0, 0, 0) := (zl191_4 (Nat.le_of_ble_eq_true rfl)).trans rfl
theorem f191_104 : zi_fe 191 104 = some ((.iload_n 1), 1, 0, 0, 0, 0, 0) := (zl191_4 (Nat.le_of_ble_eq_true rfl)).trans rfl
theorem f191_105 : zi_fe 191 105 = some ((.iconst 3), 1, 0, 0, 0, 0, 0) := (zl191_4 (Nat.le_of_ble_eq_true rfl)).trans rfl
theorem f191_106 : zi_fe 191 106 = some ((.if_icmp .ne 10), 3, 0, 0, 0, 0, 0) := (zl191_4 (Nat.le_of_ble_eq_true rfl)).trans rfl
theorem f191_109 : zi_fe 191 109 = some ((.aload_n 0), 1, 0, 0, 0, 0, 0) := (zl191_4 (Nat.le_of_ble_eq_true rfl)).trans rfl
theorem f191_110 : zi_fe 191 110 = some ((.invokevirtual 268), 3, 189, 0, 8, 1232, 1) := (zl191_4 (Nat.le_of_ble_eq_true rfl)).trans rfl
theorem f191_113 : zi_fe 191 113 = some ((.goto 8), 3, 0, 0, 0, 0, 0) := (zl191_4 (Nat.le_of_ble_eq_true rfl)).trans rfl
theorem zl191_5 {pc : Nat} (h : 116 ≤ pc) : zi_fe 191 pc = zu191_5.lookup pc := (zl191_4 (Nat.le_trans (Nat.le_of_ble_eq_true rfl) h)).trans (zi_lkA (a := zi_i191_4) (c := 116) rfl h)
theorem f191_116 : zi_fe 191 116 = some ((.aload_n 0), 1, 0, 0, 0, 0, 0) := (zl191_5 (Nat.le_of_ble_eq_true rfl)).trans rfl
theorem f191_117 : zi_fe 191 117 = some ((.iload_n 1), 1, 0, 0, 0, 0, 0) := (zl191_5 (Nat.le_of_ble_eq_true rfl)).trans rfl
theorem f191_118 : zi_fe 191 118 = some ((.invokevirtual 271), 3, 190, 0, 8, 1241, 2) := (zl191_5 (Nat.le_of_ble_eq_true rfl)).trans rfl
theorem f191_121 : zi_fe 191 121 = some ((.aload_n 0), 1, 0, 0, 0, 0, 0) := (zl191_5 (Nat.le_of_ble_eq_true rfl)).trans rfl
theorem f191_122 : zi_fe 191 122 = some ((.getfield 203), 3, 8, 13, 0, 1078, 0) := (zl191_5 (Nat.le_of_ble_eq_true rfl)).trans rfl
theorem f191_125 : zi_fe 191 125 = some ((.ifCond .ne 21), 3, 0, 0, 0, 0, 0) := (zl191_5 (Nat.le_of_ble_eq_true rfl)).trans rfl
theorem f191_128 : zi_fe 191 128 = some ((.aload_n 0), 1, 0, 0, 0, 0, 0) := (zl191_5 (Nat.le_of_ble_eq_true rfl)).trans rfl
theorem f191_129 : zi_fe 191 129 = some ((.aload_n 0), 1, 0, 0, 0, 0, 0) := (zl191_5 (Nat.le_of_ble_eq_true rfl)).trans rfl
theorem f191_130 : zi_fe 191 130 = some ((.getfield 222), 3, 8, 11, 0, 1076, 0) := (zl191_5 (Nat.le_of_ble_eq_true rfl)).trans rfl
theorem f191_133 : zi_fe 191 133 = some ((.iconst 3), 1, 0, 0, 0, 0, 0) := (zl191_5 (Nat.le_of_ble_eq_true rfl)).trans rfl
theorem f191_134 : zi_fe 191 134 = some ((.if_icmp .ne 7), 3, 0, 0, 0, 0, 0) := (zl191_5 (Nat.le_of_ble_eq_true rfl)).trans rfl
theorem f191_137 : zi_fe 191 137 = some ((.iconst 1), 1, 0, 0, 0, 0, 0) := (zl191_5 (Nat.le_of_ble_eq_true rfl)).trans rfl
theorem zl191_6 {pc : Nat} (h : 138 ≤ pc) : zi_fe 191 pc = zu191_6.lookup pc := (zl191_5 (Nat.le_trans (Nat.le_of_ble_eq_true rfl) h)).trans (zi_lkA (a := zi_i191_5) (c := 138) rfl h)
theorem f191_138 : zi_fe 191 138 = some ((.goto 4), 3, 0, 0, 0, 0, 0) := (zl191_6 (Nat.le_of_ble_eq_true rfl)).trans rfl
theorem f191_141 : zi_fe 191 141 = some ((.iconst 0), 1, 0, 0, 0, 0, 0) := (zl191_6 (Nat.le_of_ble_eq_true rfl)).trans rfl
theorem f191_142 : zi_fe 191 142 = some ((.iconst 2), 1, 0, 0, 0, 0, 0) := (zl191_6 (Nat.le_of_ble_eq_true rfl)).trans rfl
theorem f191_143 : zi_fe 191 143 = some ((.invokevirtual 236), 3, 182, 0, 8, 1212, 3) := (zl191_6 (Nat.le_of_ble_eq_true rfl)).trans rfl
theorem f191_146 : zi_fe 191 146 = some ((.aload_n 0), 1, 0, 0, 0, 0, 0) := (zl191_6 (Nat.le_of_ble_eq_true rfl)).trans rfl
theorem f191_147 : zi_fe 191 147 = some ((.invokevirtual 240), 3, 186, 0, 8, 1200, 1) := (zl191_6 (Nat.le_of_ble_eq_true rfl)).trans rfl
theorem f191_150 : zi_fe 191 150 = some (.return_, 1, 0, 0, 0, 0, 0) := (zl191_6 (Nat.le_of_ble_eq_true rfl)).trans rfl
theorem b191_0 {h : zi_Hp} {a0 : Nat} {u1 : Value} (g0 : a0 < zh_n h) (g1 : (zh_k h a0).1 = 8) : zv 5 191 0 [.ref a0, u1] [] h = if (zh_i h a0 11) = 1 then zv 5 191 8 [.ref a0, u1] [] h else zv 5 191 15 [.ref a0, u1] [] h := by
  refine Eq.trans (zv_next f191_0 rfl) ?_
  refine Eq.trans (zs_geti f191_1 g0 g1) ?_
  refine Eq.trans (zs_ic f191_4 ic_1) ?_
  exact zs_icmp f191_5 rfl
theorem b191_8 {h : zi_Hp} {a0 : Nat} {u1 : Value} (g0 : a0 < zh_n h) (g1 : (zh_k h a0).1 = 8) : zv 5 191 8 [.ref a0, u1] [] h = (zv 3 185 0 [.ref a0] [] h).bind fun r => zv 5 191 12 [.ref a0, u1] (r.1.toList ++ []) r.2 := by
  refine Eq.trans (zv_next f191_8 rfl) ?_
  exact zs_callV f191_9 (Nat.le_of_ble_eq_true rfl) (Nat.le_of_ble_eq_true rfl) rfl g0 g1 me_185 (by decide) rfl
theorem b191_12 {h : zi_Hp} {a0 : Nat} {u1 : Value} {s0 : Int32}  : zv 5 191 12 [.ref a0, u1] [.int s0] h = zv 5 191 17 [.ref a0, u1] [.int s0] h := by
  refine Eq.trans (zs_goto (tgt := 17) f191_12 rfl) ?_
  rfl
theorem b191_15 {h : zi_Hp} {a0 : Nat} {u1 : Value}  : zv 5 191 15 [.ref a0, u1] [] h = zv 5 191 17 [.ref a0, u1] [.int (-4)] h := by
  refine Eq.trans (zs_bp f191_15 bp_m4) ?_
  rfl
theorem b191_17 {h : zi_Hp} {a0 : Nat} {u1 : Value} {s0 : Int32}  : zv 5 191 17 [.ref a0, u1] [.int s0] h = if s0 = (-4) then zv 5 191 29 [.ref a0, .int s0] [.ref a0] h else zv 5 191 25 [.ref a0, .int s0] [.ref a0] h := by
  refine Eq.trans (zv_next f191_17 rfl) ?_
  refine Eq.trans (zv_next f191_18 rfl) ?_
  refine Eq.trans (zv_next f191_19 rfl) ?_
  refine Eq.trans (zs_bp f191_20 bp_m4) ?_
  exact zs_icmp f191_22 rfl
theorem b191_25 {h : zi_Hp} {a0 : Nat} {x1 : Int32} {t0 : Nat}  : zv 5 191 25 [.ref a0, .int x1] [.ref t0] h = zv 5 191 30 [.ref a0, .int x1] [.int 1, .ref t0] h := by
  refine Eq.trans (zs_ic f191_25 ic_1) ?_
  refine Eq.trans (zs_goto (tgt := 30) f191_26 rfl) ?_
  rfl
theorem b191_29 {h : zi_Hp} {a0 : Nat} {x1 : Int32} {t0 : Nat}  : zv 5 191 29 [.ref a0, .int x1] [.ref t0] h = zv 5 191 30 [.ref a0, .int x1] [.int 0, .ref t0] h := by
  refine Eq.trans (zs_ic f191_29 ic_0) ?_
  rfl
theorem b191_30 {h : zi_Hp} {a0 : Nat} {x1 : Int32} {t0 : Nat} {s1 : Int32} (g0 : t0 < zh_n h) (g1 : (zh_k h t0).1 = 8) : zv 5 191 30 [.ref a0, .int x1] [.int s1, .ref t0] h = (zv 1 182 0 [.ref t0, .int s1, .int 2] [] h).bind fun r => zv 5 191 34 [.ref a0, .int x1] (r.1.toList ++ []) r.2 := by
  refine Eq.trans (zs_ic f191_30 ic_2) ?_
  exact zs_callV f191_31 (Nat.le_of_ble_eq_true rfl) (Nat.le_of_ble_eq_true rfl) rfl g0 g1 me_182 (by decide) rfl
theorem b191_34 {h : zi_Hp} {a0 : Nat} {x1 : Int32}  : zv 5 191 34 [.ref a0, .int x1] [] h = if x1 = 0 then zv 5 191 39 [.ref a0, .int x1] [.ref a0] h else zv 5 191 46 [.ref a0, .int x1] [.ref a0] h := by
  refine Eq.trans (zv_next f191_34 rfl) ?_
  refine Eq.trans (zv_next f191_35 rfl) ?_
  exact zs_if f191_36 rfl
theorem b191_39 {h : zi_Hp} {a0 : Nat} {x1 : Int32} {t0 : Nat} (g0 : a0 < zh_n h) (g1 : (zh_k h a0).1 = 8) : zv 5 191 39 [.ref a0, .int x1] [.ref t0] h = if (zi_bI (zh_b h a0 15)) = 0 then zv 5 191 46 [.ref a0, .int x1] [.ref t0] h else zv 5 191 50 [.ref a0, .int x1] [.ref t0] h := by
  refine Eq.trans (zv_next f191_39 rfl) ?_
  refine Eq.trans (zs_getb f191_40 g0 g1) ?_
  exact zs_if f191_43 rfl
theorem b191_46 {h : zi_Hp} {a0 : Nat} {x1 : Int32} {t0 : Nat}  : zv 5 191 46 [.ref a0, .int x1] [.ref t0] h = zv 5 191 51 [.ref a0, .int x1] [.int 1, .ref t0] h := by
  refine Eq.trans (zs_ic f191_46 ic_1) ?_
  refine Eq.trans (zs_goto (tgt := 51) f191_47 rfl) ?_
  rfl
theorem b191_50 {h : zi_Hp} {a0 : Nat} {x1 : Int32} {t0 : Nat}  : zv 5 191 50 [.ref a0, .int x1] [.ref t0] h = zv 5 191 51 [.ref a0, .int x1] [.int 0, .ref t0] h := by
  refine Eq.trans (zs_ic f191_50 ic_0) ?_
  rfl
theorem b191_51 {h : zi_Hp} {a0 : Nat} {x1 : Int32} {t0 : Nat} {s1 : Int32} (g0 : t0 < zh_n h) (g1 : (zh_k h t0).1 = 8) : zv 5 191 51 [.ref a0, .int x1] [.int s1, .ref t0] h = (zv 1 182 0 [.ref t0, .int s1, .int 4] [] h).bind fun r => zv 5 191 55 [.ref a0, .int x1] (r.1.toList ++ []) r.2 := by
  refine Eq.trans (zs_ic f191_51 ic_4) ?_
  exact zs_callV f191_52 (Nat.le_of_ble_eq_true rfl) (Nat.le_of_ble_eq_true rfl) rfl g0 g1 me_182 (by decide) rfl
theorem b191_55 {h : zi_Hp} {a0 : Nat} {x1 : Int32} (g0 : a0 < zh_n h) (g1 : (zh_k h a0).1 = 8) : zv 5 191 55 [.ref a0, .int x1] [] h = if (zi_bI (zh_b h a0 15)) = 0 then zv 5 191 63 [.ref a0, .int x1] [.ref a0] h else zv 5 191 67 [.ref a0, .int x1] [.ref a0] h := by
  refine Eq.trans (zv_next f191_55 rfl) ?_
  refine Eq.trans (zv_next f191_56 rfl) ?_
  refine Eq.trans (zs_getb f191_57 g0 g1) ?_
  exact zs_if f191_60 rfl
theorem b191_63 {h : zi_Hp} {a0 : Nat} {x1 : Int32} {t0 : Nat}  : zv 5 191 63 [.ref a0, .int x1] [.ref t0] h = if x1 = 0 then zv 5 191 67 [.ref a0, .int x1] [.ref t0] h else zv 5 191 71 [.ref a0, .int x1] [.ref t0] h := by
  refine Eq.trans (zv_next f191_63 rfl) ?_
  exact zs_if f191_64 rfl
theorem b191_67 {h : zi_Hp} {a0 : Nat} {x1 : Int32} {t0 : Nat}  : zv 5 191 67 [.ref a0, .int x1] [.ref t0] h = zv 5 191 72 [.ref a0, .int x1] [.int 1, .ref t0] h := by
  refine Eq.trans (zs_ic f191_67 ic_1) ?_
  refine Eq.trans (zs_goto (tgt := 72) f191_68 rfl) ?_
  rfl
theorem b191_71 {h : zi_Hp} {a0 : Nat} {x1 : Int32} {t0 : Nat}  : zv 5 191 71 [.ref a0, .int x1] [.ref t0] h = zv 5 191 72 [.ref a0, .int x1] [.int 0, .ref t0] h := by
  refine Eq.trans (zs_ic f191_71 ic_0) ?_
  rfl
theorem b191_72 {h : zi_Hp} {a0 : Nat} {x1 : Int32} {t0 : Nat} {s1 : Int32} (g0 : t0 < zh_n h) (g1 : (zh_k h t0).1 = 8) (g2 : s1 = 0 ∨ s1 = 1) (g3 : a0 < zh_n h) (g4 : (zh_k h a0).1 = 8) : zv 5 191 72 [.ref a0, .int x1] [.int s1, .ref t0] h = (zv 2 186 0 [.ref a0, .double 0] [] (zh_wb h t0 15 (decide (s1 = 1)))).bind fun r => zv 5 191 79 [.ref a0, .int x1] (r.1.toList ++ []) r.2 := by
  refine Eq.trans (zs_put f191_72 g0 g1 (zw_d _ _ g2)) ?_
  refine Eq.trans (zv_next f191_75 rfl) ?_
  exact zs_callV f191_76 (Nat.le_of_ble_eq_true rfl) (Nat.le_of_ble_eq_true rfl) rfl g3 g4 me_186 (by decide) rfl
theorem b191_79 {h : zi_Hp} {a0 : Nat} {x1 : Int32} (g0 : a0 < zh_n h) (g1 : (zh_k h a0).1 = 8) : zv 5 191 79 [.ref a0, .int x1] [] h = if 0 < (zh_i h a0 13) then zv 5 191 86 [.ref a0, .int x1] [] h else zv 5 191 87 [.ref a0, .int x1] [] h := by
  refine Eq.trans (zv_next f191_79 rfl) ?_
  refine Eq.trans (zs_geti f191_80 g0 g1) ?_
  exact zs_if f191_83 rfl
theorem b191_86 {h : zi_Hp} {a0 : Nat} {x1 : Int32}  : zv 5 191 86 [.ref a0, .int x1] [] h = some (none, h) := by
  exact zv_ret f191_86 rfl
theorem b191_87 {h : zi_Hp} {a0 : Nat} {x1 : Int32}  : zv 5 191 87 [.ref a0, .int x1] [] h = if x1 = 0 then zv 5 191 91 [.ref a0, .int x1] [] h else zv 5 191 104 [.ref a0, .int x1] [] h := by
  refine Eq.trans (zv_next f191_87 rfl) ?_
  exact zs_if f191_88 rfl
theorem b191_91 {h : zi_Hp} {a0 : Nat} {x1 : Int32} (g0 : a0 < zh_n h) (g1 : (zh_k h a0).1 = 8) : zv 5 191 91 [.ref a0, .int x1] [] h = (zv 3 187 0 [.ref a0, .int 2, .int 4, .double 0] [] h).bind fun r => zv 5 191 98 [.ref a0, .int x1] (r.1.toList ++ [.ref a0]) r.2 := by
  refine Eq.trans (zv_next f191_91 rfl) ?_
  refine Eq.trans (zv_next f191_92 rfl) ?_
  refine Eq.trans (zs_ic f191_93 ic_2) ?_
  refine Eq.trans (zs_ic f191_94 ic_4) ?_
  exact zs_callV f191_95 (Nat.le_of_ble_eq_true rfl) (Nat.le_of_ble_eq_true rfl) rfl g0 g1 me_187 (by decide) rfl
theorem b191_98 {h : zi_Hp} {a0 : Nat} {x1 : Int32} {t0 : Nat} {s1 : Int32} (g0 : t0 < zh_n h) (g1 : (zh_k h t0).1 = 8) : zv 5 191 98 [.ref a0, .int x1] [.int s1, .ref t0] h = zv 5 191 121 [.ref a0, .int x1] [] (zh_wi h t0 16 s1) := by
  refine Eq.trans (zs_put f191_98 g0 g1 rfl) ?_
  refine Eq.trans (zs_goto (tgt := 121) f191_101 rfl) ?_
  rfl
theorem b191_104 {h : zi_Hp} {a0 : Nat} {x1 : Int32}  : zv 5 191 104 [.ref a0, .int x1] [] h = if x1 = 3 then zv 5 191 109 [.ref a0, .int x1] [] h else zv 5 191 116 [.ref a0, .int x1] [] h := by
  refine Eq.trans (zv_next f191_104 rfl) ?_
  refine Eq.trans (zs_ic f191_105 ic_3) ?_
  exact zs_icmp f191_106 rfl
theorem b191_109 {h : zi_Hp} {a0 : Nat} {x1 : Int32} (g0 : a0 < zh_n h) (g1 : (zh_k h a0).1 = 8) : zv 5 191 109 [.ref a0, .int x1] [] h = (zv 4 189 0 [.ref a0, .double 0, .double 0] [] h).bind fun r => zv 5 191 113 [.ref a0, .int x1] (r.1.toList ++ []) r.2 := by
  refine Eq.trans (zv_next f191_109 rfl) ?_
  exact zs_callV f191_110 (Nat.le_of_ble_eq_true rfl) (Nat.le_of_ble_eq_true rfl) rfl g0 g1 me_189 (by decide) rfl
theorem b191_113 {h : zi_Hp} {a0 : Nat} {x1 : Int32}  : zv 5 191 113 [.ref a0, .int x1] [] h = zv 5 191 121 [.ref a0, .int x1] [] h := by
  refine Eq.trans (zs_goto (tgt := 121) f191_113 rfl) ?_
  rfl
theorem b191_116 {h : zi_Hp} {a0 : Nat} {x1 : Int32} (g0 : a0 < zh_n h) (g1 : (zh_k h a0).1 = 8) : zv 5 191 116 [.ref a0, .int x1] [] h = (zv 4 190 0 [.ref a0, .int x1] [] h).bind fun r => zv 5 191 121 [.ref a0, .int x1] (r.1.toList ++ []) r.2 := by
  refine Eq.trans (zv_next f191_116 rfl) ?_
  refine Eq.trans (zv_next f191_117 rfl) ?_
  exact zs_callV f191_118 (Nat.le_of_ble_eq_true rfl) (Nat.le_of_ble_eq_true rfl) rfl g0 g1 me_190 (by decide) rfl
theorem b191_121 {h : zi_Hp} {a0 : Nat} {x1 : Int32} (g0 : a0 < zh_n h) (g1 : (zh_k h a0).1 = 8) : zv 5 191 121 [.ref a0, .int x1] [] h = if (zh_i h a0 13) = 0 then zv 5 191 128 [.ref a0, .int x1] [] h else zv 5 191 146 [.ref a0, .int x1] [] h := by
  refine Eq.trans (zv_next f191_121 rfl) ?_
  refine Eq.trans (zs_geti f191_122 g0 g1) ?_
  exact zs_if f191_125 rfl
theorem b191_128 {h : zi_Hp} {a0 : Nat} {x1 : Int32} (g0 : a0 < zh_n h) (g1 : (zh_k h a0).1 = 8) : zv 5 191 128 [.ref a0, .int x1] [] h = if (zh_i h a0 11) = 3 then zv 5 191 137 [.ref a0, .int x1] [.ref a0] h else zv 5 191 141 [.ref a0, .int x1] [.ref a0] h := by
  refine Eq.trans (zv_next f191_128 rfl) ?_
  refine Eq.trans (zv_next f191_129 rfl) ?_
  refine Eq.trans (zs_geti f191_130 g0 g1) ?_
  refine Eq.trans (zs_ic f191_133 ic_3) ?_
  exact zs_icmp f191_134 rfl
theorem b191_137 {h : zi_Hp} {a0 : Nat} {x1 : Int32} {t0 : Nat}  : zv 5 191 137 [.ref a0, .int x1] [.ref t0] h = zv 5 191 142 [.ref a0, .int x1] [.int 1, .ref t0] h := by
  refine Eq.trans (zs_ic f191_137 ic_1) ?_
  refine Eq.trans (zs_goto (tgt := 142) f191_138 rfl) ?_
  rfl
theorem b191_141 {h : zi_Hp} {a0 : Nat} {x1 : Int32} {t0 : Nat}  : zv 5 191 141 [.ref a0, .int x1] [.ref t0] h = zv 5 191 142 [.ref a0, .int x1] [.int 0, .ref t0] h := by
  refine Eq.trans (zs_ic f191_141 ic_0) ?_
  rfl
theorem b191_142 {h : zi_Hp} {a0 : Nat} {x1 : Int32} {t0 : Nat} {s1 : Int32} (g0 : t0 < zh_n h) (g1 : (zh_k h t0).1 = 8) : zv 5 191 142 [.ref a0, .int x1] [.int s1, .ref t0] h = (zv 1 182 0 [.ref t0, .int s1, .int 2] [] h).bind fun r => zv 5 191 146 [.ref a0, .int x1] (r.1.toList ++ []) r.2 := by
  refine Eq.trans (zs_ic f191_142 ic_2) ?_
  exact zs_callV f191_143 (Nat.le_of_ble_eq_true rfl) (Nat.le_of_ble_eq_true rfl) rfl g0 g1 me_182 (by decide) rfl
theorem b191_146 {h : zi_Hp} {a0 : Nat} {x1 : Int32} (g0 : a0 < zh_n h) (g1 : (zh_k h a0).1 = 8) : zv 5 191 146 [.ref a0, .int x1] [] h = (zv 2 186 0 [.ref a0, .double 0] [] h).bind fun r => zv 5 191 150 [.ref a0, .int x1] (r.1.toList ++ []) r.2 := by
  refine Eq.trans (zv_next f191_146 rfl) ?_
  exact zs_callV f191_147 (Nat.le_of_ble_eq_true rfl) (Nat.le_of_ble_eq_true rfl) rfl g0 g1 me_186 (by decide) rfl
theorem b191_150 {h : zi_Hp} {a0 : Nat} {x1 : Int32}  : zv 5 191 150 [.ref a0, .int x1] [] h = some (none, h) := by
  exact zv_ret f191_150 rfl
set_option maxRecDepth 20000 in
theorem zq192 : zi_M[192]? = some zi_m192 := rfl
theorem zl192_0 {pc : Nat} (_ : 0 ≤ pc) : zi_fe 192 pc = zu192_0.lookup pc := zi_feA zq192 pc
theorem f192_0 : zi_fe 192 0 = some ((.iconst 0), 1, 0, 0, 0, 0, 0) := (zl192_0 (Nat.le_of_ble_eq_true rfl)).trans rfl
theorem f192_1 : zi_fe 192 1 = some ((.istore_n 1), 1, 0, 0, 0, 0, 0) := (zl192_0 (Nat.le_of_ble_eq_true rfl)).trans rfl
theorem f192_2 : zi_fe 192 2 = some ((.aload_n 0), 1, 0, 0, 0, 0, 0) := (zl192_0 (Nat.le_of_ble_eq_true rfl)).trans rfl
theorem f192_3 : zi_fe 192 3 = some ((.iconst 0), 1, 0, 0, 0, 0, 0) := (zl192_0 (Nat.le_of_ble_eq_true rfl)).trans rfl
theorem f192_4 : zi_fe 192 4 = some ((.putfield 203), 3, 8, 13, 0, 1078, 0) := (zl192_0 (Nat.le_of_ble_eq_true rfl)).trans rfl
theorem f192_7 : zi_fe 192 7 = some ((.aload_n 0), 1, 0, 0, 0, 0, 0) := (zl192_0 (Nat.le_of_ble_eq_true rfl)).trans rfl
theorem f192_8 : zi_fe 192 8 = some ((.iconst 0), 1, 0, 0, 0, 0, 0) := (zl192_0 (Nat.le_of_ble_eq_true rfl)).trans rfl
theorem f192_9 : zi_fe 192 9 = some ((.putfield 212), 3, 8, 9, 0, 1074, 0) := (zl192_0 (Nat.le_of_ble_eq_true rfl)).trans rfl
theorem f192_12 : zi_fe 192 12 = some ((.aload_n 0), 1, 0, 0, 0, 0, 0) := (zl192_0 (Nat.le_of_ble_eq_true rfl)).trans rfl
theorem f192_13 : zi_fe 192 13 = some ((.iconst 0), 1, 0, 0, 0, 0, 0) := (zl192_0 (Nat.le_of_ble_eq_true rfl)).trans rfl
theorem f192_14 : zi_fe 192 14 = some ((.putfield 261), 3, 8, 15, 1, 1080, 0) := (zl192_0 (Nat.le_of_ble_eq_true rfl)).trans rfl
theorem f192_17 : zi_fe 192 17 = some ((.aload_n 0), 1, 0, 0, 0, 0, 0) := (zl192_0 (Nat.le_of_ble_eq_true rfl)).trans rfl
theorem zl192_1 {pc : Nat} (h : 18 ≤ pc) : zi_fe 192 pc = zu192_1.lookup pc := (zl192_0 (Nat.le_trans (Nat.le_of_ble_eq_true rfl) h)).trans (zi_lkA (a := zi_i192_0) (c := 18) rfl h)
theorem f192_18 : zi_fe 192 18 = some ((.iconst 3), 1, 0, 0, 0, 0, 0) := (zl192_1 (Nat.le_of_ble_eq_true rfl)).trans rfl
theorem f192_19 : zi_fe 192 19 = some ((.putfield 265), 3, 8, 16, 0, 1081, 0) := (zl192_1 (Nat.le_of_ble_eq_true rfl)).trans rfl
theorem f192_22 : zi_fe 192 22 = some ((.aload_n 0), 1, 0, 0, 0, 0, 0) := (zl192_1 (Nat.le_of_ble_eq_true rfl)).trans rfl
theorem f192_23 : zi_fe 192 23 = some ((.iconst 0), 1, 0, 0, 0, 0, 0) := (zl192_1 (Nat.le_of_ble_eq_true rfl)).trans rfl
theorem f192_24 : zi_fe 192 24 = some ((.putfield 254), 3, 8, 18, 0, 1083, 0) := (zl192_1 (Nat.le_of_ble_eq_true rfl)).trans rfl
theorem f192_27 : zi_fe 192 27 = some ((.aload_n 0), 1, 0, 0, 0, 0, 0) := (zl192_1 (Nat.le_of_ble_eq_true rfl)).trans rfl
theorem f192_28 : zi_fe 192 28 = some ((.iconst 0), 1, 0, 0, 0, 0, 0) := (zl192_1 (Nat.le_of_ble_eq_true rfl)).trans rfl
theorem f192_29 : zi_fe 192 29 = some ((.putfield 243), 3, 8, 20, 0, 1085, 0) := (zl192_1 (Nat.le_of_ble_eq_true rfl)).trans rfl
theorem f192_32 : zi_fe 192 32 = some ((.aload_n 0), 1, 0, 0, 0, 0, 0) := (zl192_1 (Nat.le_of_ble_eq_true rfl)).trans rfl
theorem f192_33 : zi_fe 192 33 = some ((.invokevirtual 240), 3, 186, 0, 8, 1200, 1) := (zl192_1 (Nat.le_of_ble_eq_true rfl)).trans rfl
theorem f192_36 : zi_fe 192 36 = some ((.aload_n 0), 1, 0, 0, 0, 0, 0) := (zl192_1 (Nat.le_of_ble_eq_true rfl)).trans rfl
theorem f192_37 : zi_fe 192 37 = some ((.getfield 203), 3, 8, 13, 0, 1078, 0) := (zl192_1 (Nat.le_of_ble_eq_true rfl)).trans rfl
theorem zl192_2 {pc : Nat} (h : 40 ≤ pc) : zi_fe 192 pc = zu192_2.lookup pc := (zl192_1 (Nat.le_trans (Nat.le_of_ble_eq_true rfl) h)).trans (zi_lkA (a := zi_i192_1) (c := 40) rfl h)
theorem f192_40 : zi_fe 192 40 = some ((.ifCond .ne 20), 3, 0, 0, 0, 0, 0) := (zl192_2 (Nat.le_of_ble_eq_true rfl)).trans rfl
theorem f192_43 : zi_fe 192 43 = some ((.aload_n 0), 1, 0, 0, 0, 0, 0) := (zl192_2 (Nat.le_of_ble_eq_true rfl)).trans rfl
theorem f192_44 : zi_fe 192 44 = some ((.getfield 222), 3, 8, 11, 0, 1076, 0) := (zl192_2 (Nat.le_of_ble_eq_true rfl)).trans rfl
theorem f192_47 : zi_fe 192 47 = some ((.ifCond .eq 13), 3, 0, 0, 0, 0, 0) := (zl192_2 (Nat.le_of_ble_eq_true rfl)).trans rfl
theorem f192_50 : zi_fe 192 50 = some ((.aload_n 0), 1, 0, 0, 0, 0, 0) := (zl192_2 (Nat.le_of_ble_eq_true rfl)).trans rfl
theorem f192_51 : zi_fe 192 51 = some ((.invokevirtual 274), 3, 191, 0, 8, 1216, 1) := (zl192_2 (Nat.le_of_ble_eq_true rfl)).trans rfl
theorem f192_54 : zi_fe 192 54 = some ((.iinc 1 1), 3, 0, 0, 0, 0, 0) := (zl192_2 (Nat.le_of_ble_eq_true rfl)).trans rfl
theorem f192_57 : zi_fe 192 57 = some ((.goto (-21)), 3, 0, 0, 0, 0, 0) := (zl192_2 (Nat.le_of_ble_eq_true rfl)).trans rfl
theorem f192_60 : zi_fe 192 60 = some ((.aload_n 0), 1, 0, 0, 0, 0, 0) := (zl192_2 (Nat.le_of_ble_eq_true rfl)).trans rfl
theorem f192_61 : zi_fe 192 61 = some ((.iconst 0), 1, 0, 0, 0, 0, 0) := (zl192_2 (Nat.le_of_ble_eq_true rfl)).trans rfl
theorem f192_62 : zi_fe 192 62 = some ((.putfield 200), 3, 8, 8, 0, 1073, 0) := (zl192_2 (Nat.le_of_ble_eq_true rfl)).trans rfl
theorem f192_65 : zi_fe 192 65 = some ((.aload_n 0), 1, 0, 0, 0, 0, 0) := (zl192_2 (Nat.le_of_ble_eq_true rfl)).trans rfl
theorem zl192_3 {pc : Nat} (h : 66 ≤ pc) : zi_fe 192 pc = zu192_3.lookup pc := (zl192_2 (Nat.le_trans (Nat.le_of_ble_eq_true rfl) h)).trans (zi_lkA (a := zi_i192_2) (c := 66) rfl h)
theorem f192_66 : zi_fe 192 66 = some ((.getfield 203), 3, 8, 13, 0, 1078, 0) := (zl192_3 (Nat.le_of_ble_eq_true rfl)).trans rfl
theorem f192_69 : zi_fe 192 69 = some ((.ifCond .le 11), 3, 0, 0, 0, 0, 0) := (zl192_3 (Nat.le_of_ble_eq_true rfl)).trans rfl
theorem f192_72 : zi_fe 192 72 = some ((.bipush (-10)), 2, 0, 0, 0, 0, 0) := (zl192_3 (Nat.le_of_ble_eq_true rfl)).trans rfl
theorem f192_74 : zi_fe 192 74 = some ((.aload_n 0), 1, 0, 0, 0, 0, 0) := (zl192_3 (Nat.le_of_ble_eq_true rfl)).trans rfl
theorem f192_75 : zi_fe 192 75 = some ((.getfield 209), 3, 8, 14, 0, 1079, 0) := (zl192_3 (Nat.le_of_ble_eq_true rfl)).trans rfl
theorem f192_78 : zi_fe 192 78 = some (.isub, 1, 0, 0, 0, 0, 0) := (zl192_3 (Nat.le_of_ble_eq_true rfl)).trans rfl
theorem f192_79 : zi_fe 192 79 = some (.ireturn, 1, 0, 0, 0, 0, 0) := (zl192_3 (Nat.le_of_ble_eq_true rfl)).trans rfl
theorem f192_80 : zi_fe 192 80 = some ((.aload_n 0), 1, 0, 0, 0, 0, 0) := (zl192_3 (Nat.le_of_ble_eq_true rfl)).trans rfl
theorem f192_81 : zi_fe 192 81 = some ((.aload_n 0), 1, 0, 0, 0, 0, 0) := (zl192_3 (Nat.le_of_ble_eq_true rfl)).trans rfl
theorem f192_82 : zi_fe 192 82 = some ((.getfield 265), 3, 8, 16, 0, 1081, 0) := (zl192_3 (Nat.le_of_ble_eq_true rfl)).trans rfl
theorem f192_85 : zi_fe 192 85 = some ((.invokevirtual 75), 3, 148, 0, 8, 1057, 2) := (zl192_3 (Nat.le_of_ble_eq_true rfl)).trans rfl
theorem f192_88 : zi_fe 192 88 = some ((.iconst 0), 1, 0, 0, 0, 0, 0) := (zl192_3 (Nat.le_of_ble_eq_true rfl)).trans rfl
theorem zl192_4 {pc : Nat} (h : 89 ≤ pc) : zi_fe 192 pc = zu192_4.lookup pc := (zl192_3 (Nat.le_trans (Nat.le_of_ble_eq_true rfl) h)).trans (zi_lkA (a := zi_i192_3) (c := 89) rfl h)
theorem f192_89 : zi_fe 192 89 = some ((.istore_n 2), 1, 0, 0, 0, 0, 0) := (zl192_4 (Nat.le_of_ble_eq_true rfl)).trans rfl
theorem f192_90 : zi_fe 192 90 = some ((.iload_n 2), 1, 0, 0, 0, 0, 0) := (zl192_4 (Nat.le_of_ble_eq_true rfl)).trans rfl
theorem f192_91 : zi_fe 192 91 = some ((.aload_n 0), 1, 0, 0, 0, 0, 0) := (zl192_4 (Nat.le_of_ble_eq_true rfl)).trans rfl
theorem f192_92 : zi_fe 192 92 = some ((.getfield 254), 3, 8, 18, 0, 1083, 0) := (zl192_4 (Nat.le_of_ble_eq_true rfl)).trans rfl
theorem f192_95 : zi_fe 192 95 = some ((.if_icmp .ge 32), 3, 0, 0, 0, 0, 0) := (zl192_4 (Nat.le_of_ble_eq_true rfl)).trans rfl
theorem f192_98 : zi_fe 192 98 = some ((.aload_n 0), 1, 0, 0, 0, 0, 0) := (zl192_4 (Nat.le_of_ble_eq_true rfl)).trans rfl
theorem f192_99 : zi_fe 192 99 = some ((.aload_n 0), 1, 0, 0, 0, 0, 0) := (zl192_4 (Nat.le_of_ble_eq_true rfl)).trans rfl
theorem f192_100 : zi_fe 192 100 = some ((.getfield 32), 3, 8, 17, 3, 1082, 0) := (zl192_4 (Nat.le_of_ble_eq_true rfl)).trans rfl
theorem f192_103 : zi_fe 192 103 = some ((.iconst 2), 1, 0, 0, 0, 0, 0) := (zl192_4 (Nat.le_of_ble_eq_true rfl)).trans rfl
theorem f192_104 : zi_fe 192 104 = some ((.iload_n 2), 1, 0, 0, 0, 0, 0) := (zl192_4 (Nat.le_of_ble_eq_true rfl)).trans rfl
theorem f192_105 : zi_fe 192 105 = some (.imul, 1, 0, 0, 0, 0, 0) := (zl192_4 (Nat.le_of_ble_eq_true rfl)).trans rfl
theorem f192_106 : zi_fe 192 106 = some (.iaload, 1, 0, 0, 0, 0, 0) := (zl192_4 (Nat.le_of_ble_eq_true rfl)).trans rfl
theorem zl192_5 {pc : Nat} (h : 107 ≤ pc) : zi_fe 192 pc = zu192_5.lookup pc := (zl192_4 (Nat.le_trans (Nat.le_of_ble_eq_true rfl) h)).trans (zi_lkA (a := zi_i192_4) (c := 107) rfl h)
theorem f192_107 : zi_fe 192 107 = some ((.aload_n 0), 1, 0, 0, 0, 0, 0) := (zl192_5 (Nat.le_of_ble_eq_true rfl)).trans rfl
theorem f192_108 : zi_fe 192 108 = some ((.getfield 32), 3, 8, 17, 3, 1082, 0) := (zl192_5 (Nat.le_of_ble_eq_true rfl)).trans rfl
theorem f192_111 : zi_fe 192 111 = some ((.iconst 2), 1, 0, 0, 0, 0, 0) := (zl192_5 (Nat.le_of_ble_eq_true rfl)).trans rfl
theorem f192_112 : zi_fe 192 112 = some ((.iload_n 2), 1, 0, 0, 0, 0, 0) := (zl192_5 (Nat.le_of_ble_eq_true rfl)).trans rfl
theorem f192_113 : zi_fe 192 113 = some (.imul, 1, 0, 0, 0, 0, 0) := (zl192_5 (Nat.le_of_ble_eq_true rfl)).trans rfl
theorem f192_114 : zi_fe 192 114 = some ((.iconst 1), 1, 0, 0, 0, 0, 0) := (zl192_5 (Nat.le_of_ble_eq_true rfl)).trans rfl
theorem f192_115 : zi_fe 192 115 = some (.iadd, 1, 0, 0, 0, 0, 0) := (zl192_5 (Nat.le_of_ble_eq_true rfl)).trans rfl
theorem f192_116 : zi_fe 192 116 = some (.iaload, 1, 0, 0, 0, 0, 0) := (zl192_5 (Nat.le_of_ble_eq_true rfl)).trans rfl
theorem f192_117 : zi_fe 192 117 = some ((.invokevirtual 277), 3, 179, 0, 8, 1245, 3) := (zl192_5 (Nat.le_of_ble_eq_true rfl)).trans rfl
theorem f192_120 : zi_fe 192 120 = some (.pop, 1, 0, 0, 0, 0, 0) := (zl192_5 (Nat.le_of_ble_eq_true rfl)).trans rfl
theorem f192_121 : zi_fe 192 121 = some ((.iinc 2 1), 3, 0, 0, 0, 0, 0) := (zl192_5 (Nat.le_of_ble_eq_true rfl)).trans rfl
theorem f192_124 : zi_fe 192 124 = some ((.goto (-34)), 3, 0, 0, 0, 0, 0) := (zl192_5 (Nat.le_of_ble_eq_true rfl)).trans rfl
theorem zl192_6 {pc : Nat} (h : 127 ≤ pc) : zi_fe 192 pc = zu192_6.lookup pc := (zl192_5 (Nat.le_trans (Nat.le_of_ble_eq_true rfl) h)).trans (zi_lkA (a := zi_i192_5) (c := 127) rfl h)
theorem f192_127 : zi_fe 192 127 = some ((.iconst 0), 1, 0, 0, 0, 0, 0) := (zl192_6 (Nat.le_of_ble_eq_true rfl)).trans rfl
theorem f192_128 : zi_fe 192 128 = some ((.istore_n 2), 1, 0, 0, 0, 0, 0) := (zl192_6 (Nat.le_of_ble_eq_true rfl)).trans rfl
theorem f192_129 : zi_fe 192 129 = some ((.iload_n 2), 1, 0, 0, 0, 0, 0) := (zl192_6 (Nat.le_of_ble_eq_true rfl)).trans rfl
theorem f192_130 : zi_fe 192 130 = some ((.aload_n 0), 1, 0, 0, 0, 0, 0) := (zl192_6 (Nat.le_of_ble_eq_true rfl)).trans rfl
theorem f192_131 : zi_fe 192 131 = some ((.getfield 243), 3, 8, 20, 0, 1085, 0) := (zl192_6 (Nat.le_of_ble_eq_true rfl)).trans rfl
theorem f192_134 : zi_fe 192 134 = some ((.if_icmp .ge 32), 3, 0, 0, 0, 0, 0) := (zl192_6 (Nat.le_of_ble_eq_true rfl)).trans rfl
theorem f192_137 : zi_fe 192 137 = some ((.aload_n 0), 1, 0, 0, 0, 0, 0) := (zl192_6 (Nat.le_of_ble_eq_true rfl)).trans rfl
theorem f192_138 : zi_fe 192 138 = some ((.aload_n 0), 1, 0, 0, 0, 0, 0) := (zl192_6 (Nat.le_of_ble_eq_true rfl)).trans rfl
theorem f192_139 : zi_fe 192 139 = some ((.getfield 35), 3, 8, 19, 3, 1084, 0) := (zl192_6 (Nat.le_of_ble_eq_true rfl)).trans rfl
theorem f192_142 : zi_fe 192 142 = some ((.iconst 2), 1, 0, 0, 0, 0, 0) := (zl192_6 (Nat.le_of_ble_eq_true rfl)).trans rfl
theorem f192_143 : zi_fe 192 143 = some ((.iload_n 2), 1, 0, 0, 0, 0, 0) := (zl192_6 (Nat.le_of_ble_eq_true rfl)).trans rfl
theorem f192_144 : zi_fe 192 144 = some (.imul, 1, 0, 0, 0, 0, 0) := (zl192_6 (Nat.le_of_ble_eq_true rfl)).trans rfl
theorem zl192_7 {pc : Nat} (h : 145 ≤ pc) : zi_fe 192 pc = zu192_7.lookup pc := (zl192_6 (Nat.le_trans (Nat.le_of_ble_eq_true rfl) h)).trans (zi_lkA (a := zi_i192_6) (c := 145) rfl h)
theorem f192_145 : zi_fe 192 145 = some (.iaload, 1, 0, 0, 0, 0, 0) := (zl192_7 (Nat.le_of_ble_eq_true rfl)).trans rfl
theorem f192_146 : zi_fe 192 146 = some ((.iconst 0), 1, 0, 0, 0, 0, 0) := (zl192_7 (Nat.le_of_ble_eq_true rfl)).trans rfl
theorem f192_147 : zi_fe 192 147 = some ((.aload_n 0), 1, 0, 0, 0, 0, 0) := (zl192_7 (Nat.le_of_ble_eq_true rfl)).trans rfl
theorem f192_148 : zi_fe 192 148 = some ((.getfield 35), 3, 8, 19, 3, 1084, 0) := (zl192_7 (Nat.le_of_ble_eq_true rfl)).trans rfl
theorem f192_151 : zi_fe 192 151 = some ((.iconst 2), 1, 0, 0, 0, 0, 0) := (zl192_7 (Nat.le_of_ble_eq_true rfl)).trans rfl
theorem f192_152 : zi_fe 192 152 = some ((.iload_n 2), 1, 0, 0, 0, 0, 0) := (zl192_7 (Nat.le_of_ble_eq_true rfl)).trans rfl
theorem f192_153 : zi_fe 192 153 = some (.imul, 1, 0, 0, 0, 0, 0) := (zl192_7 (Nat.le_of_ble_eq_true rfl)).trans rfl
theorem f192_154 : zi_fe 192 154 = some ((.iconst 1), 1, 0, 0, 0, 0, 0) := (zl192_7 (Nat.le_of_ble_eq_true rfl)).trans rfl
theorem f192_155 : zi_fe 192 155 = some (.iadd, 1, 0, 0, 0, 0, 0) := (zl192_7 (Nat.le_of_ble_eq_true rfl)).trans rfl
theorem f192_156 : zi_fe 192 156 = some (.iaload, 1, 0, 0, 0, 0, 0) := (zl192_7 (Nat.le_of_ble_eq_true rfl)).trans rfl
theorem f192_157 : zi_fe 192 157 = some ((.invokevirtual 191), 3, 177, 0, 8, 1249, 4) := (zl192_7 (Nat.le_of_ble_eq_true rfl)).trans rfl
theorem f192_160 : zi_fe 192 160 = some ((.iinc 2 1), 3, 0, 0, 0, 0, 0) := (zl192_7 (Nat.le_of_ble_eq_true rfl)).trans rfl
theorem zl192_8 {pc : Nat} (h : 163 ≤ pc) : zi_fe 192 pc = zu192_8.lookup pc := (zl192_7 (Nat.le_trans (Nat.le_of_ble_eq_true rfl) h)).trans (zi_lkA (a := zi_i192_7) (c := 163) rfl h)
theorem f192_163 : zi_fe 192 163 = some ((.goto (-34)), 3, 0, 0, 0, 0, 0) := (zl192_8 (Nat.le_of_ble_eq_true rfl)).trans rfl
theorem f192_166 : zi_fe 192 166 = some ((.iload_n 1), 1, 0, 0, 0, 0, 0) := (zl192_8 (Nat.le_of_ble_eq_true rfl)).trans rfl
theorem f192_167 : zi_fe 192 167 = some (.ireturn, 1, 0, 0, 0, 0, 0) := (zl192_8 (Nat.le_of_ble_eq_true rfl)).trans rfl
theorem b192_0 {h : zi_Hp} {a0 : Nat} {u1 : Value} {u2 : Value} (g0 : a0 < zh_n h) (g1 : (zh_k h a0).1 = 8) : zv 8 192 0 [.ref a0, u1, u2] [] h = (zv 2 186 0 [.ref a0, .double 0] [] (zh_wi (zh_wi (zh_wi (zh_wb (zh_wi (zh_wi h a0 13 0) a0 9 0) a0 15 false) a0 16 3) a0 18 0) a0 20 0)).bind fun r => zv 8 192 36 [.ref a0, .int 0, u2] (r.1.toList ++ []) r.2 := by
  refine Eq.trans (zs_ic f192_0 ic_0) ?_
  refine Eq.trans (zv_next f192_1 rfl) ?_
  refine Eq.trans (zv_next f192_2 rfl) ?_
  refine Eq.trans (zs_ic f192_3 ic_0) ?_
  refine Eq.trans (zs_put f192_4 g0 g1 rfl) ?_
  refine Eq.trans (zv_next f192_7 rfl) ?_
  refine Eq.trans (zs_ic f192_8 ic_0) ?_
  refine Eq.trans (zs_put f192_9 g0 g1 rfl) ?_
  refine Eq.trans (zv_next f192_12 rfl) ?_
  refine Eq.trans (zs_ic f192_13 ic_0) ?_
  refine Eq.trans (zs_put f192_14 g0 g1 rfl) ?_
  refine Eq.trans (zv_next f192_17 rfl) ?_
  refine Eq.trans (zs_ic f192_18 ic_3) ?_
  refine Eq.trans (zs_put f192_19 (zo_nb (zo_ni (zo_ni g0))) (zo_kb (zo_ki (zo_ki g1))) rfl) ?_
  refine Eq.trans (zv_next f192_22 rfl) ?_
  refine Eq.trans (zs_ic f192_23 ic_0) ?_
  refine Eq.trans (zs_put f192_24 (zo_ni (zo_nb (zo_ni (zo_ni g0)))) (zo_ki (zo_kb (zo_ki (zo_ki g1)))) rfl) ?_
  refine Eq.trans (zv_next f192_27 rfl) ?_
  refine Eq.trans (zs_ic f192_28 ic_0) ?_
  refine Eq.trans (zs_put f192_29 (zo_ni (zo_ni (zo_nb (zo_ni (zo_ni g0))))) (zo_ki (zo_ki (zo_kb (zo_ki (zo_ki g1))))) rfl) ?_
  refine Eq.trans (zv_next f192_32 rfl) ?_
  exact zs_callV f192_33 (Nat.le_of_ble_eq_true rfl) (Nat.le_of_ble_eq_true rfl) rfl (zo_ni (zo_ni (zo_ni (zo_nb (zo_ni (zo_ni g0)))))) (zo_ki (zo_ki (zo_ki (zo_kb (zo_ki (zo_ki g1)))))) me_186 (by decide) rfl
theorem b192_36 {h : zi_Hp} {a0 : Nat} {x1 : Int32} {u2 : Value} (g0 : a0 < zh_n h) (g1 : (zh_k h a0).1 = 8) : zv 8 192 36 [.ref a0, .int x1, u2] [] h = if (zh_i h a0 13) = 0 then zv 8 192 43 [.ref a0, .int x1, u2] [] h else zv 8 192 60 [.ref a0, .int x1, u2] [] h := by
  refine Eq.trans (zv_next f192_36 rfl) ?_
  refine Eq.trans (zs_geti f192_37 g0 g1) ?_
  exact zs_if f192_40 rfl
theorem b192_43 {h : zi_Hp} {a0 : Nat} {x1 : Int32} {u2 : Value} (g0 : a0 < zh_n h) (g1 : (zh_k h a0).1 = 8) : zv 8 192 43 [.ref a0, .int x1, u2] [] h = if (zh_i h a0 11) = 0 then zv 8 192 60 [.ref a0, .int x1, u2] [] h else zv 8 192 50 [.ref a0, .int x1, u2] [] h := by
  refine Eq.trans (zv_next f192_43 rfl) ?_
  refine Eq.trans (zs_geti f192_44 g0 g1) ?_
  exact zs_if f192_47 rfl
theorem b192_50 {h : zi_Hp} {a0 : Nat} {x1 : Int32} {u2 : Value} (g0 : a0 < zh_n h) (g1 : (zh_k h a0).1 = 8) : zv 8 192 50 [.ref a0, .int x1, u2] [] h = (zv 5 191 0 [.ref a0, .double 0] [] h).bind fun r => zv 8 192 54 [.ref a0, .int x1, u2] (r.1.toList ++ []) r.2 := by
  refine Eq.trans (zv_next f192_50 rfl) ?_
  exact zs_callV f192_51 (Nat.le_of_ble_eq_true rfl) (Nat.le_of_ble_eq_true rfl) rfl g0 g1 me_191 (by decide) rfl
theorem b192_54 {h : zi_Hp} {a0 : Nat} {x1 : Int32} {u2 : Value}  : zv 8 192 54 [.ref a0, .int x1, u2] [] h = zv 8 192 36 [.ref a0, .int (x1 + 1), u2] [] h := by
  refine Eq.trans (zs_inc f192_54 rfl ic_1 rfl) ?_
  refine Eq.trans (zs_goto (tgt := 36) f192_57 rfl) ?_
  rfl
theorem b192_60 {h : zi_Hp} {a0 : Nat} {x1 : Int32} {u2 : Value} (g0 : a0 < zh_n h) (g1 : (zh_k h a0).1 = 8) : zv 8 192 60 [.ref a0, .int x1, u2] [] h = zv 8 192 66 [.ref a0, .int x1, u2] [.ref a0] (zh_wi h a0 8 0) := by
  refine Eq.trans (zv_next f192_60 rfl) ?_
  refine Eq.trans (zs_ic f192_61 ic_0) ?_
  refine Eq.trans (zs_put f192_62 g0 g1 rfl) ?_
  refine Eq.trans (zv_next f192_65 rfl) ?_
  rfl
theorem b192_66 {h : zi_Hp} {a0 : Nat} {x1 : Int32} {u2 : Value} {t0 : Nat} (g0 : t0 < zh_n h) (g1 : (zh_k h t0).1 = 8) : zv 8 192 66 [.ref a0, .int x1, u2] [.ref t0] h = if 0 < (zh_i h t0 13) then zv 8 192 72 [.ref a0, .int x1, u2] [] h else zv 8 192 80 [.ref a0, .int x1, u2] [] h := by
  refine Eq.trans (zs_geti f192_66 g0 g1) ?_
  exact zs_if f192_69 rfl
theorem b192_72 {h : zi_Hp} {a0 : Nat} {x1 : Int32} {u2 : Value} (g0 : a0 < zh_n h) (g1 : (zh_k h a0).1 = 8) : zv 8 192 72 [.ref a0, .int x1, u2] [] h = some (some (.int ((-10) - (zh_i h a0 14))), h) := by
  refine Eq.trans (zs_bp f192_72 bp_m10) ?_
  refine Eq.trans (zv_next f192_74 rfl) ?_
  refine Eq.trans (zs_geti f192_75 g0 g1) ?_
  refine Eq.trans (zv_next f192_78 rfl) ?_
  exact zs_ret0 f192_79
theorem b192_80 {h : zi_Hp} {a0 : Nat} {x1 : Int32} {u2 : Value} (g0 : a0 < zh_n h) (g1 : (zh_k h a0).1 = 8) : zv 8 192 80 [.ref a0, .int x1, u2] [] h = (zv 2 148 0 [.ref a0, .int (zh_i h a0 16), .double 0] [] h).bind fun r => zv 8 192 88 [.ref a0, .int x1, u2] (r.1.toList ++ []) r.2 := by
  refine Eq.trans (zv_next f192_80 rfl) ?_
  refine Eq.trans (zv_next f192_81 rfl) ?_
  refine Eq.trans (zs_geti f192_82 g0 g1) ?_
  exact zs_callV f192_85 (Nat.le_of_ble_eq_true rfl) (Nat.le_of_ble_eq_true rfl) rfl g0 g1 me_148 (by decide) rfl
theorem b192_88 {h : zi_Hp} {a0 : Nat} {x1 : Int32} {u2 : Value}  : zv 8 192 88 [.ref a0, .int x1, u2] [] h = zv 8 192 90 [.ref a0, .int x1, .int 0] [] h := by
  refine Eq.trans (zs_ic f192_88 ic_0) ?_
  refine Eq.trans (zv_next f192_89 rfl) ?_
  rfl
theorem b192_90 {h : zi_Hp} {a0 : Nat} {x1 : Int32} {x2 : Int32} (g0 : a0 < zh_n h) (g1 : (zh_k h a0).1 = 8) : zv 8 192 90 [.ref a0, .int x1, .int x2] [] h = if x2 < (zh_i h a0 18) then zv 8 192 98 [.ref a0, .int x1, .int x2] [] h else zv 8 192 127 [.ref a0, .int x1, .int x2] [] h := by
  refine Eq.trans (zv_next f192_90 rfl) ?_
  refine Eq.trans (zv_next f192_91 rfl) ?_
  refine Eq.trans (zs_geti f192_92 g0 g1) ?_
  exact zs_icmp f192_95 rfl
theorem b192_98 {h : zi_Hp} {a0 : Nat} {x1 : Int32} {x2 : Int32} (g0 : a0 < zh_n h) (g1 : (zh_k h a0).1 = 8) (g2 : zh_r h a0 17 = .ref (zq (zh_r h a0 17))) (g3 : (zq (zh_r h a0 17)) < zh_n h) (g4 : ¬ ((2 * x2) < 0 ∨ (zh_k h (zq (zh_r h a0 17))).2 ≤ (2 * x2).toNatClampNeg)) (g5 : (zh_k h (zq (zh_r h a0 17))).1 = 100) (g6 : ¬ (((2 * x2) + 1) < 0 ∨ (zh_k h (zq (zh_r h a0 17))).2 ≤ ((2 * x2) + 1).toNatClampNeg)) : zv 8 192 98 [.ref a0, .int x1, .int x2] [] h = (zv 7 179 0 [.ref a0, .int (zh_i h (zq (zh_r h a0 17)) (2 * x2).toNatClampNeg), .int (zh_i h (zq (zh_r h a0 17)) ((2 * x2) + 1).toNatClampNeg)] [] h).bind fun r => zv 8 192 120 [.ref a0, .int x1, .int x2] (r.1.toList ++ []) r.2 := by
  refine Eq.trans (zv_next f192_98 rfl) ?_
  refine Eq.trans (zv_next f192_99 rfl) ?_
  refine Eq.trans (zs_getr f192_100 g0 g1 g2) ?_
  refine Eq.trans (zs_ic f192_103 ic_2) ?_
  refine Eq.trans (zv_next f192_104 rfl) ?_
  refine Eq.trans (zv_next f192_105 rfl) ?_
  refine Eq.trans (zs_iald f192_106 g3 g5 g4) ?_
  refine Eq.trans (zv_next f192_107 rfl) ?_
  refine Eq.trans (zs_getr f192_108 g0 g1 g2) ?_
  refine Eq.trans (zs_ic f192_111 ic_2) ?_
  refine Eq.trans (zv_next f192_112 rfl) ?_
  refine Eq.trans (zv_next f192_113 rfl) ?_
  refine Eq.trans (zs_ic f192_114 ic_1) ?_
  refine Eq.trans (zv_next f192_115 rfl) ?_
  refine Eq.trans (zs_iald f192_116 g3 g5 g6) ?_
  exact zs_callV f192_117 (Nat.le_of_ble_eq_true rfl) (Nat.le_of_ble_eq_true rfl) rfl g0 g1 me_179 (by decide) rfl
theorem b192_120 {h : zi_Hp} {a0 : Nat} {x1 : Int32} {x2 : Int32} {s0 : Int32}  : zv 8 192 120 [.ref a0, .int x1, .int x2] [.int s0] h = zv 8 192 90 [.ref a0, .int x1, .int (x2 + 1)] [] h := by
  refine Eq.trans (zv_next f192_120 rfl) ?_
  refine Eq.trans (zs_inc f192_121 rfl ic_1 rfl) ?_
  refine Eq.trans (zs_goto (tgt := 90) f192_124 rfl) ?_
  rfl
theorem b192_127 {h : zi_Hp} {a0 : Nat} {x1 : Int32} {x2 : Int32}  : zv 8 192 127 [.ref a0, .int x1, .int x2] [] h = zv 8 192 129 [.ref a0, .int x1, .int 0] [] h := by
  refine Eq.trans (zs_ic f192_127 ic_0) ?_
  refine Eq.trans (zv_next f192_128 rfl) ?_
  rfl
theorem b192_129 {h : zi_Hp} {a0 : Nat} {x1 : Int32} {x2 : Int32} (g0 : a0 < zh_n h) (g1 : (zh_k h a0).1 = 8) : zv 8 192 129 [.ref a0, .int x1, .int x2] [] h = if x2 < (zh_i h a0 20) then zv 8 192 137 [.ref a0, .int x1, .int x2] [] h else zv 8 192 166 [.ref a0, .int x1, .int x2] [] h := by
  refine Eq.trans (zv_next f192_129 rfl) ?_
  refine Eq.trans (zv_next f192_130 rfl) ?_
  refine Eq.trans (zs_geti f192_131 g0 g1) ?_
  exact zs_icmp f192_134 rfl
theorem b192_137 {h : zi_Hp} {a0 : Nat} {x1 : Int32} {x2 : Int32} (g0 : a0 < zh_n h) (g1 : (zh_k h a0).1 = 8) (g2 : zh_r h a0 19 = .ref (zq (zh_r h a0 19))) (g3 : (zq (zh_r h a0 19)) < zh_n h) (g4 : ¬ ((2 * x2) < 0 ∨ (zh_k h (zq (zh_r h a0 19))).2 ≤ (2 * x2).toNatClampNeg)) (g5 : (zh_k h (zq (zh_r h a0 19))).1 = 100) (g6 : ¬ (((2 * x2) + 1) < 0 ∨ (zh_k h (zq (zh_r h a0 19))).2 ≤ ((2 * x2) + 1).toNatClampNeg)) : zv 8 192 137 [.ref a0, .int x1, .int x2] [] h = (zv 4 177 0 [.ref a0, .int (zh_i h (zq (zh_r h a0 19)) (2 * x2).toNatClampNeg), .int 0, .int (zh_i h (zq (zh_r h a0 19)) ((2 * x2) + 1).toNatClampNeg), .double 0] [] h).bind fun r => zv 8 192 160 [.ref a0, .int x1, .int x2] (r.1.toList ++ []) r.2 := by
  refine Eq.trans (zv_next f192_137 rfl) ?_
  refine Eq.trans (zv_next f192_138 rfl) ?_
  refine Eq.trans (zs_getr f192_139 g0 g1 g2) ?_
  refine Eq.trans (zs_ic f192_142 ic_2) ?_
  refine Eq.trans (zv_next f192_143 rfl) ?_
  refine Eq.trans (zv_next f192_144 rfl) ?_
  refine Eq.trans (zs_iald f192_145 g3 g5 g4) ?_
  refine Eq.trans (zs_ic f192_146 ic_0) ?_
  refine Eq.trans (zv_next f192_147 rfl) ?_
  refine Eq.trans (zs_getr f192_148 g0 g1 g2) ?_
  refine Eq.trans (zs_ic f192_151 ic_2) ?_
  refine Eq.trans (zv_next f192_152 rfl) ?_
  refine Eq.trans (zv_next f192_153 rfl) ?_
  refine Eq.trans (zs_ic f192_154 ic_1) ?_
  refine Eq.trans (zv_next f192_155 rfl) ?_
  refine Eq.trans (zs_iald f192_156 g3 g5 g6) ?_
  exact zs_callV f192_157 (Nat.le_of_ble_eq_true rfl) (Nat.le_of_ble_eq_true rfl) rfl g0 g1 me_177 (by decide) rfl
theorem b192_160 {h : zi_Hp} {a0 : Nat} {x1 : Int32} {x2 : Int32}  : zv 8 192 160 [.ref a0, .int x1, .int x2] [] h = zv 8 192 129 [.ref a0, .int x1, .int (x2 + 1)] [] h := by
  refine Eq.trans (zs_inc f192_160 rfl ic_1 rfl) ?_
  refine Eq.trans (zs_goto (tgt := 129) f192_163 rfl) ?_
  rfl
theorem b192_166 {h : zi_Hp} {a0 : Nat} {x1 : Int32} {x2 : Int32}  : zv 8 192 166 [.ref a0, .int x1, .int x2] [] h = some (some (.int x1), h) := by
  refine Eq.trans (zv_next f192_166 rfl) ?_
  exact zs_ret0 f192_167
set_option maxRecDepth 20000 in
theorem zq193 : zi_M[193]? = some zi_m193 := rfl
theorem zl193_0 {pc : Nat} (_ : 0 ≤ pc) : zi_fe 193 pc = zu193_0.lookup pc := zi_feA zq193 pc
theorem f193_0 : zi_fe 193 0 = some ((.aload_n 0), 1, 0, 0, 0, 0, 0) := (zl193_0 (Nat.le_of_ble_eq_true rfl)).trans rfl
theorem f193_1 : zi_fe 193 1 = some ((.getfield 203), 3, 8, 13, 0, 1078, 0) := (zl193_0 (Nat.le_of_ble_eq_true rfl)).trans rfl
theorem f193_4 : zi_fe 193 4 = some (.ireturn, 1, 0, 0, 0, 0, 0) := (zl193_0 (Nat.le_of_ble_eq_true rfl)).trans rfl
theorem b193_0 {h : zi_Hp} {a0 : Nat} (g0 : a0 < zh_n h) (g1 : (zh_k h a0).1 = 8) : zv 1 193 0 [.ref a0] [] h = some (some (.int (zh_i h a0 13)), h) := by
  refine Eq.trans (zv_next f193_0 rfl) ?_
  refine Eq.trans (zs_geti f193_1 g0 g1) ?_
  exact zs_ret0 f193_4
set_option maxRecDepth 20000 in
theorem zq194 : zi_M[194]? = some zi_m194 := rfl
theorem zl194_0 {pc : Nat} (_ : 0 ≤ pc) : zi_fe 194 pc = zu194_0.lookup pc := zi_feA zq194 pc
theorem f194_0 : zi_fe 194 0 = some ((.iload_n 1), 1, 0, 0, 0, 0, 0) := (zl194_0 (Nat.le_of_ble_eq_true rfl)).trans rfl
theorem f194_1 : zi_fe 194 1 = some (.i2l, 1, 0, 0, 0, 0, 0) := (zl194_0 (Nat.le_of_ble_eq_true rfl)).trans rfl
theorem f194_2 : zi_fe 194 2 = some ((.lconst 0), 1, 0, 0, 0, 0, 0) := (zl194_0 (Nat.le_of_ble_eq_true rfl)).trans rfl
theorem f194_3 : zi_fe 194 3 = some ((.aload_n 0), 1, 0, 0, 0, 0, 0) := (zl194_0 (Nat.le_of_ble_eq_true rfl)).trans rfl
theorem f194_4 : zi_fe 194 4 = some ((.getfield 7), 3, 8, 0, 3, 1065, 0) := (zl194_0 (Nat.le_of_ble_eq_true rfl)).trans rfl
theorem f194_7 : zi_fe 194 7 = some ((.sipush 312), 3, 0, 0, 0, 0, 0) := (zl194_0 (Nat.le_of_ble_eq_true rfl)).trans rfl
theorem f194_10 : zi_fe 194 10 = some (.iaload, 1, 0, 0, 0, 0, 0) := (zl194_0 (Nat.le_of_ble_eq_true rfl)).trans rfl
theorem f194_11 : zi_fe 194 11 = some ((.iconst 1), 1, 0, 0, 0, 0, 0) := (zl194_0 (Nat.le_of_ble_eq_true rfl)).trans rfl
theorem f194_12 : zi_fe 194 12 = some (.isub, 1, 0, 0, 0, 0, 0) := (zl194_0 (Nat.le_of_ble_eq_true rfl)).trans rfl
theorem f194_13 : zi_fe 194 13 = some (.i2l, 1, 0, 0, 0, 0, 0) := (zl194_0 (Nat.le_of_ble_eq_true rfl)).trans rfl
theorem f194_14 : zi_fe 194 14 = some ((.invokestatic 196), 3, 142, 1, 8, 1189, 3) := (zl194_0 (Nat.le_of_ble_eq_true rfl)).trans rfl
theorem f194_17 : zi_fe 194 17 = some (.ireturn, 1, 1, 0, 0, 0, 0) := (zl194_0 (Nat.le_of_ble_eq_true rfl)).trans rfl
theorem b194_0 {h : zi_Hp} {a0 : Nat} {x1 : Int32} (g0 : a0 < zh_n h) (g1 : (zh_k h a0).1 = 8) (g2 : zh_r h a0 0 = .ref (zq (zh_r h a0 0))) (g3 : (zq (zh_r h a0 0)) < zh_n h) (g4 : 312 < (zh_k h (zq (zh_r h a0 0))).2) (g5 : (zh_k h (zq (zh_r h a0 0))).1 = 100) : zv 2 194 0 [.ref a0, .int x1] [] h = (zv 1 142 0 [.long ((x1).toInt64), .double 1, .long 0, .double 1, .long ((((zh_i h (zq (zh_r h a0 0)) 312) - 1)).toInt64), .double 1] [] h).bind fun r => zv 2 194 17 [.ref a0, .int x1] (r.1.toList ++ []) r.2 := by
  refine Eq.trans (zv_next f194_0 rfl) ?_
  refine Eq.trans (zv_next f194_1 rfl) ?_
  refine Eq.trans (zs_lc f194_2 lc_0) ?_
  refine Eq.trans (zv_next f194_3 rfl) ?_
  refine Eq.trans (zs_getr f194_4 g0 g1 g2) ?_
  refine Eq.trans (zs_sp f194_7 sp_312) ?_
  refine Eq.trans (zs_iald f194_10 g3 g5 (zj_lit (by decide) g4)) ?_
  refine Eq.trans (zs_ic f194_11 ic_1) ?_
  refine Eq.trans (zv_next f194_12 rfl) ?_
  refine Eq.trans (zv_next f194_13 rfl) ?_
  exact zs_callS f194_14 (by decide) (Nat.le_of_ble_eq_true rfl) (Nat.le_of_ble_eq_true rfl) rfl me_142 (by decide) rfl
theorem b194_17 {h : zi_Hp} {a0 : Nat} {x1 : Int32} {s0 : Int32} (g0 : s0 = 0 ∨ s0 = 1) : zv 2 194 17 [.ref a0, .int x1] [.int s0] h = some (some (.int s0), h) := by
  exact zs_ret1 f194_17 g0
set_option maxRecDepth 20000 in
theorem zq195 : zi_M[195]? = some zi_m195 := rfl
theorem zl195_0 {pc : Nat} (_ : 0 ≤ pc) : zi_fe 195 pc = zu195_0.lookup pc := zi_feA zq195 pc
theorem f195_0 : zi_fe 195 0 = some ((.iload_n 0), 1, 0, 0, 0, 0, 0) := (zl195_0 (Nat.le_of_ble_eq_true rfl)).trans rfl
theorem f195_1 : zi_fe 195 1 = some (.i2l, 1, 0, 0, 0, 0, 0) := (zl195_0 (Nat.le_of_ble_eq_true rfl)).trans rfl
theorem f195_2 : zi_fe 195 2 = some ((.lconst 0), 1, 0, 0, 0, 0, 0) := (zl195_0 (Nat.le_of_ble_eq_true rfl)).trans rfl
theorem f195_3 : zi_fe 195 3 = some ((.ldc2_w 246), 3, 0, 0, 0, 1236, 2) := (zl195_0 (Nat.le_of_ble_eq_true rfl)).trans rfl
theorem f195_6 : zi_fe 195 6 = some ((.invokestatic 196), 3, 142, 1, 8, 1189, 3) := (zl195_0 (Nat.le_of_ble_eq_true rfl)).trans rfl
theorem f195_9 : zi_fe 195 9 = some (.ireturn, 1, 1, 0, 0, 0, 0) := (zl195_0 (Nat.le_of_ble_eq_true rfl)).trans rfl
theorem b195_0 {h : zi_Hp} {x0 : Int32}  : zv 2 195 0 [.int x0] [] h = (zv 1 142 0 [.long ((x0).toInt64), .double 1, .long 0, .double 1, .long 2, .double 1] [] h).bind fun r => zv 2 195 9 [.int x0] (r.1.toList ++ []) r.2 := by
  refine Eq.trans (zv_next f195_0 rfl) ?_
  refine Eq.trans (zv_next f195_1 rfl) ?_
  refine Eq.trans (zs_lc f195_2 lc_0) ?_
  refine Eq.trans (zs_l2 f195_3 l2_2) ?_
  exact zs_callS f195_6 (by decide) (Nat.le_of_ble_eq_true rfl) (Nat.le_of_ble_eq_true rfl) rfl me_142 (by decide) rfl
theorem b195_9 {h : zi_Hp} {x0 : Int32} {s0 : Int32} (g0 : s0 = 0 ∨ s0 = 1) : zv 2 195 9 [.int x0] [.int s0] h = some (some (.int s0), h) := by
  exact zs_ret1 f195_9 g0
set_option maxRecDepth 20000 in
theorem zq196 : zi_M[196]? = some zi_m196 := rfl
theorem zl196_0 {pc : Nat} (_ : 0 ≤ pc) : zi_fe 196 pc = zu196_0.lookup pc := zi_feA zq196 pc
theorem f196_0 : zi_fe 196 0 = some ((.iload_n 0), 1, 0, 0, 0, 0, 0) := (zl196_0 (Nat.le_of_ble_eq_true rfl)).trans rfl
theorem f196_1 : zi_fe 196 1 = some (.i2l, 1, 0, 0, 0, 0, 0) := (zl196_0 (Nat.le_of_ble_eq_true rfl)).trans rfl
theorem f196_2 : zi_fe 196 2 = some ((.lconst 0), 1, 0, 0, 0, 0, 0) := (zl196_0 (Nat.le_of_ble_eq_true rfl)).trans rfl
theorem f196_3 : zi_fe 196 3 = some ((.lconst 1), 1, 0, 0, 0, 0, 0) := (zl196_0 (Nat.le_of_ble_eq_true rfl)).trans rfl
theorem f196_4 : zi_fe 196 4 = some ((.invokestatic 196), 3, 142, 1, 8, 1189, 3) := (zl196_0 (Nat.le_of_ble_eq_true rfl)).trans rfl
theorem f196_7 : zi_fe 196 7 = some (.ireturn, 1, 1, 0, 0, 0, 0) := (zl196_0 (Nat.le_of_ble_eq_true rfl)).trans rfl
theorem b196_0 {h : zi_Hp} {x0 : Int32}  : zv 2 196 0 [.int x0] [] h = (zv 1 142 0 [.long ((x0).toInt64), .double 1, .long 0, .double 1, .long 1, .double 1] [] h).bind fun r => zv 2 196 7 [.int x0] (r.1.toList ++ []) r.2 := by
  refine Eq.trans (zv_next f196_0 rfl) ?_
  refine Eq.trans (zv_next f196_1 rfl) ?_
  refine Eq.trans (zs_lc f196_2 lc_0) ?_
  refine Eq.trans (zs_lc f196_3 lc_1) ?_
  exact zs_callS f196_4 (by decide) (Nat.le_of_ble_eq_true rfl) (Nat.le_of_ble_eq_true rfl) rfl me_142 (by decide) rfl
theorem b196_7 {h : zi_Hp} {x0 : Int32} {s0 : Int32} (g0 : s0 = 0 ∨ s0 = 1) : zv 2 196 7 [.int x0] [.int s0] h = some (some (.int s0), h) := by
  exact zs_ret1 f196_7 g0
set_option maxRecDepth 20000 in
theorem zq197 : zi_M[197]? = some zi_m197 := rfl
theorem zl197_0 {pc : Nat} (_ : 0 ≤ pc) : zi_fe 197 pc = zu197_0.lookup pc := zi_feA zq197 pc
theorem f197_0 : zi_fe 197 0 = some ((.iconst 0), 1, 0, 0, 0, 0, 0) := (zl197_0 (Nat.le_of_ble_eq_true rfl)).trans rfl
theorem f197_1 : zi_fe 197 1 = some ((.istore_n 1), 1, 0, 0, 0, 0, 0) := (zl197_0 (Nat.le_of_ble_eq_true rfl)).trans rfl
theorem f197_2 : zi_fe 197 2 = some ((.iconst 0), 1, 0, 0, 0, 0, 0) := (zl197_0 (Nat.le_of_ble_eq_true rfl)).trans rfl
theorem f197_3 : zi_fe 197 3 = some ((.istore_n 2), 1, 0, 0, 0, 0, 0) := (zl197_0 (Nat.le_of_ble_eq_true rfl)).trans rfl
theorem f197_4 : zi_fe 197 4 = some ((.iload_n 2), 1, 0, 0, 0, 0, 0) := (zl197_0 (Nat.le_of_ble_eq_true rfl)).trans rfl
theorem f197_5 : zi_fe 197 5 = some ((.iconst 3), 1, 0, 0, 0, 0, 0) := (zl197_0 (Nat.le_of_ble_eq_true rfl)).trans rfl
theorem f197_6 : zi_fe 197 6 = some ((.if_icmp .ge 22), 3, 0, 0, 0, 0, 0) := (zl197_0 (Nat.le_of_ble_eq_true rfl)).trans rfl
theorem f197_9 : zi_fe 197 9 = some ((.iload_n 1), 1, 0, 0, 0, 0, 0) := (zl197_0 (Nat.le_of_ble_eq_true rfl)).trans rfl
theorem f197_10 : zi_fe 197 10 = some ((.aload_n 0), 1, 0, 0, 0, 0, 0) := (zl197_0 (Nat.le_of_ble_eq_true rfl)).trans rfl
theorem f197_11 : zi_fe 197 11 = some ((.iload_n 2), 1, 0, 0, 0, 0, 0) := (zl197_0 (Nat.le_of_ble_eq_true rfl)).trans rfl
theorem f197_12 : zi_fe 197 12 = some ((.invokevirtual 185), 3, 176, 0, 8, 1272, 2) := (zl197_0 (Nat.le_of_ble_eq_true rfl)).trans rfl
theorem f197_15 : zi_fe 197 15 = some ((.invokestatic 94), 3, 143, 1, 8, 1269, 1) := (zl197_0 (Nat.le_of_ble_eq_true rfl)).trans rfl
theorem zl197_1 {pc : Nat} (h : 18 ≤ pc) : zi_fe 197 pc = zu197_1.lookup pc := (zl197_0 (Nat.le_trans (Nat.le_of_ble_eq_true rfl) h)).trans (zi_lkA (a := zi_i197_0) (c := 18) rfl h)
theorem f197_18 : zi_fe 197 18 = some ((.iload_n 2), 1, 0, 0, 0, 0, 0) := (zl197_1 (Nat.le_of_ble_eq_true rfl)).trans rfl
theorem f197_19 : zi_fe 197 19 = some (.ishl, 1, 0, 0, 0, 0, 0) := (zl197_1 (Nat.le_of_ble_eq_true rfl)).trans rfl
theorem f197_20 : zi_fe 197 20 = some (.ior, 1, 0, 0, 0, 0, 0) := (zl197_1 (Nat.le_of_ble_eq_true rfl)).trans rfl
theorem f197_21 : zi_fe 197 21 = some ((.istore_n 1), 1, 0, 0, 0, 0, 0) := (zl197_1 (Nat.le_of_ble_eq_true rfl)).trans rfl
theorem f197_22 : zi_fe 197 22 = some ((.iinc 2 1), 3, 0, 0, 0, 0, 0) := (zl197_1 (Nat.le_of_ble_eq_true rfl)).trans rfl
theorem f197_25 : zi_fe 197 25 = some ((.goto (-21)), 3, 0, 0, 0, 0, 0) := (zl197_1 (Nat.le_of_ble_eq_true rfl)).trans rfl
theorem f197_28 : zi_fe 197 28 = some ((.iload_n 1), 1, 0, 0, 0, 0, 0) := (zl197_1 (Nat.le_of_ble_eq_true rfl)).trans rfl
theorem f197_29 : zi_fe 197 29 = some (.ireturn, 1, 0, 0, 0, 0, 0) := (zl197_1 (Nat.le_of_ble_eq_true rfl)).trans rfl
theorem b197_0 {h : zi_Hp} {a0 : Nat} {u1 : Value} {u2 : Value}  : zv 5 197 0 [.ref a0, u1, u2] [] h = zv 5 197 4 [.ref a0, .int 0, .int 0] [] h := by
  refine Eq.trans (zs_ic f197_0 ic_0) ?_
  refine Eq.trans (zv_next f197_1 rfl) ?_
  refine Eq.trans (zs_ic f197_2 ic_0) ?_
  refine Eq.trans (zv_next f197_3 rfl) ?_
  rfl
theorem b197_4 {h : zi_Hp} {a0 : Nat} {x1 : Int32} {x2 : Int32}  : zv 5 197 4 [.ref a0, .int x1, .int x2] [] h = if x2 < 3 then zv 5 197 9 [.ref a0, .int x1, .int x2] [] h else zv 5 197 28 [.ref a0, .int x1, .int x2] [] h := by
  refine Eq.trans (zv_next f197_4 rfl) ?_
  refine Eq.trans (zs_ic f197_5 ic_3) ?_
  exact zs_icmp f197_6 rfl
theorem b197_9 {h : zi_Hp} {a0 : Nat} {x1 : Int32} {x2 : Int32} (g0 : a0 < zh_n h) (g1 : (zh_k h a0).1 = 8) : zv 5 197 9 [.ref a0, .int x1, .int x2] [] h = (zv 4 176 0 [.ref a0, .int x2] [] h).bind fun r => zv 5 197 15 [.ref a0, .int x1, .int x2] (r.1.toList ++ [.int x1]) r.2 := by
  refine Eq.trans (zv_next f197_9 rfl) ?_
  refine Eq.trans (zv_next f197_10 rfl) ?_
  refine Eq.trans (zv_next f197_11 rfl) ?_
  exact zs_callV f197_12 (Nat.le_of_ble_eq_true rfl) (Nat.le_of_ble_eq_true rfl) rfl g0 g1 me_176 (by decide) rfl
theorem b197_15 {h : zi_Hp} {a0 : Nat} {x1 : Int32} {x2 : Int32} {s0 : Int32} {s1 : Int32}  : zv 5 197 15 [.ref a0, .int x1, .int x2] [.int s1, .int s0] h = (zv 1 143 0 [.int s1] [] h).bind fun r => zv 5 197 18 [.ref a0, .int x1, .int x2] (r.1.toList ++ [.int s0]) r.2 := by
  exact zs_callS f197_15 (by decide) (Nat.le_of_ble_eq_true rfl) (Nat.le_of_ble_eq_true rfl) rfl me_143 (by decide) rfl
theorem b197_18 {h : zi_Hp} {a0 : Nat} {x1 : Int32} {x2 : Int32} {s0 : Int32} {s1 : Int32}  : zv 5 197 18 [.ref a0, .int x1, .int x2] [.int s1, .int s0] h = zv 5 197 4 [.ref a0, .int (s0 ||| (s1 <<< (x2 &&& 31))), .int (x2 + 1)] [] h := by
  refine Eq.trans (zv_next f197_18 rfl) ?_
  refine Eq.trans (zv_next f197_19 rfl) ?_
  refine Eq.trans (zv_next f197_20 rfl) ?_
  refine Eq.trans (zv_next f197_21 rfl) ?_
  refine Eq.trans (zs_inc f197_22 rfl ic_1 rfl) ?_
  refine Eq.trans (zs_goto (tgt := 4) f197_25 rfl) ?_
  rfl
theorem b197_28 {h : zi_Hp} {a0 : Nat} {x1 : Int32} {x2 : Int32}  : zv 5 197 28 [.ref a0, .int x1, .int x2] [] h = some (some (.int x1), h) := by
  refine Eq.trans (zv_next f197_28 rfl) ?_
  exact zs_ret0 f197_29
set_option maxRecDepth 20000 in
theorem zq198 : zi_M[198]? = some zi_m198 := rfl
theorem zl198_0 {pc : Nat} (_ : 0 ≤ pc) : zi_fe 198 pc = zu198_0.lookup pc := zi_feA zq198 pc
theorem f198_0 : zi_fe 198 0 = some ((.iconst 0), 1, 0, 0, 0, 0, 0) := (zl198_0 (Nat.le_of_ble_eq_true rfl)).trans rfl
theorem f198_1 : zi_fe 198 1 = some ((.istore_n 1), 1, 0, 0, 0, 0, 0) := (zl198_0 (Nat.le_of_ble_eq_true rfl)).trans rfl
theorem f198_2 : zi_fe 198 2 = some ((.iconst 0), 1, 0, 0, 0, 0, 0) := (zl198_0 (Nat.le_of_ble_eq_true rfl)).trans rfl
theorem f198_3 : zi_fe 198 3 = some ((.istore_n 2), 1, 0, 0, 0, 0, 0) := (zl198_0 (Nat.le_of_ble_eq_true rfl)).trans rfl
theorem f198_4 : zi_fe 198 4 = some ((.iload_n 2), 1, 0, 0, 0, 0, 0) := (zl198_0 (Nat.le_of_ble_eq_true rfl)).trans rfl
theorem f198_5 : zi_fe 198 5 = some ((.aload_n 0), 1, 0, 0, 0, 0, 0) := (zl198_0 (Nat.le_of_ble_eq_true rfl)).trans rfl
theorem f198_6 : zi_fe 198 6 = some ((.getfield 7), 3, 8, 0, 3, 1065, 0) := (zl198_0 (Nat.le_of_ble_eq_true rfl)).trans rfl
theorem f198_9 : zi_fe 198 9 = some ((.sipush 312), 3, 0, 0, 0, 0, 0) := (zl198_0 (Nat.le_of_ble_eq_true rfl)).trans rfl
theorem f198_12 : zi_fe 198 12 = some (.iaload, 1, 0, 0, 0, 0, 0) := (zl198_0 (Nat.le_of_ble_eq_true rfl)).trans rfl
theorem f198_13 : zi_fe 198 13 = some ((.if_icmp .ge 30), 3, 0, 0, 0, 0, 0) := (zl198_0 (Nat.le_of_ble_eq_true rfl)).trans rfl
theorem f198_16 : zi_fe 198 16 = some ((.iload_n 1), 1, 0, 0, 0, 0, 0) := (zl198_0 (Nat.le_of_ble_eq_true rfl)).trans rfl
theorem f198_17 : zi_fe 198 17 = some ((.aload_n 0), 1, 0, 0, 0, 0, 0) := (zl198_0 (Nat.le_of_ble_eq_true rfl)).trans rfl
theorem zl198_1 {pc : Nat} (h : 18 ≤ pc) : zi_fe 198 pc = zu198_1.lookup pc := (zl198_0 (Nat.le_trans (Nat.le_of_ble_eq_true rfl) h)).trans (zi_lkA (a := zi_i198_0) (c := 18) rfl h)
theorem f198_18 : zi_fe 198 18 = some ((.iload_n 2), 1, 0, 0, 0, 0, 0) := (zl198_1 (Nat.le_of_ble_eq_true rfl)).trans rfl
theorem f198_19 : zi_fe 198 19 = some ((.invokevirtual 122), 3, 149, 0, 8, 1287, 2) := (zl198_1 (Nat.le_of_ble_eq_true rfl)).trans rfl
theorem f198_22 : zi_fe 198 22 = some ((.bipush (-4)), 2, 0, 0, 0, 0, 0) := (zl198_1 (Nat.le_of_ble_eq_true rfl)).trans rfl
theorem f198_24 : zi_fe 198 24 = some ((.if_icmp .eq 7), 3, 0, 0, 0, 0, 0) := (zl198_1 (Nat.le_of_ble_eq_true rfl)).trans rfl
theorem f198_27 : zi_fe 198 27 = some ((.iconst 1), 1, 0, 0, 0, 0, 0) := (zl198_1 (Nat.le_of_ble_eq_true rfl)).trans rfl
theorem f198_28 : zi_fe 198 28 = some ((.goto 4), 3, 0, 0, 0, 0, 0) := (zl198_1 (Nat.le_of_ble_eq_true rfl)).trans rfl
theorem f198_31 : zi_fe 198 31 = some ((.iconst 0), 1, 0, 0, 0, 0, 0) := (zl198_1 (Nat.le_of_ble_eq_true rfl)).trans rfl
theorem f198_32 : zi_fe 198 32 = some ((.invokestatic 94), 3, 143, 1, 8, 1269, 1) := (zl198_1 (Nat.le_of_ble_eq_true rfl)).trans rfl
theorem f198_35 : zi_fe 198 35 = some (.iadd, 1, 0, 0, 0, 0, 0) := (zl198_1 (Nat.le_of_ble_eq_true rfl)).trans rfl
theorem f198_36 : zi_fe 198 36 = some ((.istore_n 1), 1, 0, 0, 0, 0, 0) := (zl198_1 (Nat.le_of_ble_eq_true rfl)).trans rfl
theorem f198_37 : zi_fe 198 37 = some ((.iinc 2 1), 3, 0, 0, 0, 0, 0) := (zl198_1 (Nat.le_of_ble_eq_true rfl)).trans rfl
theorem f198_40 : zi_fe 198 40 = some ((.goto (-36)), 3, 0, 0, 0, 0, 0) := (zl198_1 (Nat.le_of_ble_eq_true rfl)).trans rfl
theorem zl198_2 {pc : Nat} (h : 43 ≤ pc) : zi_fe 198 pc = zu198_2.lookup pc := (zl198_1 (Nat.le_trans (Nat.le_of_ble_eq_true rfl) h)).trans (zi_lkA (a := zi_i198_1) (c := 43) rfl h)
theorem f198_43 : zi_fe 198 43 = some ((.iload_n 1), 1, 0, 0, 0, 0, 0) := (zl198_2 (Nat.le_of_ble_eq_true rfl)).trans rfl
theorem f198_44 : zi_fe 198 44 = some (.ireturn, 1, 0, 0, 0, 0, 0) := (zl198_2 (Nat.le_of_ble_eq_true rfl)).trans rfl
theorem b198_0 {h : zi_Hp} {a0 : Nat} {u1 : Value} {u2 : Value}  : zv 3 198 0 [.ref a0, u1, u2] [] h = zv 3 198 4 [.ref a0, .int 0, .int 0] [] h := by
  refine Eq.trans (zs_ic f198_0 ic_0) ?_
  refine Eq.trans (zv_next f198_1 rfl) ?_
  refine Eq.trans (zs_ic f198_2 ic_0) ?_
  refine Eq.trans (zv_next f198_3 rfl) ?_
  rfl
theorem b198_4 {h : zi_Hp} {a0 : Nat} {x1 : Int32} {x2 : Int32} (g0 : a0 < zh_n h) (g1 : (zh_k h a0).1 = 8) (g2 : zh_r h a0 0 = .ref (zq (zh_r h a0 0))) (g3 : (zq (zh_r h a0 0)) < zh_n h) (g4 : 312 < (zh_k h (zq (zh_r h a0 0))).2) (g5 : (zh_k h (zq (zh_r h a0 0))).1 = 100) : zv 3 198 4 [.ref a0, .int x1, .int x2] [] h = if x2 < (zh_i h (zq (zh_r h a0 0)) 312) then zv 3 198 16 [.ref a0, .int x1, .int x2] [] h else zv 3 198 43 [.ref a0, .int x1, .int x2] [] h := by
  refine Eq.trans (zv_next f198_4 rfl) ?_
  refine Eq.trans (zv_next f198_5 rfl) ?_
  refine Eq.trans (zs_getr f198_6 g0 g1 g2) ?_
  refine Eq.trans (zs_sp f198_9 sp_312) ?_
  refine Eq.trans (zs_iald f198_12 g3 g5 (zj_lit (by decide) g4)) ?_
  exact zs_icmp f198_13 rfl
theorem b198_16 {h : zi_Hp} {a0 : Nat} {x1 : Int32} {x2 : Int32} (g0 : a0 < zh_n h) (g1 : (zh_k h a0).1 = 8) : zv 3 198 16 [.ref a0, .int x1, .int x2] [] h = (zv 2 149 0 [.ref a0, .int x2, .double 0, .double 0, .double 0] [] h).bind fun r => zv 3 198 22 [.ref a0, .int x1, .int x2] (r.1.toList ++ [.int x1]) r.2 := by
  refine Eq.trans (zv_next f198_16 rfl) ?_
  refine Eq.trans (zv_next f198_17 rfl) ?_
  refine Eq.trans (zv_next f198_18 rfl) ?_
  exact zs_callV f198_19 (Nat.le_of_ble_eq_true rfl) (Nat.le_of_ble_eq_true rfl) rfl g0 g1 me_149 (by decide) rfl
theorem b198_22 {h : zi_Hp} {a0 : Nat} {x1 : Int32} {x2 : Int32} {s0 : Int32} {s1 : Int32}  : zv 3 198 22 [.ref a0, .int x1, .int x2] [.int s1, .int s0] h = if s1 = (-4) then zv 3 198 31 [.ref a0, .int x1, .int x2] [.int s0] h else zv 3 198 27 [.ref a0, .int x1, .int x2] [.int s0] h := by
  refine Eq.trans (zs_bp f198_22 bp_m4) ?_
  exact zs_icmp f198_24 rfl
theorem b198_27 {h : zi_Hp} {a0 : Nat} {x1 : Int32} {x2 : Int32} {s0 : Int32}  : zv 3 198 27 [.ref a0, .int x1, .int x2] [.int s0] h = zv 3 198 32 [.ref a0, .int x1, .int x2] [.int 1, .int s0] h := by
  refine Eq.trans (zs_ic f198_27 ic_1) ?_
  refine Eq.trans (zs_goto (tgt := 32) f198_28 rfl) ?_
  rfl
theorem b198_31 {h : zi_Hp} {a0 : Nat} {x1 : Int32} {x2 : Int32} {s0 : Int32}  : zv 3 198 31 [.ref a0, .int x1, .int x2] [.int s0] h = zv 3 198 32 [.ref a0, .int x1, .int x2] [.int 0, .int s0] h := by
  refine Eq.trans (zs_ic f198_31 ic_0) ?_
  rfl
theorem b198_32 {h : zi_Hp} {a0 : Nat} {x1 : Int32} {x2 : Int32} {s0 : Int32} {s1 : Int32}  : zv 3 198 32 [.ref a0, .int x1, .int x2] [.int s1, .int s0] h = (zv 1 143 0 [.int s1] [] h).bind fun r => zv 3 198 35 [.ref a0, .int x1, .int x2] (r.1.toList ++ [.int s0]) r.2 := by
  exact zs_callS f198_32 (by decide) (Nat.le_of_ble_eq_true rfl) (Nat.le_of_ble_eq_true rfl) rfl me_143 (by decide) rfl
theorem b198_35 {h : zi_Hp} {a0 : Nat} {x1 : Int32} {x2 : Int32} {s0 : Int32} {s1 : Int32}  : zv 3 198 35 [.ref a0, .int x1, .int x2] [.int s1, .int s0] h = zv 3 198 4 [.ref a0, .int (s0 + s1), .int (x2 + 1)] [] h := by
  refine Eq.trans (zv_next f198_35 rfl) ?_
  refine Eq.trans (zv_next f198_36 rfl) ?_
  refine Eq.trans (zs_inc f198_37 rfl ic_1 rfl) ?_
  refine Eq.trans (zs_goto (tgt := 4) f198_40 rfl) ?_
  rfl
theorem b198_43 {h : zi_Hp} {a0 : Nat} {x1 : Int32} {x2 : Int32}  : zv 3 198 43 [.ref a0, .int x1, .int x2] [] h = some (some (.int x1), h) := by
  refine Eq.trans (zv_next f198_43 rfl) ?_
  exact zs_ret0 f198_44
set_option maxRecDepth 20000 in
theorem zq199 : zi_M[199]? = some zi_m199 := rfl
theorem zl199_0 {pc : Nat} (_ : 0 ≤ pc) : zi_fe 199 pc = zu199_0.lookup pc := zi_feA zq199 pc
theorem f199_0 : zi_fe 199 0 = some ((.iconst 0), 1, 0, 0, 0, 0, 0) := (zl199_0 (Nat.le_of_ble_eq_true rfl)).trans rfl
theorem f199_1 : zi_fe 199 1 = some ((.istore_n 1), 1, 0, 0, 0, 0, 0) := (zl199_0 (Nat.le_of_ble_eq_true rfl)).trans rfl
theorem f199_2 : zi_fe 199 2 = some ((.iconst 0), 1, 0, 0, 0, 0, 0) := (zl199_0 (Nat.le_of_ble_eq_true rfl)).trans rfl
theorem f199_3 : zi_fe 199 3 = some ((.istore_n 2), 1, 0, 0, 0, 0, 0) := (zl199_0 (Nat.le_of_ble_eq_true rfl)).trans rfl
theorem f199_4 : zi_fe 199 4 = some ((.iload_n 2), 1, 0, 0, 0, 0, 0) := (zl199_0 (Nat.le_of_ble_eq_true rfl)).trans rfl
theorem f199_5 : zi_fe 199 5 = some ((.aload_n 0), 1, 0, 0, 0, 0, 0) := (zl199_0 (Nat.le_of_ble_eq_true rfl)).trans rfl
theorem f199_6 : zi_fe 199 6 = some ((.getfield 7), 3, 8, 0, 3, 1065, 0) := (zl199_0 (Nat.le_of_ble_eq_true rfl)).trans rfl
theorem f199_9 : zi_fe 199 9 = some ((.sipush 312), 3, 0, 0, 0, 0, 0) := (zl199_0 (Nat.le_of_ble_eq_true rfl)).trans rfl
theorem f199_12 : zi_fe 199 12 = some (.iaload, 1, 0, 0, 0, 0, 0) := (zl199_0 (Nat.le_of_ble_eq_true rfl)).trans rfl
theorem f199_13 : zi_fe 199 13 = some ((.if_icmp .ge 18), 3, 0, 0, 0, 0, 0) := (zl199_0 (Nat.le_of_ble_eq_true rfl)).trans rfl
theorem f199_16 : zi_fe 199 16 = some ((.iload_n 1), 1, 0, 0, 0, 0, 0) := (zl199_0 (Nat.le_of_ble_eq_true rfl)).trans rfl
theorem f199_17 : zi_fe 199 17 = some ((.aload_n 0), 1, 0, 0, 0, 0, 0) := (zl199_0 (Nat.le_of_ble_eq_true rfl)).trans rfl
theorem zl199_1 {pc : Nat} (h : 18 ≤ pc) : zi_fe 199 pc = zu199_1.lookup pc := (zl199_0 (Nat.le_trans (Nat.le_of_ble_eq_true rfl) h)).trans (zi_lkA (a := zi_i199_0) (c := 18) rfl h)
theorem f199_18 : zi_fe 199 18 = some ((.iload_n 2), 1, 0, 0, 0, 0, 0) := (zl199_1 (Nat.le_of_ble_eq_true rfl)).trans rfl
theorem f199_19 : zi_fe 199 19 = some ((.iconst 4), 1, 0, 0, 0, 0, 0) := (zl199_1 (Nat.le_of_ble_eq_true rfl)).trans rfl
theorem f199_20 : zi_fe 199 20 = some ((.invokevirtual 87), 3, 144, 0, 8, 1261, 3) := (zl199_1 (Nat.le_of_ble_eq_true rfl)).trans rfl
theorem f199_23 : zi_fe 199 23 = some (.iadd, 1, 0, 0, 0, 0, 0) := (zl199_1 (Nat.le_of_ble_eq_true rfl)).trans rfl
theorem f199_24 : zi_fe 199 24 = some ((.istore_n 1), 1, 0, 0, 0, 0, 0) := (zl199_1 (Nat.le_of_ble_eq_true rfl)).trans rfl
theorem f199_25 : zi_fe 199 25 = some ((.iinc 2 1), 3, 0, 0, 0, 0, 0) := (zl199_1 (Nat.le_of_ble_eq_true rfl)).trans rfl
theorem f199_28 : zi_fe 199 28 = some ((.goto (-24)), 3, 0, 0, 0, 0, 0) := (zl199_1 (Nat.le_of_ble_eq_true rfl)).trans rfl
theorem f199_31 : zi_fe 199 31 = some ((.iload_n 1), 1, 0, 0, 0, 0, 0) := (zl199_1 (Nat.le_of_ble_eq_true rfl)).trans rfl
theorem f199_32 : zi_fe 199 32 = some (.ireturn, 1, 0, 0, 0, 0, 0) := (zl199_1 (Nat.le_of_ble_eq_true rfl)).trans rfl
theorem b199_0 {h : zi_Hp} {a0 : Nat} {u1 : Value} {u2 : Value}  : zv 2 199 0 [.ref a0, u1, u2] [] h = zv 2 199 4 [.ref a0, .int 0, .int 0] [] h := by
  refine Eq.trans (zs_ic f199_0 ic_0) ?_
  refine Eq.trans (zv_next f199_1 rfl) ?_
  refine Eq.trans (zs_ic f199_2 ic_0) ?_
  refine Eq.trans (zv_next f199_3 rfl) ?_
  rfl
theorem b199_4 {h : zi_Hp} {a0 : Nat} {x1 : Int32} {x2 : Int32} (g0 : a0 < zh_n h) (g1 : (zh_k h a0).1 = 8) (g2 : zh_r h a0 0 = .ref (zq (zh_r h a0 0))) (g3 : (zq (zh_r h a0 0)) < zh_n h) (g4 : 312 < (zh_k h (zq (zh_r h a0 0))).2) (g5 : (zh_k h (zq (zh_r h a0 0))).1 = 100) : zv 2 199 4 [.ref a0, .int x1, .int x2] [] h = if x2 < (zh_i h (zq (zh_r h a0 0)) 312) then zv 2 199 16 [.ref a0, .int x1, .int x2] [] h else zv 2 199 31 [.ref a0, .int x1, .int x2] [] h := by
  refine Eq.trans (zv_next f199_4 rfl) ?_
  refine Eq.trans (zv_next f199_5 rfl) ?_
  refine Eq.trans (zs_getr f199_6 g0 g1 g2) ?_
  refine Eq.trans (zs_sp f199_9 sp_312) ?_
  refine Eq.trans (zs_iald f199_12 g3 g5 (zj_lit (by decide) g4)) ?_
  exact zs_icmp f199_13 rfl
theorem b199_16 {h : zi_Hp} {a0 : Nat} {x1 : Int32} {x2 : Int32} (g0 : a0 < zh_n h) (g1 : (zh_k h a0).1 = 8) : zv 2 199 16 [.ref a0, .int x1, .int x2] [] h = (zv 1 144 0 [.ref a0, .int x2, .int 4] [] h).bind fun r => zv 2 199 23 [.ref a0, .int x1, .int x2] (r.1.toList ++ [.int x1]) r.2 := by
  refine Eq.trans (zv_next f199_16 rfl) ?_
  refine Eq.trans (zv_next f199_17 rfl) ?_
  refine Eq.trans (zv_next f199_18 rfl) ?_
  refine Eq.trans (zs_ic f199_19 ic_4) ?_
  exact zs_callV f199_20 (Nat.le_of_ble_eq_true rfl) (Nat.le_of_ble_eq_true rfl) rfl g0 g1 me_144 (by decide) rfl
theorem b199_23 {h : zi_Hp} {a0 : Nat} {x1 : Int32} {x2 : Int32} {s0 : Int32} {s1 : Int32}  : zv 2 199 23 [.ref a0, .int x1, .int x2] [.int s1, .int s0] h = zv 2 199 4 [.ref a0, .int (s0 + s1), .int (x2 + 1)] [] h := by
  refine Eq.trans (zv_next f199_23 rfl) ?_
  refine Eq.trans (zv_next f199_24 rfl) ?_
  refine Eq.trans (zs_inc f199_25 rfl ic_1 rfl) ?_
  refine Eq.trans (zs_goto (tgt := 4) f199_28 rfl) ?_
  rfl
theorem b199_31 {h : zi_Hp} {a0 : Nat} {x1 : Int32} {x2 : Int32}  : zv 2 199 31 [.ref a0, .int x1, .int x2] [] h = some (some (.int x1), h) := by
  refine Eq.trans (zv_next f199_31 rfl) ?_
  exact zs_ret0 f199_32
set_option maxRecDepth 20000 in
theorem zq200 : zi_M[200]? = some zi_m200 := rfl
theorem zl200_0 {pc : Nat} (_ : 0 ≤ pc) : zi_fe 200 pc = zu200_0.lookup pc := zi_feA zq200 pc
theorem f200_0 : zi_fe 200 0 = some ((.iconst 0), 1, 0, 0, 0, 0, 0) := (zl200_0 (Nat.le_of_ble_eq_true rfl)).trans rfl
theorem f200_1 : zi_fe 200 1 = some ((.istore_n 2), 1, 0, 0, 0, 0, 0) := (zl200_0 (Nat.le_of_ble_eq_true rfl)).trans rfl
theorem f200_2 : zi_fe 200 2 = some ((.iconst 0), 1, 0, 0, 0, 0, 0) := (zl200_0 (Nat.le_of_ble_eq_true rfl)).trans rfl
theorem f200_3 : zi_fe 200 3 = some ((.istore_n 3), 1, 0, 0, 0, 0, 0) := (zl200_0 (Nat.le_of_ble_eq_true rfl)).trans rfl
theorem f200_4 : zi_fe 200 4 = some ((.iload_n 3), 1, 0, 0, 0, 0, 0) := (zl200_0 (Nat.le_of_ble_eq_true rfl)).trans rfl
theorem f200_5 : zi_fe 200 5 = some ((.aload_n 0), 1, 0, 0, 0, 0, 0) := (zl200_0 (Nat.le_of_ble_eq_true rfl)).trans rfl
theorem f200_6 : zi_fe 200 6 = some ((.getfield 7), 3, 8, 0, 3, 1065, 0) := (zl200_0 (Nat.le_of_ble_eq_true rfl)).trans rfl
theorem f200_9 : zi_fe 200 9 = some ((.sipush 312), 3, 0, 0, 0, 0, 0) := (zl200_0 (Nat.le_of_ble_eq_true rfl)).trans rfl
theorem f200_12 : zi_fe 200 12 = some (.iaload, 1, 0, 0, 0, 0, 0) := (zl200_0 (Nat.le_of_ble_eq_true rfl)).trans rfl
theorem f200_13 : zi_fe 200 13 = some ((.if_icmp .ge 67), 3, 0, 0, 0, 0, 0) := (zl200_0 (Nat.le_of_ble_eq_true rfl)).trans rfl
theorem f200_16 : zi_fe 200 16 = some ((.aload_n 0), 1, 0, 0, 0, 0, 0) := (zl200_0 (Nat.le_of_ble_eq_true rfl)).trans rfl
theorem f200_17 : zi_fe 200 17 = some ((.iload_n 3), 1, 0, 0, 0, 0, 0) := (zl200_0 (Nat.le_of_ble_eq_true rfl)).trans rfl
theorem zl200_1 {pc : Nat} (h : 18 ≤ pc) : zi_fe 200 pc = zu200_1.lookup pc := (zl200_0 (Nat.le_trans (Nat.le_of_ble_eq_true rfl) h)).trans (zi_lkA (a := zi_i200_0) (c := 18) rfl h)
theorem f200_18 : zi_fe 200 18 = some ((.iconst 0), 1, 0, 0, 0, 0, 0) := (zl200_1 (Nat.le_of_ble_eq_true rfl)).trans rfl
theorem f200_19 : zi_fe 200 19 = some ((.invokevirtual 87), 3, 144, 0, 8, 1261, 3) := (zl200_1 (Nat.le_of_ble_eq_true rfl)).trans rfl
theorem f200_22 : zi_fe 200 22 = some ((.ifCond .ne 52), 3, 0, 0, 0, 0, 0) := (zl200_1 (Nat.le_of_ble_eq_true rfl)).trans rfl
theorem f200_25 : zi_fe 200 25 = some ((.aload_n 0), 1, 0, 0, 0, 0, 0) := (zl200_1 (Nat.le_of_ble_eq_true rfl)).trans rfl
theorem f200_26 : zi_fe 200 26 = some ((.iload_n 3), 1, 0, 0, 0, 0, 0) := (zl200_1 (Nat.le_of_ble_eq_true rfl)).trans rfl
theorem f200_27 : zi_fe 200 27 = some ((.iconst 4), 1, 0, 0, 0, 0, 0) := (zl200_1 (Nat.le_of_ble_eq_true rfl)).trans rfl
theorem f200_28 : zi_fe 200 28 = some ((.invokevirtual 87), 3, 144, 0, 8, 1261, 3) := (zl200_1 (Nat.le_of_ble_eq_true rfl)).trans rfl
theorem f200_31 : zi_fe 200 31 = some ((.ifCond .ne 43), 3, 0, 0, 0, 0, 0) := (zl200_1 (Nat.le_of_ble_eq_true rfl)).trans rfl
theorem f200_34 : zi_fe 200 34 = some ((.iconst 0), 1, 0, 0, 0, 0, 0) := (zl200_1 (Nat.le_of_ble_eq_true rfl)).trans rfl
theorem f200_35 : zi_fe 200 35 = some ((.istore 4), 2, 0, 0, 0, 0, 0) := (zl200_1 (Nat.le_of_ble_eq_true rfl)).trans rfl
theorem f200_37 : zi_fe 200 37 = some ((.iload 4), 2, 0, 0, 0, 0, 0) := (zl200_1 (Nat.le_of_ble_eq_true rfl)).trans rfl
theorem f200_39 : zi_fe 200 39 = some ((.aload_n 0), 1, 0, 0, 0, 0, 0) := (zl200_1 (Nat.le_of_ble_eq_true rfl)).trans rfl
theorem zl200_2 {pc : Nat} (h : 40 ≤ pc) : zi_fe 200 pc = zu200_2.lookup pc := (zl200_1 (Nat.le_trans (Nat.le_of_ble_eq_true rfl) h)).trans (zi_lkA (a := zi_i200_1) (c := 40) rfl h)
theorem f200_40 : zi_fe 200 40 = some ((.iload_n 3), 1, 0, 0, 0, 0, 0) := (zl200_2 (Nat.le_of_ble_eq_true rfl)).trans rfl
theorem f200_41 : zi_fe 200 41 = some ((.iconst 1), 1, 0, 0, 0, 0, 0) := (zl200_2 (Nat.le_of_ble_eq_true rfl)).trans rfl
theorem f200_42 : zi_fe 200 42 = some ((.invokevirtual 87), 3, 144, 0, 8, 1261, 3) := (zl200_2 (Nat.le_of_ble_eq_true rfl)).trans rfl
theorem f200_45 : zi_fe 200 45 = some ((.if_icmp .ge 29), 3, 0, 0, 0, 0, 0) := (zl200_2 (Nat.le_of_ble_eq_true rfl)).trans rfl
theorem f200_48 : zi_fe 200 48 = some ((.iload_n 2), 1, 0, 0, 0, 0, 0) := (zl200_2 (Nat.le_of_ble_eq_true rfl)).trans rfl
theorem f200_49 : zi_fe 200 49 = some ((.iload_n 1), 1, 0, 0, 0, 0, 0) := (zl200_2 (Nat.le_of_ble_eq_true rfl)).trans rfl
theorem f200_50 : zi_fe 200 50 = some ((.ifCond .eq 15), 3, 0, 0, 0, 0, 0) := (zl200_2 (Nat.le_of_ble_eq_true rfl)).trans rfl
theorem f200_53 : zi_fe 200 53 = some ((.aload_n 0), 1, 0, 0, 0, 0, 0) := (zl200_2 (Nat.le_of_ble_eq_true rfl)).trans rfl
theorem f200_54 : zi_fe 200 54 = some ((.iload_n 3), 1, 0, 0, 0, 0, 0) := (zl200_2 (Nat.le_of_ble_eq_true rfl)).trans rfl
theorem f200_55 : zi_fe 200 55 = some ((.iconst 5), 1, 0, 0, 0, 0, 0) := (zl200_2 (Nat.le_of_ble_eq_true rfl)).trans rfl
theorem f200_56 : zi_fe 200 56 = some ((.iload 4), 2, 0, 0, 0, 0, 0) := (zl200_2 (Nat.le_of_ble_eq_true rfl)).trans rfl
theorem f200_58 : zi_fe 200 58 = some (.iadd, 1, 0, 0, 0, 0, 0) := (zl200_2 (Nat.le_of_ble_eq_true rfl)).trans rfl
theorem zl200_3 {pc : Nat} (h : 59 ≤ pc) : zi_fe 200 pc = zu200_3.lookup pc := (zl200_2 (Nat.le_trans (Nat.le_of_ble_eq_true rfl) h)).trans (zi_lkA (a := zi_i200_2) (c := 59) rfl h)
theorem f200_59 : zi_fe 200 59 = some ((.invokevirtual 87), 3, 144, 0, 8, 1261, 3) := (zl200_3 (Nat.le_of_ble_eq_true rfl)).trans rfl
theorem f200_62 : zi_fe 200 62 = some ((.goto 4), 3, 0, 0, 0, 0, 0) := (zl200_3 (Nat.le_of_ble_eq_true rfl)).trans rfl
theorem f200_65 : zi_fe 200 65 = some ((.iconst 1), 1, 0, 0, 0, 0, 0) := (zl200_3 (Nat.le_of_ble_eq_true rfl)).trans rfl
theorem f200_66 : zi_fe 200 66 = some (.iadd, 1, 0, 0, 0, 0, 0) := (zl200_3 (Nat.le_of_ble_eq_true rfl)).trans rfl
theorem f200_67 : zi_fe 200 67 = some ((.istore_n 2), 1, 0, 0, 0, 0, 0) := (zl200_3 (Nat.le_of_ble_eq_true rfl)).trans rfl
theorem f200_68 : zi_fe 200 68 = some ((.iinc 4 1), 3, 0, 0, 0, 0, 0) := (zl200_3 (Nat.le_of_ble_eq_true rfl)).trans rfl
theorem f200_71 : zi_fe 200 71 = some ((.goto (-34)), 3, 0, 0, 0, 0, 0) := (zl200_3 (Nat.le_of_ble_eq_true rfl)).trans rfl
theorem f200_74 : zi_fe 200 74 = some ((.iinc 3 1), 3, 0, 0, 0, 0, 0) := (zl200_3 (Nat.le_of_ble_eq_true rfl)).trans rfl
theorem f200_77 : zi_fe 200 77 = some ((.goto (-73)), 3, 0, 0, 0, 0, 0) := (zl200_3 (Nat.le_of_ble_eq_true rfl)).trans rfl
theorem f200_80 : zi_fe 200 80 = some ((.iload_n 2), 1, 0, 0, 0, 0, 0) := (zl200_3 (Nat.le_of_ble_eq_true rfl)).trans rfl
theorem f200_81 : zi_fe 200 81 = some (.ireturn, 1, 0, 0, 0, 0, 0) := (zl200_3 (Nat.le_of_ble_eq_true rfl)).trans rfl
theorem b200_0 {h : zi_Hp} {a0 : Nat} {x1 : Int32} {u2 : Value} {u3 : Value} {u4 : Value}  : zv 2 200 0 [.ref a0, .int x1, u2, u3, u4] [] h = zv 2 200 4 [.ref a0, .int x1, .int 0, .int 0, u4] [] h := by
  refine Eq.trans (zs_ic f200_0 ic_0) ?_
  refine Eq.trans (zv_next f200_1 rfl) ?_
  refine Eq.trans (zs_ic f200_2 ic_0) ?_
  refine Eq.trans (zv_next f200_3 rfl) ?_
  rfl
theorem b200_4 {h : zi_Hp} {a0 : Nat} {x1 : Int32} {x2 : Int32} {x3 : Int32} {u4 : Value} (g0 : a0 < zh_n h) (g1 : (zh_k h a0).1 = 8) (g2 : zh_r h a0 0 = .ref (zq (zh_r h a0 0))) (g3 : (zq (zh_r h a0 0)) < zh_n h) (g4 : 312 < (zh_k h (zq (zh_r h a0 0))).2) (g5 : (zh_k h (zq (zh_r h a0 0))).1 = 100) : zv 2 200 4 [.ref a0, .int x1, .int x2, .int x3, u4] [] h = if x3 < (zh_i h (zq (zh_r h a0 0)) 312) then zv 2 200 16 [.ref a0, .int x1, .int x2, .int x3, u4] [] h else zv 2 200 80 [.ref a0, .int x1, .int x2, .int x3, u4] [] h := by
  refine Eq.trans (zv_next f200_4 rfl) ?_
  refine Eq.trans (zv_next f200_5 rfl) ?_
  refine Eq.trans (zs_getr f200_6 g0 g1 g2) ?_
  refine Eq.trans (zs_sp f200_9 sp_312) ?_
  refine Eq.trans (zs_iald f200_12 g3 g5 (zj_lit (by decide) g4)) ?_
  exact zs_icmp f200_13 rfl
theorem b200_16 {h : zi_Hp} {a0 : Nat} {x1 : Int32} {x2 : Int32} {x3 : Int32} {u4 : Value} (g0 : a0 < zh_n h) (g1 : (zh_k h a0).1 = 8) : zv 2 200 16 [.ref a0, .int x1, .int x2, .int x3, u4] [] h = (zv 1 144 0 [.ref a0, .int x3, .int 0] [] h).bind fun r => zv 2 200 22 [.ref a0, .int x1, .int x2, .int x3, u4] (r.1.toList ++ []) r.2 := by
  refine Eq.trans (zv_next f200_16 rfl) ?_
  refine Eq.trans (zv_next f200_17 rfl) ?_
  refine Eq.trans (zs_ic f200_18 ic_0) ?_
  exact zs_callV f200_19 (Nat.le_of_ble_eq_true rfl) (Nat.le_of_ble_eq_true rfl) rfl g0 g1 me_144 (by decide) rfl
theorem b200_22 {h : zi_Hp} {a0 : Nat} {x1 : Int32} {x2 : Int32} {x3 : Int32} {u4 : Value} {s0 : Int32}  : zv 2 200 22 [.ref a0, .int x1, .int x2, .int x3, u4] [.int s0] h = if s0 = 0 then zv 2 200 25 [.ref a0, .int x1, .int x2, .int x3, u4] [] h else zv 2 200 74 [.ref a0, .int x1, .int x2, .int x3, u4] [] h := by
  exact zs_if f200_22 rfl
theorem b200_25 {h : zi_Hp} {a0 : Nat} {x1 : Int32} {x2 : Int32} {x3 : Int32} {u4 : Value} (g0 : a0 < zh_n h) (g1 : (zh_k h a0).1 = 8) : zv 2 200 25 [.ref a0, .int x1, .int x2, .int x3, u4] [] h = (zv 1 144 0 [.ref a0, .int x3, .int 4] [] h).bind fun r => zv 2 200 31 [.ref a0, .int x1, .int x2, .int x3, u4] (r.1.toList ++ []) r.2 := by
  refine Eq.trans (zv_next f200_25 rfl) ?_
  refine Eq.trans (zv_next f200_26 rfl) ?_
  refine Eq.trans (zs_ic f200_27 ic_4) ?_
  exact zs_callV f200_28 (Nat.le_of_ble_eq_true rfl) (Nat.le_of_ble_eq_true rfl) rfl g0 g1 me_144 (by decide) rfl
theorem b200_31 {h : zi_Hp} {a0 : Nat} {x1 : Int32} {x2 : Int32} {x3 : Int32} {u4 : Value} {s0 : Int32}  : zv 2 200 31 [.ref a0, .int x1, .int x2, .int x3, u4] [.int s0] h = if s0 = 0 then zv 2 200 34 [.ref a0, .int x1, .int x2, .int x3, u4] [] h else zv 2 200 74 [.ref a0, .int x1, .int x2, .int x3, u4] [] h := by
  exact zs_if f200_31 rfl
theorem b200_34 {h : zi_Hp} {a0 : Nat} {x1 : Int32} {x2 : Int32} {x3 : Int32} {u4 : Value}  : zv 2 200 34 [.ref a0, .int x1, .int x2, .int x3, u4] [] h = zv 2 200 37 [.ref a0, .int x1, .int x2, .int x3, .int 0] [] h := by
  refine Eq.trans (zs_ic f200_34 ic_0) ?_
  refine Eq.trans (zv_next f200_35 rfl) ?_
  rfl
theorem b200_37 {h : zi_Hp} {a0 : Nat} {x1 : Int32} {x2 : Int32} {x3 : Int32} {x4 : Int32} (g0 : a0 < zh_n h) (g1 : (zh_k h a0).1 = 8) : zv 2 200 37 [.ref a0, .int x1, .int x2, .int x3, .int x4] [] h = (zv 1 144 0 [.ref a0, .int x3, .int 1] [] h).bind fun r => zv 2 200 45 [.ref a0, .int x1, .int x2, .int x3, .int x4] (r.1.toList ++ [.int x4]) r.2 := by
  refine Eq.trans (zv_next f200_37 rfl) ?_
  refine Eq.trans (zv_next f200_39 rfl) ?_
  refine Eq.trans (zv_next f200_40 rfl) ?_
  refine Eq.trans (zs_ic f200_41 ic_1) ?_
  exact zs_callV f200_42 (Nat.le_of_ble_eq_true rfl) (Nat.le_of_ble_eq_true rfl) rfl g0 g1 me_144 (by decide) rfl
theorem b200_45 {h : zi_Hp} {a0 : Nat} {x1 : Int32} {x2 : Int32} {x3 : Int32} {x4 : Int32} {s0 : Int32} {s1 : Int32}  : zv 2 200 45 [.ref a0, .int x1, .int x2, .int x3, .int x4] [.int s1, .int s0] h = if s0 < s1 then zv 2 200 48 [.ref a0, .int x1, .int x2, .int x3, .int x4] [] h else zv 2 200 74 [.ref a0, .int x1, .int x2, .int x3, .int x4] [] h := by
  exact zs_icmp f200_45 rfl
theorem b200_48 {h : zi_Hp} {a0 : Nat} {x1 : Int32} {x2 : Int32} {x3 : Int32} {x4 : Int32}  : zv 2 200 48 [.ref a0, .int x1, .int x2, .int x3, .int x4] [] h = if x1 = 0 then zv 2 200 65 [.ref a0, .int x1, .int x2, .int x3, .int x4] [.int x2] h else zv 2 200 53 [.ref a0, .int x1, .int x2, .int x3, .int x4] [.int x2] h := by
  refine Eq.trans (zv_next f200_48 rfl) ?_
  refine Eq.trans (zv_next f200_49 rfl) ?_
  exact zs_if f200_50 rfl
theorem b200_53 {h : zi_Hp} {a0 : Nat} {x1 : Int32} {x2 : Int32} {x3 : Int32} {x4 : Int32} {s0 : Int32} (g0 : a0 < zh_n h) (g1 : (zh_k h a0).1 = 8) : zv 2 200 53 [.ref a0, .int x1, .int x2, .int x3, .int x4] [.int s0] h = (zv 1 144 0 [.ref a0, .int x3, .int (5 + x4)] [] h).bind fun r => zv 2 200 62 [.ref a0, .int x1, .int x2, .int x3, .int x4] (r.1.toList ++ [.int s0]) r.2 := by
  refine Eq.trans (zv_next f200_53 rfl) ?_
  refine Eq.trans (zv_next f200_54 rfl) ?_
  refine Eq.trans (zs_ic f200_55 ic_5) ?_
  refine Eq.trans (zv_next f200_56 rfl) ?_
  refine Eq.trans (zv_next f200_58 rfl) ?_
  exact zs_callV f200_59 (Nat.le_of_ble_eq_true rfl) (Nat.le_of_ble_eq_true rfl) rfl g0 g1 me_144 (by decide) rfl
theorem b200_62 {h : zi_Hp} {a0 : Nat} {x1 : Int32} {x2 : Int32} {x3 : Int32} {x4 : Int32} {s0 : Int32} {s1 : Int32}  : zv 2 200 62 [.ref a0, .int x1, .int x2, .int x3, .int x4] [.int s1, .int s0] h = zv 2 200 66 [.ref a0, .int x1, .int x2, .int x3, .int x4] [.int s1, .int s0] h := by
  refine Eq.trans (zs_goto (tgt := 66) f200_62 rfl) ?_
  rfl
theorem b200_65 {h : zi_Hp} {a0 : Nat} {x1 : Int32} {x2 : Int32} {x3 : Int32} {x4 : Int32} {s0 : Int32}  : zv 2 200 65 [.ref a0, .int x1, .int x2, .int x3, .int x4] [.int s0] h = zv 2 200 66 [.ref a0, .int x1, .int x2, .int x3, .int x4] [.int 1, .int s0] h := by
  refine Eq.trans (zs_ic f200_65 ic_1) ?_
  rfl
theorem b200_66 {h : zi_Hp} {a0 : Nat} {x1 : Int32} {x2 : Int32} {x3 : Int32} {x4 : Int32} {s0 : Int32} {s1 : Int32}  : zv 2 200 66 [.ref a0, .int x1, .int x2, .int x3, .int x4] [.int s1, .int s0] h = zv 2 200 37 [.ref a0, .int x1, .int (s0 + s1), .int x3, .int (x4 + 1)] [] h := by
  refine Eq.trans (zv_next f200_66 rfl) ?_
  refine Eq.trans (zv_next f200_67 rfl) ?_
  refine Eq.trans (zs_inc f200_68 rfl ic_1 rfl) ?_
  refine Eq.trans (zs_goto (tgt := 37) f200_71 rfl) ?_
  rfl
theorem b200_74 {h : zi_Hp} {a0 : Nat} {x1 : Int32} {x2 : Int32} {x3 : Int32} {u4 : Value}  : zv 2 200 74 [.ref a0, .int x1, .int x2, .int x3, u4] [] h = zv 2 200 4 [.ref a0, .int x1, .int x2, .int (x3 + 1), u4] [] h := by
  refine Eq.trans (zs_inc f200_74 rfl ic_1 rfl) ?_
  refine Eq.trans (zs_goto (tgt := 4) f200_77 rfl) ?_
  rfl
theorem b200_80 {h : zi_Hp} {a0 : Nat} {x1 : Int32} {x2 : Int32} {x3 : Int32} {u4 : Value}  : zv 2 200 80 [.ref a0, .int x1, .int x2, .int x3, u4] [] h = some (some (.int x2), h) := by
  refine Eq.trans (zv_next f200_80 rfl) ?_
  exact zs_ret0 f200_81
set_option maxRecDepth 20000 in
theorem zq201 : zi_M[201]? = some zi_m201 := rfl
theorem zl201_0 {pc : Nat} (_ : 0 ≤ pc) : zi_fe 201 pc = zu201_0.lookup pc := zi_feA zq201 pc
theorem f201_0 : zi_fe 201 0 = some ((.iload_n 1), 1, 0, 0, 0, 0, 0) := (zl201_0 (Nat.le_of_ble_eq_true rfl)).trans rfl
theorem f201_1 : zi_fe 201 1 = some ((.tableswitch 109 0 7 #[47, 56, 65, 79, 88, 94, 99, 104]), 47, 0, 0, 0, 0, 0) := (zl201_0 (Nat.le_of_ble_eq_true rfl)).trans rfl
theorem f201_48 : zi_fe 201 48 = some ((.aload_n 0), 1, 0, 0, 0, 0, 0) := (zl201_0 (Nat.le_of_ble_eq_true rfl)).trans rfl
theorem f201_49 : zi_fe 201 49 = some ((.getfield 7), 3, 8, 0, 3, 1065, 0) := (zl201_0 (Nat.le_of_ble_eq_true rfl)).trans rfl
theorem f201_52 : zi_fe 201 52 = some ((.sipush 312), 3, 0, 0, 0, 0, 0) := (zl201_0 (Nat.le_of_ble_eq_true rfl)).trans rfl
theorem f201_55 : zi_fe 201 55 = some (.iaload, 1, 0, 0, 0, 0, 0) := (zl201_0 (Nat.le_of_ble_eq_true rfl)).trans rfl
theorem f201_56 : zi_fe 201 56 = some (.ireturn, 1, 0, 0, 0, 0, 0) := (zl201_0 (Nat.le_of_ble_eq_true rfl)).trans rfl
theorem f201_57 : zi_fe 201 57 = some ((.aload_n 0), 1, 0, 0, 0, 0, 0) := (zl201_0 (Nat.le_of_ble_eq_true rfl)).trans rfl
theorem f201_58 : zi_fe 201 58 = some ((.getfield 7), 3, 8, 0, 3, 1065, 0) := (zl201_0 (Nat.le_of_ble_eq_true rfl)).trans rfl
theorem f201_61 : zi_fe 201 61 = some ((.sipush 313), 3, 0, 0, 0, 0, 0) := (zl201_0 (Nat.le_of_ble_eq_true rfl)).trans rfl
theorem f201_64 : zi_fe 201 64 = some (.iaload, 1, 0, 0, 0, 0, 0) := (zl201_0 (Nat.le_of_ble_eq_true rfl)).trans rfl
theorem f201_65 : zi_fe 201 65 = some (.ireturn, 1, 0, 0, 0, 0, 0) := (zl201_0 (Nat.le_of_ble_eq_true rfl)).trans rfl
theorem zl201_1 {pc : Nat} (h : 66 ≤ pc) : zi_fe 201 pc = zu201_1.lookup pc := (zl201_0 (Nat.le_trans (Nat.le_of_ble_eq_true rfl) h)).trans (zi_lkA (a := zi_i201_0) (c := 66) rfl h)
theorem f201_66 : zi_fe 201 66 = some ((.aload_n 0), 1, 0, 0, 0, 0, 0) := (zl201_1 (Nat.le_of_ble_eq_true rfl)).trans rfl
theorem f201_67 : zi_fe 201 67 = some ((.aload_n 0), 1, 0, 0, 0, 0, 0) := (zl201_1 (Nat.le_of_ble_eq_true rfl)).trans rfl
theorem f201_68 : zi_fe 201 68 = some ((.getfield 7), 3, 8, 0, 3, 1065, 0) := (zl201_1 (Nat.le_of_ble_eq_true rfl)).trans rfl
theorem f201_71 : zi_fe 201 71 = some ((.sipush 313), 3, 0, 0, 0, 0, 0) := (zl201_1 (Nat.le_of_ble_eq_true rfl)).trans rfl
theorem f201_74 : zi_fe 201 74 = some (.iaload, 1, 0, 0, 0, 0, 0) := (zl201_1 (Nat.le_of_ble_eq_true rfl)).trans rfl
theorem f201_75 : zi_fe 201 75 = some ((.iconst 0), 1, 0, 0, 0, 0, 0) := (zl201_1 (Nat.le_of_ble_eq_true rfl)).trans rfl
theorem f201_76 : zi_fe 201 76 = some ((.invokevirtual 87), 3, 144, 0, 8, 1261, 3) := (zl201_1 (Nat.le_of_ble_eq_true rfl)).trans rfl
theorem f201_79 : zi_fe 201 79 = some (.ireturn, 1, 0, 0, 0, 0, 0) := (zl201_1 (Nat.le_of_ble_eq_true rfl)).trans rfl
theorem f201_80 : zi_fe 201 80 = some ((.aload_n 0), 1, 0, 0, 0, 0, 0) := (zl201_1 (Nat.le_of_ble_eq_true rfl)).trans rfl
theorem f201_81 : zi_fe 201 81 = some ((.getfield 7), 3, 8, 0, 3, 1065, 0) := (zl201_1 (Nat.le_of_ble_eq_true rfl)).trans rfl
theorem f201_84 : zi_fe 201 84 = some ((.sipush 314), 3, 0, 0, 0, 0, 0) := (zl201_1 (Nat.le_of_ble_eq_true rfl)).trans rfl
theorem f201_87 : zi_fe 201 87 = some (.iaload, 1, 0, 0, 0, 0, 0) := (zl201_1 (Nat.le_of_ble_eq_true rfl)).trans rfl
theorem zl201_2 {pc : Nat} (h : 88 ≤ pc) : zi_fe 201 pc = zu201_2.lookup pc := (zl201_1 (Nat.le_trans (Nat.le_of_ble_eq_true rfl) h)).trans (zi_lkA (a := zi_i201_1) (c := 88) rfl h)
theorem f201_88 : zi_fe 201 88 = some (.ireturn, 1, 0, 0, 0, 0, 0) := (zl201_2 (Nat.le_of_ble_eq_true rfl)).trans rfl
theorem f201_89 : zi_fe 201 89 = some ((.aload_n 0), 1, 0, 0, 0, 0, 0) := (zl201_2 (Nat.le_of_ble_eq_true rfl)).trans rfl
theorem f201_90 : zi_fe 201 90 = some ((.iconst 0), 1, 0, 0, 0, 0, 0) := (zl201_2 (Nat.le_of_ble_eq_true rfl)).trans rfl
theorem f201_91 : zi_fe 201 91 = some ((.invokevirtual 280), 3, 200, 0, 8, 1387, 2) := (zl201_2 (Nat.le_of_ble_eq_true rfl)).trans rfl
theorem f201_94 : zi_fe 201 94 = some (.ireturn, 1, 0, 0, 0, 0, 0) := (zl201_2 (Nat.le_of_ble_eq_true rfl)).trans rfl
theorem f201_95 : zi_fe 201 95 = some ((.aload_n 0), 1, 0, 0, 0, 0, 0) := (zl201_2 (Nat.le_of_ble_eq_true rfl)).trans rfl
theorem f201_96 : zi_fe 201 96 = some ((.invokevirtual 283), 3, 198, 0, 8, 1391, 1) := (zl201_2 (Nat.le_of_ble_eq_true rfl)).trans rfl
theorem f201_99 : zi_fe 201 99 = some (.ireturn, 1, 0, 0, 0, 0, 0) := (zl201_2 (Nat.le_of_ble_eq_true rfl)).trans rfl
theorem f201_100 : zi_fe 201 100 = some ((.aload_n 0), 1, 0, 0, 0, 0, 0) := (zl201_2 (Nat.le_of_ble_eq_true rfl)).trans rfl
theorem f201_101 : zi_fe 201 101 = some ((.invokevirtual 286), 3, 199, 0, 8, 1395, 1) := (zl201_2 (Nat.le_of_ble_eq_true rfl)).trans rfl
theorem f201_104 : zi_fe 201 104 = some (.ireturn, 1, 0, 0, 0, 0, 0) := (zl201_2 (Nat.le_of_ble_eq_true rfl)).trans rfl
theorem f201_105 : zi_fe 201 105 = some ((.aload_n 0), 1, 0, 0, 0, 0, 0) := (zl201_2 (Nat.le_of_ble_eq_true rfl)).trans rfl
theorem zl201_3 {pc : Nat} (h : 106 ≤ pc) : zi_fe 201 pc = zu201_3.lookup pc := (zl201_2 (Nat.le_trans (Nat.le_of_ble_eq_true rfl) h)).trans (zi_lkA (a := zi_i201_2) (c := 106) rfl h)
theorem f201_106 : zi_fe 201 106 = some ((.invokevirtual 289), 3, 197, 0, 8, 1399, 1) := (zl201_3 (Nat.le_of_ble_eq_true rfl)).trans rfl
theorem f201_109 : zi_fe 201 109 = some (.ireturn, 1, 0, 0, 0, 0, 0) := (zl201_3 (Nat.le_of_ble_eq_true rfl)).trans rfl
theorem f201_110 : zi_fe 201 110 = some ((.iconst (-1)), 1, 0, 0, 0, 0, 0) := (zl201_3 (Nat.le_of_ble_eq_true rfl)).trans rfl
theorem f201_111 : zi_fe 201 111 = some (.ireturn, 1, 0, 0, 0, 0, 0) := (zl201_3 (Nat.le_of_ble_eq_true rfl)).trans rfl
theorem b201_0_c0 {h : zi_Hp} {a0 : Nat} {x1 : Int32}  (hx : x1 = 0) : zv 6 201 0 [.ref a0, .int x1] [] h = zv 6 201 48 [.ref a0, .int x1] [] h := by
  refine Eq.trans (zv_next f201_0 rfl) ?_
  exact zs_sw (off := 47) (v := 0) f201_1 (by decide) (by decide) rfl hx
theorem b201_0_c1 {h : zi_Hp} {a0 : Nat} {x1 : Int32}  (hx : x1 = 1) : zv 6 201 0 [.ref a0, .int x1] [] h = zv 6 201 57 [.ref a0, .int x1] [] h := by
  refine Eq.trans (zv_next f201_0 rfl) ?_
  exact zs_sw (off := 56) (v := 1) f201_1 (by decide) (by decide) rfl hx
theorem b201_0_c2 {h : zi_Hp} {a0 : Nat} {x1 : Int32}  (hx : x1 = 2) : zv 6 201 0 [.ref a0, .int x1] [] h = zv 6 201 66 [.ref a0, .int x1] [] h := by
  refine Eq.trans (zv_next f201_0 rfl) ?_
  exact zs_sw (off := 65) (v := 2) f201_1 (by decide) (by decide) rfl hx
theorem b201_0_c3 {h : zi_Hp} {a0 : Nat} {x1 : Int32}  (hx : x1 = 3) : zv 6 201 0 [.ref a0, .int x1] [] h = zv 6 201 80 [.ref a0, .int x1] [] h := by
  refine Eq.trans (zv_next f201_0 rfl) ?_
  exact zs_sw (off := 79) (v := 3) f201_1 (by decide) (by decide) rfl hx
theorem b201_0_c4 {h : zi_Hp} {a0 : Nat} {x1 : Int32}  (hx : x1 = 4) : zv 6 201 0 [.ref a0, .int x1] [] h = zv 6 201 89 [.ref a0, .int x1] [] h := by
  refine Eq.trans (zv_next f201_0 rfl) ?_
  exact zs_sw (off := 88) (v := 4) f201_1 (by decide) (by decide) rfl hx
theorem b201_0_c5 {h : zi_Hp} {a0 : Nat} {x1 : Int32}  (hx : x1 = 5) : zv 6 201 0 [.ref a0, .int x1] [] h = zv 6 201 95 [.ref a0, .int x1] [] h := by
  refine Eq.trans (zv_next f201_0 rfl) ?_
  exact zs_sw (off := 94) (v := 5) f201_1 (by decide) (by decide) rfl hx
theorem b201_0_c6 {h : zi_Hp} {a0 : Nat} {x1 : Int32}  (hx : x1 = 6) : zv 6 201 0 [.ref a0, .int x1] [] h = zv 6 201 100 [.ref a0, .int x1] [] h := by
  refine Eq.trans (zv_next f201_0 rfl) ?_
  exact zs_sw (off := 99) (v := 6) f201_1 (by decide) (by decide) rfl hx
theorem b201_0_c7 {h : zi_Hp} {a0 : Nat} {x1 : Int32}  (hx : x1 = 7) : zv 6 201 0 [.ref a0, .int x1] [] h = zv 6 201 105 [.ref a0, .int x1] [] h := by
  refine Eq.trans (zv_next f201_0 rfl) ?_
  exact zs_sw (off := 104) (v := 7) f201_1 (by decide) (by decide) rfl hx
theorem b201_0_d {h : zi_Hp} {a0 : Nat} {x1 : Int32}  (hx : (x1).toInt < 0 ∨ 7 < (x1).toInt) : zv 6 201 0 [.ref a0, .int x1] [] h = zv 6 201 110 [.ref a0, .int x1] [] h := by
  refine Eq.trans (zv_next f201_0 rfl) ?_
  exact zs_swO f201_1 rfl hx
theorem b201_48 {h : zi_Hp} {a0 : Nat} {x1 : Int32} (g0 : a0 < zh_n h) (g1 : (zh_k h a0).1 = 8) (g2 : zh_r h a0 0 = .ref (zq (zh_r h a0 0))) (g3 : (zq (zh_r h a0 0)) < zh_n h) (g4 : 312 < (zh_k h (zq (zh_r h a0 0))).2) (g5 : (zh_k h (zq (zh_r h a0 0))).1 = 100) : zv 6 201 48 [.ref a0, .int x1] [] h = some (some (.int (zh_i h (zq (zh_r h a0 0)) 312)), h) := by
  refine Eq.trans (zv_next f201_48 rfl) ?_
  refine Eq.trans (zs_getr f201_49 g0 g1 g2) ?_
  refine Eq.trans (zs_sp f201_52 sp_312) ?_
  refine Eq.trans (zs_iald f201_55 g3 g5 (zj_lit (by decide) g4)) ?_
  exact zs_ret0 f201_56
theorem b201_57 {h : zi_Hp} {a0 : Nat} {x1 : Int32} (g0 : a0 < zh_n h) (g1 : (zh_k h a0).1 = 8) (g2 : zh_r h a0 0 = .ref (zq (zh_r h a0 0))) (g3 : (zq (zh_r h a0 0)) < zh_n h) (g4 : 313 < (zh_k h (zq (zh_r h a0 0))).2) (g5 : (zh_k h (zq (zh_r h a0 0))).1 = 100) : zv 6 201 57 [.ref a0, .int x1] [] h = some (some (.int (zh_i h (zq (zh_r h a0 0)) 313)), h) := by
  refine Eq.trans (zv_next f201_57 rfl) ?_
  refine Eq.trans (zs_getr f201_58 g0 g1 g2) ?_
  refine Eq.trans (zs_sp f201_61 sp_313) ?_
  refine Eq.trans (zs_iald f201_64 g3 g5 (zj_lit (by decide) g4)) ?_
  exact zs_ret0 f201_65
theorem b201_66 {h : zi_Hp} {a0 : Nat} {x1 : Int32} (g0 : a0 < zh_n h) (g1 : (zh_k h a0).1 = 8) (g2 : zh_r h a0 0 = .ref (zq (zh_r h a0 0))) (g3 : (zq (zh_r h a0 0)) < zh_n h) (g4 : 313 < (zh_k h (zq (zh_r h a0 0))).2) (g5 : (zh_k h (zq (zh_r h a0 0))).1 = 100) : zv 6 201 66 [.ref a0, .int x1] [] h = (zv 1 144 0 [.ref a0, .int (zh_i h (zq (zh_r h a0 0)) 313), .int 0] [] h).bind fun r => zv 6 201 79 [.ref a0, .int x1] (r.1.toList ++ []) r.2 := by
  refine Eq.trans (zv_next f201_66 rfl) ?_
  refine Eq.trans (zv_next f201_67 rfl) ?_
  refine Eq.trans (zs_getr f201_68 g0 g1 g2) ?_
  refine Eq.trans (zs_sp f201_71 sp_313) ?_
  refine Eq.trans (zs_iald f201_74 g3 g5 (zj_lit (by decide) g4)) ?_
  refine Eq.trans (zs_ic f201_75 ic_0) ?_
  exact zs_callV f201_76 (Nat.le_of_ble_eq_true rfl) (Nat.le_of_ble_eq_true rfl) rfl g0 g1 me_144 (by decide) rfl
theorem b201_79 {h : zi_Hp} {a0 : Nat} {x1 : Int32} {s0 : Int32}  : zv 6 201 79 [.ref a0, .int x1] [.int s0] h = some (some (.int s0), h) := by
  exact zs_ret0 f201_79
theorem b201_80 {h : zi_Hp} {a0 : Nat} {x1 : Int32} (g0 : a0 < zh_n h) (g1 : (zh_k h a0).1 = 8) (g2 : zh_r h a0 0 = .ref (zq (zh_r h a0 0))) (g3 : (zq (zh_r h a0 0)) < zh_n h) (g4 : 314 < (zh_k h (zq (zh_r h a0 0))).2) (g5 : (zh_k h (zq (zh_r h a0 0))).1 = 100) : zv 6 201 80 [.ref a0, .int x1] [] h = some (some (.int (zh_i h (zq (zh_r h a0 0)) 314)), h) := by
  refine Eq.trans (zv_next f201_80 rfl) ?_
  refine Eq.trans (zs_getr f201_81 g0 g1 g2) ?_
  refine Eq.trans (zs_sp f201_84 sp_314) ?_
  refine Eq.trans (zs_iald f201_87 g3 g5 (zj_lit (by decide) g4)) ?_
  exact zs_ret0 f201_88
theorem b201_89 {h : zi_Hp} {a0 : Nat} {x1 : Int32} (g0 : a0 < zh_n h) (g1 : (zh_k h a0).1 = 8) : zv 6 201 89 [.ref a0, .int x1] [] h = (zv 2 200 0 [.ref a0, .int 0, .double 0, .double 0, .double 0] [] h).bind fun r => zv 6 201 94 [.ref a0, .int x1] (r.1.toList ++ []) r.2 := by
  refine Eq.trans (zv_next f201_89 rfl) ?_
  refine Eq.trans (zs_ic f201_90 ic_0) ?_
  exact zs_callV f201_91 (Nat.le_of_ble_eq_true rfl) (Nat.le_of_ble_eq_true rfl) rfl g0 g1 me_200 (by decide) rfl
theorem b201_94 {h : zi_Hp} {a0 : Nat} {x1 : Int32} {s0 : Int32}  : zv 6 201 94 [.ref a0, .int x1] [.int s0] h = some (some (.int s0), h) := by
  exact zs_ret0 f201_94
theorem b201_95 {h : zi_Hp} {a0 : Nat} {x1 : Int32} (g0 : a0 < zh_n h) (g1 : (zh_k h a0).1 = 8) : zv 6 201 95 [.ref a0, .int x1] [] h = (zv 3 198 0 [.ref a0, .double 0, .double 0] [] h).bind fun r => zv 6 201 99 [.ref a0, .int x1] (r.1.toList ++ []) r.2 := by
  refine Eq.trans (zv_next f201_95 rfl) ?_
  exact zs_callV f201_96 (Nat.le_of_ble_eq_true rfl) (Nat.le_of_ble_eq_true rfl) rfl g0 g1 me_198 (by decide) rfl
theorem b201_99 {h : zi_Hp} {a0 : Nat} {x1 : Int32} {s0 : Int32}  : zv 6 201 99 [.ref a0, .int x1] [.int s0] h = some (some (.int s0), h) := by
  exact zs_ret0 f201_99
theorem b201_100 {h : zi_Hp} {a0 : Nat} {x1 : Int32} (g0 : a0 < zh_n h) (g1 : (zh_k h a0).1 = 8) : zv 6 201 100 [.ref a0, .int x1] [] h = (zv 2 199 0 [.ref a0, .double 0, .double 0] [] h).bind fun r => zv 6 201 104 [.ref a0, .int x1] (r.1.toList ++ []) r.2 := by
  refine Eq.trans (zv_next f201_100 rfl) ?_
  exact zs_callV f201_101 (Nat.le_of_ble_eq_true rfl) (Nat.le_of_ble_eq_true rfl) rfl g0 g1 me_199 (by decide) rfl
theorem b201_104 {h : zi_Hp} {a0 : Nat} {x1 : Int32} {s0 : Int32}  : zv 6 201 104 [.ref a0, .int x1] [.int s0] h = some (some (.int s0), h) := by
  exact zs_ret0 f201_104
theorem b201_105 {h : zi_Hp} {a0 : Nat} {x1 : Int32} (g0 : a0 < zh_n h) (g1 : (zh_k h a0).1 = 8) : zv 6 201 105 [.ref a0, .int x1] [] h = (zv 5 197 0 [.ref a0, .double 0, .double 0] [] h).bind fun r => zv 6 201 109 [.ref a0, .int x1] (r.1.toList ++ []) r.2 := by
  refine Eq.trans (zv_next f201_105 rfl) ?_
  exact zs_callV f201_106 (Nat.le_of_ble_eq_true rfl) (Nat.le_of_ble_eq_true rfl) rfl g0 g1 me_197 (by decide) rfl
theorem b201_109 {h : zi_Hp} {a0 : Nat} {x1 : Int32} {s0 : Int32}  : zv 6 201 109 [.ref a0, .int x1] [.int s0] h = some (some (.int s0), h) := by
  exact zs_ret0 f201_109
theorem b201_110 {h : zi_Hp} {a0 : Nat} {x1 : Int32}  : zv 6 201 110 [.ref a0, .int x1] [] h = some (some (.int (-1)), h) := by
  refine Eq.trans (zs_ic f201_110 ic_m1) ?_
  exact zs_ret0 f201_111
set_option maxRecDepth 20000 in
theorem zq202 : zi_M[202]? = some zi_m202 := rfl
theorem zl202_0 {pc : Nat} (_ : 0 ≤ pc) : zi_fe 202 pc = zu202_0.lookup pc := zi_feA zq202 pc
theorem f202_0 : zi_fe 202 0 = some ((.aload_n 0), 1, 0, 0, 0, 0, 0) := (zl202_0 (Nat.le_of_ble_eq_true rfl)).trans rfl
theorem f202_1 : zi_fe 202 1 = some ((.iload_n 1), 1, 0, 0, 0, 0, 0) := (zl202_0 (Nat.le_of_ble_eq_true rfl)).trans rfl
theorem f202_2 : zi_fe 202 2 = some ((.invokevirtual 292), 3, 194, 0, 8, 1407, 2) := (zl202_0 (Nat.le_of_ble_eq_true rfl)).trans rfl
theorem f202_5 : zi_fe 202 5 = some ((.ifCond .eq 15), 3, 0, 0, 0, 0, 0) := (zl202_0 (Nat.le_of_ble_eq_true rfl)).trans rfl
theorem f202_8 : zi_fe 202 8 = some ((.iload_n 2), 1, 0, 0, 0, 0, 0) := (zl202_0 (Nat.le_of_ble_eq_true rfl)).trans rfl
theorem f202_9 : zi_fe 202 9 = some (.i2l, 1, 0, 0, 0, 0, 0) := (zl202_0 (Nat.le_of_ble_eq_true rfl)).trans rfl
theorem f202_10 : zi_fe 202 10 = some ((.lconst 0), 1, 0, 0, 0, 0, 0) := (zl202_0 (Nat.le_of_ble_eq_true rfl)).trans rfl
theorem f202_11 : zi_fe 202 11 = some ((.ldc2_w 295), 3, 0, 0, 0, 1411, 5) := (zl202_0 (Nat.le_of_ble_eq_true rfl)).trans rfl
theorem f202_14 : zi_fe 202 14 = some ((.invokestatic 196), 3, 142, 1, 8, 1189, 3) := (zl202_0 (Nat.le_of_ble_eq_true rfl)).trans rfl
theorem f202_17 : zi_fe 202 17 = some ((.ifCond .ne 5), 3, 0, 0, 0, 0, 0) := (zl202_0 (Nat.le_of_ble_eq_true rfl)).trans rfl
theorem f202_20 : zi_fe 202 20 = some ((.iconst (-1)), 1, 0, 0, 0, 0, 0) := (zl202_0 (Nat.le_of_ble_eq_true rfl)).trans rfl
theorem f202_21 : zi_fe 202 21 = some (.ireturn, 1, 0, 0, 0, 0, 0) := (zl202_0 (Nat.le_of_ble_eq_true rfl)).trans rfl
theorem zl202_1 {pc : Nat} (h : 22 ≤ pc) : zi_fe 202 pc = zu202_1.lookup pc := (zl202_0 (Nat.le_trans (Nat.le_of_ble_eq_true rfl) h)).trans (zi_lkA (a := zi_i202_0) (c := 22) rfl h)
theorem f202_22 : zi_fe 202 22 = some ((.iload_n 2), 1, 0, 0, 0, 0, 0) := (zl202_1 (Nat.le_of_ble_eq_true rfl)).trans rfl
theorem f202_23 : zi_fe 202 23 = some ((.iconst 4), 1, 0, 0, 0, 0, 0) := (zl202_1 (Nat.le_of_ble_eq_true rfl)).trans rfl
theorem f202_24 : zi_fe 202 24 = some ((.if_icmp .ge 12), 3, 0, 0, 0, 0, 0) := (zl202_1 (Nat.le_of_ble_eq_true rfl)).trans rfl
theorem f202_27 : zi_fe 202 27 = some ((.aload_n 0), 1, 0, 0, 0, 0, 0) := (zl202_1 (Nat.le_of_ble_eq_true rfl)).trans rfl
theorem f202_28 : zi_fe 202 28 = some ((.iload_n 1), 1, 0, 0, 0, 0, 0) := (zl202_1 (Nat.le_of_ble_eq_true rfl)).trans rfl
theorem f202_29 : zi_fe 202 29 = some ((.iload_n 2), 1, 0, 0, 0, 0, 0) := (zl202_1 (Nat.le_of_ble_eq_true rfl)).trans rfl
theorem f202_30 : zi_fe 202 30 = some ((.invokevirtual 87), 3, 144, 0, 8, 1261, 3) := (zl202_1 (Nat.le_of_ble_eq_true rfl)).trans rfl
theorem f202_33 : zi_fe 202 33 = some ((.goto 22), 3, 0, 0, 0, 0, 0) := (zl202_1 (Nat.le_of_ble_eq_true rfl)).trans rfl
theorem f202_36 : zi_fe 202 36 = some ((.iload_n 2), 1, 0, 0, 0, 0, 0) := (zl202_1 (Nat.le_of_ble_eq_true rfl)).trans rfl
theorem f202_37 : zi_fe 202 37 = some ((.iconst 4), 1, 0, 0, 0, 0, 0) := (zl202_1 (Nat.le_of_ble_eq_true rfl)).trans rfl
theorem f202_38 : zi_fe 202 38 = some ((.if_icmp .ne 11), 3, 0, 0, 0, 0, 0) := (zl202_1 (Nat.le_of_ble_eq_true rfl)).trans rfl
theorem f202_41 : zi_fe 202 41 = some ((.aload_n 0), 1, 0, 0, 0, 0, 0) := (zl202_1 (Nat.le_of_ble_eq_true rfl)).trans rfl
theorem zl202_2 {pc : Nat} (h : 42 ≤ pc) : zi_fe 202 pc = zu202_2.lookup pc := (zl202_1 (Nat.le_trans (Nat.le_of_ble_eq_true rfl) h)).trans (zi_lkA (a := zi_i202_1) (c := 42) rfl h)
theorem f202_42 : zi_fe 202 42 = some ((.iload_n 1), 1, 0, 0, 0, 0, 0) := (zl202_2 (Nat.le_of_ble_eq_true rfl)).trans rfl
theorem f202_43 : zi_fe 202 43 = some ((.invokevirtual 122), 3, 149, 0, 8, 1287, 2) := (zl202_2 (Nat.le_of_ble_eq_true rfl)).trans rfl
theorem f202_46 : zi_fe 202 46 = some ((.goto 9), 3, 0, 0, 0, 0, 0) := (zl202_2 (Nat.le_of_ble_eq_true rfl)).trans rfl
theorem f202_49 : zi_fe 202 49 = some ((.aload_n 0), 1, 0, 0, 0, 0, 0) := (zl202_2 (Nat.le_of_ble_eq_true rfl)).trans rfl
theorem f202_50 : zi_fe 202 50 = some ((.iload_n 1), 1, 0, 0, 0, 0, 0) := (zl202_2 (Nat.le_of_ble_eq_true rfl)).trans rfl
theorem f202_51 : zi_fe 202 51 = some ((.iconst 4), 1, 0, 0, 0, 0, 0) := (zl202_2 (Nat.le_of_ble_eq_true rfl)).trans rfl
theorem f202_52 : zi_fe 202 52 = some ((.invokevirtual 87), 3, 144, 0, 8, 1261, 3) := (zl202_2 (Nat.le_of_ble_eq_true rfl)).trans rfl
theorem f202_55 : zi_fe 202 55 = some (.ireturn, 1, 0, 0, 0, 0, 0) := (zl202_2 (Nat.le_of_ble_eq_true rfl)).trans rfl
theorem b202_0 {h : zi_Hp} {a0 : Nat} {x1 : Int32} {x2 : Int32} (g0 : a0 < zh_n h) (g1 : (zh_k h a0).1 = 8) : zv 3 202 0 [.ref a0, .int x1, .int x2] [] h = (zv 2 194 0 [.ref a0, .int x1] [] h).bind fun r => zv 3 202 5 [.ref a0, .int x1, .int x2] (r.1.toList ++ []) r.2 := by
  refine Eq.trans (zv_next f202_0 rfl) ?_
  refine Eq.trans (zv_next f202_1 rfl) ?_
  exact zs_callV f202_2 (Nat.le_of_ble_eq_true rfl) (Nat.le_of_ble_eq_true rfl) rfl g0 g1 me_194 (by decide) rfl
theorem b202_5 {h : zi_Hp} {a0 : Nat} {x1 : Int32} {x2 : Int32} {s0 : Int32}  : zv 3 202 5 [.ref a0, .int x1, .int x2] [.int s0] h = if s0 = 0 then zv 3 202 20 [.ref a0, .int x1, .int x2] [] h else zv 3 202 8 [.ref a0, .int x1, .int x2] [] h := by
  exact zs_if f202_5 rfl
theorem b202_8 {h : zi_Hp} {a0 : Nat} {x1 : Int32} {x2 : Int32}  : zv 3 202 8 [.ref a0, .int x1, .int x2] [] h = (zv 1 142 0 [.long ((x2).toInt64), .double 1, .long 0, .double 1, .long 5, .double 1] [] h).bind fun r => zv 3 202 17 [.ref a0, .int x1, .int x2] (r.1.toList ++ []) r.2 := by
  refine Eq.trans (zv_next f202_8 rfl) ?_
  refine Eq.trans (zv_next f202_9 rfl) ?_
  refine Eq.trans (zs_lc f202_10 lc_0) ?_
  refine Eq.trans (zs_l2 f202_11 l2_5) ?_
  exact zs_callS f202_14 (by decide) (Nat.le_of_ble_eq_true rfl) (Nat.le_of_ble_eq_true rfl) rfl me_142 (by decide) rfl
theorem b202_17 {h : zi_Hp} {a0 : Nat} {x1 : Int32} {x2 : Int32} {s0 : Int32}  : zv 3 202 17 [.ref a0, .int x1, .int x2] [.int s0] h = if s0 = 0 then zv 3 202 20 [.ref a0, .int x1, .int x2] [] h else zv 3 202 22 [.ref a0, .int x1, .int x2] [] h := by
  exact zs_if f202_17 rfl
theorem b202_20 {h : zi_Hp} {a0 : Nat} {x1 : Int32} {x2 : Int32}  : zv 3 202 20 [.ref a0, .int x1, .int x2] [] h = some (some (.int (-1)), h) := by
  refine Eq.trans (zs_ic f202_20 ic_m1) ?_
  exact zs_ret0 f202_21
theorem b202_22 {h : zi_Hp} {a0 : Nat} {x1 : Int32} {x2 : Int32}  : zv 3 202 22 [.ref a0, .int x1, .int x2] [] h = if x2 < 4 then zv 3 202 27 [.ref a0, .int x1, .int x2] [] h else zv 3 202 36 [.ref a0, .int x1, .int x2] [] h := by
  refine Eq.trans (zv_next f202_22 rfl) ?_
  refine Eq.trans (zs_ic f202_23 ic_4) ?_
  exact zs_icmp f202_24 rfl
theorem b202_27 {h : zi_Hp} {a0 : Nat} {x1 : Int32} {x2 : Int32} (g0 : a0 < zh_n h) (g1 : (zh_k h a0).1 = 8) : zv 3 202 27 [.ref a0, .int x1, .int x2] [] h = (zv 1 144 0 [.ref a0, .int x1, .int x2] [] h).bind fun r => zv 3 202 33 [.ref a0, .int x1, .int x2] (r.1.toList ++ []) r.2 := by
  refine Eq.trans (zv_next f202_27 rfl) ?_
  refine Eq.trans (zv_next f202_28 rfl) ?_
  refine Eq.trans (zv_next f202_29 rfl) ?_
  exact zs_callV f202_30 (Nat.le_of_ble_eq_true rfl) (Nat.le_of_ble_eq_true rfl) rfl g0 g1 me_144 (by decide) rfl
theorem b202_33 {h : zi_Hp} {a0 : Nat} {x1 : Int32} {x2 : Int32} {s0 : Int32}  : zv 3 202 33 [.ref a0, .int x1, .int x2] [.int s0] h = zv 3 202 55 [.ref a0, .int x1, .int x2] [.int s0] h := by
  refine Eq.trans (zs_goto (tgt := 55) f202_33 rfl) ?_
  rfl
theorem b202_36 {h : zi_Hp} {a0 : Nat} {x1 : Int32} {x2 : Int32}  : zv 3 202 36 [.ref a0, .int x1, .int x2] [] h = if x2 = 4 then zv 3 202 41 [.ref a0, .int x1, .int x2] [] h else zv 3 202 49 [.ref a0, .int x1, .int x2] [] h := by
  refine Eq.trans (zv_next f202_36 rfl) ?_
  refine Eq.trans (zs_ic f202_37 ic_4) ?_
  exact zs_icmp f202_38 rfl
theorem b202_41 {h : zi_Hp} {a0 : Nat} {x1 : Int32} {x2 : Int32} (g0 : a0 < zh_n h) (g1 : (zh_k h a0).1 = 8) : zv 3 202 41 [.ref a0, .int x1, .int x2] [] h = (zv 2 149 0 [.ref a0, .int x1, .double 0, .double 0, .double 0] [] h).bind fun r => zv 3 202 46 [.ref a0, .int x1, .int x2] (r.1.toList ++ []) r.2 := by
  refine Eq.trans (zv_next f202_41 rfl) ?_
  refine Eq.trans (zv_next f202_42 rfl) ?_
  exact zs_callV f202_43 (Nat.le_of_ble_eq_true rfl) (Nat.le_of_ble_eq_true rfl) rfl g0 g1 me_149 (by decide) rfl
theorem b202_46 {h : zi_Hp} {a0 : Nat} {x1 : Int32} {x2 : Int32} {s0 : Int32}  : zv 3 202 46 [.ref a0, .int x1, .int x2] [.int s0] h = zv 3 202 55 [.ref a0, .int x1, .int x2] [.int s0] h := by
  refine Eq.trans (zs_goto (tgt := 55) f202_46 rfl) ?_
  rfl
theorem b202_49 {h : zi_Hp} {a0 : Nat} {x1 : Int32} {x2 : Int32} (g0 : a0 < zh_n h) (g1 : (zh_k h a0).1 = 8) : zv 3 202 49 [.ref a0, .int x1, .int x2] [] h = (zv 1 144 0 [.ref a0, .int x1, .int 4] [] h).bind fun r => zv 3 202 55 [.ref a0, .int x1, .int x2] (r.1.toList ++ []) r.2 := by
  refine Eq.trans (zv_next f202_49 rfl) ?_
  refine Eq.trans (zv_next f202_50 rfl) ?_
  refine Eq.trans (zs_ic f202_51 ic_4) ?_
  exact zs_callV f202_52 (Nat.le_of_ble_eq_true rfl) (Nat.le_of_ble_eq_true rfl) rfl g0 g1 me_144 (by decide) rfl
theorem b202_55 {h : zi_Hp} {a0 : Nat} {x1 : Int32} {x2 : Int32} {s0 : Int32}  : zv 3 202 55 [.ref a0, .int x1, .int x2] [.int s0] h = some (some (.int s0), h) := by
  exact zs_ret0 f202_55
set_option maxRecDepth 20000 in
theorem zq203 : zi_M[203]? = some zi_m203 := rfl
theorem zl203_0 {pc : Nat} (_ : 0 ≤ pc) : zi_fe 203 pc = zu203_0.lookup pc := zi_feA zq203 pc
theorem f203_0 : zi_fe 203 0 = some ((.aload_n 0), 1, 0, 0, 0, 0, 0) := (zl203_0 (Nat.le_of_ble_eq_true rfl)).trans rfl
theorem f203_1 : zi_fe 203 1 = some ((.iload_n 1), 1, 0, 0, 0, 0, 0) := (zl203_0 (Nat.le_of_ble_eq_true rfl)).trans rfl
theorem f203_2 : zi_fe 203 2 = some ((.invokevirtual 292), 3, 194, 0, 8, 1407, 2) := (zl203_0 (Nat.le_of_ble_eq_true rfl)).trans rfl
theorem f203_5 : zi_fe 203 5 = some ((.ifCond .eq 28), 3, 0, 0, 0, 0, 0) := (zl203_0 (Nat.le_of_ble_eq_true rfl)).trans rfl
theorem f203_8 : zi_fe 203 8 = some ((.iload_n 2), 1, 0, 0, 0, 0, 0) := (zl203_0 (Nat.le_of_ble_eq_true rfl)).trans rfl
theorem f203_9 : zi_fe 203 9 = some (.i2l, 1, 0, 0, 0, 0, 0) := (zl203_0 (Nat.le_of_ble_eq_true rfl)).trans rfl
theorem f203_10 : zi_fe 203 10 = some ((.lconst 0), 1, 0, 0, 0, 0, 0) := (zl203_0 (Nat.le_of_ble_eq_true rfl)).trans rfl
theorem f203_11 : zi_fe 203 11 = some ((.aload_n 0), 1, 0, 0, 0, 0, 0) := (zl203_0 (Nat.le_of_ble_eq_true rfl)).trans rfl
theorem f203_12 : zi_fe 203 12 = some ((.iload_n 1), 1, 0, 0, 0, 0, 0) := (zl203_0 (Nat.le_of_ble_eq_true rfl)).trans rfl
theorem f203_13 : zi_fe 203 13 = some ((.iconst 1), 1, 0, 0, 0, 0, 0) := (zl203_0 (Nat.le_of_ble_eq_true rfl)).trans rfl
theorem f203_14 : zi_fe 203 14 = some ((.invokevirtual 87), 3, 144, 0, 8, 1261, 3) := (zl203_0 (Nat.le_of_ble_eq_true rfl)).trans rfl
theorem f203_17 : zi_fe 203 17 = some ((.iconst 1), 1, 0, 0, 0, 0, 0) := (zl203_0 (Nat.le_of_ble_eq_true rfl)).trans rfl
theorem zl203_1 {pc : Nat} (h : 18 ≤ pc) : zi_fe 203 pc = zu203_1.lookup pc := (zl203_0 (Nat.le_trans (Nat.le_of_ble_eq_true rfl) h)).trans (zi_lkA (a := zi_i203_0) (c := 18) rfl h)
theorem f203_18 : zi_fe 203 18 = some (.isub, 1, 0, 0, 0, 0, 0) := (zl203_1 (Nat.le_of_ble_eq_true rfl)).trans rfl
theorem f203_19 : zi_fe 203 19 = some (.i2l, 1, 0, 0, 0, 0, 0) := (zl203_1 (Nat.le_of_ble_eq_true rfl)).trans rfl
theorem f203_20 : zi_fe 203 20 = some ((.invokestatic 196), 3, 142, 1, 8, 1189, 3) := (zl203_1 (Nat.le_of_ble_eq_true rfl)).trans rfl
theorem f203_23 : zi_fe 203 23 = some ((.ifCond .eq 10), 3, 0, 0, 0, 0, 0) := (zl203_1 (Nat.le_of_ble_eq_true rfl)).trans rfl
theorem f203_26 : zi_fe 203 26 = some ((.iload_n 3), 1, 0, 0, 0, 0, 0) := (zl203_1 (Nat.le_of_ble_eq_true rfl)).trans rfl
theorem f203_27 : zi_fe 203 27 = some ((.invokestatic 297), 3, 196, 1, 8, 1416, 1) := (zl203_1 (Nat.le_of_ble_eq_true rfl)).trans rfl
theorem f203_30 : zi_fe 203 30 = some ((.ifCond .ne 5), 3, 0, 0, 0, 0, 0) := (zl203_1 (Nat.le_of_ble_eq_true rfl)).trans rfl
theorem f203_33 : zi_fe 203 33 = some ((.iconst (-1)), 1, 0, 0, 0, 0, 0) := (zl203_1 (Nat.le_of_ble_eq_true rfl)).trans rfl
theorem f203_34 : zi_fe 203 34 = some (.ireturn, 1, 0, 0, 0, 0, 0) := (zl203_1 (Nat.le_of_ble_eq_true rfl)).trans rfl
theorem f203_35 : zi_fe 203 35 = some ((.iload_n 3), 1, 0, 0, 0, 0, 0) := (zl203_1 (Nat.le_of_ble_eq_true rfl)).trans rfl
theorem f203_36 : zi_fe 203 36 = some ((.ifCond .ne 14), 3, 0, 0, 0, 0, 0) := (zl203_1 (Nat.le_of_ble_eq_true rfl)).trans rfl
theorem f203_39 : zi_fe 203 39 = some ((.aload_n 0), 1, 0, 0, 0, 0, 0) := (zl203_1 (Nat.le_of_ble_eq_true rfl)).trans rfl
theorem zl203_2 {pc : Nat} (h : 40 ≤ pc) : zi_fe 203 pc = zu203_2.lookup pc := (zl203_1 (Nat.le_trans (Nat.le_of_ble_eq_true rfl) h)).trans (zi_lkA (a := zi_i203_1) (c := 40) rfl h)
theorem f203_40 : zi_fe 203 40 = some ((.iload_n 1), 1, 0, 0, 0, 0, 0) := (zl203_2 (Nat.le_of_ble_eq_true rfl)).trans rfl
theorem f203_41 : zi_fe 203 41 = some ((.iconst 5), 1, 0, 0, 0, 0, 0) := (zl203_2 (Nat.le_of_ble_eq_true rfl)).trans rfl
theorem f203_42 : zi_fe 203 42 = some ((.iload_n 2), 1, 0, 0, 0, 0, 0) := (zl203_2 (Nat.le_of_ble_eq_true rfl)).trans rfl
theorem f203_43 : zi_fe 203 43 = some (.iadd, 1, 0, 0, 0, 0, 0) := (zl203_2 (Nat.le_of_ble_eq_true rfl)).trans rfl
theorem f203_44 : zi_fe 203 44 = some ((.invokevirtual 87), 3, 144, 0, 8, 1261, 3) := (zl203_2 (Nat.le_of_ble_eq_true rfl)).trans rfl
theorem f203_47 : zi_fe 203 47 = some ((.goto 26), 3, 0, 0, 0, 0, 0) := (zl203_2 (Nat.le_of_ble_eq_true rfl)).trans rfl
theorem f203_50 : zi_fe 203 50 = some ((.aload_n 0), 1, 0, 0, 0, 0, 0) := (zl203_2 (Nat.le_of_ble_eq_true rfl)).trans rfl
theorem f203_51 : zi_fe 203 51 = some ((.iload_n 1), 1, 0, 0, 0, 0, 0) := (zl203_2 (Nat.le_of_ble_eq_true rfl)).trans rfl
theorem f203_52 : zi_fe 203 52 = some ((.iconst 0), 1, 0, 0, 0, 0, 0) := (zl203_2 (Nat.le_of_ble_eq_true rfl)).trans rfl
theorem f203_53 : zi_fe 203 53 = some ((.invokevirtual 87), 3, 144, 0, 8, 1261, 3) := (zl203_2 (Nat.le_of_ble_eq_true rfl)).trans rfl
theorem f203_56 : zi_fe 203 56 = some ((.ifCond .ne 8), 3, 0, 0, 0, 0, 0) := (zl203_2 (Nat.le_of_ble_eq_true rfl)).trans rfl
theorem f203_59 : zi_fe 203 59 = some ((.bipush (-4)), 2, 0, 0, 0, 0, 0) := (zl203_2 (Nat.le_of_ble_eq_true rfl)).trans rfl
theorem zl203_3 {pc : Nat} (h : 61 ≤ pc) : zi_fe 203 pc = zu203_3.lookup pc := (zl203_2 (Nat.le_trans (Nat.le_of_ble_eq_true rfl) h)).trans (zi_lkA (a := zi_i203_2) (c := 61) rfl h)
theorem f203_61 : zi_fe 203 61 = some ((.goto 12), 3, 0, 0, 0, 0, 0) := (zl203_3 (Nat.le_of_ble_eq_true rfl)).trans rfl
theorem f203_64 : zi_fe 203 64 = some ((.aload_n 0), 1, 0, 0, 0, 0, 0) := (zl203_3 (Nat.le_of_ble_eq_true rfl)).trans rfl
theorem f203_65 : zi_fe 203 65 = some ((.iload_n 1), 1, 0, 0, 0, 0, 0) := (zl203_3 (Nat.le_of_ble_eq_true rfl)).trans rfl
theorem f203_66 : zi_fe 203 66 = some ((.bipush 9), 2, 0, 0, 0, 0, 0) := (zl203_3 (Nat.le_of_ble_eq_true rfl)).trans rfl
theorem f203_68 : zi_fe 203 68 = some ((.iload_n 2), 1, 0, 0, 0, 0, 0) := (zl203_3 (Nat.le_of_ble_eq_true rfl)).trans rfl
theorem f203_69 : zi_fe 203 69 = some (.iadd, 1, 0, 0, 0, 0, 0) := (zl203_3 (Nat.le_of_ble_eq_true rfl)).trans rfl
theorem f203_70 : zi_fe 203 70 = some ((.invokevirtual 87), 3, 144, 0, 8, 1261, 3) := (zl203_3 (Nat.le_of_ble_eq_true rfl)).trans rfl
theorem f203_73 : zi_fe 203 73 = some (.ireturn, 1, 0, 0, 0, 0, 0) := (zl203_3 (Nat.le_of_ble_eq_true rfl)).trans rfl
theorem b203_0 {h : zi_Hp} {a0 : Nat} {x1 : Int32} {x2 : Int32} {x3 : Int32} (g0 : a0 < zh_n h) (g1 : (zh_k h a0).1 = 8) : zv 3 203 0 [.ref a0, .int x1, .int x2, .int x3] [] h = (zv 2 194 0 [.ref a0, .int x1] [] h).bind fun r => zv 3 203 5 [.ref a0, .int x1, .int x2, .int x3] (r.1.toList ++ []) r.2 := by
  refine Eq.trans (zv_next f203_0 rfl) ?_
  refine Eq.trans (zv_next f203_1 rfl) ?_
  exact zs_callV f203_2 (Nat.le_of_ble_eq_true rfl) (Nat.le_of_ble_eq_true rfl) rfl g0 g1 me_194 (by decide) rfl
theorem b203_5 {h : zi_Hp} {a0 : Nat} {x1 : Int32} {x2 : Int32} {x3 : Int32} {s0 : Int32}  : zv 3 203 5 [.ref a0, .int x1, .int x2, .int x3] [.int s0] h = if s0 = 0 then zv 3 203 33 [.ref a0, .int x1, .int x2, .int x3] [] h else zv 3 203 8 [.ref a0, .int x1, .int x2, .int x3] [] h := by
  exact zs_if f203_5 rfl
theorem b203_8 {h : zi_Hp} {a0 : Nat} {x1 : Int32} {x2 : Int32} {x3 : Int32} (g0 : a0 < zh_n h) (g1 : (zh_k h a0).1 = 8) : zv 3 203 8 [.ref a0, .int x1, .int x2, .int x3] [] h = (zv 1 144 0 [.ref a0, .int x1, .int 1] [] h).bind fun r => zv 3 203 17 [.ref a0, .int x1, .int x2, .int x3] (r.1.toList ++ [.long 0, .long ((x2).toInt64)]) r.2 := by
  refine Eq.trans (zv_next f203_8 rfl) ?_
  refine Eq.trans (zv_next f203_9 rfl) ?_
  refine Eq.trans (zs_lc f203_10 lc_0) ?_
  refine Eq.trans (zv_next f203_11 rfl) ?_
  refine Eq.trans (zv_next f203_12 rfl) ?_
  refine Eq.trans (zs_ic f203_13 ic_1) ?_
  exact zs_callV f203_14 (Nat.le_of_ble_eq_true rfl) (Nat.le_of_ble_eq_true rfl) rfl g0 g1 me_144 (by decide) rfl
theorem b203_17 {h : zi_Hp} {a0 : Nat} {x1 : Int32} {x2 : Int32} {x3 : Int32} {w0 : Int64} {w1 : Int64} {s2 : Int32}  : zv 3 203 17 [.ref a0, .int x1, .int x2, .int x3] [.int s2, .long w1, .long w0] h = (zv 1 142 0 [.long w0, .double 1, .long w1, .double 1, .long (((s2 - 1)).toInt64), .double 1] [] h).bind fun r => zv 3 203 23 [.ref a0, .int x1, .int x2, .int x3] (r.1.toList ++ []) r.2 := by
  refine Eq.trans (zs_ic f203_17 ic_1) ?_
  refine Eq.trans (zv_next f203_18 rfl) ?_
  refine Eq.trans (zv_next f203_19 rfl) ?_
  exact zs_callS f203_20 (by decide) (Nat.le_of_ble_eq_true rfl) (Nat.le_of_ble_eq_true rfl) rfl me_142 (by decide) rfl
theorem b203_23 {h : zi_Hp} {a0 : Nat} {x1 : Int32} {x2 : Int32} {x3 : Int32} {s0 : Int32}  : zv 3 203 23 [.ref a0, .int x1, .int x2, .int x3] [.int s0] h = if s0 = 0 then zv 3 203 33 [.ref a0, .int x1, .int x2, .int x3] [] h else zv 3 203 26 [.ref a0, .int x1, .int x2, .int x3] [] h := by
  exact zs_if f203_23 rfl
theorem b203_26 {h : zi_Hp} {a0 : Nat} {x1 : Int32} {x2 : Int32} {x3 : Int32}  : zv 3 203 26 [.ref a0, .int x1, .int x2, .int x3] [] h = (zv 2 196 0 [.int x3] [] h).bind fun r => zv 3 203 30 [.ref a0, .int x1, .int x2, .int x3] (r.1.toList ++ []) r.2 := by
  refine Eq.trans (zv_next f203_26 rfl) ?_
  exact zs_callS f203_27 (by decide) (Nat.le_of_ble_eq_true rfl) (Nat.le_of_ble_eq_true rfl) rfl me_196 (by decide) rfl
theorem b203_30 {h : zi_Hp} {a0 : Nat} {x1 : Int32} {x2 : Int32} {x3 : Int32} {s0 : Int32}  : zv 3 203 30 [.ref a0, .int x1, .int x2, .int x3] [.int s0] h = if s0 = 0 then zv 3 203 33 [.ref a0, .int x1, .int x2, .int x3] [] h else zv 3 203 35 [.ref a0, .int x1, .int x2, .int x3] [] h := by
  exact zs_if f203_30 rfl
theorem b203_33 {h : zi_Hp} {a0 : Nat} {x1 : Int32} {x2 : Int32} {x3 : Int32}  : zv 3 203 33 [.ref a0, .int x1, .int x2, .int x3] [] h = some (some (.int (-1)), h) := by
  refine Eq.trans (zs_ic f203_33 ic_m1) ?_
  exact zs_ret0 f203_34
theorem b203_35 {h : zi_Hp} {a0 : Nat} {x1 : Int32} {x2 : Int32} {x3 : Int32}  : zv 3 203 35 [.ref a0, .int x1, .int x2, .int x3] [] h = if x3 = 0 then zv 3 203 39 [.ref a0, .int x1, .int x2, .int x3] [] h else zv 3 203 50 [.ref a0, .int x1, .int x2, .int x3] [] h := by
  refine Eq.trans (zv_next f203_35 rfl) ?_
  exact zs_if f203_36 rfl
theorem b203_39 {h : zi_Hp} {a0 : Nat} {x1 : Int32} {x2 : Int32} {x3 : Int32} (g0 : a0 < zh_n h) (g1 : (zh_k h a0).1 = 8) : zv 3 203 39 [.ref a0, .int x1, .int x2, .int x3] [] h = (zv 1 144 0 [.ref a0, .int x1, .int (5 + x2)] [] h).bind fun r => zv 3 203 47 [.ref a0, .int x1, .int x2, .int x3] (r.1.toList ++ []) r.2 := by
  refine Eq.trans (zv_next f203_39 rfl) ?_
  refine Eq.trans (zv_next f203_40 rfl) ?_
  refine Eq.trans (zs_ic f203_41 ic_5) ?_
  refine Eq.trans (zv_next f203_42 rfl) ?_
  refine Eq.trans (zv_next f203_43 rfl) ?_
  exact zs_callV f203_44 (Nat.le_of_ble_eq_true rfl) (Nat.le_of_ble_eq_true rfl) rfl g0 g1 me_144 (by decide) rfl
theorem b203_47 {h : zi_Hp} {a0 : Nat} {x1 : Int32} {x2 : Int32} {x3 : Int32} {s0 : Int32}  : zv 3 203 47 [.ref a0, .int x1, .int x2, .int x3] [.int s0] h = zv 3 203 73 [.ref a0, .int x1, .int x2, .int x3] [.int s0] h := by
  refine Eq.trans (zs_goto (tgt := 73) f203_47 rfl) ?_
  rfl
theorem b203_50 {h : zi_Hp} {a0 : Nat} {x1 : Int32} {x2 : Int32} {x3 : Int32} (g0 : a0 < zh_n h) (g1 : (zh_k h a0).1 = 8) : zv 3 203 50 [.ref a0, .int x1, .int x2, .int x3] [] h = (zv 1 144 0 [.ref a0, .int x1, .int 0] [] h).bind fun r => zv 3 203 56 [.ref a0, .int x1, .int x2, .int x3] (r.1.toList ++ []) r.2 := by
  refine Eq.trans (zv_next f203_50 rfl) ?_
  refine Eq.trans (zv_next f203_51 rfl) ?_
  refine Eq.trans (zs_ic f203_52 ic_0) ?_
  exact zs_callV f203_53 (Nat.le_of_ble_eq_true rfl) (Nat.le_of_ble_eq_true rfl) rfl g0 g1 me_144 (by decide) rfl
theorem b203_56 {h : zi_Hp} {a0 : Nat} {x1 : Int32} {x2 : Int32} {x3 : Int32} {s0 : Int32}  : zv 3 203 56 [.ref a0, .int x1, .int x2, .int x3] [.int s0] h = if s0 = 0 then zv 3 203 59 [.ref a0, .int x1, .int x2, .int x3] [] h else zv 3 203 64 [.ref a0, .int x1, .int x2, .int x3] [] h := by
  exact zs_if f203_56 rfl
theorem b203_59 {h : zi_Hp} {a0 : Nat} {x1 : Int32} {x2 : Int32} {x3 : Int32}  : zv 3 203 59 [.ref a0, .int x1, .int x2, .int x3] [] h = zv 3 203 73 [.ref a0, .int x1, .int x2, .int x3] [.int (-4)] h := by
  refine Eq.trans (zs_bp f203_59 bp_m4) ?_
  refine Eq.trans (zs_goto (tgt := 73) f203_61 rfl) ?_
  rfl
theorem b203_64 {h : zi_Hp} {a0 : Nat} {x1 : Int32} {x2 : Int32} {x3 : Int32} (g0 : a0 < zh_n h) (g1 : (zh_k h a0).1 = 8) : zv 3 203 64 [.ref a0, .int x1, .int x2, .int x3] [] h = (zv 1 144 0 [.ref a0, .int x1, .int (9 + x2)] [] h).bind fun r => zv 3 203 73 [.ref a0, .int x1, .int x2, .int x3] (r.1.toList ++ []) r.2 := by
  refine Eq.trans (zv_next f203_64 rfl) ?_
  refine Eq.trans (zv_next f203_65 rfl) ?_
  refine Eq.trans (zs_bp f203_66 bp_9) ?_
  refine Eq.trans (zv_next f203_68 rfl) ?_
  refine Eq.trans (zv_next f203_69 rfl) ?_
  exact zs_callV f203_70 (Nat.le_of_ble_eq_true rfl) (Nat.le_of_ble_eq_true rfl) rfl g0 g1 me_144 (by decide) rfl
theorem b203_73 {h : zi_Hp} {a0 : Nat} {x1 : Int32} {x2 : Int32} {x3 : Int32} {s0 : Int32}  : zv 3 203 73 [.ref a0, .int x1, .int x2, .int x3] [.int s0] h = some (some (.int s0), h) := by
  exact zs_ret0 f203_73
set_option maxRecDepth 20000 in
theorem zq204 : zi_M[204]? = some zi_m204 := rfl
theorem zl204_0 {pc : Nat} (_ : 0 ≤ pc) : zi_fe 204 pc = zu204_0.lookup pc := zi_feA zq204 pc
theorem f204_0 : zi_fe 204 0 = some ((.iload_n 1), 1, 0, 0, 0, 0, 0) := (zl204_0 (Nat.le_of_ble_eq_true rfl)).trans rfl
theorem f204_1 : zi_fe 204 1 = some ((.invokestatic 300), 3, 195, 1, 8, 1423, 1) := (zl204_0 (Nat.le_of_ble_eq_true rfl)).trans rfl
theorem f204_4 : zi_fe 204 4 = some ((.ifCond .eq 15), 3, 0, 0, 0, 0, 0) := (zl204_0 (Nat.le_of_ble_eq_true rfl)).trans rfl
theorem f204_7 : zi_fe 204 7 = some ((.iload_n 2), 1, 0, 0, 0, 0, 0) := (zl204_0 (Nat.le_of_ble_eq_true rfl)).trans rfl
theorem f204_8 : zi_fe 204 8 = some (.i2l, 1, 0, 0, 0, 0, 0) := (zl204_0 (Nat.le_of_ble_eq_true rfl)).trans rfl
theorem f204_9 : zi_fe 204 9 = some ((.lconst 0), 1, 0, 0, 0, 0, 0) := (zl204_0 (Nat.le_of_ble_eq_true rfl)).trans rfl
theorem f204_10 : zi_fe 204 10 = some ((.ldc2_w 303), 3, 0, 0, 0, 1426, 7) := (zl204_0 (Nat.le_of_ble_eq_true rfl)).trans rfl
theorem f204_13 : zi_fe 204 13 = some ((.invokestatic 196), 3, 142, 1, 8, 1189, 3) := (zl204_0 (Nat.le_of_ble_eq_true rfl)).trans rfl
theorem f204_16 : zi_fe 204 16 = some ((.ifCond .ne 5), 3, 0, 0, 0, 0, 0) := (zl204_0 (Nat.le_of_ble_eq_true rfl)).trans rfl
theorem f204_19 : zi_fe 204 19 = some ((.iconst (-1)), 1, 0, 0, 0, 0, 0) := (zl204_0 (Nat.le_of_ble_eq_true rfl)).trans rfl
theorem f204_20 : zi_fe 204 20 = some (.ireturn, 1, 0, 0, 0, 0, 0) := (zl204_0 (Nat.le_of_ble_eq_true rfl)).trans rfl
theorem f204_21 : zi_fe 204 21 = some ((.iload_n 2), 1, 0, 0, 0, 0, 0) := (zl204_0 (Nat.le_of_ble_eq_true rfl)).trans rfl
theorem zl204_1 {pc : Nat} (h : 22 ≤ pc) : zi_fe 204 pc = zu204_1.lookup pc := (zl204_0 (Nat.le_trans (Nat.le_of_ble_eq_true rfl) h)).trans (zi_lkA (a := zi_i204_0) (c := 22) rfl h)
theorem f204_22 : zi_fe 204 22 = some ((.ifCond .le 15), 3, 0, 0, 0, 0, 0) := (zl204_1 (Nat.le_of_ble_eq_true rfl)).trans rfl
theorem f204_25 : zi_fe 204 25 = some ((.aload_n 0), 1, 0, 0, 0, 0, 0) := (zl204_1 (Nat.le_of_ble_eq_true rfl)).trans rfl
theorem f204_26 : zi_fe 204 26 = some ((.iload_n 1), 1, 0, 0, 0, 0, 0) := (zl204_1 (Nat.le_of_ble_eq_true rfl)).trans rfl
theorem f204_27 : zi_fe 204 27 = some ((.iconst 0), 1, 0, 0, 0, 0, 0) := (zl204_1 (Nat.le_of_ble_eq_true rfl)).trans rfl
theorem f204_28 : zi_fe 204 28 = some ((.invokevirtual 83), 3, 146, 0, 8, 1276, 3) := (zl204_1 (Nat.le_of_ble_eq_true rfl)).trans rfl
theorem f204_31 : zi_fe 204 31 = some ((.ifCond .ne 6), 3, 0, 0, 0, 0, 0) := (zl204_1 (Nat.le_of_ble_eq_true rfl)).trans rfl
theorem f204_34 : zi_fe 204 34 = some ((.bipush (-2)), 2, 0, 0, 0, 0, 0) := (zl204_1 (Nat.le_of_ble_eq_true rfl)).trans rfl
theorem f204_36 : zi_fe 204 36 = some (.ireturn, 1, 0, 0, 0, 0, 0) := (zl204_1 (Nat.le_of_ble_eq_true rfl)).trans rfl
theorem f204_37 : zi_fe 204 37 = some ((.aload_n 0), 1, 0, 0, 0, 0, 0) := (zl204_1 (Nat.le_of_ble_eq_true rfl)).trans rfl
theorem f204_38 : zi_fe 204 38 = some ((.iload_n 1), 1, 0, 0, 0, 0, 0) := (zl204_1 (Nat.le_of_ble_eq_true rfl)).trans rfl
theorem f204_39 : zi_fe 204 39 = some ((.iload_n 2), 1, 0, 0, 0, 0, 0) := (zl204_1 (Nat.le_of_ble_eq_true rfl)).trans rfl
theorem f204_40 : zi_fe 204 40 = some ((.invokevirtual 83), 3, 146, 0, 8, 1276, 3) := (zl204_1 (Nat.le_of_ble_eq_true rfl)).trans rfl
theorem zl204_2 {pc : Nat} (h : 43 ≤ pc) : zi_fe 204 pc = zu204_2.lookup pc := (zl204_1 (Nat.le_trans (Nat.le_of_ble_eq_true rfl) h)).trans (zi_lkA (a := zi_i204_1) (c := 43) rfl h)
theorem f204_43 : zi_fe 204 43 = some (.ireturn, 1, 0, 0, 0, 0, 0) := (zl204_2 (Nat.le_of_ble_eq_true rfl)).trans rfl
theorem b204_0 {h : zi_Hp} {a0 : Nat} {x1 : Int32} {x2 : Int32}  : zv 3 204 0 [.ref a0, .int x1, .int x2] [] h = (zv 2 195 0 [.int x1] [] h).bind fun r => zv 3 204 4 [.ref a0, .int x1, .int x2] (r.1.toList ++ []) r.2 := by
  refine Eq.trans (zv_next f204_0 rfl) ?_
  exact zs_callS f204_1 (by decide) (Nat.le_of_ble_eq_true rfl) (Nat.le_of_ble_eq_true rfl) rfl me_195 (by decide) rfl
theorem b204_4 {h : zi_Hp} {a0 : Nat} {x1 : Int32} {x2 : Int32} {s0 : Int32}  : zv 3 204 4 [.ref a0, .int x1, .int x2] [.int s0] h = if s0 = 0 then zv 3 204 19 [.ref a0, .int x1, .int x2] [] h else zv 3 204 7 [.ref a0, .int x1, .int x2] [] h := by
  exact zs_if f204_4 rfl
theorem b204_7 {h : zi_Hp} {a0 : Nat} {x1 : Int32} {x2 : Int32}  : zv 3 204 7 [.ref a0, .int x1, .int x2] [] h = (zv 1 142 0 [.long ((x2).toInt64), .double 1, .long 0, .double 1, .long 7, .double 1] [] h).bind fun r => zv 3 204 16 [.ref a0, .int x1, .int x2] (r.1.toList ++ []) r.2 := by
  refine Eq.trans (zv_next f204_7 rfl) ?_
  refine Eq.trans (zv_next f204_8 rfl) ?_
  refine Eq.trans (zs_lc f204_9 lc_0) ?_
  refine Eq.trans (zs_l2 f204_10 l2_7) ?_
  exact zs_callS f204_13 (by decide) (Nat.le_of_ble_eq_true rfl) (Nat.le_of_ble_eq_true rfl) rfl me_142 (by decide) rfl
theorem b204_16 {h : zi_Hp} {a0 : Nat} {x1 : Int32} {x2 : Int32} {s0 : Int32}  : zv 3 204 16 [.ref a0, .int x1, .int x2] [.int s0] h = if s0 = 0 then zv 3 204 19 [.ref a0, .int x1, .int x2] [] h else zv 3 204 21 [.ref a0, .int x1, .int x2] [] h := by
  exact zs_if f204_16 rfl
theorem b204_19 {h : zi_Hp} {a0 : Nat} {x1 : Int32} {x2 : Int32}  : zv 3 204 19 [.ref a0, .int x1, .int x2] [] h = some (some (.int (-1)), h) := by
  refine Eq.trans (zs_ic f204_19 ic_m1) ?_
  exact zs_ret0 f204_20
theorem b204_21 {h : zi_Hp} {a0 : Nat} {x1 : Int32} {x2 : Int32}  : zv 3 204 21 [.ref a0, .int x1, .int x2] [] h = if 0 < x2 then zv 3 204 25 [.ref a0, .int x1, .int x2] [] h else zv 3 204 37 [.ref a0, .int x1, .int x2] [] h := by
  refine Eq.trans (zv_next f204_21 rfl) ?_
  exact zs_if f204_22 rfl
theorem b204_25 {h : zi_Hp} {a0 : Nat} {x1 : Int32} {x2 : Int32} (g0 : a0 < zh_n h) (g1 : (zh_k h a0).1 = 8) : zv 3 204 25 [.ref a0, .int x1, .int x2] [] h = (zv 1 146 0 [.ref a0, .int x1, .int 0] [] h).bind fun r => zv 3 204 31 [.ref a0, .int x1, .int x2] (r.1.toList ++ []) r.2 := by
  refine Eq.trans (zv_next f204_25 rfl) ?_
  refine Eq.trans (zv_next f204_26 rfl) ?_
  refine Eq.trans (zs_ic f204_27 ic_0) ?_
  exact zs_callV f204_28 (Nat.le_of_ble_eq_true rfl) (Nat.le_of_ble_eq_true rfl) rfl g0 g1 me_146 (by decide) rfl
theorem b204_31 {h : zi_Hp} {a0 : Nat} {x1 : Int32} {x2 : Int32} {s0 : Int32}  : zv 3 204 31 [.ref a0, .int x1, .int x2] [.int s0] h = if s0 = 0 then zv 3 204 34 [.ref a0, .int x1, .int x2] [] h else zv 3 204 37 [.ref a0, .int x1, .int x2] [] h := by
  exact zs_if f204_31 rfl
theorem b204_34 {h : zi_Hp} {a0 : Nat} {x1 : Int32} {x2 : Int32}  : zv 3 204 34 [.ref a0, .int x1, .int x2] [] h = some (some (.int (-2)), h) := by
  refine Eq.trans (zs_bp f204_34 bp_m2) ?_
  exact zs_ret0 f204_36
theorem b204_37 {h : zi_Hp} {a0 : Nat} {x1 : Int32} {x2 : Int32} (g0 : a0 < zh_n h) (g1 : (zh_k h a0).1 = 8) : zv 3 204 37 [.ref a0, .int x1, .int x2] [] h = (zv 1 146 0 [.ref a0, .int x1, .int x2] [] h).bind fun r => zv 3 204 43 [.ref a0, .int x1, .int x2] (r.1.toList ++ []) r.2 := by
  refine Eq.trans (zv_next f204_37 rfl) ?_
  refine Eq.trans (zv_next f204_38 rfl) ?_
  refine Eq.trans (zv_next f204_39 rfl) ?_
  exact zs_callV f204_40 (Nat.le_of_ble_eq_true rfl) (Nat.le_of_ble_eq_true rfl) rfl g0 g1 me_146 (by decide) rfl
theorem b204_43 {h : zi_Hp} {a0 : Nat} {x1 : Int32} {x2 : Int32} {s0 : Int32}  : zv 3 204 43 [.ref a0, .int x1, .int x2] [.int s0] h = some (some (.int s0), h) := by
  exact zs_ret0 f204_43
set_option maxRecDepth 20000 in
theorem zq205 : zi_M[205]? = some zi_m205 := rfl
theorem zl205_0 {pc : Nat} (_ : 0 ≤ pc) : zi_fe 205 pc = zu205_0.lookup pc := zi_feA zq205 pc
theorem f205_0 : zi_fe 205 0 = some ((.iload_n 1), 1, 0, 0, 0, 0, 0) := (zl205_0 (Nat.le_of_ble_eq_true rfl)).trans rfl
theorem f205_1 : zi_fe 205 1 = some (.i2l, 1, 0, 0, 0, 0, 0) := (zl205_0 (Nat.le_of_ble_eq_true rfl)).trans rfl
theorem f205_2 : zi_fe 205 2 = some ((.lconst 0), 1, 0, 0, 0, 0, 0) := (zl205_0 (Nat.le_of_ble_eq_true rfl)).trans rfl
theorem f205_3 : zi_fe 205 3 = some ((.ldc2_w 305), 3, 0, 0, 0, 1431, 99) := (zl205_0 (Nat.le_of_ble_eq_true rfl)).trans rfl
theorem f205_6 : zi_fe 205 6 = some ((.invokestatic 196), 3, 142, 1, 8, 1189, 3) := (zl205_0 (Nat.le_of_ble_eq_true rfl)).trans rfl
theorem f205_9 : zi_fe 205 9 = some ((.ifCond .eq 11), 3, 0, 0, 0, 0, 0) := (zl205_0 (Nat.le_of_ble_eq_true rfl)).trans rfl
theorem f205_12 : zi_fe 205 12 = some ((.aload_n 0), 1, 0, 0, 0, 0, 0) := (zl205_0 (Nat.le_of_ble_eq_true rfl)).trans rfl
theorem f205_13 : zi_fe 205 13 = some ((.iload_n 1), 1, 0, 0, 0, 0, 0) := (zl205_0 (Nat.le_of_ble_eq_true rfl)).trans rfl
theorem f205_14 : zi_fe 205 14 = some ((.invokevirtual 179), 3, 151, 0, 8, 1257, 2) := (zl205_0 (Nat.le_of_ble_eq_true rfl)).trans rfl
theorem f205_17 : zi_fe 205 17 = some ((.goto 4), 3, 0, 0, 0, 0, 0) := (zl205_0 (Nat.le_of_ble_eq_true rfl)).trans rfl
theorem f205_20 : zi_fe 205 20 = some ((.iconst (-1)), 1, 0, 0, 0, 0, 0) := (zl205_0 (Nat.le_of_ble_eq_true rfl)).trans rfl
theorem f205_21 : zi_fe 205 21 = some (.ireturn, 1, 0, 0, 0, 0, 0) := (zl205_0 (Nat.le_of_ble_eq_true rfl)).trans rfl
theorem b205_0 {h : zi_Hp} {a0 : Nat} {x1 : Int32}  : zv 4 205 0 [.ref a0, .int x1] [] h = (zv 1 142 0 [.long ((x1).toInt64), .double 1, .long 0, .double 1, .long 99, .double 1] [] h).bind fun r => zv 4 205 9 [.ref a0, .int x1] (r.1.toList ++ []) r.2 := by
  refine Eq.trans (zv_next f205_0 rfl) ?_
  refine Eq.trans (zv_next f205_1 rfl) ?_
  refine Eq.trans (zs_lc f205_2 lc_0) ?_
  refine Eq.trans (zs_l2 f205_3 l2_99) ?_
  exact zs_callS f205_6 (by decide) (Nat.le_of_ble_eq_true rfl) (Nat.le_of_ble_eq_true rfl) rfl me_142 (by decide) rfl
theorem b205_9 {h : zi_Hp} {a0 : Nat} {x1 : Int32} {s0 : Int32}  : zv 4 205 9 [.ref a0, .int x1] [.int s0] h = if s0 = 0 then zv 4 205 20 [.ref a0, .int x1] [] h else zv 4 205 12 [.ref a0, .int x1] [] h := by
  exact zs_if f205_9 rfl
theorem b205_12 {h : zi_Hp} {a0 : Nat} {x1 : Int32} (g0 : a0 < zh_n h) (g1 : (zh_k h a0).1 = 8) : zv 4 205 12 [.ref a0, .int x1] [] h = (zv 3 151 0 [.ref a0, .int x1, .double 0, .double 0] [] h).bind fun r => zv 4 205 17 [.ref a0, .int x1] (r.1.toList ++ []) r.2 := by
  refine Eq.trans (zv_next f205_12 rfl) ?_
  refine Eq.trans (zv_next f205_13 rfl) ?_
  exact zs_callV f205_14 (Nat.le_of_ble_eq_true rfl) (Nat.le_of_ble_eq_true rfl) rfl g0 g1 me_151 (by decide) rfl
theorem b205_17 {h : zi_Hp} {a0 : Nat} {x1 : Int32} {s0 : Int32}  : zv 4 205 17 [.ref a0, .int x1] [.int s0] h = zv 4 205 21 [.ref a0, .int x1] [.int s0] h := by
  refine Eq.trans (zs_goto (tgt := 21) f205_17 rfl) ?_
  rfl
theorem b205_20 {h : zi_Hp} {a0 : Nat} {x1 : Int32}  : zv 4 205 20 [.ref a0, .int x1] [] h = zv 4 205 21 [.ref a0, .int x1] [.int (-1)] h := by
  refine Eq.trans (zs_ic f205_20 ic_m1) ?_
  rfl
theorem b205_21 {h : zi_Hp} {a0 : Nat} {x1 : Int32} {s0 : Int32}  : zv 4 205 21 [.ref a0, .int x1] [.int s0] h = some (some (.int s0), h) := by
  exact zs_ret0 f205_21
set_option maxRecDepth 20000 in
theorem zq206 : zi_M[206]? = some zi_m206 := rfl
theorem zl206_0 {pc : Nat} (_ : 0 ≤ pc) : zi_fe 206 pc = zu206_0.lookup pc := zi_feA zq206 pc
theorem f206_0 : zi_fe 206 0 = some ((.iload_n 1), 1, 0, 0, 0, 0, 0) := (zl206_0 (Nat.le_of_ble_eq_true rfl)).trans rfl
theorem f206_1 : zi_fe 206 1 = some ((.invokestatic 300), 3, 195, 1, 8, 1423, 1) := (zl206_0 (Nat.le_of_ble_eq_true rfl)).trans rfl
theorem f206_4 : zi_fe 206 4 = some ((.ifCond .eq 27), 3, 0, 0, 0, 0, 0) := (zl206_0 (Nat.le_of_ble_eq_true rfl)).trans rfl
theorem f206_7 : zi_fe 206 7 = some ((.iload_n 2), 1, 0, 0, 0, 0, 0) := (zl206_0 (Nat.le_of_ble_eq_true rfl)).trans rfl
theorem f206_8 : zi_fe 206 8 = some (.i2l, 1, 0, 0, 0, 0, 0) := (zl206_0 (Nat.le_of_ble_eq_true rfl)).trans rfl
theorem f206_9 : zi_fe 206 9 = some ((.lconst 0), 1, 0, 0, 0, 0, 0) := (zl206_0 (Nat.le_of_ble_eq_true rfl)).trans rfl
theorem f206_10 : zi_fe 206 10 = some ((.ldc2_w 246), 3, 0, 0, 0, 1236, 2) := (zl206_0 (Nat.le_of_ble_eq_true rfl)).trans rfl
theorem f206_13 : zi_fe 206 13 = some ((.invokestatic 196), 3, 142, 1, 8, 1189, 3) := (zl206_0 (Nat.le_of_ble_eq_true rfl)).trans rfl
theorem f206_16 : zi_fe 206 16 = some ((.ifCond .eq 15), 3, 0, 0, 0, 0, 0) := (zl206_0 (Nat.le_of_ble_eq_true rfl)).trans rfl
theorem f206_19 : zi_fe 206 19 = some ((.iload_n 3), 1, 0, 0, 0, 0, 0) := (zl206_0 (Nat.le_of_ble_eq_true rfl)).trans rfl
theorem f206_20 : zi_fe 206 20 = some (.i2l, 1, 0, 0, 0, 0, 0) := (zl206_0 (Nat.le_of_ble_eq_true rfl)).trans rfl
theorem f206_21 : zi_fe 206 21 = some ((.lconst 0), 1, 0, 0, 0, 0, 0) := (zl206_0 (Nat.le_of_ble_eq_true rfl)).trans rfl
theorem zl206_1 {pc : Nat} (h : 22 ≤ pc) : zi_fe 206 pc = zu206_1.lookup pc := (zl206_0 (Nat.le_trans (Nat.le_of_ble_eq_true rfl) h)).trans (zi_lkA (a := zi_i206_0) (c := 22) rfl h)
theorem f206_22 : zi_fe 206 22 = some ((.ldc2_w 305), 3, 0, 0, 0, 1431, 99) := (zl206_1 (Nat.le_of_ble_eq_true rfl)).trans rfl
theorem f206_25 : zi_fe 206 25 = some ((.invokestatic 196), 3, 142, 1, 8, 1189, 3) := (zl206_1 (Nat.le_of_ble_eq_true rfl)).trans rfl
theorem f206_28 : zi_fe 206 28 = some ((.ifCond .ne 5), 3, 0, 0, 0, 0, 0) := (zl206_1 (Nat.le_of_ble_eq_true rfl)).trans rfl
theorem f206_31 : zi_fe 206 31 = some ((.iconst (-1)), 1, 0, 0, 0, 0, 0) := (zl206_1 (Nat.le_of_ble_eq_true rfl)).trans rfl
theorem f206_32 : zi_fe 206 32 = some (.ireturn, 1, 0, 0, 0, 0, 0) := (zl206_1 (Nat.le_of_ble_eq_true rfl)).trans rfl
theorem f206_33 : zi_fe 206 33 = some ((.aload_n 0), 1, 0, 0, 0, 0, 0) := (zl206_1 (Nat.le_of_ble_eq_true rfl)).trans rfl
theorem f206_34 : zi_fe 206 34 = some ((.iload_n 1), 1, 0, 0, 0, 0, 0) := (zl206_1 (Nat.le_of_ble_eq_true rfl)).trans rfl
theorem f206_35 : zi_fe 206 35 = some ((.iconst 0), 1, 0, 0, 0, 0, 0) := (zl206_1 (Nat.le_of_ble_eq_true rfl)).trans rfl
theorem f206_36 : zi_fe 206 36 = some ((.invokevirtual 83), 3, 146, 0, 8, 1276, 3) := (zl206_1 (Nat.le_of_ble_eq_true rfl)).trans rfl
theorem f206_39 : zi_fe 206 39 = some ((.istore 4), 2, 0, 0, 0, 0, 0) := (zl206_1 (Nat.le_of_ble_eq_true rfl)).trans rfl
theorem f206_41 : zi_fe 206 41 = some ((.iload 4), 2, 0, 0, 0, 0, 0) := (zl206_1 (Nat.le_of_ble_eq_true rfl)).trans rfl
theorem f206_43 : zi_fe 206 43 = some ((.invokestatic 172), 3, 173, 1, 8, 1280, 1) := (zl206_1 (Nat.le_of_ble_eq_true rfl)).trans rfl
theorem zl206_2 {pc : Nat} (h : 46 ≤ pc) : zi_fe 206 pc = zu206_2.lookup pc := (zl206_1 (Nat.le_trans (Nat.le_of_ble_eq_true rfl) h)).trans (zi_lkA (a := zi_i206_1) (c := 46) rfl h)
theorem f206_46 : zi_fe 206 46 = some ((.ifCond .eq 6), 3, 0, 0, 0, 0, 0) := (zl206_2 (Nat.le_of_ble_eq_true rfl)).trans rfl
theorem f206_49 : zi_fe 206 49 = some ((.bipush (-2)), 2, 0, 0, 0, 0, 0) := (zl206_2 (Nat.le_of_ble_eq_true rfl)).trans rfl
theorem f206_51 : zi_fe 206 51 = some (.ireturn, 1, 0, 0, 0, 0, 0) := (zl206_2 (Nat.le_of_ble_eq_true rfl)).trans rfl
theorem f206_52 : zi_fe 206 52 = some ((.aload_n 0), 1, 0, 0, 0, 0, 0) := (zl206_2 (Nat.le_of_ble_eq_true rfl)).trans rfl
theorem f206_53 : zi_fe 206 53 = some ((.iload_n 1), 1, 0, 0, 0, 0, 0) := (zl206_2 (Nat.le_of_ble_eq_true rfl)).trans rfl
theorem f206_54 : zi_fe 206 54 = some ((.iload_n 2), 1, 0, 0, 0, 0, 0) := (zl206_2 (Nat.le_of_ble_eq_true rfl)).trans rfl
theorem f206_55 : zi_fe 206 55 = some ((.iload_n 3), 1, 0, 0, 0, 0, 0) := (zl206_2 (Nat.le_of_ble_eq_true rfl)).trans rfl
theorem f206_56 : zi_fe 206 56 = some ((.invokevirtual 191), 3, 177, 0, 8, 1249, 4) := (zl206_2 (Nat.le_of_ble_eq_true rfl)).trans rfl
theorem f206_59 : zi_fe 206 59 = some ((.iload 4), 2, 0, 0, 0, 0, 0) := (zl206_2 (Nat.le_of_ble_eq_true rfl)).trans rfl
theorem f206_61 : zi_fe 206 61 = some (.ireturn, 1, 0, 0, 0, 0, 0) := (zl206_2 (Nat.le_of_ble_eq_true rfl)).trans rfl
theorem b206_0 {h : zi_Hp} {a0 : Nat} {x1 : Int32} {x2 : Int32} {x3 : Int32} {u4 : Value}  : zv 5 206 0 [.ref a0, .int x1, .int x2, .int x3, u4] [] h = (zv 2 195 0 [.int x1] [] h).bind fun r => zv 5 206 4 [.ref a0, .int x1, .int x2, .int x3, u4] (r.1.toList ++ []) r.2 := by
  refine Eq.trans (zv_next f206_0 rfl) ?_
  exact zs_callS f206_1 (by decide) (Nat.le_of_ble_eq_true rfl) (Nat.le_of_ble_eq_true rfl) rfl me_195 (by decide) rfl
theorem b206_4 {h : zi_Hp} {a0 : Nat} {x1 : Int32} {x2 : Int32} {x3 : Int32} {u4 : Value} {s0 : Int32}  : zv 5 206 4 [.ref a0, .int x1, .int x2, .int x3, u4] [.int s0] h = if s0 = 0 then zv 5 206 31 [.ref a0, .int x1, .int x2, .int x3, u4] [] h else zv 5 206 7 [.ref a0, .int x1, .int x2, .int x3, u4] [] h := by
  exact zs_if f206_4 rfl
theorem b206_7 {h : zi_Hp} {a0 : Nat} {x1 : Int32} {x2 : Int32} {x3 : Int32} {u4 : Value}  : zv 5 206 7 [.ref a0, .int x1, .int x2, .int x3, u4] [] h = (zv 1 142 0 [.long ((x2).toInt64), .double 1, .long 0, .double 1, .long 2, .double 1] [] h).bind fun r => zv 5 206 16 [.ref a0, .int x1, .int x2, .int x3, u4] (r.1.toList ++ []) r.2 := by
  refine Eq.trans (zv_next f206_7 rfl) ?_
  refine Eq.trans (zv_next f206_8 rfl) ?_
  refine Eq.trans (zs_lc f206_9 lc_0) ?_
  refine Eq.trans (zs_l2 f206_10 l2_2) ?_
  exact zs_callS f206_13 (by decide) (Nat.le_of_ble_eq_true rfl) (Nat.le_of_ble_eq_true rfl) rfl me_142 (by decide) rfl
theorem b206_16 {h : zi_Hp} {a0 : Nat} {x1 : Int32} {x2 : Int32} {x3 : Int32} {u4 : Value} {s0 : Int32}  : zv 5 206 16 [.ref a0, .int x1, .int x2, .int x3, u4] [.int s0] h = if s0 = 0 then zv 5 206 31 [.ref a0, .int x1, .int x2, .int x3, u4] [] h else zv 5 206 19 [.ref a0, .int x1, .int x2, .int x3, u4] [] h := by
  exact zs_if f206_16 rfl
theorem b206_19 {h : zi_Hp} {a0 : Nat} {x1 : Int32} {x2 : Int32} {x3 : Int32} {u4 : Value}  : zv 5 206 19 [.ref a0, .int x1, .int x2, .int x3, u4] [] h = (zv 1 142 0 [.long ((x3).toInt64), .double 1, .long 0, .double 1, .long 99, .double 1] [] h).bind fun r => zv 5 206 28 [.ref a0, .int x1, .int x2, .int x3, u4] (r.1.toList ++ []) r.2 := by
  refine Eq.trans (zv_next f206_19 rfl) ?_
  refine Eq.trans (zv_next f206_20 rfl) ?_
  refine Eq.trans (zs_lc f206_21 lc_0) ?_
  refine Eq.trans (zs_l2 f206_22 l2_99) ?_
  exact zs_callS f206_25 (by decide) (Nat.le_of_ble_eq_true rfl) (Nat.le_of_ble_eq_true rfl) rfl me_142 (by decide) rfl
theorem b206_28 {h : zi_Hp} {a0 : Nat} {x1 : Int32} {x2 : Int32} {x3 : Int32} {u4 : Value} {s0 : Int32}  : zv 5 206 28 [.ref a0, .int x1, .int x2, .int x3, u4] [.int s0] h = if s0 = 0 then zv 5 206 31 [.ref a0, .int x1, .int x2, .int x3, u4] [] h else zv 5 206 33 [.ref a0, .int x1, .int x2, .int x3, u4] [] h := by
  exact zs_if f206_28 rfl
theorem b206_31 {h : zi_Hp} {a0 : Nat} {x1 : Int32} {x2 : Int32} {x3 : Int32} {u4 : Value}  : zv 5 206 31 [.ref a0, .int x1, .int x2, .int x3, u4] [] h = some (some (.int (-1)), h) := by
  refine Eq.trans (zs_ic f206_31 ic_m1) ?_
  exact zs_ret0 f206_32
theorem b206_33 {h : zi_Hp} {a0 : Nat} {x1 : Int32} {x2 : Int32} {x3 : Int32} {u4 : Value} (g0 : a0 < zh_n h) (g1 : (zh_k h a0).1 = 8) : zv 5 206 33 [.ref a0, .int x1, .int x2, .int x3, u4] [] h = (zv 1 146 0 [.ref a0, .int x1, .int 0] [] h).bind fun r => zv 5 206 39 [.ref a0, .int x1, .int x2, .int x3, u4] (r.1.toList ++ []) r.2 := by
  refine Eq.trans (zv_next f206_33 rfl) ?_
  refine Eq.trans (zv_next f206_34 rfl) ?_
  refine Eq.trans (zs_ic f206_35 ic_0) ?_
  exact zs_callV f206_36 (Nat.le_of_ble_eq_true rfl) (Nat.le_of_ble_eq_true rfl) rfl g0 g1 me_146 (by decide) rfl
theorem b206_39 {h : zi_Hp} {a0 : Nat} {x1 : Int32} {x2 : Int32} {x3 : Int32} {u4 : Value} {s0 : Int32}  : zv 5 206 39 [.ref a0, .int x1, .int x2, .int x3, u4] [.int s0] h = (zv 1 173 0 [.int s0] [] h).bind fun r => zv 5 206 46 [.ref a0, .int x1, .int x2, .int x3, .int s0] (r.1.toList ++ []) r.2 := by
  refine Eq.trans (zv_next f206_39 rfl) ?_
  refine Eq.trans (zv_next f206_41 rfl) ?_
  exact zs_callS f206_43 (by decide) (Nat.le_of_ble_eq_true rfl) (Nat.le_of_ble_eq_true rfl) rfl me_173 (by decide) rfl
theorem b206_46 {h : zi_Hp} {a0 : Nat} {x1 : Int32} {x2 : Int32} {x3 : Int32} {x4 : Int32} {s0 : Int32}  : zv 5 206 46 [.ref a0, .int x1, .int x2, .int x3, .int x4] [.int s0] h = if s0 = 0 then zv 5 206 52 [.ref a0, .int x1, .int x2, .int x3, .int x4] [] h else zv 5 206 49 [.ref a0, .int x1, .int x2, .int x3, .int x4] [] h := by
  exact zs_if f206_46 rfl
theorem b206_49 {h : zi_Hp} {a0 : Nat} {x1 : Int32} {x2 : Int32} {x3 : Int32} {x4 : Int32}  : zv 5 206 49 [.ref a0, .int x1, .int x2, .int x3, .int x4] [] h = some (some (.int (-2)), h) := by
  refine Eq.trans (zs_bp f206_49 bp_m2) ?_
  exact zs_ret0 f206_51
theorem b206_52 {h : zi_Hp} {a0 : Nat} {x1 : Int32} {x2 : Int32} {x3 : Int32} {x4 : Int32} (g0 : a0 < zh_n h) (g1 : (zh_k h a0).1 = 8) : zv 5 206 52 [.ref a0, .int x1, .int x2, .int x3, .int x4] [] h = (zv 4 177 0 [.ref a0, .int x1, .int x2, .int x3, .double 0] [] h).bind fun r => zv 5 206 59 [.ref a0, .int x1, .int x2, .int x3, .int x4] (r.1.toList ++ []) r.2 := by
  refine Eq.trans (zv_next f206_52 rfl) ?_
  refine Eq.trans (zv_next f206_53 rfl) ?_
  refine Eq.trans (zv_next f206_54 rfl) ?_
  refine Eq.trans (zv_next f206_55 rfl) ?_
  exact zs_callV f206_56 (Nat.le_of_ble_eq_true rfl) (Nat.le_of_ble_eq_true rfl) rfl g0 g1 me_177 (by decide) rfl
theorem b206_59 {h : zi_Hp} {a0 : Nat} {x1 : Int32} {x2 : Int32} {x3 : Int32} {x4 : Int32}  : zv 5 206 59 [.ref a0, .int x1, .int x2, .int x3, .int x4] [] h = some (some (.int x4), h) := by
  refine Eq.trans (zv_next f206_59 rfl) ?_
  exact zs_ret0 f206_61
set_option maxRecDepth 20000 in
theorem zq207 : zi_M[207]? = some zi_m207 := rfl
theorem zl207_0 {pc : Nat} (_ : 0 ≤ pc) : zi_fe 207 pc = zu207_0.lookup pc := zi_feA zq207 pc
theorem f207_0 : zi_fe 207 0 = some ((.iload_n 1), 1, 0, 0, 0, 0, 0) := (zl207_0 (Nat.le_of_ble_eq_true rfl)).trans rfl
theorem f207_1 : zi_fe 207 1 = some ((.invokestatic 300), 3, 195, 1, 8, 1423, 1) := (zl207_0 (Nat.le_of_ble_eq_true rfl)).trans rfl
theorem f207_4 : zi_fe 207 4 = some ((.ifCond .eq 11), 3, 0, 0, 0, 0, 0) := (zl207_0 (Nat.le_of_ble_eq_true rfl)).trans rfl
theorem f207_7 : zi_fe 207 7 = some ((.aload_n 0), 1, 0, 0, 0, 0, 0) := (zl207_0 (Nat.le_of_ble_eq_true rfl)).trans rfl
theorem f207_8 : zi_fe 207 8 = some ((.iload_n 1), 1, 0, 0, 0, 0, 0) := (zl207_0 (Nat.le_of_ble_eq_true rfl)).trans rfl
theorem f207_9 : zi_fe 207 9 = some ((.invokevirtual 188), 3, 174, 0, 8, 1291, 2) := (zl207_0 (Nat.le_of_ble_eq_true rfl)).trans rfl
theorem f207_12 : zi_fe 207 12 = some ((.goto 4), 3, 0, 0, 0, 0, 0) := (zl207_0 (Nat.le_of_ble_eq_true rfl)).trans rfl
theorem f207_15 : zi_fe 207 15 = some ((.iconst (-1)), 1, 0, 0, 0, 0, 0) := (zl207_0 (Nat.le_of_ble_eq_true rfl)).trans rfl
theorem f207_16 : zi_fe 207 16 = some (.ireturn, 1, 0, 0, 0, 0, 0) := (zl207_0 (Nat.le_of_ble_eq_true rfl)).trans rfl
theorem b207_0 {h : zi_Hp} {a0 : Nat} {x1 : Int32}  : zv 7 207 0 [.ref a0, .int x1] [] h = (zv 2 195 0 [.int x1] [] h).bind fun r => zv 7 207 4 [.ref a0, .int x1] (r.1.toList ++ []) r.2 := by
  refine Eq.trans (zv_next f207_0 rfl) ?_
  exact zs_callS f207_1 (by decide) (Nat.le_of_ble_eq_true rfl) (Nat.le_of_ble_eq_true rfl) rfl me_195 (by decide) rfl
theorem b207_4 {h : zi_Hp} {a0 : Nat} {x1 : Int32} {s0 : Int32}  : zv 7 207 4 [.ref a0, .int x1] [.int s0] h = if s0 = 0 then zv 7 207 15 [.ref a0, .int x1] [] h else zv 7 207 7 [.ref a0, .int x1] [] h := by
  exact zs_if f207_4 rfl
theorem b207_7 {h : zi_Hp} {a0 : Nat} {x1 : Int32} (g0 : a0 < zh_n h) (g1 : (zh_k h a0).1 = 8) : zv 7 207 7 [.ref a0, .int x1] [] h = (zv 6 174 0 [.ref a0, .int x1, .double 0, .double 0] [] h).bind fun r => zv 7 207 12 [.ref a0, .int x1] (r.1.toList ++ []) r.2 := by
  refine Eq.trans (zv_next f207_7 rfl) ?_
  refine Eq.trans (zv_next f207_8 rfl) ?_
  exact zs_callV f207_9 (Nat.le_of_ble_eq_true rfl) (Nat.le_of_ble_eq_true rfl) rfl g0 g1 me_174 (by decide) rfl
theorem b207_12 {h : zi_Hp} {a0 : Nat} {x1 : Int32} {s0 : Int32}  : zv 7 207 12 [.ref a0, .int x1] [.int s0] h = zv 7 207 16 [.ref a0, .int x1] [.int s0] h := by
  refine Eq.trans (zs_goto (tgt := 16) f207_12 rfl) ?_
  rfl
theorem b207_15 {h : zi_Hp} {a0 : Nat} {x1 : Int32}  : zv 7 207 15 [.ref a0, .int x1] [] h = zv 7 207 16 [.ref a0, .int x1] [.int (-1)] h := by
  refine Eq.trans (zs_ic f207_15 ic_m1) ?_
  rfl
theorem b207_16 {h : zi_Hp} {a0 : Nat} {x1 : Int32} {s0 : Int32}  : zv 7 207 16 [.ref a0, .int x1] [.int s0] h = some (some (.int s0), h) := by
  exact zs_ret0 f207_16
set_option maxRecDepth 20000 in
theorem zq208 : zi_M[208]? = some zi_m208 := rfl
theorem zl208_0 {pc : Nat} (_ : 0 ≤ pc) : zi_fe 208 pc = zu208_0.lookup pc := zi_feA zq208 pc
theorem f208_0 : zi_fe 208 0 = some ((.iload_n 1), 1, 0, 0, 0, 0, 0) := (zl208_0 (Nat.le_of_ble_eq_true rfl)).trans rfl
theorem f208_1 : zi_fe 208 1 = some ((.invokestatic 300), 3, 195, 1, 8, 1423, 1) := (zl208_0 (Nat.le_of_ble_eq_true rfl)).trans rfl
theorem f208_4 : zi_fe 208 4 = some ((.ifCond .eq 24), 3, 0, 0, 0, 0, 0) := (zl208_0 (Nat.le_of_ble_eq_true rfl)).trans rfl
theorem f208_7 : zi_fe 208 7 = some ((.iload_n 2), 1, 0, 0, 0, 0, 0) := (zl208_0 (Nat.le_of_ble_eq_true rfl)).trans rfl
theorem f208_8 : zi_fe 208 8 = some (.i2l, 1, 0, 0, 0, 0, 0) := (zl208_0 (Nat.le_of_ble_eq_true rfl)).trans rfl
theorem f208_9 : zi_fe 208 9 = some ((.lconst 0), 1, 0, 0, 0, 0, 0) := (zl208_0 (Nat.le_of_ble_eq_true rfl)).trans rfl
theorem f208_10 : zi_fe 208 10 = some ((.ldc2_w 307), 3, 0, 0, 0, 1444, 60) := (zl208_0 (Nat.le_of_ble_eq_true rfl)).trans rfl
theorem f208_13 : zi_fe 208 13 = some ((.invokestatic 196), 3, 142, 1, 8, 1189, 3) := (zl208_0 (Nat.le_of_ble_eq_true rfl)).trans rfl
theorem f208_16 : zi_fe 208 16 = some ((.ifCond .eq 12), 3, 0, 0, 0, 0, 0) := (zl208_0 (Nat.le_of_ble_eq_true rfl)).trans rfl
theorem f208_19 : zi_fe 208 19 = some ((.aload_n 0), 1, 0, 0, 0, 0, 0) := (zl208_0 (Nat.le_of_ble_eq_true rfl)).trans rfl
theorem f208_20 : zi_fe 208 20 = some ((.iload_n 1), 1, 0, 0, 0, 0, 0) := (zl208_0 (Nat.le_of_ble_eq_true rfl)).trans rfl
theorem f208_21 : zi_fe 208 21 = some ((.iload_n 2), 1, 0, 0, 0, 0, 0) := (zl208_0 (Nat.le_of_ble_eq_true rfl)).trans rfl
theorem zl208_1 {pc : Nat} (h : 22 ≤ pc) : zi_fe 208 pc = zu208_1.lookup pc := (zl208_0 (Nat.le_trans (Nat.le_of_ble_eq_true rfl) h)).trans (zi_lkA (a := zi_i208_0) (c := 22) rfl h)
theorem f208_22 : zi_fe 208 22 = some ((.invokevirtual 309), 3, 178, 0, 8, 1445, 3) := (zl208_1 (Nat.le_of_ble_eq_true rfl)).trans rfl
theorem f208_25 : zi_fe 208 25 = some ((.goto 4), 3, 0, 0, 0, 0, 0) := (zl208_1 (Nat.le_of_ble_eq_true rfl)).trans rfl
theorem f208_28 : zi_fe 208 28 = some ((.iconst (-1)), 1, 0, 0, 0, 0, 0) := (zl208_1 (Nat.le_of_ble_eq_true rfl)).trans rfl
theorem f208_29 : zi_fe 208 29 = some (.ireturn, 1, 0, 0, 0, 0, 0) := (zl208_1 (Nat.le_of_ble_eq_true rfl)).trans rfl
theorem b208_0 {h : zi_Hp} {a0 : Nat} {x1 : Int32} {x2 : Int32}  : zv 8 208 0 [.ref a0, .int x1, .int x2] [] h = (zv 2 195 0 [.int x1] [] h).bind fun r => zv 8 208 4 [.ref a0, .int x1, .int x2] (r.1.toList ++ []) r.2 := by
  refine Eq.trans (zv_next f208_0 rfl) ?_
  exact zs_callS f208_1 (by decide) (Nat.le_of_ble_eq_true rfl) (Nat.le_of_ble_eq_true rfl) rfl me_195 (by decide) rfl
theorem b208_4 {h : zi_Hp} {a0 : Nat} {x1 : Int32} {x2 : Int32} {s0 : Int32}  : zv 8 208 4 [.ref a0, .int x1, .int x2] [.int s0] h = if s0 = 0 then zv 8 208 28 [.ref a0, .int x1, .int x2] [] h else zv 8 208 7 [.ref a0, .int x1, .int x2] [] h := by
  exact zs_if f208_4 rfl
theorem b208_7 {h : zi_Hp} {a0 : Nat} {x1 : Int32} {x2 : Int32}  : zv 8 208 7 [.ref a0, .int x1, .int x2] [] h = (zv 1 142 0 [.long ((x2).toInt64), .double 1, .long 0, .double 1, .long 60, .double 1] [] h).bind fun r => zv 8 208 16 [.ref a0, .int x1, .int x2] (r.1.toList ++ []) r.2 := by
  refine Eq.trans (zv_next f208_7 rfl) ?_
  refine Eq.trans (zv_next f208_8 rfl) ?_
  refine Eq.trans (zs_lc f208_9 lc_0) ?_
  refine Eq.trans (zs_l2 f208_10 l2_60) ?_
  exact zs_callS f208_13 (by decide) (Nat.le_of_ble_eq_true rfl) (Nat.le_of_ble_eq_true rfl) rfl me_142 (by decide) rfl
theorem b208_16 {h : zi_Hp} {a0 : Nat} {x1 : Int32} {x2 : Int32} {s0 : Int32}  : zv 8 208 16 [.ref a0, .int x1, .int x2] [.int s0] h = if s0 = 0 then zv 8 208 28 [.ref a0, .int x1, .int x2] [] h else zv 8 208 19 [.ref a0, .int x1, .int x2] [] h := by
  exact zs_if f208_16 rfl
theorem b208_19 {h : zi_Hp} {a0 : Nat} {x1 : Int32} {x2 : Int32} (g0 : a0 < zh_n h) (g1 : (zh_k h a0).1 = 8) : zv 8 208 19 [.ref a0, .int x1, .int x2] [] h = (zv 7 178 0 [.ref a0, .int x1, .int x2, .double 0] [] h).bind fun r => zv 8 208 25 [.ref a0, .int x1, .int x2] (r.1.toList ++ []) r.2 := by
  refine Eq.trans (zv_next f208_19 rfl) ?_
  refine Eq.trans (zv_next f208_20 rfl) ?_
  refine Eq.trans (zv_next f208_21 rfl) ?_
  exact zs_callV f208_22 (Nat.le_of_ble_eq_true rfl) (Nat.le_of_ble_eq_true rfl) rfl g0 g1 me_178 (by decide) rfl
theorem b208_25 {h : zi_Hp} {a0 : Nat} {x1 : Int32} {x2 : Int32} {s0 : Int32}  : zv 8 208 25 [.ref a0, .int x1, .int x2] [.int s0] h = zv 8 208 29 [.ref a0, .int x1, .int x2] [.int s0] h := by
  refine Eq.trans (zs_goto (tgt := 29) f208_25 rfl) ?_
  rfl
theorem b208_28 {h : zi_Hp} {a0 : Nat} {x1 : Int32} {x2 : Int32}  : zv 8 208 28 [.ref a0, .int x1, .int x2] [] h = zv 8 208 29 [.ref a0, .int x1, .int x2] [.int (-1)] h := by
  refine Eq.trans (zs_ic f208_28 ic_m1) ?_
  rfl
theorem b208_29 {h : zi_Hp} {a0 : Nat} {x1 : Int32} {x2 : Int32} {s0 : Int32}  : zv 8 208 29 [.ref a0, .int x1, .int x2] [.int s0] h = some (some (.int s0), h) := by
  exact zs_ret0 f208_29
set_option maxRecDepth 20000 in
theorem zq209 : zi_M[209]? = some zi_m209 := rfl
theorem zl209_0 {pc : Nat} (_ : 0 ≤ pc) : zi_fe 209 pc = zu209_0.lookup pc := zi_feA zq209 pc
theorem f209_0 : zi_fe 209 0 = some ((.iload_n 1), 1, 0, 0, 0, 0, 0) := (zl209_0 (Nat.le_of_ble_eq_true rfl)).trans rfl
theorem f209_1 : zi_fe 209 1 = some ((.invokestatic 300), 3, 195, 1, 8, 1423, 1) := (zl209_0 (Nat.le_of_ble_eq_true rfl)).trans rfl
theorem f209_4 : zi_fe 209 4 = some ((.ifCond .ne 5), 3, 0, 0, 0, 0, 0) := (zl209_0 (Nat.le_of_ble_eq_true rfl)).trans rfl
theorem f209_7 : zi_fe 209 7 = some ((.iconst (-1)), 1, 0, 0, 0, 0, 0) := (zl209_0 (Nat.le_of_ble_eq_true rfl)).trans rfl
theorem f209_8 : zi_fe 209 8 = some (.ireturn, 1, 0, 0, 0, 0, 0) := (zl209_0 (Nat.le_of_ble_eq_true rfl)).trans rfl
theorem f209_9 : zi_fe 209 9 = some ((.aload_n 0), 1, 0, 0, 0, 0, 0) := (zl209_0 (Nat.le_of_ble_eq_true rfl)).trans rfl
theorem f209_10 : zi_fe 209 10 = some ((.iload_n 1), 1, 0, 0, 0, 0, 0) := (zl209_0 (Nat.le_of_ble_eq_true rfl)).trans rfl
theorem f209_11 : zi_fe 209 11 = some ((.iconst 0), 1, 0, 0, 0, 0, 0) := (zl209_0 (Nat.le_of_ble_eq_true rfl)).trans rfl
theorem f209_12 : zi_fe 209 12 = some ((.invokevirtual 83), 3, 146, 0, 8, 1276, 3) := (zl209_0 (Nat.le_of_ble_eq_true rfl)).trans rfl
theorem f209_15 : zi_fe 209 15 = some ((.iconst 5), 1, 0, 0, 0, 0, 0) := (zl209_0 (Nat.le_of_ble_eq_true rfl)).trans rfl
theorem f209_16 : zi_fe 209 16 = some ((.if_icmp .eq 6), 3, 0, 0, 0, 0, 0) := (zl209_0 (Nat.le_of_ble_eq_true rfl)).trans rfl
theorem f209_19 : zi_fe 209 19 = some ((.bipush (-2)), 2, 0, 0, 0, 0, 0) := (zl209_0 (Nat.le_of_ble_eq_true rfl)).trans rfl
theorem zl209_1 {pc : Nat} (h : 21 ≤ pc) : zi_fe 209 pc = zu209_1.lookup pc := (zl209_0 (Nat.le_trans (Nat.le_of_ble_eq_true rfl) h)).trans (zi_lkA (a := zi_i209_0) (c := 21) rfl h)
theorem f209_21 : zi_fe 209 21 = some (.ireturn, 1, 0, 0, 0, 0, 0) := (zl209_1 (Nat.le_of_ble_eq_true rfl)).trans rfl
theorem f209_22 : zi_fe 209 22 = some ((.aload_n 0), 1, 0, 0, 0, 0, 0) := (zl209_1 (Nat.le_of_ble_eq_true rfl)).trans rfl
theorem f209_23 : zi_fe 209 23 = some ((.iload_n 1), 1, 0, 0, 0, 0, 0) := (zl209_1 (Nat.le_of_ble_eq_true rfl)).trans rfl
theorem f209_24 : zi_fe 209 24 = some ((.iconst 0), 1, 0, 0, 0, 0, 0) := (zl209_1 (Nat.le_of_ble_eq_true rfl)).trans rfl
theorem f209_25 : zi_fe 209 25 = some ((.iconst 0), 1, 0, 0, 0, 0, 0) := (zl209_1 (Nat.le_of_ble_eq_true rfl)).trans rfl
theorem f209_26 : zi_fe 209 26 = some ((.invokevirtual 102), 3, 147, 0, 8, 1253, 4) := (zl209_1 (Nat.le_of_ble_eq_true rfl)).trans rfl
theorem f209_29 : zi_fe 209 29 = some ((.aload_n 0), 1, 0, 0, 0, 0, 0) := (zl209_1 (Nat.le_of_ble_eq_true rfl)).trans rfl
theorem f209_30 : zi_fe 209 30 = some ((.iload_n 1), 1, 0, 0, 0, 0, 0) := (zl209_1 (Nat.le_of_ble_eq_true rfl)).trans rfl
theorem f209_31 : zi_fe 209 31 = some ((.iconst 4), 1, 0, 0, 0, 0, 0) := (zl209_1 (Nat.le_of_ble_eq_true rfl)).trans rfl
theorem f209_32 : zi_fe 209 32 = some ((.invokevirtual 83), 3, 146, 0, 8, 1276, 3) := (zl209_1 (Nat.le_of_ble_eq_true rfl)).trans rfl
theorem f209_35 : zi_fe 209 35 = some (.ireturn, 1, 0, 0, 0, 0, 0) := (zl209_1 (Nat.le_of_ble_eq_true rfl)).trans rfl
theorem b209_0 {h : zi_Hp} {a0 : Nat} {x1 : Int32}  : zv 3 209 0 [.ref a0, .int x1] [] h = (zv 2 195 0 [.int x1] [] h).bind fun r => zv 3 209 4 [.ref a0, .int x1] (r.1.toList ++ []) r.2 := by
  refine Eq.trans (zv_next f209_0 rfl) ?_
  exact zs_callS f209_1 (by decide) (Nat.le_of_ble_eq_true rfl) (Nat.le_of_ble_eq_true rfl) rfl me_195 (by decide) rfl
theorem b209_4 {h : zi_Hp} {a0 : Nat} {x1 : Int32} {s0 : Int32}  : zv 3 209 4 [.ref a0, .int x1] [.int s0] h = if s0 = 0 then zv 3 209 7 [.ref a0, .int x1] [] h else zv 3 209 9 [.ref a0, .int x1] [] h := by
  exact zs_if f209_4 rfl
theorem b209_7 {h : zi_Hp} {a0 : Nat} {x1 : Int32}  : zv 3 209 7 [.ref a0, .int x1] [] h = some (some (.int (-1)), h) := by
  refine Eq.trans (zs_ic f209_7 ic_m1) ?_
  exact zs_ret0 f209_8
theorem b209_9 {h : zi_Hp} {a0 : Nat} {x1 : Int32} (g0 : a0 < zh_n h) (g1 : (zh_k h a0).1 = 8) : zv 3 209 9 [.ref a0, .int x1] [] h = (zv 1 146 0 [.ref a0, .int x1, .int 0] [] h).bind fun r => zv 3 209 15 [.ref a0, .int x1] (r.1.toList ++ []) r.2 := by
  refine Eq.trans (zv_next f209_9 rfl) ?_
  refine Eq.trans (zv_next f209_10 rfl) ?_
  refine Eq.trans (zs_ic f209_11 ic_0) ?_
  exact zs_callV f209_12 (Nat.le_of_ble_eq_true rfl) (Nat.le_of_ble_eq_true rfl) rfl g0 g1 me_146 (by decide) rfl
theorem b209_15 {h : zi_Hp} {a0 : Nat} {x1 : Int32} {s0 : Int32}  : zv 3 209 15 [.ref a0, .int x1] [.int s0] h = if s0 = 5 then zv 3 209 22 [.ref a0, .int x1] [] h else zv 3 209 19 [.ref a0, .int x1] [] h := by
  refine Eq.trans (zs_ic f209_15 ic_5) ?_
  exact zs_icmp f209_16 rfl
theorem b209_19 {h : zi_Hp} {a0 : Nat} {x1 : Int32}  : zv 3 209 19 [.ref a0, .int x1] [] h = some (some (.int (-2)), h) := by
  refine Eq.trans (zs_bp f209_19 bp_m2) ?_
  exact zs_ret0 f209_21
theorem b209_22 {h : zi_Hp} {a0 : Nat} {x1 : Int32} (g0 : a0 < zh_n h) (g1 : (zh_k h a0).1 = 8) : zv 3 209 22 [.ref a0, .int x1] [] h = (zv 1 147 0 [.ref a0, .int x1, .int 0, .int 0] [] h).bind fun r => zv 3 209 29 [.ref a0, .int x1] (r.1.toList ++ []) r.2 := by
  refine Eq.trans (zv_next f209_22 rfl) ?_
  refine Eq.trans (zv_next f209_23 rfl) ?_
  refine Eq.trans (zs_ic f209_24 ic_0) ?_
  refine Eq.trans (zs_ic f209_25 ic_0) ?_
  exact zs_callV f209_26 (Nat.le_of_ble_eq_true rfl) (Nat.le_of_ble_eq_true rfl) rfl g0 g1 me_147 (by decide) rfl
theorem b209_29 {h : zi_Hp} {a0 : Nat} {x1 : Int32} (g0 : a0 < zh_n h) (g1 : (zh_k h a0).1 = 8) : zv 3 209 29 [.ref a0, .int x1] [] h = (zv 1 146 0 [.ref a0, .int x1, .int 4] [] h).bind fun r => zv 3 209 35 [.ref a0, .int x1] (r.1.toList ++ []) r.2 := by
  refine Eq.trans (zv_next f209_29 rfl) ?_
  refine Eq.trans (zv_next f209_30 rfl) ?_
  refine Eq.trans (zs_ic f209_31 ic_4) ?_
  exact zs_callV f209_32 (Nat.le_of_ble_eq_true rfl) (Nat.le_of_ble_eq_true rfl) rfl g0 g1 me_146 (by decide) rfl
theorem b209_35 {h : zi_Hp} {a0 : Nat} {x1 : Int32} {s0 : Int32}  : zv 3 209 35 [.ref a0, .int x1] [.int s0] h = some (some (.int s0), h) := by
  exact zs_ret0 f209_35
set_option maxRecDepth 20000 in
theorem zq210 : zi_M[210]? = some zi_m210 := rfl
theorem zl210_0 {pc : Nat} (_ : 0 ≤ pc) : zi_fe 210 pc = zu210_0.lookup pc := zi_feA zq210 pc
theorem f210_0 : zi_fe 210 0 = some ((.iload_n 1), 1, 0, 0, 0, 0, 0) := (zl210_0 (Nat.le_of_ble_eq_true rfl)).trans rfl
theorem f210_1 : zi_fe 210 1 = some (.i2l, 1, 0, 0, 0, 0, 0) := (zl210_0 (Nat.le_of_ble_eq_true rfl)).trans rfl
theorem f210_2 : zi_fe 210 2 = some ((.ldc2_w 246), 3, 0, 0, 0, 1236, 2) := (zl210_0 (Nat.le_of_ble_eq_true rfl)).trans rfl
theorem f210_5 : zi_fe 210 5 = some ((.ldc2_w 312), 3, 0, 0, 0, 1457, 4) := (zl210_0 (Nat.le_of_ble_eq_true rfl)).trans rfl
theorem f210_8 : zi_fe 210 8 = some ((.invokestatic 196), 3, 142, 1, 8, 1189, 3) := (zl210_0 (Nat.le_of_ble_eq_true rfl)).trans rfl
theorem f210_11 : zi_fe 210 11 = some ((.ifCond .ne 5), 3, 0, 0, 0, 0, 0) := (zl210_0 (Nat.le_of_ble_eq_true rfl)).trans rfl
theorem f210_14 : zi_fe 210 14 = some ((.iconst (-1)), 1, 0, 0, 0, 0, 0) := (zl210_0 (Nat.le_of_ble_eq_true rfl)).trans rfl
theorem f210_15 : zi_fe 210 15 = some (.ireturn, 1, 0, 0, 0, 0, 0) := (zl210_0 (Nat.le_of_ble_eq_true rfl)).trans rfl
theorem f210_16 : zi_fe 210 16 = some ((.iconst 0), 1, 0, 0, 0, 0, 0) := (zl210_0 (Nat.le_of_ble_eq_true rfl)).trans rfl
theorem f210_17 : zi_fe 210 17 = some ((.istore_n 2), 1, 0, 0, 0, 0, 0) := (zl210_0 (Nat.le_of_ble_eq_true rfl)).trans rfl
theorem f210_18 : zi_fe 210 18 = some ((.iload_n 2), 1, 0, 0, 0, 0, 0) := (zl210_0 (Nat.le_of_ble_eq_true rfl)).trans rfl
theorem f210_19 : zi_fe 210 19 = some ((.aload_n 0), 1, 0, 0, 0, 0, 0) := (zl210_0 (Nat.le_of_ble_eq_true rfl)).trans rfl
theorem zl210_1 {pc : Nat} (h : 20 ≤ pc) : zi_fe 210 pc = zu210_1.lookup pc := (zl210_0 (Nat.le_trans (Nat.le_of_ble_eq_true rfl) h)).trans (zi_lkA (a := zi_i210_0) (c := 20) rfl h)
theorem f210_20 : zi_fe 210 20 = some ((.getfield 7), 3, 8, 0, 3, 1065, 0) := (zl210_1 (Nat.le_of_ble_eq_true rfl)).trans rfl
theorem f210_23 : zi_fe 210 23 = some ((.sipush 312), 3, 0, 0, 0, 0, 0) := (zl210_1 (Nat.le_of_ble_eq_true rfl)).trans rfl
theorem f210_26 : zi_fe 210 26 = some (.iaload, 1, 0, 0, 0, 0, 0) := (zl210_1 (Nat.le_of_ble_eq_true rfl)).trans rfl
theorem f210_27 : zi_fe 210 27 = some ((.if_icmp .ge 22), 3, 0, 0, 0, 0, 0) := (zl210_1 (Nat.le_of_ble_eq_true rfl)).trans rfl
theorem f210_30 : zi_fe 210 30 = some ((.aload_n 0), 1, 0, 0, 0, 0, 0) := (zl210_1 (Nat.le_of_ble_eq_true rfl)).trans rfl
theorem f210_31 : zi_fe 210 31 = some ((.iload_n 2), 1, 0, 0, 0, 0, 0) := (zl210_1 (Nat.le_of_ble_eq_true rfl)).trans rfl
theorem f210_32 : zi_fe 210 32 = some ((.iconst 1), 1, 0, 0, 0, 0, 0) := (zl210_1 (Nat.le_of_ble_eq_true rfl)).trans rfl
theorem f210_33 : zi_fe 210 33 = some ((.invokevirtual 87), 3, 144, 0, 8, 1261, 3) := (zl210_1 (Nat.le_of_ble_eq_true rfl)).trans rfl
theorem f210_36 : zi_fe 210 36 = some ((.iload_n 1), 1, 0, 0, 0, 0, 0) := (zl210_1 (Nat.le_of_ble_eq_true rfl)).trans rfl
theorem f210_37 : zi_fe 210 37 = some ((.if_icmp .le 6), 3, 0, 0, 0, 0, 0) := (zl210_1 (Nat.le_of_ble_eq_true rfl)).trans rfl
theorem f210_40 : zi_fe 210 40 = some ((.bipush (-2)), 2, 0, 0, 0, 0, 0) := (zl210_1 (Nat.le_of_ble_eq_true rfl)).trans rfl
theorem f210_42 : zi_fe 210 42 = some (.ireturn, 1, 0, 0, 0, 0, 0) := (zl210_1 (Nat.le_of_ble_eq_true rfl)).trans rfl
theorem zl210_2 {pc : Nat} (h : 43 ≤ pc) : zi_fe 210 pc = zu210_2.lookup pc := (zl210_1 (Nat.le_trans (Nat.le_of_ble_eq_true rfl) h)).trans (zi_lkA (a := zi_i210_1) (c := 43) rfl h)
theorem f210_43 : zi_fe 210 43 = some ((.iinc 2 1), 3, 0, 0, 0, 0, 0) := (zl210_2 (Nat.le_of_ble_eq_true rfl)).trans rfl
theorem f210_46 : zi_fe 210 46 = some ((.goto (-28)), 3, 0, 0, 0, 0, 0) := (zl210_2 (Nat.le_of_ble_eq_true rfl)).trans rfl
theorem f210_49 : zi_fe 210 49 = some ((.aload_n 0), 1, 0, 0, 0, 0, 0) := (zl210_2 (Nat.le_of_ble_eq_true rfl)).trans rfl
theorem f210_50 : zi_fe 210 50 = some ((.getfield 7), 3, 8, 0, 3, 1065, 0) := (zl210_2 (Nat.le_of_ble_eq_true rfl)).trans rfl
theorem f210_53 : zi_fe 210 53 = some ((.sipush 314), 3, 0, 0, 0, 0, 0) := (zl210_2 (Nat.le_of_ble_eq_true rfl)).trans rfl
theorem f210_56 : zi_fe 210 56 = some (.iaload, 1, 0, 0, 0, 0, 0) := (zl210_2 (Nat.le_of_ble_eq_true rfl)).trans rfl
theorem f210_57 : zi_fe 210 57 = some ((.istore_n 2), 1, 0, 0, 0, 0, 0) := (zl210_2 (Nat.le_of_ble_eq_true rfl)).trans rfl
theorem f210_58 : zi_fe 210 58 = some ((.aload_n 0), 1, 0, 0, 0, 0, 0) := (zl210_2 (Nat.le_of_ble_eq_true rfl)).trans rfl
theorem f210_59 : zi_fe 210 59 = some ((.getfield 7), 3, 8, 0, 3, 1065, 0) := (zl210_2 (Nat.le_of_ble_eq_true rfl)).trans rfl
theorem f210_62 : zi_fe 210 62 = some ((.sipush 314), 3, 0, 0, 0, 0, 0) := (zl210_2 (Nat.le_of_ble_eq_true rfl)).trans rfl
theorem f210_65 : zi_fe 210 65 = some ((.iload_n 1), 1, 0, 0, 0, 0, 0) := (zl210_2 (Nat.le_of_ble_eq_true rfl)).trans rfl
theorem f210_66 : zi_fe 210 66 = some (.iastore, 1, 0, 0, 0, 0, 0) := (zl210_2 (Nat.le_of_ble_eq_true rfl)).trans rfl
theorem zl210_3 {pc : Nat} (h : 67 ≤ pc) : zi_fe 210 pc = zu210_3.lookup pc := (zl210_2 (Nat.le_trans (Nat.le_of_ble_eq_true rfl) h)).trans (zi_lkA (a := zi_i210_2) (c := 67) rfl h)
theorem f210_67 : zi_fe 210 67 = some ((.iload_n 2), 1, 0, 0, 0, 0, 0) := (zl210_3 (Nat.le_of_ble_eq_true rfl)).trans rfl
theorem f210_68 : zi_fe 210 68 = some (.ireturn, 1, 0, 0, 0, 0, 0) := (zl210_3 (Nat.le_of_ble_eq_true rfl)).trans rfl
theorem b210_0 {h : zi_Hp} {a0 : Nat} {x1 : Int32} {u2 : Value}  : zv 2 210 0 [.ref a0, .int x1, u2] [] h = (zv 1 142 0 [.long ((x1).toInt64), .double 1, .long 2, .double 1, .long 4, .double 1] [] h).bind fun r => zv 2 210 11 [.ref a0, .int x1, u2] (r.1.toList ++ []) r.2 := by
  refine Eq.trans (zv_next f210_0 rfl) ?_
  refine Eq.trans (zv_next f210_1 rfl) ?_
  refine Eq.trans (zs_l2 f210_2 l2_2) ?_
  refine Eq.trans (zs_l2 f210_5 l2_4) ?_
  exact zs_callS f210_8 (by decide) (Nat.le_of_ble_eq_true rfl) (Nat.le_of_ble_eq_true rfl) rfl me_142 (by decide) rfl
theorem b210_11 {h : zi_Hp} {a0 : Nat} {x1 : Int32} {u2 : Value} {s0 : Int32}  : zv 2 210 11 [.ref a0, .int x1, u2] [.int s0] h = if s0 = 0 then zv 2 210 14 [.ref a0, .int x1, u2] [] h else zv 2 210 16 [.ref a0, .int x1, u2] [] h := by
  exact zs_if f210_11 rfl
theorem b210_14 {h : zi_Hp} {a0 : Nat} {x1 : Int32} {u2 : Value}  : zv 2 210 14 [.ref a0, .int x1, u2] [] h = some (some (.int (-1)), h) := by
  refine Eq.trans (zs_ic f210_14 ic_m1) ?_
  exact zs_ret0 f210_15
theorem b210_16 {h : zi_Hp} {a0 : Nat} {x1 : Int32} {u2 : Value}  : zv 2 210 16 [.ref a0, .int x1, u2] [] h = zv 2 210 18 [.ref a0, .int x1, .int 0] [] h := by
  refine Eq.trans (zs_ic f210_16 ic_0) ?_
  refine Eq.trans (zv_next f210_17 rfl) ?_
  rfl
theorem b210_18 {h : zi_Hp} {a0 : Nat} {x1 : Int32} {x2 : Int32} (g0 : a0 < zh_n h) (g1 : (zh_k h a0).1 = 8) (g2 : zh_r h a0 0 = .ref (zq (zh_r h a0 0))) (g3 : (zq (zh_r h a0 0)) < zh_n h) (g4 : 312 < (zh_k h (zq (zh_r h a0 0))).2) (g5 : (zh_k h (zq (zh_r h a0 0))).1 = 100) : zv 2 210 18 [.ref a0, .int x1, .int x2] [] h = if x2 < (zh_i h (zq (zh_r h a0 0)) 312) then zv 2 210 30 [.ref a0, .int x1, .int x2] [] h else zv 2 210 49 [.ref a0, .int x1, .int x2] [] h := by
  refine Eq.trans (zv_next f210_18 rfl) ?_
  refine Eq.trans (zv_next f210_19 rfl) ?_
  refine Eq.trans (zs_getr f210_20 g0 g1 g2) ?_
  refine Eq.trans (zs_sp f210_23 sp_312) ?_
  refine Eq.trans (zs_iald f210_26 g3 g5 (zj_lit (by decide) g4)) ?_
  exact zs_icmp f210_27 rfl
theorem b210_30 {h : zi_Hp} {a0 : Nat} {x1 : Int32} {x2 : Int32} (g0 : a0 < zh_n h) (g1 : (zh_k h a0).1 = 8) : zv 2 210 30 [.ref a0, .int x1, .int x2] [] h = (zv 1 144 0 [.ref a0, .int x2, .int 1] [] h).bind fun r => zv 2 210 36 [.ref a0, .int x1, .int x2] (r.1.toList ++ []) r.2 := by
  refine Eq.trans (zv_next f210_30 rfl) ?_
  refine Eq.trans (zv_next f210_31 rfl) ?_
  refine Eq.trans (zs_ic f210_32 ic_1) ?_
  exact zs_callV f210_33 (Nat.le_of_ble_eq_true rfl) (Nat.le_of_ble_eq_true rfl) rfl g0 g1 me_144 (by decide) rfl
theorem b210_36 {h : zi_Hp} {a0 : Nat} {x1 : Int32} {x2 : Int32} {s0 : Int32}  : zv 2 210 36 [.ref a0, .int x1, .int x2] [.int s0] h = if x1 < s0 then zv 2 210 40 [.ref a0, .int x1, .int x2] [] h else zv 2 210 43 [.ref a0, .int x1, .int x2] [] h := by
  refine Eq.trans (zv_next f210_36 rfl) ?_
  exact zs_icmp f210_37 rfl
theorem b210_40 {h : zi_Hp} {a0 : Nat} {x1 : Int32} {x2 : Int32}  : zv 2 210 40 [.ref a0, .int x1, .int x2] [] h = some (some (.int (-2)), h) := by
  refine Eq.trans (zs_bp f210_40 bp_m2) ?_
  exact zs_ret0 f210_42
theorem b210_43 {h : zi_Hp} {a0 : Nat} {x1 : Int32} {x2 : Int32}  : zv 2 210 43 [.ref a0, .int x1, .int x2] [] h = zv 2 210 18 [.ref a0, .int x1, .int (x2 + 1)] [] h := by
  refine Eq.trans (zs_inc f210_43 rfl ic_1 rfl) ?_
  refine Eq.trans (zs_goto (tgt := 18) f210_46 rfl) ?_
  rfl
theorem b210_49 {h : zi_Hp} {a0 : Nat} {x1 : Int32} {x2 : Int32} (g0 : a0 < zh_n h) (g1 : (zh_k h a0).1 = 8) (g2 : zh_r h a0 0 = .ref (zq (zh_r h a0 0))) (g3 : (zq (zh_r h a0 0)) < zh_n h) (g4 : 314 < (zh_k h (zq (zh_r h a0 0))).2) (g5 : (zh_k h (zq (zh_r h a0 0))).1 = 100) : zv 2 210 49 [.ref a0, .int x1, .int x2] [] h = some (some (.int (zh_i h (zq (zh_r h a0 0)) 314)), zh_wi h (zq (zh_r h a0 0)) 314 x1) := by
  refine Eq.trans (zv_next f210_49 rfl) ?_
  refine Eq.trans (zs_getr f210_50 g0 g1 g2) ?_
  refine Eq.trans (zs_sp f210_53 sp_314) ?_
  refine Eq.trans (zs_iald f210_56 g3 g5 (zj_lit (by decide) g4)) ?_
  refine Eq.trans (zv_next f210_57 rfl) ?_
  refine Eq.trans (zv_next f210_58 rfl) ?_
  refine Eq.trans (zs_getr f210_59 g0 g1 g2) ?_
  refine Eq.trans (zs_sp f210_62 sp_314) ?_
  refine Eq.trans (zv_next f210_65 rfl) ?_
  refine Eq.trans (zs_iast f210_66 g3 g5 (zj_lit (by decide) g4)) ?_
  refine Eq.trans (zv_next f210_67 rfl) ?_
  exact zs_ret0 f210_68
