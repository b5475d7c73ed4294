set_option maxRecDepth 20000 in
theorem zq44 : zi_M[44]? = some zi_m44 := rfl
theorem zl44_0 {pc : Nat} (_ : 0 ≤ pc) : zi_fe 44 pc = zu44_0.lookup pc := zi_feA zq44 pc
theorem f44_0 : zi_fe 44 0 = some ((.aload_n 0), 1, 0, 0, 0, 0, 0) := (zl44_0 (Nat.le_of_ble_eq_true rfl)).trans rfl
theorem f44_1 : zi_fe 44 1 = some ((.iload_n 1), 1, 0, 0, 0, 0, 0) := (zl44_0 (Nat.le_of_ble_eq_true rfl)).trans rfl
theorem f44_2 : zi_fe 44 2 = some ((.invokevirtual 57), 3, 41, 0, 4, 618, 2) := (zl44_0 (Nat.le_of_ble_eq_true rfl)).trans rfl
theorem f44_5 : zi_fe 44 5 = some ((.ifCond .eq 12), 3, 0, 0, 0, 0, 0) := (zl44_0 (Nat.le_of_ble_eq_true rfl)).trans rfl
theorem f44_8 : zi_fe 44 8 = some ((.aload_n 0), 1, 0, 0, 0, 0, 0) := (zl44_0 (Nat.le_of_ble_eq_true rfl)).trans rfl
theorem f44_9 : zi_fe 44 9 = some ((.getfield 21), 3, 4, 6, 3, 154, 0) := (zl44_0 (Nat.le_of_ble_eq_true rfl)).trans rfl
theorem f44_12 : zi_fe 44 12 = some ((.iload_n 1), 1, 0, 0, 0, 0, 0) := (zl44_0 (Nat.le_of_ble_eq_true rfl)).trans rfl
theorem f44_13 : zi_fe 44 13 = some (.iaload, 1, 0, 0, 0, 0, 0) := (zl44_0 (Nat.le_of_ble_eq_true rfl)).trans rfl
theorem f44_14 : zi_fe 44 14 = some ((.goto 5), 3, 0, 0, 0, 0, 0) := (zl44_0 (Nat.le_of_ble_eq_true rfl)).trans rfl
theorem f44_17 : zi_fe 44 17 = some ((.bipush (-4)), 2, 0, 0, 0, 0, 0) := (zl44_0 (Nat.le_of_ble_eq_true rfl)).trans rfl
theorem f44_19 : zi_fe 44 19 = some (.ireturn, 1, 0, 0, 0, 0, 0) := (zl44_0 (Nat.le_of_ble_eq_true rfl)).trans rfl
theorem b44_0 {h : zi_Hp} {a0 : Nat} {x1 : Int32} (g0 : a0 < zh_n h) (g1 : (zh_k h a0).1 = 4) : zv 2 44 0 [.ref a0, .int x1] [] h = (zv 1 41 0 [.ref a0, .int x1] [] h).bind fun r => zv 2 44 5 [.ref a0, .int x1] (r.1.toList ++ []) r.2 := by
  refine Eq.trans (zv_next f44_0 rfl) ?_
  refine Eq.trans (zv_next f44_1 rfl) ?_
  exact zs_callV f44_2 (Nat.le_of_ble_eq_true rfl) (Nat.le_of_ble_eq_true rfl) rfl g0 g1 me_41 (by decide) rfl
theorem b44_5 {h : zi_Hp} {a0 : Nat} {x1 : Int32} {s0 : Int32}  : zv 2 44 5 [.ref a0, .int x1] [.int s0] h = if s0 = 0 then zv 2 44 17 [.ref a0, .int x1] [] h else zv 2 44 8 [.ref a0, .int x1] [] h := by
  exact zs_if f44_5 rfl
theorem b44_8 {h : zi_Hp} {a0 : Nat} {x1 : Int32} (g0 : a0 < zh_n h) (g1 : (zh_k h a0).1 = 4) (g2 : zh_r h a0 6 = .ref (zq (zh_r h a0 6))) (g3 : (zq (zh_r h a0 6)) < zh_n h) (g4 : ¬ (x1 < 0 ∨ (zh_k h (zq (zh_r h a0 6))).2 ≤ x1.toNatClampNeg)) (g5 : (zh_k h (zq (zh_r h a0 6))).1 = 100) : zv 2 44 8 [.ref a0, .int x1] [] h = zv 2 44 19 [.ref a0, .int x1] [.int (zh_i h (zq (zh_r h a0 6)) x1.toNatClampNeg)] h := by
  refine Eq.trans (zv_next f44_8 rfl) ?_
  refine Eq.trans (zs_getr f44_9 g0 g1 g2) ?_
  refine Eq.trans (zv_next f44_12 rfl) ?_
  refine Eq.trans (zs_iald f44_13 g3 g5 g4) ?_
  refine Eq.trans (zs_goto (tgt := 19) f44_14 rfl) ?_
  rfl
theorem b44_17 {h : zi_Hp} {a0 : Nat} {x1 : Int32}  : zv 2 44 17 [.ref a0, .int x1] [] h = zv 2 44 19 [.ref a0, .int x1] [.int (-4)] h := by
  refine Eq.trans (zs_bp f44_17 bp_m4) ?_
  rfl
theorem b44_19 {h : zi_Hp} {a0 : Nat} {x1 : Int32} {s0 : Int32}  : zv 2 44 19 [.ref a0, .int x1] [.int s0] h = some (some (.int s0), h) := by
  exact zs_ret0 f44_19
set_option maxRecDepth 20000 in
theorem zq45 : zi_M[45]? = some zi_m45 := rfl
theorem zl45_0 {pc : Nat} (_ : 0 ≤ pc) : zi_fe 45 pc = zu45_0.lookup pc := zi_feA zq45 pc
theorem f45_0 : zi_fe 45 0 = some ((.aload_n 0), 1, 0, 0, 0, 0, 0) := (zl45_0 (Nat.le_of_ble_eq_true rfl)).trans rfl
theorem f45_1 : zi_fe 45 1 = some ((.iload_n 1), 1, 0, 0, 0, 0, 0) := (zl45_0 (Nat.le_of_ble_eq_true rfl)).trans rfl
theorem f45_2 : zi_fe 45 2 = some ((.invokevirtual 57), 3, 41, 0, 4, 618, 2) := (zl45_0 (Nat.le_of_ble_eq_true rfl)).trans rfl
theorem f45_5 : zi_fe 45 5 = some ((.ifCond .eq 16), 3, 0, 0, 0, 0, 0) := (zl45_0 (Nat.le_of_ble_eq_true rfl)).trans rfl
theorem f45_8 : zi_fe 45 8 = some ((.aload_n 0), 1, 0, 0, 0, 0, 0) := (zl45_0 (Nat.le_of_ble_eq_true rfl)).trans rfl
theorem f45_9 : zi_fe 45 9 = some ((.getfield 24), 3, 4, 7, 3, 157, 0) := (zl45_0 (Nat.le_of_ble_eq_true rfl)).trans rfl
theorem f45_12 : zi_fe 45 12 = some ((.iload_n 1), 1, 0, 0, 0, 0, 0) := (zl45_0 (Nat.le_of_ble_eq_true rfl)).trans rfl
theorem f45_13 : zi_fe 45 13 = some (.baload, 1, 0, 0, 0, 0, 0) := (zl45_0 (Nat.le_of_ble_eq_true rfl)).trans rfl
theorem f45_14 : zi_fe 45 14 = some ((.ifCond .eq 7), 3, 0, 0, 0, 0, 0) := (zl45_0 (Nat.le_of_ble_eq_true rfl)).trans rfl
theorem f45_17 : zi_fe 45 17 = some ((.iconst 1), 1, 0, 0, 0, 0, 0) := (zl45_0 (Nat.le_of_ble_eq_true rfl)).trans rfl
theorem f45_18 : zi_fe 45 18 = some ((.goto 4), 3, 0, 0, 0, 0, 0) := (zl45_0 (Nat.le_of_ble_eq_true rfl)).trans rfl
theorem f45_21 : zi_fe 45 21 = some ((.iconst 0), 1, 0, 0, 0, 0, 0) := (zl45_0 (Nat.le_of_ble_eq_true rfl)).trans rfl
theorem zl45_1 {pc : Nat} (h : 22 ≤ pc) : zi_fe 45 pc = zu45_1.lookup pc := (zl45_0 (Nat.le_trans (Nat.le_of_ble_eq_true rfl) h)).trans (zi_lkA (a := zi_i45_0) (c := 22) rfl h)
theorem f45_22 : zi_fe 45 22 = some (.ireturn, 1, 1, 0, 0, 0, 0) := (zl45_1 (Nat.le_of_ble_eq_true rfl)).trans rfl
theorem b45_0 {h : zi_Hp} {a0 : Nat} {x1 : Int32} (g0 : a0 < zh_n h) (g1 : (zh_k h a0).1 = 4) : zv 2 45 0 [.ref a0, .int x1] [] h = (zv 1 41 0 [.ref a0, .int x1] [] h).bind fun r => zv 2 45 5 [.ref a0, .int x1] (r.1.toList ++ []) r.2 := by
  refine Eq.trans (zv_next f45_0 rfl) ?_
  refine Eq.trans (zv_next f45_1 rfl) ?_
  exact zs_callV f45_2 (Nat.le_of_ble_eq_true rfl) (Nat.le_of_ble_eq_true rfl) rfl g0 g1 me_41 (by decide) rfl
theorem b45_5 {h : zi_Hp} {a0 : Nat} {x1 : Int32} {s0 : Int32}  : zv 2 45 5 [.ref a0, .int x1] [.int s0] h = if s0 = 0 then zv 2 45 21 [.ref a0, .int x1] [] h else zv 2 45 8 [.ref a0, .int x1] [] h := by
  exact zs_if f45_5 rfl
theorem b45_8 {h : zi_Hp} {a0 : Nat} {x1 : Int32} (g0 : a0 < zh_n h) (g1 : (zh_k h a0).1 = 4) (g2 : zh_r h a0 7 = .ref (zq (zh_r h a0 7))) (g3 : (zq (zh_r h a0 7)) < zh_n h) (g4 : ¬ (x1 < 0 ∨ (zh_k h (zq (zh_r h a0 7))).2 ≤ x1.toNatClampNeg)) (g5 : (zh_k h (zq (zh_r h a0 7))).1 = 101) : zv 2 45 8 [.ref a0, .int x1] [] h = if (zi_bI (zh_b h (zq (zh_r h a0 7)) x1.toNatClampNeg)) = 0 then zv 2 45 21 [.ref a0, .int x1] [] h else zv 2 45 17 [.ref a0, .int x1] [] h := by
  refine Eq.trans (zv_next f45_8 rfl) ?_
  refine Eq.trans (zs_getr f45_9 g0 g1 g2) ?_
  refine Eq.trans (zv_next f45_12 rfl) ?_
  refine Eq.trans (zs_bald f45_13 g3 g5 g4) ?_
  exact zs_if f45_14 rfl
theorem b45_17 {h : zi_Hp} {a0 : Nat} {x1 : Int32}  : zv 2 45 17 [.ref a0, .int x1] [] h = zv 2 45 22 [.ref a0, .int x1] [.int 1] h := by
  refine Eq.trans (zs_ic f45_17 ic_1) ?_
  refine Eq.trans (zs_goto (tgt := 22) f45_18 rfl) ?_
  rfl
theorem b45_21 {h : zi_Hp} {a0 : Nat} {x1 : Int32}  : zv 2 45 21 [.ref a0, .int x1] [] h = zv 2 45 22 [.ref a0, .int x1] [.int 0] h := by
  refine Eq.trans (zs_ic f45_21 ic_0) ?_
  rfl
theorem b45_22 {h : zi_Hp} {a0 : Nat} {x1 : Int32} {s0 : Int32} (g0 : s0 = 0 ∨ s0 = 1) : zv 2 45 22 [.ref a0, .int x1] [.int s0] h = some (some (.int s0), h) := by
  exact zs_ret1 f45_22 g0
set_option maxRecDepth 20000 in
theorem zq46 : zi_M[46]? = some zi_m46 := rfl
theorem zl46_0 {pc : Nat} (_ : 0 ≤ pc) : zi_fe 46 pc = zu46_0.lookup pc := zi_feA zq46 pc
theorem f46_0 : zi_fe 46 0 = some ((.aload_n 0), 1, 0, 0, 0, 0, 0) := (zl46_0 (Nat.le_of_ble_eq_true rfl)).trans rfl
theorem f46_1 : zi_fe 46 1 = some ((.iload_n 1), 1, 0, 0, 0, 0, 0) := (zl46_0 (Nat.le_of_ble_eq_true rfl)).trans rfl
theorem f46_2 : zi_fe 46 2 = some ((.invokevirtual 57), 3, 41, 0, 4, 618, 2) := (zl46_0 (Nat.le_of_ble_eq_true rfl)).trans rfl
theorem f46_5 : zi_fe 46 5 = some ((.ifCond .eq 20), 3, 0, 0, 0, 0, 0) := (zl46_0 (Nat.le_of_ble_eq_true rfl)).trans rfl
theorem f46_8 : zi_fe 46 8 = some ((.aload_n 0), 1, 0, 0, 0, 0, 0) := (zl46_0 (Nat.le_of_ble_eq_true rfl)).trans rfl
theorem f46_9 : zi_fe 46 9 = some ((.getfield 15), 3, 4, 4, 3, 149, 0) := (zl46_0 (Nat.le_of_ble_eq_true rfl)).trans rfl
theorem f46_12 : zi_fe 46 12 = some ((.iload_n 1), 1, 0, 0, 0, 0, 0) := (zl46_0 (Nat.le_of_ble_eq_true rfl)).trans rfl
theorem f46_13 : zi_fe 46 13 = some (.iaload, 1, 0, 0, 0, 0, 0) := (zl46_0 (Nat.le_of_ble_eq_true rfl)).trans rfl
theorem f46_14 : zi_fe 46 14 = some ((.aload_n 0), 1, 0, 0, 0, 0, 0) := (zl46_0 (Nat.le_of_ble_eq_true rfl)).trans rfl
theorem f46_15 : zi_fe 46 15 = some ((.getfield 48), 3, 4, 2, 0, 144, 0) := (zl46_0 (Nat.le_of_ble_eq_true rfl)).trans rfl
theorem f46_18 : zi_fe 46 18 = some ((.if_icmp .ge 7), 3, 0, 0, 0, 0, 0) := (zl46_0 (Nat.le_of_ble_eq_true rfl)).trans rfl
theorem f46_21 : zi_fe 46 21 = some ((.iconst 1), 1, 0, 0, 0, 0, 0) := (zl46_0 (Nat.le_of_ble_eq_true rfl)).trans rfl
theorem zl46_1 {pc : Nat} (h : 22 ≤ pc) : zi_fe 46 pc = zu46_1.lookup pc := (zl46_0 (Nat.le_trans (Nat.le_of_ble_eq_true rfl) h)).trans (zi_lkA (a := zi_i46_0) (c := 22) rfl h)
theorem f46_22 : zi_fe 46 22 = some ((.goto 4), 3, 0, 0, 0, 0, 0) := (zl46_1 (Nat.le_of_ble_eq_true rfl)).trans rfl
theorem f46_25 : zi_fe 46 25 = some ((.iconst 0), 1, 0, 0, 0, 0, 0) := (zl46_1 (Nat.le_of_ble_eq_true rfl)).trans rfl
theorem f46_26 : zi_fe 46 26 = some (.ireturn, 1, 1, 0, 0, 0, 0) := (zl46_1 (Nat.le_of_ble_eq_true rfl)).trans rfl
theorem b46_0 {h : zi_Hp} {a0 : Nat} {x1 : Int32} (g0 : a0 < zh_n h) (g1 : (zh_k h a0).1 = 4) : zv 2 46 0 [.ref a0, .int x1] [] h = (zv 1 41 0 [.ref a0, .int x1] [] h).bind fun r => zv 2 46 5 [.ref a0, .int x1] (r.1.toList ++ []) r.2 := by
  refine Eq.trans (zv_next f46_0 rfl) ?_
  refine Eq.trans (zv_next f46_1 rfl) ?_
  exact zs_callV f46_2 (Nat.le_of_ble_eq_true rfl) (Nat.le_of_ble_eq_true rfl) rfl g0 g1 me_41 (by decide) rfl
theorem b46_5 {h : zi_Hp} {a0 : Nat} {x1 : Int32} {s0 : Int32}  : zv 2 46 5 [.ref a0, .int x1] [.int s0] h = if s0 = 0 then zv 2 46 25 [.ref a0, .int x1] [] h else zv 2 46 8 [.ref a0, .int x1] [] h := by
  exact zs_if f46_5 rfl
theorem b46_8 {h : zi_Hp} {a0 : Nat} {x1 : Int32} (g0 : a0 < zh_n h) (g1 : (zh_k h a0).1 = 4) (g2 : zh_r h a0 4 = .ref (zq (zh_r h a0 4))) (g3 : (zq (zh_r h a0 4)) < zh_n h) (g4 : ¬ (x1 < 0 ∨ (zh_k h (zq (zh_r h a0 4))).2 ≤ x1.toNatClampNeg)) (g5 : (zh_k h (zq (zh_r h a0 4))).1 = 100) : zv 2 46 8 [.ref a0, .int x1] [] h = if (zh_i h (zq (zh_r h a0 4)) x1.toNatClampNeg) < (zh_i h a0 2) then zv 2 46 21 [.ref a0, .int x1] [] h else zv 2 46 25 [.ref a0, .int x1] [] h := by
  refine Eq.trans (zv_next f46_8 rfl) ?_
  refine Eq.trans (zs_getr f46_9 g0 g1 g2) ?_
  refine Eq.trans (zv_next f46_12 rfl) ?_
  refine Eq.trans (zs_iald f46_13 g3 g5 g4) ?_
  refine Eq.trans (zv_next f46_14 rfl) ?_
  refine Eq.trans (zs_geti f46_15 g0 g1) ?_
  exact zs_icmp f46_18 rfl
theorem b46_21 {h : zi_Hp} {a0 : Nat} {x1 : Int32}  : zv 2 46 21 [.ref a0, .int x1] [] h = zv 2 46 26 [.ref a0, .int x1] [.int 1] h := by
  refine Eq.trans (zs_ic f46_21 ic_1) ?_
  refine Eq.trans (zs_goto (tgt := 26) f46_22 rfl) ?_
  rfl
theorem b46_25 {h : zi_Hp} {a0 : Nat} {x1 : Int32}  : zv 2 46 25 [.ref a0, .int x1] [] h = zv 2 46 26 [.ref a0, .int x1] [.int 0] h := by
  refine Eq.trans (zs_ic f46_25 ic_0) ?_
  rfl
theorem b46_26 {h : zi_Hp} {a0 : Nat} {x1 : Int32} {s0 : Int32} (g0 : s0 = 0 ∨ s0 = 1) : zv 2 46 26 [.ref a0, .int x1] [.int s0] h = some (some (.int s0), h) := by
  exact zs_ret1 f46_26 g0
set_option maxRecDepth 20000 in
theorem zq47 : zi_M[47]? = some zi_m47 := rfl
theorem zl47_0 {pc : Nat} (_ : 0 ≤ pc) : zi_fe 47 pc = zu47_0.lookup pc := zi_feA zq47 pc
theorem f47_0 : zi_fe 47 0 = some ((.aload_n 0), 1, 0, 0, 0, 0, 0) := (zl47_0 (Nat.le_of_ble_eq_true rfl)).trans rfl
theorem f47_1 : zi_fe 47 1 = some ((.iload_n 1), 1, 0, 0, 0, 0, 0) := (zl47_0 (Nat.le_of_ble_eq_true rfl)).trans rfl
theorem f47_2 : zi_fe 47 2 = some ((.invokevirtual 57), 3, 41, 0, 4, 618, 2) := (zl47_0 (Nat.le_of_ble_eq_true rfl)).trans rfl
theorem f47_5 : zi_fe 47 5 = some ((.ifCond .eq 30), 3, 0, 0, 0, 0, 0) := (zl47_0 (Nat.le_of_ble_eq_true rfl)).trans rfl
theorem f47_8 : zi_fe 47 8 = some ((.iload_n 2), 1, 0, 0, 0, 0, 0) := (zl47_0 (Nat.le_of_ble_eq_true rfl)).trans rfl
theorem f47_9 : zi_fe 47 9 = some ((.ifCond .lt 26), 3, 0, 0, 0, 0, 0) := (zl47_0 (Nat.le_of_ble_eq_true rfl)).trans rfl
theorem f47_12 : zi_fe 47 12 = some ((.iload_n 2), 1, 0, 0, 0, 0, 0) := (zl47_0 (Nat.le_of_ble_eq_true rfl)).trans rfl
theorem f47_13 : zi_fe 47 13 = some ((.aload_n 0), 1, 0, 0, 0, 0, 0) := (zl47_0 (Nat.le_of_ble_eq_true rfl)).trans rfl
theorem f47_14 : zi_fe 47 14 = some ((.getfield 15), 3, 4, 4, 3, 149, 0) := (zl47_0 (Nat.le_of_ble_eq_true rfl)).trans rfl
theorem f47_17 : zi_fe 47 17 = some ((.iload_n 1), 1, 0, 0, 0, 0, 0) := (zl47_0 (Nat.le_of_ble_eq_true rfl)).trans rfl
theorem f47_18 : zi_fe 47 18 = some (.iaload, 1, 0, 0, 0, 0, 0) := (zl47_0 (Nat.le_of_ble_eq_true rfl)).trans rfl
theorem f47_19 : zi_fe 47 19 = some ((.if_icmp .ge 16), 3, 0, 0, 0, 0, 0) := (zl47_0 (Nat.le_of_ble_eq_true rfl)).trans rfl
theorem zl47_1 {pc : Nat} (h : 22 ≤ pc) : zi_fe 47 pc = zu47_1.lookup pc := (zl47_0 (Nat.le_trans (Nat.le_of_ble_eq_true rfl) h)).trans (zi_lkA (a := zi_i47_0) (c := 22) rfl h)
theorem f47_22 : zi_fe 47 22 = some ((.aload_n 0), 1, 0, 0, 0, 0, 0) := (zl47_1 (Nat.le_of_ble_eq_true rfl)).trans rfl
theorem f47_23 : zi_fe 47 23 = some ((.getfield 28), 3, 4, 8, 3, 160, 0) := (zl47_1 (Nat.le_of_ble_eq_true rfl)).trans rfl
theorem f47_26 : zi_fe 47 26 = some ((.iload_n 1), 1, 0, 0, 0, 0, 0) := (zl47_1 (Nat.le_of_ble_eq_true rfl)).trans rfl
theorem f47_27 : zi_fe 47 27 = some ((.iconst 5), 1, 0, 0, 0, 0, 0) := (zl47_1 (Nat.le_of_ble_eq_true rfl)).trans rfl
theorem f47_28 : zi_fe 47 28 = some (.imul, 1, 0, 0, 0, 0, 0) := (zl47_1 (Nat.le_of_ble_eq_true rfl)).trans rfl
theorem f47_29 : zi_fe 47 29 = some ((.iload_n 2), 1, 0, 0, 0, 0, 0) := (zl47_1 (Nat.le_of_ble_eq_true rfl)).trans rfl
theorem f47_30 : zi_fe 47 30 = some (.iadd, 1, 0, 0, 0, 0, 0) := (zl47_1 (Nat.le_of_ble_eq_true rfl)).trans rfl
theorem f47_31 : zi_fe 47 31 = some (.iaload, 1, 0, 0, 0, 0, 0) := (zl47_1 (Nat.le_of_ble_eq_true rfl)).trans rfl
theorem f47_32 : zi_fe 47 32 = some ((.goto 5), 3, 0, 0, 0, 0, 0) := (zl47_1 (Nat.le_of_ble_eq_true rfl)).trans rfl
theorem f47_35 : zi_fe 47 35 = some ((.bipush (-4)), 2, 0, 0, 0, 0, 0) := (zl47_1 (Nat.le_of_ble_eq_true rfl)).trans rfl
theorem f47_37 : zi_fe 47 37 = some (.ireturn, 1, 0, 0, 0, 0, 0) := (zl47_1 (Nat.le_of_ble_eq_true rfl)).trans rfl
theorem b47_0 {h : zi_Hp} {a0 : Nat} {x1 : Int32} {x2 : Int32} (g0 : a0 < zh_n h) (g1 : (zh_k h a0).1 = 4) : zv 2 47 0 [.ref a0, .int x1, .int x2] [] h = (zv 1 41 0 [.ref a0, .int x1] [] h).bind fun r => zv 2 47 5 [.ref a0, .int x1, .int x2] (r.1.toList ++ []) r.2 := by
  refine Eq.trans (zv_next f47_0 rfl) ?_
  refine Eq.trans (zv_next f47_1 rfl) ?_
  exact zs_callV f47_2 (Nat.le_of_ble_eq_true rfl) (Nat.le_of_ble_eq_true rfl) rfl g0 g1 me_41 (by decide) rfl
theorem b47_5 {h : zi_Hp} {a0 : Nat} {x1 : Int32} {x2 : Int32} {s0 : Int32}  : zv 2 47 5 [.ref a0, .int x1, .int x2] [.int s0] h = if s0 = 0 then zv 2 47 35 [.ref a0, .int x1, .int x2] [] h else zv 2 47 8 [.ref a0, .int x1, .int x2] [] h := by
  exact zs_if f47_5 rfl
theorem b47_8 {h : zi_Hp} {a0 : Nat} {x1 : Int32} {x2 : Int32}  : zv 2 47 8 [.ref a0, .int x1, .int x2] [] h = if x2 < 0 then zv 2 47 35 [.ref a0, .int x1, .int x2] [] h else zv 2 47 12 [.ref a0, .int x1, .int x2] [] h := by
  refine Eq.trans (zv_next f47_8 rfl) ?_
  exact zs_if f47_9 rfl
theorem b47_12 {h : zi_Hp} {a0 : Nat} {x1 : Int32} {x2 : Int32} (g0 : a0 < zh_n h) (g1 : (zh_k h a0).1 = 4) (g2 : zh_r h a0 4 = .ref (zq (zh_r h a0 4))) (g3 : (zq (zh_r h a0 4)) < zh_n h) (g4 : ¬ (x1 < 0 ∨ (zh_k h (zq (zh_r h a0 4))).2 ≤ x1.toNatClampNeg)) (g5 : (zh_k h (zq (zh_r h a0 4))).1 = 100) : zv 2 47 12 [.ref a0, .int x1, .int x2] [] h = if x2 < (zh_i h (zq (zh_r h a0 4)) x1.toNatClampNeg) then zv 2 47 22 [.ref a0, .int x1, .int x2] [] h else zv 2 47 35 [.ref a0, .int x1, .int x2] [] h := by
  refine Eq.trans (zv_next f47_12 rfl) ?_
  refine Eq.trans (zv_next f47_13 rfl) ?_
  refine Eq.trans (zs_getr f47_14 g0 g1 g2) ?_
  refine Eq.trans (zv_next f47_17 rfl) ?_
  refine Eq.trans (zs_iald f47_18 g3 g5 g4) ?_
  exact zs_icmp f47_19 rfl
theorem b47_22 {h : zi_Hp} {a0 : Nat} {x1 : Int32} {x2 : Int32} (g0 : a0 < zh_n h) (g1 : (zh_k h a0).1 = 4) (g2 : zh_r h a0 8 = .ref (zq (zh_r h a0 8))) (g3 : (zq (zh_r h a0 8)) < zh_n h) (g4 : ¬ (((x1 * 5) + x2) < 0 ∨ (zh_k h (zq (zh_r h a0 8))).2 ≤ ((x1 * 5) + x2).toNatClampNeg)) (g5 : (zh_k h (zq (zh_r h a0 8))).1 = 100) : zv 2 47 22 [.ref a0, .int x1, .int x2] [] h = zv 2 47 37 [.ref a0, .int x1, .int x2] [.int (zh_i h (zq (zh_r h a0 8)) ((x1 * 5) + x2).toNatClampNeg)] h := by
  refine Eq.trans (zv_next f47_22 rfl) ?_
  refine Eq.trans (zs_getr f47_23 g0 g1 g2) ?_
  refine Eq.trans (zv_next f47_26 rfl) ?_
  refine Eq.trans (zs_ic f47_27 ic_5) ?_
  refine Eq.trans (zv_next f47_28 rfl) ?_
  refine Eq.trans (zv_next f47_29 rfl) ?_
  refine Eq.trans (zv_next f47_30 rfl) ?_
  refine Eq.trans (zs_iald f47_31 g3 g5 g4) ?_
  refine Eq.trans (zs_goto (tgt := 37) f47_32 rfl) ?_
  rfl
theorem b47_35 {h : zi_Hp} {a0 : Nat} {x1 : Int32} {x2 : Int32}  : zv 2 47 35 [.ref a0, .int x1, .int x2] [] h = zv 2 47 37 [.ref a0, .int x1, .int x2] [.int (-4)] h := by
  refine Eq.trans (zs_bp f47_35 bp_m4) ?_
  rfl
theorem b47_37 {h : zi_Hp} {a0 : Nat} {x1 : Int32} {x2 : Int32} {s0 : Int32}  : zv 2 47 37 [.ref a0, .int x1, .int x2] [.int s0] h = some (some (.int s0), h) := by
  exact zs_ret0 f47_37
set_option maxRecDepth 20000 in
theorem zq48 : zi_M[48]? = some zi_m48 := rfl
theorem zl48_0 {pc : Nat} (_ : 0 ≤ pc) : zi_fe 48 pc = zu48_0.lookup pc := zi_feA zq48 pc
theorem f48_0 : zi_fe 48 0 = some ((.aload_n 0), 1, 0, 0, 0, 0, 0) := (zl48_0 (Nat.le_of_ble_eq_true rfl)).trans rfl
theorem f48_1 : zi_fe 48 1 = some ((.iload_n 1), 1, 0, 0, 0, 0, 0) := (zl48_0 (Nat.le_of_ble_eq_true rfl)).trans rfl
theorem f48_2 : zi_fe 48 2 = some ((.invokevirtual 57), 3, 41, 0, 4, 618, 2) := (zl48_0 (Nat.le_of_ble_eq_true rfl)).trans rfl
theorem f48_5 : zi_fe 48 5 = some ((.ifCond .eq 39), 3, 0, 0, 0, 0, 0) := (zl48_0 (Nat.le_of_ble_eq_true rfl)).trans rfl
theorem f48_8 : zi_fe 48 8 = some ((.aload_n 0), 1, 0, 0, 0, 0, 0) := (zl48_0 (Nat.le_of_ble_eq_true rfl)).trans rfl
theorem f48_9 : zi_fe 48 9 = some ((.getfield 9), 3, 4, 3, 3, 147, 0) := (zl48_0 (Nat.le_of_ble_eq_true rfl)).trans rfl
theorem f48_12 : zi_fe 48 12 = some ((.iload_n 1), 1, 0, 0, 0, 0, 0) := (zl48_0 (Nat.le_of_ble_eq_true rfl)).trans rfl
theorem f48_13 : zi_fe 48 13 = some (.iaload, 1, 0, 0, 0, 0, 0) := (zl48_0 (Nat.le_of_ble_eq_true rfl)).trans rfl
theorem f48_14 : zi_fe 48 14 = some ((.ifCond .le 30), 3, 0, 0, 0, 0, 0) := (zl48_0 (Nat.le_of_ble_eq_true rfl)).trans rfl
theorem f48_17 : zi_fe 48 17 = some ((.iload_n 2), 1, 0, 0, 0, 0, 0) := (zl48_0 (Nat.le_of_ble_eq_true rfl)).trans rfl
theorem f48_18 : zi_fe 48 18 = some ((.ifCond .lt 26), 3, 0, 0, 0, 0, 0) := (zl48_0 (Nat.le_of_ble_eq_true rfl)).trans rfl
theorem f48_21 : zi_fe 48 21 = some ((.iload_n 2), 1, 0, 0, 0, 0, 0) := (zl48_0 (Nat.le_of_ble_eq_true rfl)).trans rfl
theorem zl48_1 {pc : Nat} (h : 22 ≤ pc) : zi_fe 48 pc = zu48_1.lookup pc := (zl48_0 (Nat.le_trans (Nat.le_of_ble_eq_true rfl) h)).trans (zi_lkA (a := zi_i48_0) (c := 22) rfl h)
theorem f48_22 : zi_fe 48 22 = some ((.aload_n 0), 1, 0, 0, 0, 0, 0) := (zl48_1 (Nat.le_of_ble_eq_true rfl)).trans rfl
theorem f48_23 : zi_fe 48 23 = some ((.getfield 15), 3, 4, 4, 3, 149, 0) := (zl48_1 (Nat.le_of_ble_eq_true rfl)).trans rfl
theorem f48_26 : zi_fe 48 26 = some ((.iload_n 1), 1, 0, 0, 0, 0, 0) := (zl48_1 (Nat.le_of_ble_eq_true rfl)).trans rfl
theorem f48_27 : zi_fe 48 27 = some (.iaload, 1, 0, 0, 0, 0, 0) := (zl48_1 (Nat.le_of_ble_eq_true rfl)).trans rfl
theorem f48_28 : zi_fe 48 28 = some ((.if_icmp .ge 16), 3, 0, 0, 0, 0, 0) := (zl48_1 (Nat.le_of_ble_eq_true rfl)).trans rfl
theorem f48_31 : zi_fe 48 31 = some ((.aload_n 0), 1, 0, 0, 0, 0, 0) := (zl48_1 (Nat.le_of_ble_eq_true rfl)).trans rfl
theorem f48_32 : zi_fe 48 32 = some ((.getfield 31), 3, 4, 9, 3, 161, 0) := (zl48_1 (Nat.le_of_ble_eq_true rfl)).trans rfl
theorem f48_35 : zi_fe 48 35 = some ((.iload_n 1), 1, 0, 0, 0, 0, 0) := (zl48_1 (Nat.le_of_ble_eq_true rfl)).trans rfl
theorem f48_36 : zi_fe 48 36 = some ((.iconst 5), 1, 0, 0, 0, 0, 0) := (zl48_1 (Nat.le_of_ble_eq_true rfl)).trans rfl
theorem f48_37 : zi_fe 48 37 = some (.imul, 1, 0, 0, 0, 0, 0) := (zl48_1 (Nat.le_of_ble_eq_true rfl)).trans rfl
theorem f48_38 : zi_fe 48 38 = some ((.iload_n 2), 1, 0, 0, 0, 0, 0) := (zl48_1 (Nat.le_of_ble_eq_true rfl)).trans rfl
theorem f48_39 : zi_fe 48 39 = some (.iadd, 1, 0, 0, 0, 0, 0) := (zl48_1 (Nat.le_of_ble_eq_true rfl)).trans rfl
theorem zl48_2 {pc : Nat} (h : 40 ≤ pc) : zi_fe 48 pc = zu48_2.lookup pc := (zl48_1 (Nat.le_trans (Nat.le_of_ble_eq_true rfl) h)).trans (zi_lkA (a := zi_i48_1) (c := 40) rfl h)
theorem f48_40 : zi_fe 48 40 = some (.iaload, 1, 0, 0, 0, 0, 0) := (zl48_2 (Nat.le_of_ble_eq_true rfl)).trans rfl
theorem f48_41 : zi_fe 48 41 = some ((.goto 5), 3, 0, 0, 0, 0, 0) := (zl48_2 (Nat.le_of_ble_eq_true rfl)).trans rfl
theorem f48_44 : zi_fe 48 44 = some ((.bipush (-4)), 2, 0, 0, 0, 0, 0) := (zl48_2 (Nat.le_of_ble_eq_true rfl)).trans rfl
theorem f48_46 : zi_fe 48 46 = some (.ireturn, 1, 0, 0, 0, 0, 0) := (zl48_2 (Nat.le_of_ble_eq_true rfl)).trans rfl
theorem b48_0 {h : zi_Hp} {a0 : Nat} {x1 : Int32} {x2 : Int32} (g0 : a0 < zh_n h) (g1 : (zh_k h a0).1 = 4) : zv 2 48 0 [.ref a0, .int x1, .int x2] [] h = (zv 1 41 0 [.ref a0, .int x1] [] h).bind fun r => zv 2 48 5 [.ref a0, .int x1, .int x2] (r.1.toList ++ []) r.2 := by
  refine Eq.trans (zv_next f48_0 rfl) ?_
  refine Eq.trans (zv_next f48_1 rfl) ?_
  exact zs_callV f48_2 (Nat.le_of_ble_eq_true rfl) (Nat.le_of_ble_eq_true rfl) rfl g0 g1 me_41 (by decide) rfl
theorem b48_5 {h : zi_Hp} {a0 : Nat} {x1 : Int32} {x2 : Int32} {s0 : Int32}  : zv 2 48 5 [.ref a0, .int x1, .int x2] [.int s0] h = if s0 = 0 then zv 2 48 44 [.ref a0, .int x1, .int x2] [] h else zv 2 48 8 [.ref a0, .int x1, .int x2] [] h := by
  exact zs_if f48_5 rfl
theorem b48_8 {h : zi_Hp} {a0 : Nat} {x1 : Int32} {x2 : Int32} (g0 : a0 < zh_n h) (g1 : (zh_k h a0).1 = 4) (g2 : zh_r h a0 3 = .ref (zq (zh_r h a0 3))) (g3 : (zq (zh_r h a0 3)) < zh_n h) (g4 : ¬ (x1 < 0 ∨ (zh_k h (zq (zh_r h a0 3))).2 ≤ x1.toNatClampNeg)) (g5 : (zh_k h (zq (zh_r h a0 3))).1 = 100) : zv 2 48 8 [.ref a0, .int x1, .int x2] [] h = if 0 < (zh_i h (zq (zh_r h a0 3)) x1.toNatClampNeg) then zv 2 48 17 [.ref a0, .int x1, .int x2] [] h else zv 2 48 44 [.ref a0, .int x1, .int x2] [] h := by
  refine Eq.trans (zv_next f48_8 rfl) ?_
  refine Eq.trans (zs_getr f48_9 g0 g1 g2) ?_
  refine Eq.trans (zv_next f48_12 rfl) ?_
  refine Eq.trans (zs_iald f48_13 g3 g5 g4) ?_
  exact zs_if f48_14 rfl
theorem b48_17 {h : zi_Hp} {a0 : Nat} {x1 : Int32} {x2 : Int32}  : zv 2 48 17 [.ref a0, .int x1, .int x2] [] h = if x2 < 0 then zv 2 48 44 [.ref a0, .int x1, .int x2] [] h else zv 2 48 21 [.ref a0, .int x1, .int x2] [] h := by
  refine Eq.trans (zv_next f48_17 rfl) ?_
  exact zs_if f48_18 rfl
theorem b48_21 {h : zi_Hp} {a0 : Nat} {x1 : Int32} {x2 : Int32} (g0 : a0 < zh_n h) (g1 : (zh_k h a0).1 = 4) (g2 : zh_r h a0 4 = .ref (zq (zh_r h a0 4))) (g3 : (zq (zh_r h a0 4)) < zh_n h) (g4 : ¬ (x1 < 0 ∨ (zh_k h (zq (zh_r h a0 4))).2 ≤ x1.toNatClampNeg)) (g5 : (zh_k h (zq (zh_r h a0 4))).1 = 100) : zv 2 48 21 [.ref a0, .int x1, .int x2] [] h = if x2 < (zh_i h (zq (zh_r h a0 4)) x1.toNatClampNeg) then zv 2 48 31 [.ref a0, .int x1, .int x2] [] h else zv 2 48 44 [.ref a0, .int x1, .int x2] [] h := by
  refine Eq.trans (zv_next f48_21 rfl) ?_
  refine Eq.trans (zv_next f48_22 rfl) ?_
  refine Eq.trans (zs_getr f48_23 g0 g1 g2) ?_
  refine Eq.trans (zv_next f48_26 rfl) ?_
  refine Eq.trans (zs_iald f48_27 g3 g5 g4) ?_
  exact zs_icmp f48_28 rfl
theorem b48_31 {h : zi_Hp} {a0 : Nat} {x1 : Int32} {x2 : Int32} (g0 : a0 < zh_n h) (g1 : (zh_k h a0).1 = 4) (g2 : zh_r h a0 9 = .ref (zq (zh_r h a0 9))) (g3 : (zq (zh_r h a0 9)) < zh_n h) (g4 : ¬ (((x1 * 5) + x2) < 0 ∨ (zh_k h (zq (zh_r h a0 9))).2 ≤ ((x1 * 5) + x2).toNatClampNeg)) (g5 : (zh_k h (zq (zh_r h a0 9))).1 = 100) : zv 2 48 31 [.ref a0, .int x1, .int x2] [] h = zv 2 48 46 [.ref a0, .int x1, .int x2] [.int (zh_i h (zq (zh_r h a0 9)) ((x1 * 5) + x2).toNatClampNeg)] h := by
  refine Eq.trans (zv_next f48_31 rfl) ?_
  refine Eq.trans (zs_getr f48_32 g0 g1 g2) ?_
  refine Eq.trans (zv_next f48_35 rfl) ?_
  refine Eq.trans (zs_ic f48_36 ic_5) ?_
  refine Eq.trans (zv_next f48_37 rfl) ?_
  refine Eq.trans (zv_next f48_38 rfl) ?_
  refine Eq.trans (zv_next f48_39 rfl) ?_
  refine Eq.trans (zs_iald f48_40 g3 g5 g4) ?_
  refine Eq.trans (zs_goto (tgt := 46) f48_41 rfl) ?_
  rfl
theorem b48_44 {h : zi_Hp} {a0 : Nat} {x1 : Int32} {x2 : Int32}  : zv 2 48 44 [.ref a0, .int x1, .int x2] [] h = zv 2 48 46 [.ref a0, .int x1, .int x2] [.int (-4)] h := by
  refine Eq.trans (zs_bp f48_44 bp_m4) ?_
  rfl
theorem b48_46 {h : zi_Hp} {a0 : Nat} {x1 : Int32} {x2 : Int32} {s0 : Int32}  : zv 2 48 46 [.ref a0, .int x1, .int x2] [.int s0] h = some (some (.int s0), h) := by
  exact zs_ret0 f48_46
set_option maxRecDepth 20000 in
theorem zq49 : zi_M[49]? = some zi_m49 := rfl
theorem zl49_0 {pc : Nat} (_ : 0 ≤ pc) : zi_fe 49 pc = zu49_0.lookup pc := zi_feA zq49 pc
theorem f49_0 : zi_fe 49 0 = some ((.aload_n 0), 1, 0, 0, 0, 0, 0) := (zl49_0 (Nat.le_of_ble_eq_true rfl)).trans rfl
theorem f49_1 : zi_fe 49 1 = some ((.iload_n 1), 1, 0, 0, 0, 0, 0) := (zl49_0 (Nat.le_of_ble_eq_true rfl)).trans rfl
theorem f49_2 : zi_fe 49 2 = some ((.invokevirtual 57), 3, 41, 0, 4, 618, 2) := (zl49_0 (Nat.le_of_ble_eq_true rfl)).trans rfl
theorem f49_5 : zi_fe 49 5 = some ((.ifCond .ne 5), 3, 0, 0, 0, 0, 0) := (zl49_0 (Nat.le_of_ble_eq_true rfl)).trans rfl
theorem f49_8 : zi_fe 49 8 = some ((.iconst 0), 1, 0, 0, 0, 0, 0) := (zl49_0 (Nat.le_of_ble_eq_true rfl)).trans rfl
theorem f49_9 : zi_fe 49 9 = some (.ireturn, 1, 0, 0, 0, 0, 0) := (zl49_0 (Nat.le_of_ble_eq_true rfl)).trans rfl
theorem f49_10 : zi_fe 49 10 = some ((.iconst 0), 1, 0, 0, 0, 0, 0) := (zl49_0 (Nat.le_of_ble_eq_true rfl)).trans rfl
theorem f49_11 : zi_fe 49 11 = some ((.istore_n 3), 1, 0, 0, 0, 0, 0) := (zl49_0 (Nat.le_of_ble_eq_true rfl)).trans rfl
theorem f49_12 : zi_fe 49 12 = some ((.iload_n 3), 1, 0, 0, 0, 0, 0) := (zl49_0 (Nat.le_of_ble_eq_true rfl)).trans rfl
theorem f49_13 : zi_fe 49 13 = some ((.aload_n 0), 1, 0, 0, 0, 0, 0) := (zl49_0 (Nat.le_of_ble_eq_true rfl)).trans rfl
theorem f49_14 : zi_fe 49 14 = some ((.getfield 15), 3, 4, 4, 3, 149, 0) := (zl49_0 (Nat.le_of_ble_eq_true rfl)).trans rfl
theorem f49_17 : zi_fe 49 17 = some ((.iload_n 1), 1, 0, 0, 0, 0, 0) := (zl49_0 (Nat.le_of_ble_eq_true rfl)).trans rfl
theorem zl49_1 {pc : Nat} (h : 18 ≤ pc) : zi_fe 49 pc = zu49_1.lookup pc := (zl49_0 (Nat.le_trans (Nat.le_of_ble_eq_true rfl) h)).trans (zi_lkA (a := zi_i49_0) (c := 18) rfl h)
theorem f49_18 : zi_fe 49 18 = some (.iaload, 1, 0, 0, 0, 0, 0) := (zl49_1 (Nat.le_of_ble_eq_true rfl)).trans rfl
theorem f49_19 : zi_fe 49 19 = some ((.if_icmp .ge 23), 3, 0, 0, 0, 0, 0) := (zl49_1 (Nat.le_of_ble_eq_true rfl)).trans rfl
theorem f49_22 : zi_fe 49 22 = some ((.aload_n 0), 1, 0, 0, 0, 0, 0) := (zl49_1 (Nat.le_of_ble_eq_true rfl)).trans rfl
theorem f49_23 : zi_fe 49 23 = some ((.getfield 28), 3, 4, 8, 3, 160, 0) := (zl49_1 (Nat.le_of_ble_eq_true rfl)).trans rfl
theorem f49_26 : zi_fe 49 26 = some ((.iload_n 1), 1, 0, 0, 0, 0, 0) := (zl49_1 (Nat.le_of_ble_eq_true rfl)).trans rfl
theorem f49_27 : zi_fe 49 27 = some ((.iconst 5), 1, 0, 0, 0, 0, 0) := (zl49_1 (Nat.le_of_ble_eq_true rfl)).trans rfl
theorem f49_28 : zi_fe 49 28 = some (.imul, 1, 0, 0, 0, 0, 0) := (zl49_1 (Nat.le_of_ble_eq_true rfl)).trans rfl
theorem f49_29 : zi_fe 49 29 = some ((.iload_n 3), 1, 0, 0, 0, 0, 0) := (zl49_1 (Nat.le_of_ble_eq_true rfl)).trans rfl
theorem f49_30 : zi_fe 49 30 = some (.iadd, 1, 0, 0, 0, 0, 0) := (zl49_1 (Nat.le_of_ble_eq_true rfl)).trans rfl
theorem f49_31 : zi_fe 49 31 = some (.iaload, 1, 0, 0, 0, 0, 0) := (zl49_1 (Nat.le_of_ble_eq_true rfl)).trans rfl
theorem f49_32 : zi_fe 49 32 = some ((.iload_n 2), 1, 0, 0, 0, 0, 0) := (zl49_1 (Nat.le_of_ble_eq_true rfl)).trans rfl
theorem f49_33 : zi_fe 49 33 = some ((.if_icmp .ge 9), 3, 0, 0, 0, 0, 0) := (zl49_1 (Nat.le_of_ble_eq_true rfl)).trans rfl
theorem zl49_2 {pc : Nat} (h : 36 ≤ pc) : zi_fe 49 pc = zu49_2.lookup pc := (zl49_1 (Nat.le_trans (Nat.le_of_ble_eq_true rfl) h)).trans (zi_lkA (a := zi_i49_1) (c := 36) rfl h)
theorem f49_36 : zi_fe 49 36 = some ((.iinc 3 1), 3, 0, 0, 0, 0, 0) := (zl49_2 (Nat.le_of_ble_eq_true rfl)).trans rfl
theorem f49_39 : zi_fe 49 39 = some ((.goto (-27)), 3, 0, 0, 0, 0, 0) := (zl49_2 (Nat.le_of_ble_eq_true rfl)).trans rfl
theorem f49_42 : zi_fe 49 42 = some ((.iload_n 3), 1, 0, 0, 0, 0, 0) := (zl49_2 (Nat.le_of_ble_eq_true rfl)).trans rfl
theorem f49_43 : zi_fe 49 43 = some (.ireturn, 1, 0, 0, 0, 0, 0) := (zl49_2 (Nat.le_of_ble_eq_true rfl)).trans rfl
theorem b49_0 {h : zi_Hp} {a0 : Nat} {x1 : Int32} {x2 : Int32} {u3 : Value} (g0 : a0 < zh_n h) (g1 : (zh_k h a0).1 = 4) : zv 2 49 0 [.ref a0, .int x1, .int x2, u3] [] h = (zv 1 41 0 [.ref a0, .int x1] [] h).bind fun r => zv 2 49 5 [.ref a0, .int x1, .int x2, u3] (r.1.toList ++ []) r.2 := by
  refine Eq.trans (zv_next f49_0 rfl) ?_
  refine Eq.trans (zv_next f49_1 rfl) ?_
  exact zs_callV f49_2 (Nat.le_of_ble_eq_true rfl) (Nat.le_of_ble_eq_true rfl) rfl g0 g1 me_41 (by decide) rfl
theorem b49_5 {h : zi_Hp} {a0 : Nat} {x1 : Int32} {x2 : Int32} {u3 : Value} {s0 : Int32}  : zv 2 49 5 [.ref a0, .int x1, .int x2, u3] [.int s0] h = if s0 = 0 then zv 2 49 8 [.ref a0, .int x1, .int x2, u3] [] h else zv 2 49 10 [.ref a0, .int x1, .int x2, u3] [] h := by
  exact zs_if f49_5 rfl
theorem b49_8 {h : zi_Hp} {a0 : Nat} {x1 : Int32} {x2 : Int32} {u3 : Value}  : zv 2 49 8 [.ref a0, .int x1, .int x2, u3] [] h = some (some (.int 0), h) := by
  refine Eq.trans (zs_ic f49_8 ic_0) ?_
  exact zs_ret0 f49_9
theorem b49_10 {h : zi_Hp} {a0 : Nat} {x1 : Int32} {x2 : Int32} {u3 : Value}  : zv 2 49 10 [.ref a0, .int x1, .int x2, u3] [] h = zv 2 49 12 [.ref a0, .int x1, .int x2, .int 0] [] h := by
  refine Eq.trans (zs_ic f49_10 ic_0) ?_
  refine Eq.trans (zv_next f49_11 rfl) ?_
  rfl
theorem b49_12 {h : zi_Hp} {a0 : Nat} {x1 : Int32} {x2 : Int32} {x3 : Int32} (g0 : a0 < zh_n h) (g1 : (zh_k h a0).1 = 4) (g2 : zh_r h a0 4 = .ref (zq (zh_r h a0 4))) (g3 : (zq (zh_r h a0 4)) < zh_n h) (g4 : ¬ (x1 < 0 ∨ (zh_k h (zq (zh_r h a0 4))).2 ≤ x1.toNatClampNeg)) (g5 : (zh_k h (zq (zh_r h a0 4))).1 = 100) : zv 2 49 12 [.ref a0, .int x1, .int x2, .int x3] [] h = if x3 < (zh_i h (zq (zh_r h a0 4)) x1.toNatClampNeg) then zv 2 49 22 [.ref a0, .int x1, .int x2, .int x3] [] h else zv 2 49 42 [.ref a0, .int x1, .int x2, .int x3] [] h := by
  refine Eq.trans (zv_next f49_12 rfl) ?_
  refine Eq.trans (zv_next f49_13 rfl) ?_
  refine Eq.trans (zs_getr f49_14 g0 g1 g2) ?_
  refine Eq.trans (zv_next f49_17 rfl) ?_
  refine Eq.trans (zs_iald f49_18 g3 g5 g4) ?_
  exact zs_icmp f49_19 rfl
theorem b49_22 {h : zi_Hp} {a0 : Nat} {x1 : Int32} {x2 : Int32} {x3 : Int32} (g0 : a0 < zh_n h) (g1 : (zh_k h a0).1 = 4) (g2 : zh_r h a0 8 = .ref (zq (zh_r h a0 8))) (g3 : (zq (zh_r h a0 8)) < zh_n h) (g4 : ¬ (((x1 * 5) + x3) < 0 ∨ (zh_k h (zq (zh_r h a0 8))).2 ≤ ((x1 * 5) + x3).toNatClampNeg)) (g5 : (zh_k h (zq (zh_r h a0 8))).1 = 100) : zv 2 49 22 [.ref a0, .int x1, .int x2, .int x3] [] h = if (zh_i h (zq (zh_r h a0 8)) ((x1 * 5) + x3).toNatClampNeg) < x2 then zv 2 49 36 [.ref a0, .int x1, .int x2, .int x3] [] h else zv 2 49 42 [.ref a0, .int x1, .int x2, .int x3] [] h := by
  refine Eq.trans (zv_next f49_22 rfl) ?_
  refine Eq.trans (zs_getr f49_23 g0 g1 g2) ?_
  refine Eq.trans (zv_next f49_26 rfl) ?_
  refine Eq.trans (zs_ic f49_27 ic_5) ?_
  refine Eq.trans (zv_next f49_28 rfl) ?_
  refine Eq.trans (zv_next f49_29 rfl) ?_
  refine Eq.trans (zv_next f49_30 rfl) ?_
  refine Eq.trans (zs_iald f49_31 g3 g5 g4) ?_
  refine Eq.trans (zv_next f49_32 rfl) ?_
  exact zs_icmp f49_33 rfl
theorem b49_36 {h : zi_Hp} {a0 : Nat} {x1 : Int32} {x2 : Int32} {x3 : Int32}  : zv 2 49 36 [.ref a0, .int x1, .int x2, .int x3] [] h = zv 2 49 12 [.ref a0, .int x1, .int x2, .int (x3 + 1)] [] h := by
  refine Eq.trans (zs_inc f49_36 rfl ic_1 rfl) ?_
  refine Eq.trans (zs_goto (tgt := 12) f49_39 rfl) ?_
  rfl
theorem b49_42 {h : zi_Hp} {a0 : Nat} {x1 : Int32} {x2 : Int32} {x3 : Int32}  : zv 2 49 42 [.ref a0, .int x1, .int x2, .int x3] [] h = some (some (.int x3), h) := by
  refine Eq.trans (zv_next f49_42 rfl) ?_
  exact zs_ret0 f49_43
set_option maxRecDepth 20000 in
theorem zq50 : zi_M[50]? = some zi_m50 := rfl
theorem zl50_0 {pc : Nat} (_ : 0 ≤ pc) : zi_fe 50 pc = zu50_0.lookup pc := zi_feA zq50 pc
theorem f50_0 : zi_fe 50 0 = some ((.aload_n 0), 1, 0, 0, 0, 0, 0) := (zl50_0 (Nat.le_of_ble_eq_true rfl)).trans rfl
theorem f50_1 : zi_fe 50 1 = some ((.iload_n 1), 1, 0, 0, 0, 0, 0) := (zl50_0 (Nat.le_of_ble_eq_true rfl)).trans rfl
theorem f50_2 : zi_fe 50 2 = some ((.aload_n 0), 1, 0, 0, 0, 0, 0) := (zl50_0 (Nat.le_of_ble_eq_true rfl)).trans rfl
theorem f50_3 : zi_fe 50 3 = some ((.iload_n 1), 1, 0, 0, 0, 0, 0) := (zl50_0 (Nat.le_of_ble_eq_true rfl)).trans rfl
theorem f50_4 : zi_fe 50 4 = some ((.iload_n 2), 1, 0, 0, 0, 0, 0) := (zl50_0 (Nat.le_of_ble_eq_true rfl)).trans rfl
theorem f50_5 : zi_fe 50 5 = some ((.invokevirtual 61), 3, 49, 0, 4, 674, 3) := (zl50_0 (Nat.le_of_ble_eq_true rfl)).trans rfl
theorem f50_8 : zi_fe 50 8 = some ((.invokevirtual 65), 3, 47, 0, 4, 675, 3) := (zl50_0 (Nat.le_of_ble_eq_true rfl)).trans rfl
theorem f50_11 : zi_fe 50 11 = some ((.iload_n 2), 1, 0, 0, 0, 0, 0) := (zl50_0 (Nat.le_of_ble_eq_true rfl)).trans rfl
theorem f50_12 : zi_fe 50 12 = some ((.if_icmp .ne 7), 3, 0, 0, 0, 0, 0) := (zl50_0 (Nat.le_of_ble_eq_true rfl)).trans rfl
theorem f50_15 : zi_fe 50 15 = some ((.iconst 1), 1, 0, 0, 0, 0, 0) := (zl50_0 (Nat.le_of_ble_eq_true rfl)).trans rfl
theorem f50_16 : zi_fe 50 16 = some ((.goto 4), 3, 0, 0, 0, 0, 0) := (zl50_0 (Nat.le_of_ble_eq_true rfl)).trans rfl
theorem f50_19 : zi_fe 50 19 = some ((.iconst 0), 1, 0, 0, 0, 0, 0) := (zl50_0 (Nat.le_of_ble_eq_true rfl)).trans rfl
theorem zl50_1 {pc : Nat} (h : 20 ≤ pc) : zi_fe 50 pc = zu50_1.lookup pc := (zl50_0 (Nat.le_trans (Nat.le_of_ble_eq_true rfl) h)).trans (zi_lkA (a := zi_i50_0) (c := 20) rfl h)
theorem f50_20 : zi_fe 50 20 = some (.ireturn, 1, 1, 0, 0, 0, 0) := (zl50_1 (Nat.le_of_ble_eq_true rfl)).trans rfl
theorem b50_0 {h : zi_Hp} {a0 : Nat} {x1 : Int32} {x2 : Int32} (g0 : a0 < zh_n h) (g1 : (zh_k h a0).1 = 4) : zv 3 50 0 [.ref a0, .int x1, .int x2] [] h = (zv 2 49 0 [.ref a0, .int x1, .int x2, .double 0] [] h).bind fun r => zv 3 50 8 [.ref a0, .int x1, .int x2] (r.1.toList ++ [.int x1, .ref a0]) r.2 := by
  refine Eq.trans (zv_next f50_0 rfl) ?_
  refine Eq.trans (zv_next f50_1 rfl) ?_
  refine Eq.trans (zv_next f50_2 rfl) ?_
  refine Eq.trans (zv_next f50_3 rfl) ?_
  refine Eq.trans (zv_next f50_4 rfl) ?_
  exact zs_callV f50_5 (Nat.le_of_ble_eq_true rfl) (Nat.le_of_ble_eq_true rfl) rfl g0 g1 me_49 (by decide) rfl
theorem b50_8 {h : zi_Hp} {a0 : Nat} {x1 : Int32} {x2 : Int32} {t0 : Nat} {s1 : Int32} {s2 : Int32} (g0 : t0 < zh_n h) (g1 : (zh_k h t0).1 = 4) : zv 3 50 8 [.ref a0, .int x1, .int x2] [.int s2, .int s1, .ref t0] h = (zv 2 47 0 [.ref t0, .int s1, .int s2] [] h).bind fun r => zv 3 50 11 [.ref a0, .int x1, .int x2] (r.1.toList ++ []) r.2 := by
  exact zs_callV f50_8 (Nat.le_of_ble_eq_true rfl) (Nat.le_of_ble_eq_true rfl) rfl g0 g1 me_47 (by decide) rfl
theorem b50_11 {h : zi_Hp} {a0 : Nat} {x1 : Int32} {x2 : Int32} {s0 : Int32}  : zv 3 50 11 [.ref a0, .int x1, .int x2] [.int s0] h = if s0 = x2 then zv 3 50 15 [.ref a0, .int x1, .int x2] [] h else zv 3 50 19 [.ref a0, .int x1, .int x2] [] h := by
  refine Eq.trans (zv_next f50_11 rfl) ?_
  exact zs_icmp f50_12 rfl
theorem b50_15 {h : zi_Hp} {a0 : Nat} {x1 : Int32} {x2 : Int32}  : zv 3 50 15 [.ref a0, .int x1, .int x2] [] h = zv 3 50 20 [.ref a0, .int x1, .int x2] [.int 1] h := by
  refine Eq.trans (zs_ic f50_15 ic_1) ?_
  refine Eq.trans (zs_goto (tgt := 20) f50_16 rfl) ?_
  rfl
theorem b50_19 {h : zi_Hp} {a0 : Nat} {x1 : Int32} {x2 : Int32}  : zv 3 50 19 [.ref a0, .int x1, .int x2] [] h = zv 3 50 20 [.ref a0, .int x1, .int x2] [.int 0] h := by
  refine Eq.trans (zs_ic f50_19 ic_0) ?_
  rfl
theorem b50_20 {h : zi_Hp} {a0 : Nat} {x1 : Int32} {x2 : Int32} {s0 : Int32} (g0 : s0 = 0 ∨ s0 = 1) : zv 3 50 20 [.ref a0, .int x1, .int x2] [.int s0] h = some (some (.int s0), h) := by
  exact zs_ret1 f50_20 g0
set_option maxRecDepth 20000 in
theorem zq51 : zi_M[51]? = some zi_m51 := rfl
theorem zl51_0 {pc : Nat} (_ : 0 ≤ pc) : zi_fe 51 pc = zu51_0.lookup pc := zi_feA zq51 pc
theorem f51_0 : zi_fe 51 0 = some ((.aload_n 0), 1, 0, 0, 0, 0, 0) := (zl51_0 (Nat.le_of_ble_eq_true rfl)).trans rfl
theorem f51_1 : zi_fe 51 1 = some ((.iload_n 1), 1, 0, 0, 0, 0, 0) := (zl51_0 (Nat.le_of_ble_eq_true rfl)).trans rfl
theorem f51_2 : zi_fe 51 2 = some ((.invokevirtual 57), 3, 41, 0, 4, 618, 2) := (zl51_0 (Nat.le_of_ble_eq_true rfl)).trans rfl
theorem f51_5 : zi_fe 51 5 = some ((.ifCond .eq 27), 3, 0, 0, 0, 0, 0) := (zl51_0 (Nat.le_of_ble_eq_true rfl)).trans rfl
theorem f51_8 : zi_fe 51 8 = some ((.aload_n 0), 1, 0, 0, 0, 0, 0) := (zl51_0 (Nat.le_of_ble_eq_true rfl)).trans rfl
theorem f51_9 : zi_fe 51 9 = some ((.getfield 15), 3, 4, 4, 3, 149, 0) := (zl51_0 (Nat.le_of_ble_eq_true rfl)).trans rfl
theorem f51_12 : zi_fe 51 12 = some ((.iload_n 1), 1, 0, 0, 0, 0, 0) := (zl51_0 (Nat.le_of_ble_eq_true rfl)).trans rfl
theorem f51_13 : zi_fe 51 13 = some (.iaload, 1, 0, 0, 0, 0, 0) := (zl51_0 (Nat.le_of_ble_eq_true rfl)).trans rfl
theorem f51_14 : zi_fe 51 14 = some ((.iconst 5), 1, 0, 0, 0, 0, 0) := (zl51_0 (Nat.le_of_ble_eq_true rfl)).trans rfl
theorem f51_15 : zi_fe 51 15 = some ((.if_icmp .ge 17), 3, 0, 0, 0, 0, 0) := (zl51_0 (Nat.le_of_ble_eq_true rfl)).trans rfl
theorem f51_18 : zi_fe 51 18 = some ((.iload_n 2), 1, 0, 0, 0, 0, 0) := (zl51_0 (Nat.le_of_ble_eq_true rfl)).trans rfl
theorem f51_19 : zi_fe 51 19 = some ((.ifCond .lt 13), 3, 0, 0, 0, 0, 0) := (zl51_0 (Nat.le_of_ble_eq_true rfl)).trans rfl
theorem zl51_1 {pc : Nat} (h : 22 ≤ pc) : zi_fe 51 pc = zu51_1.lookup pc := (zl51_0 (Nat.le_trans (Nat.le_of_ble_eq_true rfl) h)).trans (zi_lkA (a := zi_i51_0) (c := 22) rfl h)
theorem f51_22 : zi_fe 51 22 = some ((.iload_n 2), 1, 0, 0, 0, 0, 0) := (zl51_1 (Nat.le_of_ble_eq_true rfl)).trans rfl
theorem f51_23 : zi_fe 51 23 = some ((.aload_n 0), 1, 0, 0, 0, 0, 0) := (zl51_1 (Nat.le_of_ble_eq_true rfl)).trans rfl
theorem f51_24 : zi_fe 51 24 = some ((.getfield 15), 3, 4, 4, 3, 149, 0) := (zl51_1 (Nat.le_of_ble_eq_true rfl)).trans rfl
theorem f51_27 : zi_fe 51 27 = some ((.iload_n 1), 1, 0, 0, 0, 0, 0) := (zl51_1 (Nat.le_of_ble_eq_true rfl)).trans rfl
theorem f51_28 : zi_fe 51 28 = some (.iaload, 1, 0, 0, 0, 0, 0) := (zl51_1 (Nat.le_of_ble_eq_true rfl)).trans rfl
theorem f51_29 : zi_fe 51 29 = some ((.if_icmp .le 4), 3, 0, 0, 0, 0, 0) := (zl51_1 (Nat.le_of_ble_eq_true rfl)).trans rfl
theorem f51_32 : zi_fe 51 32 = some (.return_, 1, 0, 0, 0, 0, 0) := (zl51_1 (Nat.le_of_ble_eq_true rfl)).trans rfl
theorem f51_33 : zi_fe 51 33 = some ((.iload_n 1), 1, 0, 0, 0, 0, 0) := (zl51_1 (Nat.le_of_ble_eq_true rfl)).trans rfl
theorem f51_34 : zi_fe 51 34 = some ((.iconst 5), 1, 0, 0, 0, 0, 0) := (zl51_1 (Nat.le_of_ble_eq_true rfl)).trans rfl
theorem f51_35 : zi_fe 51 35 = some (.imul, 1, 0, 0, 0, 0, 0) := (zl51_1 (Nat.le_of_ble_eq_true rfl)).trans rfl
theorem f51_36 : zi_fe 51 36 = some ((.iload_n 2), 1, 0, 0, 0, 0, 0) := (zl51_1 (Nat.le_of_ble_eq_true rfl)).trans rfl
theorem f51_37 : zi_fe 51 37 = some (.iadd, 1, 0, 0, 0, 0, 0) := (zl51_1 (Nat.le_of_ble_eq_true rfl)).trans rfl
theorem zl51_2 {pc : Nat} (h : 38 ≤ pc) : zi_fe 51 pc = zu51_2.lookup pc := (zl51_1 (Nat.le_trans (Nat.le_of_ble_eq_true rfl) h)).trans (zi_lkA (a := zi_i51_1) (c := 38) rfl h)
theorem f51_38 : zi_fe 51 38 = some ((.istore 5), 2, 0, 0, 0, 0, 0) := (zl51_2 (Nat.le_of_ble_eq_true rfl)).trans rfl
theorem f51_40 : zi_fe 51 40 = some ((.iload_n 1), 1, 0, 0, 0, 0, 0) := (zl51_2 (Nat.le_of_ble_eq_true rfl)).trans rfl
theorem f51_41 : zi_fe 51 41 = some ((.iconst 5), 1, 0, 0, 0, 0, 0) := (zl51_2 (Nat.le_of_ble_eq_true rfl)).trans rfl
theorem f51_42 : zi_fe 51 42 = some (.imul, 1, 0, 0, 0, 0, 0) := (zl51_2 (Nat.le_of_ble_eq_true rfl)).trans rfl
theorem f51_43 : zi_fe 51 43 = some ((.aload_n 0), 1, 0, 0, 0, 0, 0) := (zl51_2 (Nat.le_of_ble_eq_true rfl)).trans rfl
theorem f51_44 : zi_fe 51 44 = some ((.getfield 15), 3, 4, 4, 3, 149, 0) := (zl51_2 (Nat.le_of_ble_eq_true rfl)).trans rfl
theorem f51_47 : zi_fe 51 47 = some ((.iload_n 1), 1, 0, 0, 0, 0, 0) := (zl51_2 (Nat.le_of_ble_eq_true rfl)).trans rfl
theorem f51_48 : zi_fe 51 48 = some (.iaload, 1, 0, 0, 0, 0, 0) := (zl51_2 (Nat.le_of_ble_eq_true rfl)).trans rfl
theorem f51_49 : zi_fe 51 49 = some (.iadd, 1, 0, 0, 0, 0, 0) := (zl51_2 (Nat.le_of_ble_eq_true rfl)).trans rfl
theorem f51_50 : zi_fe 51 50 = some ((.istore 6), 2, 0, 0, 0, 0, 0) := (zl51_2 (Nat.le_of_ble_eq_true rfl)).trans rfl
theorem f51_52 : zi_fe 51 52 = some ((.iload 6), 2, 0, 0, 0, 0, 0) := (zl51_2 (Nat.le_of_ble_eq_true rfl)).trans rfl
theorem f51_54 : zi_fe 51 54 = some ((.iload 5), 2, 0, 0, 0, 0, 0) := (zl51_2 (Nat.le_of_ble_eq_true rfl)).trans rfl
theorem zl51_3 {pc : Nat} (h : 56 ≤ pc) : zi_fe 51 pc = zu51_3.lookup pc := (zl51_2 (Nat.le_trans (Nat.le_of_ble_eq_true rfl) h)).trans (zi_lkA (a := zi_i51_2) (c := 56) rfl h)
theorem f51_56 : zi_fe 51 56 = some ((.if_icmp .le 41), 3, 0, 0, 0, 0, 0) := (zl51_3 (Nat.le_of_ble_eq_true rfl)).trans rfl
theorem f51_59 : zi_fe 51 59 = some ((.aload_n 0), 1, 0, 0, 0, 0, 0) := (zl51_3 (Nat.le_of_ble_eq_true rfl)).trans rfl
theorem f51_60 : zi_fe 51 60 = some ((.getfield 28), 3, 4, 8, 3, 160, 0) := (zl51_3 (Nat.le_of_ble_eq_true rfl)).trans rfl
theorem f51_63 : zi_fe 51 63 = some ((.iload 6), 2, 0, 0, 0, 0, 0) := (zl51_3 (Nat.le_of_ble_eq_true rfl)).trans rfl
theorem f51_65 : zi_fe 51 65 = some ((.aload_n 0), 1, 0, 0, 0, 0, 0) := (zl51_3 (Nat.le_of_ble_eq_true rfl)).trans rfl
theorem f51_66 : zi_fe 51 66 = some ((.getfield 28), 3, 4, 8, 3, 160, 0) := (zl51_3 (Nat.le_of_ble_eq_true rfl)).trans rfl
theorem f51_69 : zi_fe 51 69 = some ((.iload 6), 2, 0, 0, 0, 0, 0) := (zl51_3 (Nat.le_of_ble_eq_true rfl)).trans rfl
theorem f51_71 : zi_fe 51 71 = some ((.iconst 1), 1, 0, 0, 0, 0, 0) := (zl51_3 (Nat.le_of_ble_eq_true rfl)).trans rfl
theorem f51_72 : zi_fe 51 72 = some (.isub, 1, 0, 0, 0, 0, 0) := (zl51_3 (Nat.le_of_ble_eq_true rfl)).trans rfl
theorem f51_73 : zi_fe 51 73 = some (.iaload, 1, 0, 0, 0, 0, 0) := (zl51_3 (Nat.le_of_ble_eq_true rfl)).trans rfl
theorem f51_74 : zi_fe 51 74 = some (.iastore, 1, 0, 0, 0, 0, 0) := (zl51_3 (Nat.le_of_ble_eq_true rfl)).trans rfl
theorem f51_75 : zi_fe 51 75 = some ((.aload_n 0), 1, 0, 0, 0, 0, 0) := (zl51_3 (Nat.le_of_ble_eq_true rfl)).trans rfl
theorem zl51_4 {pc : Nat} (h : 76 ≤ pc) : zi_fe 51 pc = zu51_4.lookup pc := (zl51_3 (Nat.le_trans (Nat.le_of_ble_eq_true rfl) h)).trans (zi_lkA (a := zi_i51_3) (c := 76) rfl h)
theorem f51_76 : zi_fe 51 76 = some ((.getfield 31), 3, 4, 9, 3, 161, 0) := (zl51_4 (Nat.le_of_ble_eq_true rfl)).trans rfl
theorem f51_79 : zi_fe 51 79 = some ((.iload 6), 2, 0, 0, 0, 0, 0) := (zl51_4 (Nat.le_of_ble_eq_true rfl)).trans rfl
theorem f51_81 : zi_fe 51 81 = some ((.aload_n 0), 1, 0, 0, 0, 0, 0) := (zl51_4 (Nat.le_of_ble_eq_true rfl)).trans rfl
theorem f51_82 : zi_fe 51 82 = some ((.getfield 31), 3, 4, 9, 3, 161, 0) := (zl51_4 (Nat.le_of_ble_eq_true rfl)).trans rfl
theorem f51_85 : zi_fe 51 85 = some ((.iload 6), 2, 0, 0, 0, 0, 0) := (zl51_4 (Nat.le_of_ble_eq_true rfl)).trans rfl
theorem f51_87 : zi_fe 51 87 = some ((.iconst 1), 1, 0, 0, 0, 0, 0) := (zl51_4 (Nat.le_of_ble_eq_true rfl)).trans rfl
theorem f51_88 : zi_fe 51 88 = some (.isub, 1, 0, 0, 0, 0, 0) := (zl51_4 (Nat.le_of_ble_eq_true rfl)).trans rfl
theorem f51_89 : zi_fe 51 89 = some (.iaload, 1, 0, 0, 0, 0, 0) := (zl51_4 (Nat.le_of_ble_eq_true rfl)).trans rfl
theorem f51_90 : zi_fe 51 90 = some (.iastore, 1, 0, 0, 0, 0, 0) := (zl51_4 (Nat.le_of_ble_eq_true rfl)).trans rfl
theorem f51_91 : zi_fe 51 91 = some ((.iinc 6 (-1)), 3, 0, 0, 0, 0, 0) := (zl51_4 (Nat.le_of_ble_eq_true rfl)).trans rfl
theorem f51_94 : zi_fe 51 94 = some ((.goto (-42)), 3, 0, 0, 0, 0, 0) := (zl51_4 (Nat.le_of_ble_eq_true rfl)).trans rfl
theorem f51_97 : zi_fe 51 97 = some ((.aload_n 0), 1, 0, 0, 0, 0, 0) := (zl51_4 (Nat.le_of_ble_eq_true rfl)).trans rfl
theorem zl51_5 {pc : Nat} (h : 98 ≤ pc) : zi_fe 51 pc = zu51_5.lookup pc := (zl51_4 (Nat.le_trans (Nat.le_of_ble_eq_true rfl) h)).trans (zi_lkA (a := zi_i51_4) (c := 98) rfl h)
theorem f51_98 : zi_fe 51 98 = some ((.getfield 28), 3, 4, 8, 3, 160, 0) := (zl51_5 (Nat.le_of_ble_eq_true rfl)).trans rfl
theorem f51_101 : zi_fe 51 101 = some ((.iload 5), 2, 0, 0, 0, 0, 0) := (zl51_5 (Nat.le_of_ble_eq_true rfl)).trans rfl
theorem f51_103 : zi_fe 51 103 = some ((.iload_n 3), 1, 0, 0, 0, 0, 0) := (zl51_5 (Nat.le_of_ble_eq_true rfl)).trans rfl
theorem f51_104 : zi_fe 51 104 = some (.iastore, 1, 0, 0, 0, 0, 0) := (zl51_5 (Nat.le_of_ble_eq_true rfl)).trans rfl
theorem f51_105 : zi_fe 51 105 = some ((.aload_n 0), 1, 0, 0, 0, 0, 0) := (zl51_5 (Nat.le_of_ble_eq_true rfl)).trans rfl
theorem f51_106 : zi_fe 51 106 = some ((.getfield 31), 3, 4, 9, 3, 161, 0) := (zl51_5 (Nat.le_of_ble_eq_true rfl)).trans rfl
theorem f51_109 : zi_fe 51 109 = some ((.iload 5), 2, 0, 0, 0, 0, 0) := (zl51_5 (Nat.le_of_ble_eq_true rfl)).trans rfl
theorem f51_111 : zi_fe 51 111 = some ((.iload 4), 2, 0, 0, 0, 0, 0) := (zl51_5 (Nat.le_of_ble_eq_true rfl)).trans rfl
theorem f51_113 : zi_fe 51 113 = some (.iastore, 1, 0, 0, 0, 0, 0) := (zl51_5 (Nat.le_of_ble_eq_true rfl)).trans rfl
theorem f51_114 : zi_fe 51 114 = some ((.aload_n 0), 1, 0, 0, 0, 0, 0) := (zl51_5 (Nat.le_of_ble_eq_true rfl)).trans rfl
theorem f51_115 : zi_fe 51 115 = some ((.getfield 15), 3, 4, 4, 3, 149, 0) := (zl51_5 (Nat.le_of_ble_eq_true rfl)).trans rfl
theorem f51_118 : zi_fe 51 118 = some ((.iload_n 1), 1, 0, 0, 0, 0, 0) := (zl51_5 (Nat.le_of_ble_eq_true rfl)).trans rfl
theorem zl51_6 {pc : Nat} (h : 119 ≤ pc) : zi_fe 51 pc = zu51_6.lookup pc := (zl51_5 (Nat.le_trans (Nat.le_of_ble_eq_true rfl) h)).trans (zi_lkA (a := zi_i51_5) (c := 119) rfl h)
theorem f51_119 : zi_fe 51 119 = some (.dup2, 1, 0, 0, 0, 0, 0) := (zl51_6 (Nat.le_of_ble_eq_true rfl)).trans rfl
theorem f51_120 : zi_fe 51 120 = some (.iaload, 1, 0, 0, 0, 0, 0) := (zl51_6 (Nat.le_of_ble_eq_true rfl)).trans rfl
theorem f51_121 : zi_fe 51 121 = some ((.iconst 1), 1, 0, 0, 0, 0, 0) := (zl51_6 (Nat.le_of_ble_eq_true rfl)).trans rfl
theorem f51_122 : zi_fe 51 122 = some (.iadd, 1, 0, 0, 0, 0, 0) := (zl51_6 (Nat.le_of_ble_eq_true rfl)).trans rfl
theorem f51_123 : zi_fe 51 123 = some (.iastore, 1, 0, 0, 0, 0, 0) := (zl51_6 (Nat.le_of_ble_eq_true rfl)).trans rfl
theorem f51_124 : zi_fe 51 124 = some (.return_, 1, 0, 0, 0, 0, 0) := (zl51_6 (Nat.le_of_ble_eq_true rfl)).trans rfl
theorem b51_0 {h : zi_Hp} {a0 : Nat} {x1 : Int32} {x2 : Int32} {x3 : Int32} {x4 : Int32} {u5 : Value} {u6 : Value} (g0 : a0 < zh_n h) (g1 : (zh_k h a0).1 = 4) : zv 2 51 0 [.ref a0, .int x1, .int x2, .int x3, .int x4, u5, u6] [] h = (zv 1 41 0 [.ref a0, .int x1] [] h).bind fun r => zv 2 51 5 [.ref a0, .int x1, .int x2, .int x3, .int x4, u5, u6] (r.1.toList ++ []) r.2 := by
  refine Eq.trans (zv_next f51_0 rfl) ?_
  refine Eq.trans (zv_next f51_1 rfl) ?_
  exact zs_callV f51_2 (Nat.le_of_ble_eq_true rfl) (Nat.le_of_ble_eq_true rfl) rfl g0 g1 me_41 (by decide) rfl
theorem b51_5 {h : zi_Hp} {a0 : Nat} {x1 : Int32} {x2 : Int32} {x3 : Int32} {x4 : Int32} {u5 : Value} {u6 : Value} {s0 : Int32}  : zv 2 51 5 [.ref a0, .int x1, .int x2, .int x3, .int x4, u5, u6] [.int s0] h = if s0 = 0 then zv 2 51 32 [.ref a0, .int x1, .int x2, .int x3, .int x4, u5, u6] [] h else zv 2 51 8 [.ref a0, .int x1, .int x2, .int x3, .int x4, u5, u6] [] h := by
  exact zs_if f51_5 rfl
theorem b51_8 {h : zi_Hp} {a0 : Nat} {x1 : Int32} {x2 : Int32} {x3 : Int32} {x4 : Int32} {u5 : Value} {u6 : Value} (g0 : a0 < zh_n h) (g1 : (zh_k h a0).1 = 4) (g2 : zh_r h a0 4 = .ref (zq (zh_r h a0 4))) (g3 : (zq (zh_r h a0 4)) < zh_n h) (g4 : ¬ (x1 < 0 ∨ (zh_k h (zq (zh_r h a0 4))).2 ≤ x1.toNatClampNeg)) (g5 : (zh_k h (zq (zh_r h a0 4))).1 = 100) : zv 2 51 8 [.ref a0, .int x1, .int x2, .int x3, .int x4, u5, u6] [] h = if (zh_i h (zq (zh_r h a0 4)) x1.toNatClampNeg) < 5 then zv 2 51 18 [.ref a0, .int x1, .int x2, .int x3, .int x4, u5, u6] [] h else zv 2 51 32 [.ref a0, .int x1, .int x2, .int x3, .int x4, u5, u6] [] h := by
  refine Eq.trans (zv_next f51_8 rfl) ?_
  refine Eq.trans (zs_getr f51_9 g0 g1 g2) ?_
  refine Eq.trans (zv_next f51_12 rfl) ?_
  refine Eq.trans (zs_iald f51_13 g3 g5 g4) ?_
  refine Eq.trans (zs_ic f51_14 ic_5) ?_
  exact zs_icmp f51_15 rfl
theorem b51_18 {h : zi_Hp} {a0 : Nat} {x1 : Int32} {x2 : Int32} {x3 : Int32} {x4 : Int32} {u5 : Value} {u6 : Value}  : zv 2 51 18 [.ref a0, .int x1, .int x2, .int x3, .int x4, u5, u6] [] h = if x2 < 0 then zv 2 51 32 [.ref a0, .int x1, .int x2, .int x3, .int x4, u5, u6] [] h else zv 2 51 22 [.ref a0, .int x1, .int x2, .int x3, .int x4, u5, u6] [] h := by
  refine Eq.trans (zv_next f51_18 rfl) ?_
  exact zs_if f51_19 rfl
theorem b51_22 {h : zi_Hp} {a0 : Nat} {x1 : Int32} {x2 : Int32} {x3 : Int32} {x4 : Int32} {u5 : Value} {u6 : Value} (g0 : a0 < zh_n h) (g1 : (zh_k h a0).1 = 4) (g2 : zh_r h a0 4 = .ref (zq (zh_r h a0 4))) (g3 : (zq (zh_r h a0 4)) < zh_n h) (g4 : ¬ (x1 < 0 ∨ (zh_k h (zq (zh_r h a0 4))).2 ≤ x1.toNatClampNeg)) (g5 : (zh_k h (zq (zh_r h a0 4))).1 = 100) : zv 2 51 22 [.ref a0, .int x1, .int x2, .int x3, .int x4, u5, u6] [] h = if (zh_i h (zq (zh_r h a0 4)) x1.toNatClampNeg) < x2 then zv 2 51 32 [.ref a0, .int x1, .int x2, .int x3, .int x4, u5, u6] [] h else zv 2 51 33 [.ref a0, .int x1, .int x2, .int x3, .int x4, u5, u6] [] h := by
  refine Eq.trans (zv_next f51_22 rfl) ?_
  refine Eq.trans (zv_next f51_23 rfl) ?_
  refine Eq.trans (zs_getr f51_24 g0 g1 g2) ?_
  refine Eq.trans (zv_next f51_27 rfl) ?_
  refine Eq.trans (zs_iald f51_28 g3 g5 g4) ?_
  exact zs_icmp f51_29 rfl
theorem b51_32 {h : zi_Hp} {a0 : Nat} {x1 : Int32} {x2 : Int32} {x3 : Int32} {x4 : Int32} {u5 : Value} {u6 : Value}  : zv 2 51 32 [.ref a0, .int x1, .int x2, .int x3, .int x4, u5, u6] [] h = some (none, h) := by
  exact zv_ret f51_32 rfl
theorem b51_33 {h : zi_Hp} {a0 : Nat} {x1 : Int32} {x2 : Int32} {x3 : Int32} {x4 : Int32} {u5 : Value} {u6 : Value} (g0 : a0 < zh_n h) (g1 : (zh_k h a0).1 = 4) (g2 : zh_r h a0 4 = .ref (zq (zh_r h a0 4))) (g3 : (zq (zh_r h a0 4)) < zh_n h) (g4 : ¬ (x1 < 0 ∨ (zh_k h (zq (zh_r h a0 4))).2 ≤ x1.toNatClampNeg)) (g5 : (zh_k h (zq (zh_r h a0 4))).1 = 100) : zv 2 51 33 [.ref a0, .int x1, .int x2, .int x3, .int x4, u5, u6] [] h = zv 2 51 52 [.ref a0, .int x1, .int x2, .int x3, .int x4, .int ((x1 * 5) + x2), .int ((x1 * 5) + (zh_i h (zq (zh_r h a0 4)) x1.toNatClampNeg))] [] h := by
  refine Eq.trans (zv_next f51_33 rfl) ?_
  refine Eq.trans (zs_ic f51_34 ic_5) ?_
  refine Eq.trans (zv_next f51_35 rfl) ?_
  refine Eq.trans (zv_next f51_36 rfl) ?_
  refine Eq.trans (zv_next f51_37 rfl) ?_
  refine Eq.trans (zv_next f51_38 rfl) ?_
  refine Eq.trans (zv_next f51_40 rfl) ?_
  refine Eq.trans (zs_ic f51_41 ic_5) ?_
  refine Eq.trans (zv_next f51_42 rfl) ?_
  refine Eq.trans (zv_next f51_43 rfl) ?_
  refine Eq.trans (zs_getr f51_44 g0 g1 g2) ?_
  refine Eq.trans (zv_next f51_47 rfl) ?_
  refine Eq.trans (zs_iald f51_48 g3 g5 g4) ?_
  refine Eq.trans (zv_next f51_49 rfl) ?_
  refine Eq.trans (zv_next f51_50 rfl) ?_
  rfl
theorem b51_52 {h : zi_Hp} {a0 : Nat} {x1 : Int32} {x2 : Int32} {x3 : Int32} {x4 : Int32} {x5 : Int32} {x6 : Int32}  : zv 2 51 52 [.ref a0, .int x1, .int x2, .int x3, .int x4, .int x5, .int x6] [] h = if x5 < x6 then zv 2 51 59 [.ref a0, .int x1, .int x2, .int x3, .int x4, .int x5, .int x6] [] h else zv 2 51 97 [.ref a0, .int x1, .int x2, .int x3, .int x4, .int x5, .int x6] [] h := by
  refine Eq.trans (zv_next f51_52 rfl) ?_
  refine Eq.trans (zv_next f51_54 rfl) ?_
  exact zs_icmp f51_56 rfl
theorem b51_59 {h : zi_Hp} {a0 : Nat} {x1 : Int32} {x2 : Int32} {x3 : Int32} {x4 : Int32} {x5 : Int32} {x6 : Int32} (g0 : a0 < zh_n h) (g1 : (zh_k h a0).1 = 4) (g2 : zh_r h a0 8 = .ref (zq (zh_r h a0 8))) (g3 : (zq (zh_r h a0 8)) < zh_n h) (g4 : ¬ ((x6 - 1) < 0 ∨ (zh_k h (zq (zh_r h a0 8))).2 ≤ (x6 - 1).toNatClampNeg)) (g5 : (zh_k h (zq (zh_r h a0 8))).1 = 100) (g6 : ¬ (x6 < 0 ∨ (zh_k h (zq (zh_r h a0 8))).2 ≤ x6.toNatClampNeg)) (g7 : zh_r h a0 9 = .ref (zq (zh_r h a0 9))) : zv 2 51 59 [.ref a0, .int x1, .int x2, .int x3, .int x4, .int x5, .int x6] [] h = zv 2 51 89 [.ref a0, .int x1, .int x2, .int x3, .int x4, .int x5, .int x6] [.int (x6 - 1), .ref (zq (zh_r h a0 9)), .int x6, .ref (zq (zh_r h a0 9))] (zh_wi h (zq (zh_r h a0 8)) x6.toNatClampNeg (zh_i h (zq (zh_r h a0 8)) (x6 - 1).toNatClampNeg)) := by
  refine Eq.trans (zv_next f51_59 rfl) ?_
  refine Eq.trans (zs_getr f51_60 g0 g1 g2) ?_
  refine Eq.trans (zv_next f51_63 rfl) ?_
  refine Eq.trans (zv_next f51_65 rfl) ?_
  refine Eq.trans (zs_getr f51_66 g0 g1 g2) ?_
  refine Eq.trans (zv_next f51_69 rfl) ?_
  refine Eq.trans (zs_ic f51_71 ic_1) ?_
  refine Eq.trans (zv_next f51_72 rfl) ?_
  refine Eq.trans (zs_iald f51_73 g3 g5 g4) ?_
  refine Eq.trans (zs_iast f51_74 g3 g5 g6) ?_
  refine Eq.trans (zv_next f51_75 rfl) ?_
  refine Eq.trans (zs_getr f51_76 g0 g1 g7) ?_
  refine Eq.trans (zv_next f51_79 rfl) ?_
  refine Eq.trans (zv_next f51_81 rfl) ?_
  refine Eq.trans (zs_getr f51_82 g0 g1 g7) ?_
  refine Eq.trans (zv_next f51_85 rfl) ?_
  refine Eq.trans (zs_ic f51_87 ic_1) ?_
  refine Eq.trans (zv_next f51_88 rfl) ?_
  rfl
theorem b51_89 {h : zi_Hp} {a0 : Nat} {x1 : Int32} {x2 : Int32} {x3 : Int32} {x4 : Int32} {x5 : Int32} {x6 : Int32} {t0 : Nat} {s1 : Int32} {t2 : Nat} {s3 : Int32} (g0 : t2 < zh_n h) (g1 : ¬ (s3 < 0 ∨ (zh_k h t2).2 ≤ s3.toNatClampNeg)) (g2 : (zh_k h t2).1 = 100) (g3 : t0 < zh_n h) (g4 : ¬ (s1 < 0 ∨ (zh_k h t0).2 ≤ s1.toNatClampNeg)) (g5 : (zh_k h t0).1 = 100) : zv 2 51 89 [.ref a0, .int x1, .int x2, .int x3, .int x4, .int x5, .int x6] [.int s3, .ref t2, .int s1, .ref t0] h = zv 2 51 52 [.ref a0, .int x1, .int x2, .int x3, .int x4, .int x5, .int (x6 + (-1))] [] (zh_wi h t0 s1.toNatClampNeg (zh_i h t2 s3.toNatClampNeg)) := by
  refine Eq.trans (zs_iald f51_89 g0 g2 g1) ?_
  refine Eq.trans (zs_iast f51_90 g3 g5 g4) ?_
  refine Eq.trans (zs_inc f51_91 rfl ic_m1 rfl) ?_
  refine Eq.trans (zs_goto (tgt := 52) f51_94 rfl) ?_
  rfl
theorem b51_97 {h : zi_Hp} {a0 : Nat} {x1 : Int32} {x2 : Int32} {x3 : Int32} {x4 : Int32} {x5 : Int32} {x6 : Int32} (g0 : a0 < zh_n h) (g1 : (zh_k h a0).1 = 4) (g2 : zh_r h a0 8 = .ref (zq (zh_r h a0 8))) (g3 : (zq (zh_r h a0 8)) < zh_n h) (g4 : ¬ (x5 < 0 ∨ (zh_k h (zq (zh_r h a0 8))).2 ≤ x5.toNatClampNeg)) (g5 : (zh_k h (zq (zh_r h a0 8))).1 = 100) (g6 : zh_r h a0 9 = .ref (zq (zh_r h a0 9))) (g7 : (zq (zh_r h a0 9)) < zh_n h) (g8 : ¬ (x5 < 0 ∨ (zh_k h (zq (zh_r h a0 9))).2 ≤ x5.toNatClampNeg)) (g9 : (zh_k h (zq (zh_r h a0 9))).1 = 100) (g10 : zh_r h a0 4 = .ref (zq (zh_r h a0 4))) : zv 2 51 97 [.ref a0, .int x1, .int x2, .int x3, .int x4, .int x5, .int x6] [] h = zv 2 51 120 [.ref a0, .int x1, .int x2, .int x3, .int x4, .int x5, .int x6] [.int x1, .ref (zq (zh_r h a0 4)), .int x1, .ref (zq (zh_r h a0 4))] (zh_wi (zh_wi h (zq (zh_r h a0 8)) x5.toNatClampNeg x3) (zq (zh_r h a0 9)) x5.toNatClampNeg x4) := by
  refine Eq.trans (zv_next f51_97 rfl) ?_
  refine Eq.trans (zs_getr f51_98 g0 g1 g2) ?_
  refine Eq.trans (zv_next f51_101 rfl) ?_
  refine Eq.trans (zv_next f51_103 rfl) ?_
  refine Eq.trans (zs_iast f51_104 g3 g5 g4) ?_
  refine Eq.trans (zv_next f51_105 rfl) ?_
  refine Eq.trans (zs_getr f51_106 g0 g1 g6) ?_
  refine Eq.trans (zv_next f51_109 rfl) ?_
  refine Eq.trans (zv_next f51_111 rfl) ?_
  refine Eq.trans (zs_iast f51_113 g7 g9 g8) ?_
  refine Eq.trans (zv_next f51_114 rfl) ?_
  refine Eq.trans (zs_getr f51_115 g0 g1 g10) ?_
  refine Eq.trans (zv_next f51_118 rfl) ?_
  refine Eq.trans (zv_next f51_119 rfl) ?_
  rfl
theorem b51_120 {h : zi_Hp} {a0 : Nat} {x1 : Int32} {x2 : Int32} {x3 : Int32} {x4 : Int32} {x5 : Int32} {x6 : Int32} {t0 : Nat} {s1 : Int32} {t2 : Nat} {s3 : Int32} (g0 : t2 < zh_n h) (g1 : ¬ (s3 < 0 ∨ (zh_k h t2).2 ≤ s3.toNatClampNeg)) (g2 : (zh_k h t2).1 = 100) (g3 : t0 < zh_n h) (g4 : ¬ (s1 < 0 ∨ (zh_k h t0).2 ≤ s1.toNatClampNeg)) (g5 : (zh_k h t0).1 = 100) : zv 2 51 120 [.ref a0, .int x1, .int x2, .int x3, .int x4, .int x5, .int x6] [.int s3, .ref t2, .int s1, .ref t0] h = some (none, zh_wi h t0 s1.toNatClampNeg ((zh_i h t2 s3.toNatClampNeg) + 1)) := by
  refine Eq.trans (zs_iald f51_120 g0 g2 g1) ?_
  refine Eq.trans (zs_ic f51_121 ic_1) ?_
  refine Eq.trans (zv_next f51_122 rfl) ?_
  refine Eq.trans (zs_iast f51_123 g3 g5 g4) ?_
  exact zv_ret f51_124 rfl
set_option maxRecDepth 20000 in
theorem zq52 : zi_M[52]? = some zi_m52 := rfl
theorem zl52_0 {pc : Nat} (_ : 0 ≤ pc) : zi_fe 52 pc = zu52_0.lookup pc := zi_feA zq52 pc
theorem f52_0 : zi_fe 52 0 = some ((.aload_n 0), 1, 0, 0, 0, 0, 0) := (zl52_0 (Nat.le_of_ble_eq_true rfl)).trans rfl
theorem f52_1 : zi_fe 52 1 = some ((.iload_n 1), 1, 0, 0, 0, 0, 0) := (zl52_0 (Nat.le_of_ble_eq_true rfl)).trans rfl
theorem f52_2 : zi_fe 52 2 = some ((.invokevirtual 57), 3, 41, 0, 4, 618, 2) := (zl52_0 (Nat.le_of_ble_eq_true rfl)).trans rfl
theorem f52_5 : zi_fe 52 5 = some ((.ifCond .eq 17), 3, 0, 0, 0, 0, 0) := (zl52_0 (Nat.le_of_ble_eq_true rfl)).trans rfl
theorem f52_8 : zi_fe 52 8 = some ((.iload_n 2), 1, 0, 0, 0, 0, 0) := (zl52_0 (Nat.le_of_ble_eq_true rfl)).trans rfl
theorem f52_9 : zi_fe 52 9 = some ((.ifCond .lt 13), 3, 0, 0, 0, 0, 0) := (zl52_0 (Nat.le_of_ble_eq_true rfl)).trans rfl
theorem f52_12 : zi_fe 52 12 = some ((.iload_n 2), 1, 0, 0, 0, 0, 0) := (zl52_0 (Nat.le_of_ble_eq_true rfl)).trans rfl
theorem f52_13 : zi_fe 52 13 = some ((.aload_n 0), 1, 0, 0, 0, 0, 0) := (zl52_0 (Nat.le_of_ble_eq_true rfl)).trans rfl
theorem f52_14 : zi_fe 52 14 = some ((.getfield 15), 3, 4, 4, 3, 149, 0) := (zl52_0 (Nat.le_of_ble_eq_true rfl)).trans rfl
theorem f52_17 : zi_fe 52 17 = some ((.iload_n 1), 1, 0, 0, 0, 0, 0) := (zl52_0 (Nat.le_of_ble_eq_true rfl)).trans rfl
theorem f52_18 : zi_fe 52 18 = some (.iaload, 1, 0, 0, 0, 0, 0) := (zl52_0 (Nat.le_of_ble_eq_true rfl)).trans rfl
theorem f52_19 : zi_fe 52 19 = some ((.if_icmp .lt 4), 3, 0, 0, 0, 0, 0) := (zl52_0 (Nat.le_of_ble_eq_true rfl)).trans rfl
theorem zl52_1 {pc : Nat} (h : 22 ≤ pc) : zi_fe 52 pc = zu52_1.lookup pc := (zl52_0 (Nat.le_trans (Nat.le_of_ble_eq_true rfl) h)).trans (zi_lkA (a := zi_i52_0) (c := 22) rfl h)
theorem f52_22 : zi_fe 52 22 = some (.return_, 1, 0, 0, 0, 0, 0) := (zl52_1 (Nat.le_of_ble_eq_true rfl)).trans rfl
theorem f52_23 : zi_fe 52 23 = some ((.iload_n 1), 1, 0, 0, 0, 0, 0) := (zl52_1 (Nat.le_of_ble_eq_true rfl)).trans rfl
theorem f52_24 : zi_fe 52 24 = some ((.iconst 5), 1, 0, 0, 0, 0, 0) := (zl52_1 (Nat.le_of_ble_eq_true rfl)).trans rfl
theorem f52_25 : zi_fe 52 25 = some (.imul, 1, 0, 0, 0, 0, 0) := (zl52_1 (Nat.le_of_ble_eq_true rfl)).trans rfl
theorem f52_26 : zi_fe 52 26 = some ((.iload_n 2), 1, 0, 0, 0, 0, 0) := (zl52_1 (Nat.le_of_ble_eq_true rfl)).trans rfl
theorem f52_27 : zi_fe 52 27 = some (.iadd, 1, 0, 0, 0, 0, 0) := (zl52_1 (Nat.le_of_ble_eq_true rfl)).trans rfl
theorem f52_28 : zi_fe 52 28 = some ((.istore_n 3), 1, 0, 0, 0, 0, 0) := (zl52_1 (Nat.le_of_ble_eq_true rfl)).trans rfl
theorem f52_29 : zi_fe 52 29 = some ((.iload_n 3), 1, 0, 0, 0, 0, 0) := (zl52_1 (Nat.le_of_ble_eq_true rfl)).trans rfl
theorem f52_30 : zi_fe 52 30 = some ((.iload_n 1), 1, 0, 0, 0, 0, 0) := (zl52_1 (Nat.le_of_ble_eq_true rfl)).trans rfl
theorem f52_31 : zi_fe 52 31 = some ((.iconst 5), 1, 0, 0, 0, 0, 0) := (zl52_1 (Nat.le_of_ble_eq_true rfl)).trans rfl
theorem f52_32 : zi_fe 52 32 = some (.imul, 1, 0, 0, 0, 0, 0) := (zl52_1 (Nat.le_of_ble_eq_true rfl)).trans rfl
theorem f52_33 : zi_fe 52 33 = some ((.aload_n 0), 1, 0, 0, 0, 0, 0) := (zl52_1 (Nat.le_of_ble_eq_true rfl)).trans rfl
theorem zl52_2 {pc : Nat} (h : 34 ≤ pc) : zi_fe 52 pc = zu52_2.lookup pc := (zl52_1 (Nat.le_trans (Nat.le_of_ble_eq_true rfl) h)).trans (zi_lkA (a := zi_i52_1) (c := 34) rfl h)
theorem f52_34 : zi_fe 52 34 = some ((.getfield 15), 3, 4, 4, 3, 149, 0) := (zl52_2 (Nat.le_of_ble_eq_true rfl)).trans rfl
theorem f52_37 : zi_fe 52 37 = some ((.iload_n 1), 1, 0, 0, 0, 0, 0) := (zl52_2 (Nat.le_of_ble_eq_true rfl)).trans rfl
theorem f52_38 : zi_fe 52 38 = some (.iaload, 1, 0, 0, 0, 0, 0) := (zl52_2 (Nat.le_of_ble_eq_true rfl)).trans rfl
theorem f52_39 : zi_fe 52 39 = some (.iadd, 1, 0, 0, 0, 0, 0) := (zl52_2 (Nat.le_of_ble_eq_true rfl)).trans rfl
theorem f52_40 : zi_fe 52 40 = some ((.iconst 1), 1, 0, 0, 0, 0, 0) := (zl52_2 (Nat.le_of_ble_eq_true rfl)).trans rfl
theorem f52_41 : zi_fe 52 41 = some (.isub, 1, 0, 0, 0, 0, 0) := (zl52_2 (Nat.le_of_ble_eq_true rfl)).trans rfl
theorem f52_42 : zi_fe 52 42 = some ((.if_icmp .ge 37), 3, 0, 0, 0, 0, 0) := (zl52_2 (Nat.le_of_ble_eq_true rfl)).trans rfl
theorem f52_45 : zi_fe 52 45 = some ((.aload_n 0), 1, 0, 0, 0, 0, 0) := (zl52_2 (Nat.le_of_ble_eq_true rfl)).trans rfl
theorem f52_46 : zi_fe 52 46 = some ((.getfield 28), 3, 4, 8, 3, 160, 0) := (zl52_2 (Nat.le_of_ble_eq_true rfl)).trans rfl
theorem f52_49 : zi_fe 52 49 = some ((.iload_n 3), 1, 0, 0, 0, 0, 0) := (zl52_2 (Nat.le_of_ble_eq_true rfl)).trans rfl
theorem f52_50 : zi_fe 52 50 = some ((.aload_n 0), 1, 0, 0, 0, 0, 0) := (zl52_2 (Nat.le_of_ble_eq_true rfl)).trans rfl
theorem f52_51 : zi_fe 52 51 = some ((.getfield 28), 3, 4, 8, 3, 160, 0) := (zl52_2 (Nat.le_of_ble_eq_true rfl)).trans rfl
theorem zl52_3 {pc : Nat} (h : 54 ≤ pc) : zi_fe 52 pc = zu52_3.lookup pc := (zl52_2 (Nat.le_trans (Nat.le_of_ble_eq_true rfl) h)).trans (zi_lkA (a := zi_i52_2) (c := 54) rfl h)
theorem f52_54 : zi_fe 52 54 = some ((.iload_n 3), 1, 0, 0, 0, 0, 0) := (zl52_3 (Nat.le_of_ble_eq_true rfl)).trans rfl
theorem f52_55 : zi_fe 52 55 = some ((.iconst 1), 1, 0, 0, 0, 0, 0) := (zl52_3 (Nat.le_of_ble_eq_true rfl)).trans rfl
theorem f52_56 : zi_fe 52 56 = some (.iadd, 1, 0, 0, 0, 0, 0) := (zl52_3 (Nat.le_of_ble_eq_true rfl)).trans rfl
theorem f52_57 : zi_fe 52 57 = some (.iaload, 1, 0, 0, 0, 0, 0) := (zl52_3 (Nat.le_of_ble_eq_true rfl)).trans rfl
theorem f52_58 : zi_fe 52 58 = some (.iastore, 1, 0, 0, 0, 0, 0) := (zl52_3 (Nat.le_of_ble_eq_true rfl)).trans rfl
theorem f52_59 : zi_fe 52 59 = some ((.aload_n 0), 1, 0, 0, 0, 0, 0) := (zl52_3 (Nat.le_of_ble_eq_true rfl)).trans rfl
theorem f52_60 : zi_fe 52 60 = some ((.getfield 31), 3, 4, 9, 3, 161, 0) := (zl52_3 (Nat.le_of_ble_eq_true rfl)).trans rfl
theorem f52_63 : zi_fe 52 63 = some ((.iload_n 3), 1, 0, 0, 0, 0, 0) := (zl52_3 (Nat.le_of_ble_eq_true rfl)).trans rfl
theorem f52_64 : zi_fe 52 64 = some ((.aload_n 0), 1, 0, 0, 0, 0, 0) := (zl52_3 (Nat.le_of_ble_eq_true rfl)).trans rfl
theorem f52_65 : zi_fe 52 65 = some ((.getfield 31), 3, 4, 9, 3, 161, 0) := (zl52_3 (Nat.le_of_ble_eq_true rfl)).trans rfl
theorem f52_68 : zi_fe 52 68 = some ((.iload_n 3), 1, 0, 0, 0, 0, 0) := (zl52_3 (Nat.le_of_ble_eq_true rfl)).trans rfl
theorem f52_69 : zi_fe 52 69 = some ((.iconst 1), 1, 0, 0, 0, 0, 0) := (zl52_3 (Nat.le_of_ble_eq_true rfl)).trans rfl
theorem zl52_4 {pc : Nat} (h : 70 ≤ pc) : zi_fe 52 pc = zu52_4.lookup pc := (zl52_3 (Nat.le_trans (Nat.le_of_ble_eq_true rfl) h)).trans (zi_lkA (a := zi_i52_3) (c := 70) rfl h)
theorem f52_70 : zi_fe 52 70 = some (.iadd, 1, 0, 0, 0, 0, 0) := (zl52_4 (Nat.le_of_ble_eq_true rfl)).trans rfl
theorem f52_71 : zi_fe 52 71 = some (.iaload, 1, 0, 0, 0, 0, 0) := (zl52_4 (Nat.le_of_ble_eq_true rfl)).trans rfl
theorem f52_72 : zi_fe 52 72 = some (.iastore, 1, 0, 0, 0, 0, 0) := (zl52_4 (Nat.le_of_ble_eq_true rfl)).trans rfl
theorem f52_73 : zi_fe 52 73 = some ((.iinc 3 1), 3, 0, 0, 0, 0, 0) := (zl52_4 (Nat.le_of_ble_eq_true rfl)).trans rfl
theorem f52_76 : zi_fe 52 76 = some ((.goto (-47)), 3, 0, 0, 0, 0, 0) := (zl52_4 (Nat.le_of_ble_eq_true rfl)).trans rfl
theorem f52_79 : zi_fe 52 79 = some ((.aload_n 0), 1, 0, 0, 0, 0, 0) := (zl52_4 (Nat.le_of_ble_eq_true rfl)).trans rfl
theorem f52_80 : zi_fe 52 80 = some ((.getfield 15), 3, 4, 4, 3, 149, 0) := (zl52_4 (Nat.le_of_ble_eq_true rfl)).trans rfl
theorem f52_83 : zi_fe 52 83 = some ((.iload_n 1), 1, 0, 0, 0, 0, 0) := (zl52_4 (Nat.le_of_ble_eq_true rfl)).trans rfl
theorem f52_84 : zi_fe 52 84 = some (.dup2, 1, 0, 0, 0, 0, 0) := (zl52_4 (Nat.le_of_ble_eq_true rfl)).trans rfl
theorem f52_85 : zi_fe 52 85 = some (.iaload, 1, 0, 0, 0, 0, 0) := (zl52_4 (Nat.le_of_ble_eq_true rfl)).trans rfl
theorem f52_86 : zi_fe 52 86 = some ((.iconst 1), 1, 0, 0, 0, 0, 0) := (zl52_4 (Nat.le_of_ble_eq_true rfl)).trans rfl
theorem f52_87 : zi_fe 52 87 = some (.isub, 1, 0, 0, 0, 0, 0) := (zl52_4 (Nat.le_of_ble_eq_true rfl)).trans rfl
theorem zl52_5 {pc : Nat} (h : 88 ≤ pc) : zi_fe 52 pc = zu52_5.lookup pc := (zl52_4 (Nat.le_trans (Nat.le_of_ble_eq_true rfl) h)).trans (zi_lkA (a := zi_i52_4) (c := 88) rfl h)
theorem f52_88 : zi_fe 52 88 = some (.iastore, 1, 0, 0, 0, 0, 0) := (zl52_5 (Nat.le_of_ble_eq_true rfl)).trans rfl
theorem f52_89 : zi_fe 52 89 = some (.return_, 1, 0, 0, 0, 0, 0) := (zl52_5 (Nat.le_of_ble_eq_true rfl)).trans rfl
theorem b52_0 {h : zi_Hp} {a0 : Nat} {x1 : Int32} {x2 : Int32} {u3 : Value} (g0 : a0 < zh_n h) (g1 : (zh_k h a0).1 = 4) : zv 2 52 0 [.ref a0, .int x1, .int x2, u3] [] h = (zv 1 41 0 [.ref a0, .int x1] [] h).bind fun r => zv 2 52 5 [.ref a0, .int x1, .int x2, u3] (r.1.toList ++ []) r.2 := by
  refine Eq.trans (zv_next f52_0 rfl) ?_
  refine Eq.trans (zv_next f52_1 rfl) ?_
  exact zs_callV f52_2 (Nat.le_of_ble_eq_true rfl) (Nat.le_of_ble_eq_true rfl) rfl g0 g1 me_41 (by decide) rfl
theorem b52_5 {h : zi_Hp} {a0 : Nat} {x1 : Int32} {x2 : Int32} {u3 : Value} {s0 : Int32}  : zv 2 52 5 [.ref a0, .int x1, .int x2, u3] [.int s0] h = if s0 = 0 then zv 2 52 22 [.ref a0, .int x1, .int x2, u3] [] h else zv 2 52 8 [.ref a0, .int x1, .int x2, u3] [] h := by
  exact zs_if f52_5 rfl
theorem b52_8 {h : zi_Hp} {a0 : Nat} {x1 : Int32} {x2 : Int32} {u3 : Value}  : zv 2 52 8 [.ref a0, .int x1, .int x2, u3] [] h = if x2 < 0 then zv 2 52 22 [.ref a0, .int x1, .int x2, u3] [] h else zv 2 52 12 [.ref a0, .int x1, .int x2, u3] [] h := by
  refine Eq.trans (zv_next f52_8 rfl) ?_
  exact zs_if f52_9 rfl
theorem b52_12 {h : zi_Hp} {a0 : Nat} {x1 : Int32} {x2 : Int32} {u3 : Value} (g0 : a0 < zh_n h) (g1 : (zh_k h a0).1 = 4) (g2 : zh_r h a0 4 = .ref (zq (zh_r h a0 4))) (g3 : (zq (zh_r h a0 4)) < zh_n h) (g4 : ¬ (x1 < 0 ∨ (zh_k h (zq (zh_r h a0 4))).2 ≤ x1.toNatClampNeg)) (g5 : (zh_k h (zq (zh_r h a0 4))).1 = 100) : zv 2 52 12 [.ref a0, .int x1, .int x2, u3] [] h = if x2 < (zh_i h (zq (zh_r h a0 4)) x1.toNatClampNeg) then zv 2 52 23 [.ref a0, .int x1, .int x2, u3] [] h else zv 2 52 22 [.ref a0, .int x1, .int x2, u3] [] h := by
  refine Eq.trans (zv_next f52_12 rfl) ?_
  refine Eq.trans (zv_next f52_13 rfl) ?_
  refine Eq.trans (zs_getr f52_14 g0 g1 g2) ?_
  refine Eq.trans (zv_next f52_17 rfl) ?_
  refine Eq.trans (zs_iald f52_18 g3 g5 g4) ?_
  exact zs_icmp f52_19 rfl
theorem b52_22 {h : zi_Hp} {a0 : Nat} {x1 : Int32} {x2 : Int32} {u3 : Value}  : zv 2 52 22 [.ref a0, .int x1, .int x2, u3] [] h = some (none, h) := by
  exact zv_ret f52_22 rfl
theorem b52_23 {h : zi_Hp} {a0 : Nat} {x1 : Int32} {x2 : Int32} {u3 : Value}  : zv 2 52 23 [.ref a0, .int x1, .int x2, u3] [] h = zv 2 52 29 [.ref a0, .int x1, .int x2, .int ((x1 * 5) + x2)] [] h := by
  refine Eq.trans (zv_next f52_23 rfl) ?_
  refine Eq.trans (zs_ic f52_24 ic_5) ?_
  refine Eq.trans (zv_next f52_25 rfl) ?_
  refine Eq.trans (zv_next f52_26 rfl) ?_
  refine Eq.trans (zv_next f52_27 rfl) ?_
  refine Eq.trans (zv_next f52_28 rfl) ?_
  rfl
theorem b52_29 {h : zi_Hp} {a0 : Nat} {x1 : Int32} {x2 : Int32} {x3 : Int32} (g0 : a0 < zh_n h) (g1 : (zh_k h a0).1 = 4) (g2 : zh_r h a0 4 = .ref (zq (zh_r h a0 4))) (g3 : (zq (zh_r h a0 4)) < zh_n h) (g4 : ¬ (x1 < 0 ∨ (zh_k h (zq (zh_r h a0 4))).2 ≤ x1.toNatClampNeg)) (g5 : (zh_k h (zq (zh_r h a0 4))).1 = 100) : zv 2 52 29 [.ref a0, .int x1, .int x2, .int x3] [] h = if x3 < (((x1 * 5) + (zh_i h (zq (zh_r h a0 4)) x1.toNatClampNeg)) - 1) then zv 2 52 45 [.ref a0, .int x1, .int x2, .int x3] [] h else zv 2 52 79 [.ref a0, .int x1, .int x2, .int x3] [] h := by
  refine Eq.trans (zv_next f52_29 rfl) ?_
  refine Eq.trans (zv_next f52_30 rfl) ?_
  refine Eq.trans (zs_ic f52_31 ic_5) ?_
  refine Eq.trans (zv_next f52_32 rfl) ?_
  refine Eq.trans (zv_next f52_33 rfl) ?_
  refine Eq.trans (zs_getr f52_34 g0 g1 g2) ?_
  refine Eq.trans (zv_next f52_37 rfl) ?_
  refine Eq.trans (zs_iald f52_38 g3 g5 g4) ?_
  refine Eq.trans (zv_next f52_39 rfl) ?_
  refine Eq.trans (zs_ic f52_40 ic_1) ?_
  refine Eq.trans (zv_next f52_41 rfl) ?_
  exact zs_icmp f52_42 rfl
theorem b52_45 {h : zi_Hp} {a0 : Nat} {x1 : Int32} {x2 : Int32} {x3 : Int32} (g0 : a0 < zh_n h) (g1 : (zh_k h a0).1 = 4) (g2 : zh_r h a0 8 = .ref (zq (zh_r h a0 8))) (g3 : (zq (zh_r h a0 8)) < zh_n h) (g4 : ¬ ((x3 + 1) < 0 ∨ (zh_k h (zq (zh_r h a0 8))).2 ≤ (x3 + 1).toNatClampNeg)) (g5 : (zh_k h (zq (zh_r h a0 8))).1 = 100) (g6 : ¬ (x3 < 0 ∨ (zh_k h (zq (zh_r h a0 8))).2 ≤ x3.toNatClampNeg)) (g7 : zh_r h a0 9 = .ref (zq (zh_r h a0 9))) : zv 2 52 45 [.ref a0, .int x1, .int x2, .int x3] [] h = zv 2 52 71 [.ref a0, .int x1, .int x2, .int x3] [.int (x3 + 1), .ref (zq (zh_r h a0 9)), .int x3, .ref (zq (zh_r h a0 9))] (zh_wi h (zq (zh_r h a0 8)) x3.toNatClampNeg (zh_i h (zq (zh_r h a0 8)) (x3 + 1).toNatClampNeg)) := by
  refine Eq.trans (zv_next f52_45 rfl) ?_
  refine Eq.trans (zs_getr f52_46 g0 g1 g2) ?_
  refine Eq.trans (zv_next f52_49 rfl) ?_
  refine Eq.trans (zv_next f52_50 rfl) ?_
  refine Eq.trans (zs_getr f52_51 g0 g1 g2) ?_
  refine Eq.trans (zv_next f52_54 rfl) ?_
  refine Eq.trans (zs_ic f52_55 ic_1) ?_
  refine Eq.trans (zv_next f52_56 rfl) ?_
  refine Eq.trans (zs_iald f52_57 g3 g5 g4) ?_
  refine Eq.trans (zs_iast f52_58 g3 g5 g6) ?_
  refine Eq.trans (zv_next f52_59 rfl) ?_
  refine Eq.trans (zs_getr f52_60 g0 g1 g7) ?_
  refine Eq.trans (zv_next f52_63 rfl) ?_
  refine Eq.trans (zv_next f52_64 rfl) ?_
  refine Eq.trans (zs_getr f52_65 g0 g1 g7) ?_
  refine Eq.trans (zv_next f52_68 rfl) ?_
  refine Eq.trans (zs_ic f52_69 ic_1) ?_
  refine Eq.trans (zv_next f52_70 rfl) ?_
  rfl
theorem b52_71 {h : zi_Hp} {a0 : Nat} {x1 : Int32} {x2 : Int32} {x3 : Int32} {t0 : Nat} {s1 : Int32} {t2 : Nat} {s3 : Int32} (g0 : t2 < zh_n h) (g1 : ¬ (s3 < 0 ∨ (zh_k h t2).2 ≤ s3.toNatClampNeg)) (g2 : (zh_k h t2).1 = 100) (g3 : t0 < zh_n h) (g4 : ¬ (s1 < 0 ∨ (zh_k h t0).2 ≤ s1.toNatClampNeg)) (g5 : (zh_k h t0).1 = 100) : zv 2 52 71 [.ref a0, .int x1, .int x2, .int x3] [.int s3, .ref t2, .int s1, .ref t0] h = zv 2 52 29 [.ref a0, .int x1, .int x2, .int (x3 + 1)] [] (zh_wi h t0 s1.toNatClampNeg (zh_i h t2 s3.toNatClampNeg)) := by
  refine Eq.trans (zs_iald f52_71 g0 g2 g1) ?_
  refine Eq.trans (zs_iast f52_72 g3 g5 g4) ?_
  refine Eq.trans (zs_inc f52_73 rfl ic_1 rfl) ?_
  refine Eq.trans (zs_goto (tgt := 29) f52_76 rfl) ?_
  rfl
theorem b52_79 {h : zi_Hp} {a0 : Nat} {x1 : Int32} {x2 : Int32} {x3 : Int32} (g0 : a0 < zh_n h) (g1 : (zh_k h a0).1 = 4) (g2 : zh_r h a0 4 = .ref (zq (zh_r h a0 4))) (g3 : (zq (zh_r h a0 4)) < zh_n h) (g4 : ¬ (x1 < 0 ∨ (zh_k h (zq (zh_r h a0 4))).2 ≤ x1.toNatClampNeg)) (g5 : (zh_k h (zq (zh_r h a0 4))).1 = 100) : zv 2 52 79 [.ref a0, .int x1, .int x2, .int x3] [] h = some (none, zh_wi h (zq (zh_r h a0 4)) x1.toNatClampNeg ((zh_i h (zq (zh_r h a0 4)) x1.toNatClampNeg) - 1)) := by
  refine Eq.trans (zv_next f52_79 rfl) ?_
  refine Eq.trans (zs_getr f52_80 g0 g1 g2) ?_
  refine Eq.trans (zv_next f52_83 rfl) ?_
  refine Eq.trans (zv_next f52_84 rfl) ?_
  refine Eq.trans (zs_iald f52_85 g3 g5 g4) ?_
  refine Eq.trans (zs_ic f52_86 ic_1) ?_
  refine Eq.trans (zv_next f52_87 rfl) ?_
  refine Eq.trans (zs_iast f52_88 g3 g5 g4) ?_
  exact zv_ret f52_89 rfl
set_option maxRecDepth 20000 in
theorem zq53 : zi_M[53]? = some zi_m53 := rfl
theorem zl53_0 {pc : Nat} (_ : 0 ≤ pc) : zi_fe 53 pc = zu53_0.lookup pc := zi_feA zq53 pc
theorem f53_0 : zi_fe 53 0 = some ((.aload_n 0), 1, 0, 0, 0, 0, 0) := (zl53_0 (Nat.le_of_ble_eq_true rfl)).trans rfl
theorem f53_1 : zi_fe 53 1 = some ((.iload_n 1), 1, 0, 0, 0, 0, 0) := (zl53_0 (Nat.le_of_ble_eq_true rfl)).trans rfl
theorem f53_2 : zi_fe 53 2 = some ((.invokevirtual 57), 3, 41, 0, 4, 618, 2) := (zl53_0 (Nat.le_of_ble_eq_true rfl)).trans rfl
theorem f53_5 : zi_fe 53 5 = some ((.ifCond .eq 28), 3, 0, 0, 0, 0, 0) := (zl53_0 (Nat.le_of_ble_eq_true rfl)).trans rfl
theorem f53_8 : zi_fe 53 8 = some ((.iload_n 2), 1, 0, 0, 0, 0, 0) := (zl53_0 (Nat.le_of_ble_eq_true rfl)).trans rfl
theorem f53_9 : zi_fe 53 9 = some ((.ifCond .lt 24), 3, 0, 0, 0, 0, 0) := (zl53_0 (Nat.le_of_ble_eq_true rfl)).trans rfl
theorem f53_12 : zi_fe 53 12 = some ((.iload_n 2), 1, 0, 0, 0, 0, 0) := (zl53_0 (Nat.le_of_ble_eq_true rfl)).trans rfl
theorem f53_13 : zi_fe 53 13 = some ((.aload_n 0), 1, 0, 0, 0, 0, 0) := (zl53_0 (Nat.le_of_ble_eq_true rfl)).trans rfl
theorem f53_14 : zi_fe 53 14 = some ((.getfield 15), 3, 4, 4, 3, 149, 0) := (zl53_0 (Nat.le_of_ble_eq_true rfl)).trans rfl
theorem f53_17 : zi_fe 53 17 = some ((.iload_n 1), 1, 0, 0, 0, 0, 0) := (zl53_0 (Nat.le_of_ble_eq_true rfl)).trans rfl
theorem f53_18 : zi_fe 53 18 = some (.iaload, 1, 0, 0, 0, 0, 0) := (zl53_0 (Nat.le_of_ble_eq_true rfl)).trans rfl
theorem f53_19 : zi_fe 53 19 = some ((.if_icmp .ge 14), 3, 0, 0, 0, 0, 0) := (zl53_0 (Nat.le_of_ble_eq_true rfl)).trans rfl
theorem zl53_1 {pc : Nat} (h : 22 ≤ pc) : zi_fe 53 pc = zu53_1.lookup pc := (zl53_0 (Nat.le_trans (Nat.le_of_ble_eq_true rfl) h)).trans (zi_lkA (a := zi_i53_0) (c := 22) rfl h)
theorem f53_22 : zi_fe 53 22 = some ((.aload_n 0), 1, 0, 0, 0, 0, 0) := (zl53_1 (Nat.le_of_ble_eq_true rfl)).trans rfl
theorem f53_23 : zi_fe 53 23 = some ((.getfield 31), 3, 4, 9, 3, 161, 0) := (zl53_1 (Nat.le_of_ble_eq_true rfl)).trans rfl
theorem f53_26 : zi_fe 53 26 = some ((.iload_n 1), 1, 0, 0, 0, 0, 0) := (zl53_1 (Nat.le_of_ble_eq_true rfl)).trans rfl
theorem f53_27 : zi_fe 53 27 = some ((.iconst 5), 1, 0, 0, 0, 0, 0) := (zl53_1 (Nat.le_of_ble_eq_true rfl)).trans rfl
theorem f53_28 : zi_fe 53 28 = some (.imul, 1, 0, 0, 0, 0, 0) := (zl53_1 (Nat.le_of_ble_eq_true rfl)).trans rfl
theorem f53_29 : zi_fe 53 29 = some ((.iload_n 2), 1, 0, 0, 0, 0, 0) := (zl53_1 (Nat.le_of_ble_eq_true rfl)).trans rfl
theorem f53_30 : zi_fe 53 30 = some (.iadd, 1, 0, 0, 0, 0, 0) := (zl53_1 (Nat.le_of_ble_eq_true rfl)).trans rfl
theorem f53_31 : zi_fe 53 31 = some ((.iload_n 3), 1, 0, 0, 0, 0, 0) := (zl53_1 (Nat.le_of_ble_eq_true rfl)).trans rfl
theorem f53_32 : zi_fe 53 32 = some (.iastore, 1, 0, 0, 0, 0, 0) := (zl53_1 (Nat.le_of_ble_eq_true rfl)).trans rfl
theorem f53_33 : zi_fe 53 33 = some (.return_, 1, 0, 0, 0, 0, 0) := (zl53_1 (Nat.le_of_ble_eq_true rfl)).trans rfl
theorem b53_0 {h : zi_Hp} {a0 : Nat} {x1 : Int32} {x2 : Int32} {x3 : Int32} (g0 : a0 < zh_n h) (g1 : (zh_k h a0).1 = 4) : zv 2 53 0 [.ref a0, .int x1, .int x2, .int x3] [] h = (zv 1 41 0 [.ref a0, .int x1] [] h).bind fun r => zv 2 53 5 [.ref a0, .int x1, .int x2, .int x3] (r.1.toList ++ []) r.2 := by
  refine Eq.trans (zv_next f53_0 rfl) ?_
  refine Eq.trans (zv_next f53_1 rfl) ?_
  exact zs_callV f53_2 (Nat.le_of_ble_eq_true rfl) (Nat.le_of_ble_eq_true rfl) rfl g0 g1 me_41 (by decide) rfl
theorem b53_5 {h : zi_Hp} {a0 : Nat} {x1 : Int32} {x2 : Int32} {x3 : Int32} {s0 : Int32}  : zv 2 53 5 [.ref a0, .int x1, .int x2, .int x3] [.int s0] h = if s0 = 0 then zv 2 53 33 [.ref a0, .int x1, .int x2, .int x3] [] h else zv 2 53 8 [.ref a0, .int x1, .int x2, .int x3] [] h := by
  exact zs_if f53_5 rfl
theorem b53_8 {h : zi_Hp} {a0 : Nat} {x1 : Int32} {x2 : Int32} {x3 : Int32}  : zv 2 53 8 [.ref a0, .int x1, .int x2, .int x3] [] h = if x2 < 0 then zv 2 53 33 [.ref a0, .int x1, .int x2, .int x3] [] h else zv 2 53 12 [.ref a0, .int x1, .int x2, .int x3] [] h := by
  refine Eq.trans (zv_next f53_8 rfl) ?_
  exact zs_if f53_9 rfl
theorem b53_12 {h : zi_Hp} {a0 : Nat} {x1 : Int32} {x2 : Int32} {x3 : Int32} (g0 : a0 < zh_n h) (g1 : (zh_k h a0).1 = 4) (g2 : zh_r h a0 4 = .ref (zq (zh_r h a0 4))) (g3 : (zq (zh_r h a0 4)) < zh_n h) (g4 : ¬ (x1 < 0 ∨ (zh_k h (zq (zh_r h a0 4))).2 ≤ x1.toNatClampNeg)) (g5 : (zh_k h (zq (zh_r h a0 4))).1 = 100) : zv 2 53 12 [.ref a0, .int x1, .int x2, .int x3] [] h = if x2 < (zh_i h (zq (zh_r h a0 4)) x1.toNatClampNeg) then zv 2 53 22 [.ref a0, .int x1, .int x2, .int x3] [] h else zv 2 53 33 [.ref a0, .int x1, .int x2, .int x3] [] h := by
  refine Eq.trans (zv_next f53_12 rfl) ?_
  refine Eq.trans (zv_next f53_13 rfl) ?_
  refine Eq.trans (zs_getr f53_14 g0 g1 g2) ?_
  refine Eq.trans (zv_next f53_17 rfl) ?_
  refine Eq.trans (zs_iald f53_18 g3 g5 g4) ?_
  exact zs_icmp f53_19 rfl
theorem b53_22 {h : zi_Hp} {a0 : Nat} {x1 : Int32} {x2 : Int32} {x3 : Int32} (g0 : a0 < zh_n h) (g1 : (zh_k h a0).1 = 4) (g2 : zh_r h a0 9 = .ref (zq (zh_r h a0 9))) (g3 : (zq (zh_r h a0 9)) < zh_n h) (g4 : ¬ (((x1 * 5) + x2) < 0 ∨ (zh_k h (zq (zh_r h a0 9))).2 ≤ ((x1 * 5) + x2).toNatClampNeg)) (g5 : (zh_k h (zq (zh_r h a0 9))).1 = 100) : zv 2 53 22 [.ref a0, .int x1, .int x2, .int x3] [] h = zv 2 53 33 [.ref a0, .int x1, .int x2, .int x3] [] (zh_wi h (zq (zh_r h a0 9)) ((x1 * 5) + x2).toNatClampNeg x3) := by
  refine Eq.trans (zv_next f53_22 rfl) ?_
  refine Eq.trans (zs_getr f53_23 g0 g1 g2) ?_
  refine Eq.trans (zv_next f53_26 rfl) ?_
  refine Eq.trans (zs_ic f53_27 ic_5) ?_
  refine Eq.trans (zv_next f53_28 rfl) ?_
  refine Eq.trans (zv_next f53_29 rfl) ?_
  refine Eq.trans (zv_next f53_30 rfl) ?_
  refine Eq.trans (zv_next f53_31 rfl) ?_
  refine Eq.trans (zs_iast f53_32 g3 g5 g4) ?_
  rfl
theorem b53_33 {h : zi_Hp} {a0 : Nat} {x1 : Int32} {x2 : Int32} {x3 : Int32}  : zv 2 53 33 [.ref a0, .int x1, .int x2, .int x3] [] h = some (none, h) := by
  exact zv_ret f53_33 rfl
set_option maxRecDepth 20000 in
theorem zq54 : zi_M[54]? = some zi_m54 := rfl
theorem zl54_0 {pc : Nat} (_ : 0 ≤ pc) : zi_fe 54 pc = zu54_0.lookup pc := zi_feA zq54 pc
theorem f54_0 : zi_fe 54 0 = some ((.aload_n 0), 1, 0, 0, 0, 0, 0) := (zl54_0 (Nat.le_of_ble_eq_true rfl)).trans rfl
theorem f54_1 : zi_fe 54 1 = some ((.iload_n 1), 1, 0, 0, 0, 0, 0) := (zl54_0 (Nat.le_of_ble_eq_true rfl)).trans rfl
theorem f54_2 : zi_fe 54 2 = some ((.invokevirtual 57), 3, 41, 0, 4, 618, 2) := (zl54_0 (Nat.le_of_ble_eq_true rfl)).trans rfl
theorem f54_5 : zi_fe 54 5 = some ((.ifCond .eq 13), 3, 0, 0, 0, 0, 0) := (zl54_0 (Nat.le_of_ble_eq_true rfl)).trans rfl
theorem f54_8 : zi_fe 54 8 = some ((.aload_n 0), 1, 0, 0, 0, 0, 0) := (zl54_0 (Nat.le_of_ble_eq_true rfl)).trans rfl
theorem f54_9 : zi_fe 54 9 = some ((.getfield 15), 3, 4, 4, 3, 149, 0) := (zl54_0 (Nat.le_of_ble_eq_true rfl)).trans rfl
theorem f54_12 : zi_fe 54 12 = some ((.iload_n 1), 1, 0, 0, 0, 0, 0) := (zl54_0 (Nat.le_of_ble_eq_true rfl)).trans rfl
theorem f54_13 : zi_fe 54 13 = some (.iaload, 1, 0, 0, 0, 0, 0) := (zl54_0 (Nat.le_of_ble_eq_true rfl)).trans rfl
theorem f54_14 : zi_fe 54 14 = some ((.iconst 2), 1, 0, 0, 0, 0, 0) := (zl54_0 (Nat.le_of_ble_eq_true rfl)).trans rfl
theorem f54_15 : zi_fe 54 15 = some ((.if_icmp .ge 6), 3, 0, 0, 0, 0, 0) := (zl54_0 (Nat.le_of_ble_eq_true rfl)).trans rfl
theorem f54_18 : zi_fe 54 18 = some ((.bipush (-4)), 2, 0, 0, 0, 0, 0) := (zl54_0 (Nat.le_of_ble_eq_true rfl)).trans rfl
theorem f54_20 : zi_fe 54 20 = some (.ireturn, 1, 0, 0, 0, 0, 0) := (zl54_0 (Nat.le_of_ble_eq_true rfl)).trans rfl
theorem zl54_1 {pc : Nat} (h : 21 ≤ pc) : zi_fe 54 pc = zu54_1.lookup pc := (zl54_0 (Nat.le_trans (Nat.le_of_ble_eq_true rfl) h)).trans (zi_lkA (a := zi_i54_0) (c := 21) rfl h)
theorem f54_21 : zi_fe 54 21 = some ((.aload_n 0), 1, 0, 0, 0, 0, 0) := (zl54_1 (Nat.le_of_ble_eq_true rfl)).trans rfl
theorem f54_22 : zi_fe 54 22 = some ((.aload_n 0), 1, 0, 0, 0, 0, 0) := (zl54_1 (Nat.le_of_ble_eq_true rfl)).trans rfl
theorem f54_23 : zi_fe 54 23 = some ((.getfield 9), 3, 4, 3, 3, 147, 0) := (zl54_1 (Nat.le_of_ble_eq_true rfl)).trans rfl
theorem f54_26 : zi_fe 54 26 = some ((.iload_n 1), 1, 0, 0, 0, 0, 0) := (zl54_1 (Nat.le_of_ble_eq_true rfl)).trans rfl
theorem f54_27 : zi_fe 54 27 = some (.iaload, 1, 0, 0, 0, 0, 0) := (zl54_1 (Nat.le_of_ble_eq_true rfl)).trans rfl
theorem f54_28 : zi_fe 54 28 = some ((.invokevirtual 41), 3, 40, 0, 4, 133, 2) := (zl54_1 (Nat.le_of_ble_eq_true rfl)).trans rfl
theorem f54_31 : zi_fe 54 31 = some ((.istore_n 2), 1, 0, 0, 0, 0, 0) := (zl54_1 (Nat.le_of_ble_eq_true rfl)).trans rfl
theorem f54_32 : zi_fe 54 32 = some ((.iload_n 2), 1, 0, 0, 0, 0, 0) := (zl54_1 (Nat.le_of_ble_eq_true rfl)).trans rfl
theorem f54_33 : zi_fe 54 33 = some ((.ifCond .ge 6), 3, 0, 0, 0, 0, 0) := (zl54_1 (Nat.le_of_ble_eq_true rfl)).trans rfl
theorem f54_36 : zi_fe 54 36 = some ((.bipush (-4)), 2, 0, 0, 0, 0, 0) := (zl54_1 (Nat.le_of_ble_eq_true rfl)).trans rfl
theorem f54_38 : zi_fe 54 38 = some (.ireturn, 1, 0, 0, 0, 0, 0) := (zl54_1 (Nat.le_of_ble_eq_true rfl)).trans rfl
theorem f54_39 : zi_fe 54 39 = some ((.aload_n 0), 1, 0, 0, 0, 0, 0) := (zl54_1 (Nat.le_of_ble_eq_true rfl)).trans rfl
theorem zl54_2 {pc : Nat} (h : 40 ≤ pc) : zi_fe 54 pc = zu54_2.lookup pc := (zl54_1 (Nat.le_trans (Nat.le_of_ble_eq_true rfl) h)).trans (zi_lkA (a := zi_i54_1) (c := 40) rfl h)
theorem f54_40 : zi_fe 54 40 = some ((.getfield 15), 3, 4, 4, 3, 149, 0) := (zl54_2 (Nat.le_of_ble_eq_true rfl)).trans rfl
theorem f54_43 : zi_fe 54 43 = some ((.iload_n 1), 1, 0, 0, 0, 0, 0) := (zl54_2 (Nat.le_of_ble_eq_true rfl)).trans rfl
theorem f54_44 : zi_fe 54 44 = some (.iaload, 1, 0, 0, 0, 0, 0) := (zl54_2 (Nat.le_of_ble_eq_true rfl)).trans rfl
theorem f54_45 : zi_fe 54 45 = some ((.iconst 1), 1, 0, 0, 0, 0, 0) := (zl54_2 (Nat.le_of_ble_eq_true rfl)).trans rfl
theorem f54_46 : zi_fe 54 46 = some (.iadd, 1, 0, 0, 0, 0, 0) := (zl54_2 (Nat.le_of_ble_eq_true rfl)).trans rfl
theorem f54_47 : zi_fe 54 47 = some ((.iconst 2), 1, 0, 0, 0, 0, 0) := (zl54_2 (Nat.le_of_ble_eq_true rfl)).trans rfl
theorem f54_48 : zi_fe 54 48 = some (.idiv, 1, 0, 0, 0, 0, 0) := (zl54_2 (Nat.le_of_ble_eq_true rfl)).trans rfl
theorem f54_49 : zi_fe 54 49 = some ((.istore_n 3), 1, 0, 0, 0, 0, 0) := (zl54_2 (Nat.le_of_ble_eq_true rfl)).trans rfl
theorem f54_50 : zi_fe 54 50 = some ((.aload_n 0), 1, 0, 0, 0, 0, 0) := (zl54_2 (Nat.le_of_ble_eq_true rfl)).trans rfl
theorem f54_51 : zi_fe 54 51 = some ((.getfield 15), 3, 4, 4, 3, 149, 0) := (zl54_2 (Nat.le_of_ble_eq_true rfl)).trans rfl
theorem f54_54 : zi_fe 54 54 = some ((.iload_n 1), 1, 0, 0, 0, 0, 0) := (zl54_2 (Nat.le_of_ble_eq_true rfl)).trans rfl
theorem f54_55 : zi_fe 54 55 = some (.iaload, 1, 0, 0, 0, 0, 0) := (zl54_2 (Nat.le_of_ble_eq_true rfl)).trans rfl
theorem zl54_3 {pc : Nat} (h : 56 ≤ pc) : zi_fe 54 pc = zu54_3.lookup pc := (zl54_2 (Nat.le_trans (Nat.le_of_ble_eq_true rfl) h)).trans (zi_lkA (a := zi_i54_2) (c := 56) rfl h)
theorem f54_56 : zi_fe 54 56 = some ((.iload_n 3), 1, 0, 0, 0, 0, 0) := (zl54_3 (Nat.le_of_ble_eq_true rfl)).trans rfl
theorem f54_57 : zi_fe 54 57 = some (.isub, 1, 0, 0, 0, 0, 0) := (zl54_3 (Nat.le_of_ble_eq_true rfl)).trans rfl
theorem f54_58 : zi_fe 54 58 = some ((.istore 4), 2, 0, 0, 0, 0, 0) := (zl54_3 (Nat.le_of_ble_eq_true rfl)).trans rfl
theorem f54_60 : zi_fe 54 60 = some ((.aload_n 0), 1, 0, 0, 0, 0, 0) := (zl54_3 (Nat.le_of_ble_eq_true rfl)).trans rfl
theorem f54_61 : zi_fe 54 61 = some ((.getfield 28), 3, 4, 8, 3, 160, 0) := (zl54_3 (Nat.le_of_ble_eq_true rfl)).trans rfl
theorem f54_64 : zi_fe 54 64 = some ((.iload_n 1), 1, 0, 0, 0, 0, 0) := (zl54_3 (Nat.le_of_ble_eq_true rfl)).trans rfl
theorem f54_65 : zi_fe 54 65 = some ((.iconst 5), 1, 0, 0, 0, 0, 0) := (zl54_3 (Nat.le_of_ble_eq_true rfl)).trans rfl
theorem f54_66 : zi_fe 54 66 = some (.imul, 1, 0, 0, 0, 0, 0) := (zl54_3 (Nat.le_of_ble_eq_true rfl)).trans rfl
theorem f54_67 : zi_fe 54 67 = some ((.iload_n 3), 1, 0, 0, 0, 0, 0) := (zl54_3 (Nat.le_of_ble_eq_true rfl)).trans rfl
theorem f54_68 : zi_fe 54 68 = some (.iadd, 1, 0, 0, 0, 0, 0) := (zl54_3 (Nat.le_of_ble_eq_true rfl)).trans rfl
theorem f54_69 : zi_fe 54 69 = some ((.aload_n 0), 1, 0, 0, 0, 0, 0) := (zl54_3 (Nat.le_of_ble_eq_true rfl)).trans rfl
theorem f54_70 : zi_fe 54 70 = some ((.getfield 28), 3, 4, 8, 3, 160, 0) := (zl54_3 (Nat.le_of_ble_eq_true rfl)).trans rfl
theorem zl54_4 {pc : Nat} (h : 73 ≤ pc) : zi_fe 54 pc = zu54_4.lookup pc := (zl54_3 (Nat.le_trans (Nat.le_of_ble_eq_true rfl) h)).trans (zi_lkA (a := zi_i54_3) (c := 73) rfl h)
theorem f54_73 : zi_fe 54 73 = some ((.iload_n 2), 1, 0, 0, 0, 0, 0) := (zl54_4 (Nat.le_of_ble_eq_true rfl)).trans rfl
theorem f54_74 : zi_fe 54 74 = some ((.iconst 5), 1, 0, 0, 0, 0, 0) := (zl54_4 (Nat.le_of_ble_eq_true rfl)).trans rfl
theorem f54_75 : zi_fe 54 75 = some (.imul, 1, 0, 0, 0, 0, 0) := (zl54_4 (Nat.le_of_ble_eq_true rfl)).trans rfl
theorem f54_76 : zi_fe 54 76 = some ((.iload 4), 2, 0, 0, 0, 0, 0) := (zl54_4 (Nat.le_of_ble_eq_true rfl)).trans rfl
theorem f54_78 : zi_fe 54 78 = some ((.invokestatic 51), 3, 0, 6, 0, 707, 5) := (zl54_4 (Nat.le_of_ble_eq_true rfl)).trans rfl
theorem f54_81 : zi_fe 54 81 = some ((.aload_n 0), 1, 0, 0, 0, 0, 0) := (zl54_4 (Nat.le_of_ble_eq_true rfl)).trans rfl
theorem f54_82 : zi_fe 54 82 = some ((.getfield 31), 3, 4, 9, 3, 161, 0) := (zl54_4 (Nat.le_of_ble_eq_true rfl)).trans rfl
theorem f54_85 : zi_fe 54 85 = some ((.iload_n 1), 1, 0, 0, 0, 0, 0) := (zl54_4 (Nat.le_of_ble_eq_true rfl)).trans rfl
theorem f54_86 : zi_fe 54 86 = some ((.iconst 5), 1, 0, 0, 0, 0, 0) := (zl54_4 (Nat.le_of_ble_eq_true rfl)).trans rfl
theorem f54_87 : zi_fe 54 87 = some (.imul, 1, 0, 0, 0, 0, 0) := (zl54_4 (Nat.le_of_ble_eq_true rfl)).trans rfl
theorem f54_88 : zi_fe 54 88 = some ((.iload_n 3), 1, 0, 0, 0, 0, 0) := (zl54_4 (Nat.le_of_ble_eq_true rfl)).trans rfl
theorem f54_89 : zi_fe 54 89 = some (.iadd, 1, 0, 0, 0, 0, 0) := (zl54_4 (Nat.le_of_ble_eq_true rfl)).trans rfl
theorem zl54_5 {pc : Nat} (h : 90 ≤ pc) : zi_fe 54 pc = zu54_5.lookup pc := (zl54_4 (Nat.le_trans (Nat.le_of_ble_eq_true rfl) h)).trans (zi_lkA (a := zi_i54_4) (c := 90) rfl h)
theorem f54_90 : zi_fe 54 90 = some ((.aload_n 0), 1, 0, 0, 0, 0, 0) := (zl54_5 (Nat.le_of_ble_eq_true rfl)).trans rfl
theorem f54_91 : zi_fe 54 91 = some ((.getfield 31), 3, 4, 9, 3, 161, 0) := (zl54_5 (Nat.le_of_ble_eq_true rfl)).trans rfl
theorem f54_94 : zi_fe 54 94 = some ((.iload_n 2), 1, 0, 0, 0, 0, 0) := (zl54_5 (Nat.le_of_ble_eq_true rfl)).trans rfl
theorem f54_95 : zi_fe 54 95 = some ((.iconst 5), 1, 0, 0, 0, 0, 0) := (zl54_5 (Nat.le_of_ble_eq_true rfl)).trans rfl
theorem f54_96 : zi_fe 54 96 = some (.imul, 1, 0, 0, 0, 0, 0) := (zl54_5 (Nat.le_of_ble_eq_true rfl)).trans rfl
theorem f54_97 : zi_fe 54 97 = some ((.iload 4), 2, 0, 0, 0, 0, 0) := (zl54_5 (Nat.le_of_ble_eq_true rfl)).trans rfl
theorem f54_99 : zi_fe 54 99 = some ((.invokestatic 51), 3, 0, 6, 0, 707, 5) := (zl54_5 (Nat.le_of_ble_eq_true rfl)).trans rfl
theorem f54_102 : zi_fe 54 102 = some ((.aload_n 0), 1, 0, 0, 0, 0, 0) := (zl54_5 (Nat.le_of_ble_eq_true rfl)).trans rfl
theorem f54_103 : zi_fe 54 103 = some ((.getfield 15), 3, 4, 4, 3, 149, 0) := (zl54_5 (Nat.le_of_ble_eq_true rfl)).trans rfl
theorem f54_106 : zi_fe 54 106 = some ((.iload_n 2), 1, 0, 0, 0, 0, 0) := (zl54_5 (Nat.le_of_ble_eq_true rfl)).trans rfl
theorem f54_107 : zi_fe 54 107 = some ((.iload 4), 2, 0, 0, 0, 0, 0) := (zl54_5 (Nat.le_of_ble_eq_true rfl)).trans rfl
theorem f54_109 : zi_fe 54 109 = some (.iastore, 1, 0, 0, 0, 0, 0) := (zl54_5 (Nat.le_of_ble_eq_true rfl)).trans rfl
theorem zl54_6 {pc : Nat} (h : 110 ≤ pc) : zi_fe 54 pc = zu54_6.lookup pc := (zl54_5 (Nat.le_trans (Nat.le_of_ble_eq_true rfl) h)).trans (zi_lkA (a := zi_i54_5) (c := 110) rfl h)
theorem f54_110 : zi_fe 54 110 = some ((.aload_n 0), 1, 0, 0, 0, 0, 0) := (zl54_6 (Nat.le_of_ble_eq_true rfl)).trans rfl
theorem f54_111 : zi_fe 54 111 = some ((.getfield 15), 3, 4, 4, 3, 149, 0) := (zl54_6 (Nat.le_of_ble_eq_true rfl)).trans rfl
theorem f54_114 : zi_fe 54 114 = some ((.iload_n 1), 1, 0, 0, 0, 0, 0) := (zl54_6 (Nat.le_of_ble_eq_true rfl)).trans rfl
theorem f54_115 : zi_fe 54 115 = some ((.iload_n 3), 1, 0, 0, 0, 0, 0) := (zl54_6 (Nat.le_of_ble_eq_true rfl)).trans rfl
theorem f54_116 : zi_fe 54 116 = some (.iastore, 1, 0, 0, 0, 0, 0) := (zl54_6 (Nat.le_of_ble_eq_true rfl)).trans rfl
theorem f54_117 : zi_fe 54 117 = some ((.aload_n 0), 1, 0, 0, 0, 0, 0) := (zl54_6 (Nat.le_of_ble_eq_true rfl)).trans rfl
theorem f54_118 : zi_fe 54 118 = some ((.getfield 18), 3, 4, 5, 3, 152, 0) := (zl54_6 (Nat.le_of_ble_eq_true rfl)).trans rfl
theorem f54_121 : zi_fe 54 121 = some ((.iload_n 2), 1, 0, 0, 0, 0, 0) := (zl54_6 (Nat.le_of_ble_eq_true rfl)).trans rfl
theorem f54_122 : zi_fe 54 122 = some ((.aload_n 0), 1, 0, 0, 0, 0, 0) := (zl54_6 (Nat.le_of_ble_eq_true rfl)).trans rfl
theorem f54_123 : zi_fe 54 123 = some ((.getfield 18), 3, 4, 5, 3, 152, 0) := (zl54_6 (Nat.le_of_ble_eq_true rfl)).trans rfl
theorem f54_126 : zi_fe 54 126 = some ((.iload_n 1), 1, 0, 0, 0, 0, 0) := (zl54_6 (Nat.le_of_ble_eq_true rfl)).trans rfl
theorem f54_127 : zi_fe 54 127 = some (.iaload, 1, 0, 0, 0, 0, 0) := (zl54_6 (Nat.le_of_ble_eq_true rfl)).trans rfl
theorem zl54_7 {pc : Nat} (h : 128 ≤ pc) : zi_fe 54 pc = zu54_7.lookup pc := (zl54_6 (Nat.le_trans (Nat.le_of_ble_eq_true rfl) h)).trans (zi_lkA (a := zi_i54_6) (c := 128) rfl h)
theorem f54_128 : zi_fe 54 128 = some (.iastore, 1, 0, 0, 0, 0, 0) := (zl54_7 (Nat.le_of_ble_eq_true rfl)).trans rfl
theorem f54_129 : zi_fe 54 129 = some ((.aload_n 0), 1, 0, 0, 0, 0, 0) := (zl54_7 (Nat.le_of_ble_eq_true rfl)).trans rfl
theorem f54_130 : zi_fe 54 130 = some ((.getfield 18), 3, 4, 5, 3, 152, 0) := (zl54_7 (Nat.le_of_ble_eq_true rfl)).trans rfl
theorem f54_133 : zi_fe 54 133 = some ((.iload_n 1), 1, 0, 0, 0, 0, 0) := (zl54_7 (Nat.le_of_ble_eq_true rfl)).trans rfl
theorem f54_134 : zi_fe 54 134 = some ((.aload_n 0), 1, 0, 0, 0, 0, 0) := (zl54_7 (Nat.le_of_ble_eq_true rfl)).trans rfl
theorem f54_135 : zi_fe 54 135 = some ((.getfield 28), 3, 4, 8, 3, 160, 0) := (zl54_7 (Nat.le_of_ble_eq_true rfl)).trans rfl
theorem f54_138 : zi_fe 54 138 = some ((.iload_n 1), 1, 0, 0, 0, 0, 0) := (zl54_7 (Nat.le_of_ble_eq_true rfl)).trans rfl
theorem f54_139 : zi_fe 54 139 = some ((.iconst 5), 1, 0, 0, 0, 0, 0) := (zl54_7 (Nat.le_of_ble_eq_true rfl)).trans rfl
theorem f54_140 : zi_fe 54 140 = some (.imul, 1, 0, 0, 0, 0, 0) := (zl54_7 (Nat.le_of_ble_eq_true rfl)).trans rfl
theorem f54_141 : zi_fe 54 141 = some ((.iload_n 3), 1, 0, 0, 0, 0, 0) := (zl54_7 (Nat.le_of_ble_eq_true rfl)).trans rfl
theorem f54_142 : zi_fe 54 142 = some (.iadd, 1, 0, 0, 0, 0, 0) := (zl54_7 (Nat.le_of_ble_eq_true rfl)).trans rfl
theorem f54_143 : zi_fe 54 143 = some ((.iconst 1), 1, 0, 0, 0, 0, 0) := (zl54_7 (Nat.le_of_ble_eq_true rfl)).trans rfl
theorem zl54_8 {pc : Nat} (h : 144 ≤ pc) : zi_fe 54 pc = zu54_8.lookup pc := (zl54_7 (Nat.le_trans (Nat.le_of_ble_eq_true rfl) h)).trans (zi_lkA (a := zi_i54_7) (c := 144) rfl h)
theorem f54_144 : zi_fe 54 144 = some (.isub, 1, 0, 0, 0, 0, 0) := (zl54_8 (Nat.le_of_ble_eq_true rfl)).trans rfl
theorem f54_145 : zi_fe 54 145 = some (.iaload, 1, 0, 0, 0, 0, 0) := (zl54_8 (Nat.le_of_ble_eq_true rfl)).trans rfl
theorem f54_146 : zi_fe 54 146 = some (.iastore, 1, 0, 0, 0, 0, 0) := (zl54_8 (Nat.le_of_ble_eq_true rfl)).trans rfl
theorem f54_147 : zi_fe 54 147 = some ((.aload_n 0), 1, 0, 0, 0, 0, 0) := (zl54_8 (Nat.le_of_ble_eq_true rfl)).trans rfl
theorem f54_148 : zi_fe 54 148 = some ((.getfield 21), 3, 4, 6, 3, 154, 0) := (zl54_8 (Nat.le_of_ble_eq_true rfl)).trans rfl
theorem f54_151 : zi_fe 54 151 = some ((.iload_n 2), 1, 0, 0, 0, 0, 0) := (zl54_8 (Nat.le_of_ble_eq_true rfl)).trans rfl
theorem f54_152 : zi_fe 54 152 = some ((.aload_n 0), 1, 0, 0, 0, 0, 0) := (zl54_8 (Nat.le_of_ble_eq_true rfl)).trans rfl
theorem f54_153 : zi_fe 54 153 = some ((.getfield 21), 3, 4, 6, 3, 154, 0) := (zl54_8 (Nat.le_of_ble_eq_true rfl)).trans rfl
theorem f54_156 : zi_fe 54 156 = some ((.iload_n 1), 1, 0, 0, 0, 0, 0) := (zl54_8 (Nat.le_of_ble_eq_true rfl)).trans rfl
theorem f54_157 : zi_fe 54 157 = some (.iaload, 1, 0, 0, 0, 0, 0) := (zl54_8 (Nat.le_of_ble_eq_true rfl)).trans rfl
theorem f54_158 : zi_fe 54 158 = some (.iastore, 1, 0, 0, 0, 0, 0) := (zl54_8 (Nat.le_of_ble_eq_true rfl)).trans rfl
theorem f54_159 : zi_fe 54 159 = some ((.aload_n 0), 1, 0, 0, 0, 0, 0) := (zl54_8 (Nat.le_of_ble_eq_true rfl)).trans rfl
theorem zl54_9 {pc : Nat} (h : 160 ≤ pc) : zi_fe 54 pc = zu54_9.lookup pc := (zl54_8 (Nat.le_trans (Nat.le_of_ble_eq_true rfl) h)).trans (zi_lkA (a := zi_i54_8) (c := 160) rfl h)
theorem f54_160 : zi_fe 54 160 = some ((.getfield 21), 3, 4, 6, 3, 154, 0) := (zl54_9 (Nat.le_of_ble_eq_true rfl)).trans rfl
theorem f54_163 : zi_fe 54 163 = some ((.iload_n 1), 1, 0, 0, 0, 0, 0) := (zl54_9 (Nat.le_of_ble_eq_true rfl)).trans rfl
theorem f54_164 : zi_fe 54 164 = some ((.iload_n 2), 1, 0, 0, 0, 0, 0) := (zl54_9 (Nat.le_of_ble_eq_true rfl)).trans rfl
theorem f54_165 : zi_fe 54 165 = some (.iastore, 1, 0, 0, 0, 0, 0) := (zl54_9 (Nat.le_of_ble_eq_true rfl)).trans rfl
theorem f54_166 : zi_fe 54 166 = some ((.iload_n 2), 1, 0, 0, 0, 0, 0) := (zl54_9 (Nat.le_of_ble_eq_true rfl)).trans rfl
theorem f54_167 : zi_fe 54 167 = some (.ireturn, 1, 0, 0, 0, 0, 0) := (zl54_9 (Nat.le_of_ble_eq_true rfl)).trans rfl
theorem b54_0 {h : zi_Hp} {a0 : Nat} {x1 : Int32} {u2 : Value} {u3 : Value} {u4 : Value} (g0 : a0 < zh_n h) (g1 : (zh_k h a0).1 = 4) : zv 2 54 0 [.ref a0, .int x1, u2, u3, u4] [] h = (zv 1 41 0 [.ref a0, .int x1] [] h).bind fun r => zv 2 54 5 [.ref a0, .int x1, u2, u3, u4] (r.1.toList ++ []) r.2 := by
  refine Eq.trans (zv_next f54_0 rfl) ?_
  refine Eq.trans (zv_next f54_1 rfl) ?_
  exact zs_callV f54_2 (Nat.le_of_ble_eq_true rfl) (Nat.le_of_ble_eq_true rfl) rfl g0 g1 me_41 (by decide) rfl
theorem b54_5 {h : zi_Hp} {a0 : Nat} {x1 : Int32} {u2 : Value} {u3 : Value} {u4 : Value} {s0 : Int32}  : zv 2 54 5 [.ref a0, .int x1, u2, u3, u4] [.int s0] h = if s0 = 0 then zv 2 54 18 [.ref a0, .int x1, u2, u3, u4] [] h else zv 2 54 8 [.ref a0, .int x1, u2, u3, u4] [] h := by
  exact zs_if f54_5 rfl
theorem b54_8 {h : zi_Hp} {a0 : Nat} {x1 : Int32} {u2 : Value} {u3 : Value} {u4 : Value} (g0 : a0 < zh_n h) (g1 : (zh_k h a0).1 = 4) (g2 : zh_r h a0 4 = .ref (zq (zh_r h a0 4))) (g3 : (zq (zh_r h a0 4)) < zh_n h) (g4 : ¬ (x1 < 0 ∨ (zh_k h (zq (zh_r h a0 4))).2 ≤ x1.toNatClampNeg)) (g5 : (zh_k h (zq (zh_r h a0 4))).1 = 100) : zv 2 54 8 [.ref a0, .int x1, u2, u3, u4] [] h = if (zh_i h (zq (zh_r h a0 4)) x1.toNatClampNeg) < 2 then zv 2 54 18 [.ref a0, .int x1, u2, u3, u4] [] h else zv 2 54 21 [.ref a0, .int x1, u2, u3, u4] [] h := by
  refine Eq.trans (zv_next f54_8 rfl) ?_
  refine Eq.trans (zs_getr f54_9 g0 g1 g2) ?_
  refine Eq.trans (zv_next f54_12 rfl) ?_
  refine Eq.trans (zs_iald f54_13 g3 g5 g4) ?_
  refine Eq.trans (zs_ic f54_14 ic_2) ?_
  exact zs_icmp f54_15 rfl
theorem b54_18 {h : zi_Hp} {a0 : Nat} {x1 : Int32} {u2 : Value} {u3 : Value} {u4 : Value}  : zv 2 54 18 [.ref a0, .int x1, u2, u3, u4] [] h = some (some (.int (-4)), h) := by
  refine Eq.trans (zs_bp f54_18 bp_m4) ?_
  exact zs_ret0 f54_20
theorem b54_21 {h : zi_Hp} {a0 : Nat} {x1 : Int32} {u2 : Value} {u3 : Value} {u4 : Value} (g0 : a0 < zh_n h) (g1 : (zh_k h a0).1 = 4) (g2 : zh_r h a0 3 = .ref (zq (zh_r h a0 3))) (g3 : (zq (zh_r h a0 3)) < zh_n h) (g4 : ¬ (x1 < 0 ∨ (zh_k h (zq (zh_r h a0 3))).2 ≤ x1.toNatClampNeg)) (g5 : (zh_k h (zq (zh_r h a0 3))).1 = 100) : zv 2 54 21 [.ref a0, .int x1, u2, u3, u4] [] h = (zv 1 40 0 [.ref a0, .int (zh_i h (zq (zh_r h a0 3)) x1.toNatClampNeg), .double 0] [] h).bind fun r => zv 2 54 31 [.ref a0, .int x1, u2, u3, u4] (r.1.toList ++ []) r.2 := by
  refine Eq.trans (zv_next f54_21 rfl) ?_
  refine Eq.trans (zv_next f54_22 rfl) ?_
  refine Eq.trans (zs_getr f54_23 g0 g1 g2) ?_
  refine Eq.trans (zv_next f54_26 rfl) ?_
  refine Eq.trans (zs_iald f54_27 g3 g5 g4) ?_
  exact zs_callV f54_28 (Nat.le_of_ble_eq_true rfl) (Nat.le_of_ble_eq_true rfl) rfl g0 g1 me_40 (by decide) rfl
theorem b54_31 {h : zi_Hp} {a0 : Nat} {x1 : Int32} {u2 : Value} {u3 : Value} {u4 : Value} {s0 : Int32}  : zv 2 54 31 [.ref a0, .int x1, u2, u3, u4] [.int s0] h = if s0 < 0 then zv 2 54 36 [.ref a0, .int x1, .int s0, u3, u4] [] h else zv 2 54 39 [.ref a0, .int x1, .int s0, u3, u4] [] h := by
  refine Eq.trans (zv_next f54_31 rfl) ?_
  refine Eq.trans (zv_next f54_32 rfl) ?_
  exact zs_if f54_33 rfl
theorem b54_36 {h : zi_Hp} {a0 : Nat} {x1 : Int32} {x2 : Int32} {u3 : Value} {u4 : Value}  : zv 2 54 36 [.ref a0, .int x1, .int x2, u3, u4] [] h = some (some (.int (-4)), h) := by
  refine Eq.trans (zs_bp f54_36 bp_m4) ?_
  exact zs_ret0 f54_38
theorem b54_39 {h : zi_Hp} {a0 : Nat} {x1 : Int32} {x2 : Int32} {u3 : Value} {u4 : Value} (g0 : a0 < zh_n h) (g1 : (zh_k h a0).1 = 4) (g2 : zh_r h a0 4 = .ref (zq (zh_r h a0 4))) (g3 : (zq (zh_r h a0 4)) < zh_n h) (g4 : ¬ (x1 < 0 ∨ (zh_k h (zq (zh_r h a0 4))).2 ≤ x1.toNatClampNeg)) (g5 : (zh_k h (zq (zh_r h a0 4))).1 = 100) (g6 : zh_r h a0 8 = .ref (zq (zh_r h a0 8))) (g7 : zi_cpo h (zq (zh_r h a0 8)) ((x1 * 5) + (((zh_i h (zq (zh_r h a0 4)) x1.toNatClampNeg) + 1) / 2)) (zq (zh_r h a0 8)) (x2 * 5) ((zh_i h (zq (zh_r h a0 4)) x1.toNatClampNeg) - (((zh_i h (zq (zh_r h a0 4)) x1.toNatClampNeg) + 1) / 2))) (g8 : (zh_k h (zq (zh_r h a0 8))).1 = 100) (g9 : zh_r h a0 9 = .ref (zq (zh_r h a0 9))) (g10 : zi_cpo h (zq (zh_r h a0 9)) ((x1 * 5) + (((zh_i h (zq (zh_r h a0 4)) x1.toNatClampNeg) + 1) / 2)) (zq (zh_r h a0 9)) (x2 * 5) ((zh_i h (zq (zh_r h a0 4)) x1.toNatClampNeg) - (((zh_i h (zq (zh_r h a0 4)) x1.toNatClampNeg) + 1) / 2))) (g11 : (zh_k h (zq (zh_r h a0 9))).1 = 100) (g12 : ¬ (x2 < 0 ∨ (zh_k h (zq (zh_r h a0 4))).2 ≤ x2.toNatClampNeg)) (g13 : zh_r h a0 5 = .ref (zq (zh_r h a0 5))) : zv 2 54 39 [.ref a0, .int x1, .int x2, u3, u4] [] h = zv 2 54 127 [.ref a0, .int x1, .int x2, .int (((zh_i h (zq (zh_r h a0 4)) x1.toNatClampNeg) + 1) / 2), .int ((zh_i h (zq (zh_r h a0 4)) x1.toNatClampNeg) - (((zh_i h (zq (zh_r h a0 4)) x1.toNatClampNeg) + 1) / 2))] [.int x1, .ref (zq (zh_r h a0 5)), .int x2, .ref (zq (zh_r h a0 5))] (zh_wi (zh_wi (zh_ci (zh_ci h (zq (zh_r h a0 8)) ((x1 * 5) + (((zh_i h (zq (zh_r h a0 4)) x1.toNatClampNeg) + 1) / 2)).toNatClampNeg (zq (zh_r h a0 8)) (x2 * 5).toNatClampNeg ((zh_i h (zq (zh_r h a0 4)) x1.toNatClampNeg) - (((zh_i h (zq (zh_r h a0 4)) x1.toNatClampNeg) + 1) / 2)).toNatClampNeg) (zq (zh_r h a0 9)) ((x1 * 5) + (((zh_i h (zq (zh_r h a0 4)) x1.toNatClampNeg) + 1) / 2)).toNatClampNeg (zq (zh_r h a0 9)) (x2 * 5).toNatClampNeg ((zh_i h (zq (zh_r h a0 4)) x1.toNatClampNeg) - (((zh_i h (zq (zh_r h a0 4)) x1.toNatClampNeg) + 1) / 2)).toNatClampNeg) (zq (zh_r h a0 4)) x2.toNatClampNeg ((zh_i h (zq (zh_r h a0 4)) x1.toNatClampNeg) - (((zh_i h (zq (zh_r h a0 4)) x1.toNatClampNeg) + 1) / 2))) (zq (zh_r h a0 4)) x1.toNatClampNeg (((zh_i h (zq (zh_r h a0 4)) x1.toNatClampNeg) + 1) / 2)) := by
  refine Eq.trans (zv_next f54_39 rfl) ?_
  refine Eq.trans (zs_getr f54_40 g0 g1 g2) ?_
  refine Eq.trans (zv_next f54_43 rfl) ?_
  refine Eq.trans (zs_iald f54_44 g3 g5 g4) ?_
  refine Eq.trans (zs_ic f54_45 ic_1) ?_
  refine Eq.trans (zv_next f54_46 rfl) ?_
  refine Eq.trans (zs_ic f54_47 ic_2) ?_
  refine Eq.trans (zs_idiv f54_48 (by decide)) ?_
  refine Eq.trans (zv_next f54_49 rfl) ?_
  refine Eq.trans (zv_next f54_50 rfl) ?_
  refine Eq.trans (zs_getr f54_51 g0 g1 g2) ?_
  refine Eq.trans (zv_next f54_54 rfl) ?_
  refine Eq.trans (zs_iald f54_55 g3 g5 g4) ?_
  refine Eq.trans (zv_next f54_56 rfl) ?_
  refine Eq.trans (zv_next f54_57 rfl) ?_
  refine Eq.trans (zv_next f54_58 rfl) ?_
  refine Eq.trans (zv_next f54_60 rfl) ?_
  refine Eq.trans (zs_getr f54_61 g0 g1 g6) ?_
  refine Eq.trans (zv_next f54_64 rfl) ?_
  refine Eq.trans (zs_ic f54_65 ic_5) ?_
  refine Eq.trans (zv_next f54_66 rfl) ?_
  refine Eq.trans (zv_next f54_67 rfl) ?_
  refine Eq.trans (zv_next f54_68 rfl) ?_
  refine Eq.trans (zv_next f54_69 rfl) ?_
  refine Eq.trans (zs_getr f54_70 g0 g1 g6) ?_
  refine Eq.trans (zv_next f54_73 rfl) ?_
  refine Eq.trans (zs_ic f54_74 ic_5) ?_
  refine Eq.trans (zv_next f54_75 rfl) ?_
  refine Eq.trans (zv_next f54_76 rfl) ?_
  refine Eq.trans (zs_cpi f54_78 (Nat.le_of_ble_eq_true rfl) g7 g8 g8) ?_
  refine Eq.trans (zv_next f54_81 rfl) ?_
  refine Eq.trans (zs_getr f54_82 g0 g1 g9) ?_
  refine Eq.trans (zv_next f54_85 rfl) ?_
  refine Eq.trans (zs_ic f54_86 ic_5) ?_
  refine Eq.trans (zv_next f54_87 rfl) ?_
  refine Eq.trans (zv_next f54_88 rfl) ?_
  refine Eq.trans (zv_next f54_89 rfl) ?_
  refine Eq.trans (zv_next f54_90 rfl) ?_
  refine Eq.trans (zs_getr f54_91 g0 g1 g9) ?_
  refine Eq.trans (zv_next f54_94 rfl) ?_
  refine Eq.trans (zs_ic f54_95 ic_5) ?_
  refine Eq.trans (zv_next f54_96 rfl) ?_
  refine Eq.trans (zv_next f54_97 rfl) ?_
  refine Eq.trans (zs_cpi f54_99 (Nat.le_of_ble_eq_true rfl) g10 g11 g11) ?_
  refine Eq.trans (zv_next f54_102 rfl) ?_
  refine Eq.trans (zs_getr f54_103 g0 g1 g2) ?_
  refine Eq.trans (zv_next f54_106 rfl) ?_
  refine Eq.trans (zv_next f54_107 rfl) ?_
  refine Eq.trans (zs_iast f54_109 g3 g5 g12) ?_
  refine Eq.trans (zv_next f54_110 rfl) ?_
  refine Eq.trans (zs_getr f54_111 g0 g1 g2) ?_
  refine Eq.trans (zv_next f54_114 rfl) ?_
  refine Eq.trans (zv_next f54_115 rfl) ?_
  refine Eq.trans (zs_iast f54_116 g3 g5 g4) ?_
  refine Eq.trans (zv_next f54_117 rfl) ?_
  refine Eq.trans (zs_getr f54_118 g0 g1 g13) ?_
  refine Eq.trans (zv_next f54_121 rfl) ?_
  refine Eq.trans (zv_next f54_122 rfl) ?_
  refine Eq.trans (zs_getr f54_123 g0 g1 g13) ?_
  refine Eq.trans (zv_next f54_126 rfl) ?_
  rfl
theorem b54_127 {h : zi_Hp} {a0 : Nat} {x1 : Int32} {x2 : Int32} {x3 : Int32} {x4 : Int32} {t0 : Nat} {s1 : Int32} {t2 : Nat} {s3 : Int32} (g0 : t2 < zh_n h) (g1 : ¬ (s3 < 0 ∨ (zh_k h t2).2 ≤ s3.toNatClampNeg)) (g2 : (zh_k h t2).1 = 100) (g3 : t0 < zh_n h) (g4 : ¬ (s1 < 0 ∨ (zh_k h t0).2 ≤ s1.toNatClampNeg)) (g5 : (zh_k h t0).1 = 100) (g6 : a0 < zh_n h) (g7 : (zh_k h a0).1 = 4) (g8 : zh_r h a0 5 = .ref (zq (zh_r h a0 5))) (g9 : zh_r h a0 8 = .ref (zq (zh_r h a0 8))) : zv 2 54 127 [.ref a0, .int x1, .int x2, .int x3, .int x4] [.int s3, .ref t2, .int s1, .ref t0] h = zv 2 54 145 [.ref a0, .int x1, .int x2, .int x3, .int x4] [.int (((x1 * 5) + x3) - 1), .ref (zq (zh_r h a0 8)), .int x1, .ref (zq (zh_r h a0 5))] (zh_wi h t0 s1.toNatClampNeg (zh_i h t2 s3.toNatClampNeg)) := by
  refine Eq.trans (zs_iald f54_127 g0 g2 g1) ?_
  refine Eq.trans (zs_iast f54_128 g3 g5 g4) ?_
  refine Eq.trans (zv_next f54_129 rfl) ?_
  refine Eq.trans (zs_getr f54_130 g6 g7 g8) ?_
  refine Eq.trans (zv_next f54_133 rfl) ?_
  refine Eq.trans (zv_next f54_134 rfl) ?_
  refine Eq.trans (zs_getr f54_135 g6 g7 g9) ?_
  refine Eq.trans (zv_next f54_138 rfl) ?_
  refine Eq.trans (zs_ic f54_139 ic_5) ?_
  refine Eq.trans (zv_next f54_140 rfl) ?_
  refine Eq.trans (zv_next f54_141 rfl) ?_
  refine Eq.trans (zv_next f54_142 rfl) ?_
  refine Eq.trans (zs_ic f54_143 ic_1) ?_
  refine Eq.trans (zv_next f54_144 rfl) ?_
  rfl
theorem b54_145 {h : zi_Hp} {a0 : Nat} {x1 : Int32} {x2 : Int32} {x3 : Int32} {x4 : Int32} {t0 : Nat} {s1 : Int32} {t2 : Nat} {s3 : Int32} (g0 : t2 < zh_n h) (g1 : ¬ (s3 < 0 ∨ (zh_k h t2).2 ≤ s3.toNatClampNeg)) (g2 : (zh_k h t2).1 = 100) (g3 : t0 < zh_n h) (g4 : ¬ (s1 < 0 ∨ (zh_k h t0).2 ≤ s1.toNatClampNeg)) (g5 : (zh_k h t0).1 = 100) (g6 : a0 < zh_n h) (g7 : (zh_k h a0).1 = 4) (g8 : zh_r h a0 6 = .ref (zq (zh_r h a0 6))) : zv 2 54 145 [.ref a0, .int x1, .int x2, .int x3, .int x4] [.int s3, .ref t2, .int s1, .ref t0] h = zv 2 54 157 [.ref a0, .int x1, .int x2, .int x3, .int x4] [.int x1, .ref (zq (zh_r h a0 6)), .int x2, .ref (zq (zh_r h a0 6))] (zh_wi h t0 s1.toNatClampNeg (zh_i h t2 s3.toNatClampNeg)) := by
  refine Eq.trans (zs_iald f54_145 g0 g2 g1) ?_
  refine Eq.trans (zs_iast f54_146 g3 g5 g4) ?_
  refine Eq.trans (zv_next f54_147 rfl) ?_
  refine Eq.trans (zs_getr f54_148 g6 g7 g8) ?_
  refine Eq.trans (zv_next f54_151 rfl) ?_
  refine Eq.trans (zv_next f54_152 rfl) ?_
  refine Eq.trans (zs_getr f54_153 g6 g7 g8) ?_
  refine Eq.trans (zv_next f54_156 rfl) ?_
  rfl
theorem b54_157 {h : zi_Hp} {a0 : Nat} {x1 : Int32} {x2 : Int32} {x3 : Int32} {x4 : Int32} {t0 : Nat} {s1 : Int32} {t2 : Nat} {s3 : Int32} (g0 : t2 < zh_n h) (g1 : ¬ (s3 < 0 ∨ (zh_k h t2).2 ≤ s3.toNatClampNeg)) (g2 : (zh_k h t2).1 = 100) (g3 : t0 < zh_n h) (g4 : ¬ (s1 < 0 ∨ (zh_k h t0).2 ≤ s1.toNatClampNeg)) (g5 : (zh_k h t0).1 = 100) (g6 : a0 < zh_n h) (g7 : (zh_k h a0).1 = 4) (g8 : zh_r h a0 6 = .ref (zq (zh_r h a0 6))) (g9 : (zq (zh_r h a0 6)) < zh_n h) (g10 : ¬ (x1 < 0 ∨ (zh_k h (zq (zh_r h a0 6))).2 ≤ x1.toNatClampNeg)) (g11 : (zh_k h (zq (zh_r h a0 6))).1 = 100) : zv 2 54 157 [.ref a0, .int x1, .int x2, .int x3, .int x4] [.int s3, .ref t2, .int s1, .ref t0] h = some (some (.int x2), zh_wi (zh_wi h t0 s1.toNatClampNeg (zh_i h t2 s3.toNatClampNeg)) (zq (zh_r h a0 6)) x1.toNatClampNeg x2) := by
  refine Eq.trans (zs_iald f54_157 g0 g2 g1) ?_
  refine Eq.trans (zs_iast f54_158 g3 g5 g4) ?_
  refine Eq.trans (zv_next f54_159 rfl) ?_
  refine Eq.trans (zs_getr f54_160 g6 g7 g8) ?_
  refine Eq.trans (zv_next f54_163 rfl) ?_
  refine Eq.trans (zv_next f54_164 rfl) ?_
  refine Eq.trans (zs_iast f54_165 g9 g11 g10) ?_
  refine Eq.trans (zv_next f54_166 rfl) ?_
  exact zs_ret0 f54_167
set_option maxRecDepth 20000 in
theorem zq55 : zi_M[55]? = some zi_m55 := rfl
theorem zl55_0 {pc : Nat} (_ : 0 ≤ pc) : zi_fe 55 pc = zu55_0.lookup pc := zi_feA zq55 pc
theorem f55_0 : zi_fe 55 0 = some ((.aload_n 0), 1, 0, 0, 0, 0, 0) := (zl55_0 (Nat.le_of_ble_eq_true rfl)).trans rfl
theorem f55_1 : zi_fe 55 1 = some ((.iload_n 1), 1, 0, 0, 0, 0, 0) := (zl55_0 (Nat.le_of_ble_eq_true rfl)).trans rfl
theorem f55_2 : zi_fe 55 2 = some ((.invokevirtual 57), 3, 41, 0, 4, 618, 2) := (zl55_0 (Nat.le_of_ble_eq_true rfl)).trans rfl
theorem f55_5 : zi_fe 55 5 = some ((.ifCond .eq 25), 3, 0, 0, 0, 0, 0) := (zl55_0 (Nat.le_of_ble_eq_true rfl)).trans rfl
theorem f55_8 : zi_fe 55 8 = some ((.aload_n 0), 1, 0, 0, 0, 0, 0) := (zl55_0 (Nat.le_of_ble_eq_true rfl)).trans rfl
theorem f55_9 : zi_fe 55 9 = some ((.getfield 9), 3, 4, 3, 3, 147, 0) := (zl55_0 (Nat.le_of_ble_eq_true rfl)).trans rfl
theorem f55_12 : zi_fe 55 12 = some ((.iload_n 1), 1, 0, 0, 0, 0, 0) := (zl55_0 (Nat.le_of_ble_eq_true rfl)).trans rfl
theorem f55_13 : zi_fe 55 13 = some (.iaload, 1, 0, 0, 0, 0, 0) := (zl55_0 (Nat.le_of_ble_eq_true rfl)).trans rfl
theorem f55_14 : zi_fe 55 14 = some ((.ifCond .ne 16), 3, 0, 0, 0, 0, 0) := (zl55_0 (Nat.le_of_ble_eq_true rfl)).trans rfl
theorem f55_17 : zi_fe 55 17 = some ((.aload_n 0), 1, 0, 0, 0, 0, 0) := (zl55_0 (Nat.le_of_ble_eq_true rfl)).trans rfl
theorem f55_18 : zi_fe 55 18 = some ((.getfield 24), 3, 4, 7, 3, 157, 0) := (zl55_0 (Nat.le_of_ble_eq_true rfl)).trans rfl
theorem f55_21 : zi_fe 55 21 = some ((.iload_n 1), 1, 0, 0, 0, 0, 0) := (zl55_0 (Nat.le_of_ble_eq_true rfl)).trans rfl
theorem zl55_1 {pc : Nat} (h : 22 ≤ pc) : zi_fe 55 pc = zu55_1.lookup pc := (zl55_0 (Nat.le_trans (Nat.le_of_ble_eq_true rfl) h)).trans (zi_lkA (a := zi_i55_0) (c := 22) rfl h)
theorem f55_22 : zi_fe 55 22 = some (.baload, 1, 0, 0, 0, 0, 0) := (zl55_1 (Nat.le_of_ble_eq_true rfl)).trans rfl
theorem f55_23 : zi_fe 55 23 = some ((.ifCond .ne 7), 3, 0, 0, 0, 0, 0) := (zl55_1 (Nat.le_of_ble_eq_true rfl)).trans rfl
theorem f55_26 : zi_fe 55 26 = some ((.iconst 1), 1, 0, 0, 0, 0, 0) := (zl55_1 (Nat.le_of_ble_eq_true rfl)).trans rfl
theorem f55_27 : zi_fe 55 27 = some ((.goto 4), 3, 0, 0, 0, 0, 0) := (zl55_1 (Nat.le_of_ble_eq_true rfl)).trans rfl
theorem f55_30 : zi_fe 55 30 = some ((.iconst 0), 1, 0, 0, 0, 0, 0) := (zl55_1 (Nat.le_of_ble_eq_true rfl)).trans rfl
theorem f55_31 : zi_fe 55 31 = some (.ireturn, 1, 1, 0, 0, 0, 0) := (zl55_1 (Nat.le_of_ble_eq_true rfl)).trans rfl
theorem b55_0 {h : zi_Hp} {a0 : Nat} {x1 : Int32} (g0 : a0 < zh_n h) (g1 : (zh_k h a0).1 = 4) : zv 2 55 0 [.ref a0, .int x1] [] h = (zv 1 41 0 [.ref a0, .int x1] [] h).bind fun r => zv 2 55 5 [.ref a0, .int x1] (r.1.toList ++ []) r.2 := by
  refine Eq.trans (zv_next f55_0 rfl) ?_
  refine Eq.trans (zv_next f55_1 rfl) ?_
  exact zs_callV f55_2 (Nat.le_of_ble_eq_true rfl) (Nat.le_of_ble_eq_true rfl) rfl g0 g1 me_41 (by decide) rfl
theorem b55_5 {h : zi_Hp} {a0 : Nat} {x1 : Int32} {s0 : Int32}  : zv 2 55 5 [.ref a0, .int x1] [.int s0] h = if s0 = 0 then zv 2 55 30 [.ref a0, .int x1] [] h else zv 2 55 8 [.ref a0, .int x1] [] h := by
  exact zs_if f55_5 rfl
theorem b55_8 {h : zi_Hp} {a0 : Nat} {x1 : Int32} (g0 : a0 < zh_n h) (g1 : (zh_k h a0).1 = 4) (g2 : zh_r h a0 3 = .ref (zq (zh_r h a0 3))) (g3 : (zq (zh_r h a0 3)) < zh_n h) (g4 : ¬ (x1 < 0 ∨ (zh_k h (zq (zh_r h a0 3))).2 ≤ x1.toNatClampNeg)) (g5 : (zh_k h (zq (zh_r h a0 3))).1 = 100) : zv 2 55 8 [.ref a0, .int x1] [] h = if (zh_i h (zq (zh_r h a0 3)) x1.toNatClampNeg) = 0 then zv 2 55 17 [.ref a0, .int x1] [] h else zv 2 55 30 [.ref a0, .int x1] [] h := by
  refine Eq.trans (zv_next f55_8 rfl) ?_
  refine Eq.trans (zs_getr f55_9 g0 g1 g2) ?_
  refine Eq.trans (zv_next f55_12 rfl) ?_
  refine Eq.trans (zs_iald f55_13 g3 g5 g4) ?_
  exact zs_if f55_14 rfl
theorem b55_17 {h : zi_Hp} {a0 : Nat} {x1 : Int32} (g0 : a0 < zh_n h) (g1 : (zh_k h a0).1 = 4) (g2 : zh_r h a0 7 = .ref (zq (zh_r h a0 7))) (g3 : (zq (zh_r h a0 7)) < zh_n h) (g4 : ¬ (x1 < 0 ∨ (zh_k h (zq (zh_r h a0 7))).2 ≤ x1.toNatClampNeg)) (g5 : (zh_k h (zq (zh_r h a0 7))).1 = 101) : zv 2 55 17 [.ref a0, .int x1] [] h = if (zi_bI (zh_b h (zq (zh_r h a0 7)) x1.toNatClampNeg)) = 0 then zv 2 55 26 [.ref a0, .int x1] [] h else zv 2 55 30 [.ref a0, .int x1] [] h := by
  refine Eq.trans (zv_next f55_17 rfl) ?_
  refine Eq.trans (zs_getr f55_18 g0 g1 g2) ?_
  refine Eq.trans (zv_next f55_21 rfl) ?_
  refine Eq.trans (zs_bald f55_22 g3 g5 g4) ?_
  exact zs_if f55_23 rfl
theorem b55_26 {h : zi_Hp} {a0 : Nat} {x1 : Int32}  : zv 2 55 26 [.ref a0, .int x1] [] h = zv 2 55 31 [.ref a0, .int x1] [.int 1] h := by
  refine Eq.trans (zs_ic f55_26 ic_1) ?_
  refine Eq.trans (zs_goto (tgt := 31) f55_27 rfl) ?_
  rfl
theorem b55_30 {h : zi_Hp} {a0 : Nat} {x1 : Int32}  : zv 2 55 30 [.ref a0, .int x1] [] h = zv 2 55 31 [.ref a0, .int x1] [.int 0] h := by
  refine Eq.trans (zs_ic f55_30 ic_0) ?_
  rfl
theorem b55_31 {h : zi_Hp} {a0 : Nat} {x1 : Int32} {s0 : Int32} (g0 : s0 = 0 ∨ s0 = 1) : zv 2 55 31 [.ref a0, .int x1] [.int s0] h = some (some (.int s0), h) := by
  exact zs_ret1 f55_31 g0
set_option maxRecDepth 20000 in
theorem zq56 : zi_M[56]? = some zi_m56 := rfl
theorem zl56_0 {pc : Nat} (_ : 0 ≤ pc) : zi_fe 56 pc = zu56_0.lookup pc := zi_feA zq56 pc
theorem f56_0 : zi_fe 56 0 = some ((.iconst 0), 1, 0, 0, 0, 0, 0) := (zl56_0 (Nat.le_of_ble_eq_true rfl)).trans rfl
theorem f56_1 : zi_fe 56 1 = some ((.istore_n 2), 1, 0, 0, 0, 0, 0) := (zl56_0 (Nat.le_of_ble_eq_true rfl)).trans rfl
theorem f56_2 : zi_fe 56 2 = some ((.iload_n 2), 1, 0, 0, 0, 0, 0) := (zl56_0 (Nat.le_of_ble_eq_true rfl)).trans rfl
theorem f56_3 : zi_fe 56 3 = some ((.aload_n 0), 1, 0, 0, 0, 0, 0) := (zl56_0 (Nat.le_of_ble_eq_true rfl)).trans rfl
theorem f56_4 : zi_fe 56 4 = some ((.getfield 37), 3, 4, 0, 0, 137, 0) := (zl56_0 (Nat.le_of_ble_eq_true rfl)).trans rfl
theorem f56_7 : zi_fe 56 7 = some ((.if_icmp .ge 75), 3, 0, 0, 0, 0, 0) := (zl56_0 (Nat.le_of_ble_eq_true rfl)).trans rfl
theorem f56_10 : zi_fe 56 10 = some ((.iload_n 2), 1, 0, 0, 0, 0, 0) := (zl56_0 (Nat.le_of_ble_eq_true rfl)).trans rfl
theorem f56_11 : zi_fe 56 11 = some ((.bipush 24), 2, 0, 0, 0, 0, 0) := (zl56_0 (Nat.le_of_ble_eq_true rfl)).trans rfl
theorem f56_13 : zi_fe 56 13 = some ((.if_icmp .ge 69), 3, 0, 0, 0, 0, 0) := (zl56_0 (Nat.le_of_ble_eq_true rfl)).trans rfl
theorem f56_16 : zi_fe 56 16 = some ((.aload_n 0), 1, 0, 0, 0, 0, 0) := (zl56_0 (Nat.le_of_ble_eq_true rfl)).trans rfl
theorem f56_17 : zi_fe 56 17 = some ((.getfield 9), 3, 4, 3, 3, 147, 0) := (zl56_0 (Nat.le_of_ble_eq_true rfl)).trans rfl
theorem f56_20 : zi_fe 56 20 = some ((.iload_n 2), 1, 0, 0, 0, 0, 0) := (zl56_0 (Nat.le_of_ble_eq_true rfl)).trans rfl
theorem zl56_1 {pc : Nat} (h : 21 ≤ pc) : zi_fe 56 pc = zu56_1.lookup pc := (zl56_0 (Nat.le_trans (Nat.le_of_ble_eq_true rfl) h)).trans (zi_lkA (a := zi_i56_0) (c := 21) rfl h)
theorem f56_21 : zi_fe 56 21 = some (.iaload, 1, 0, 0, 0, 0, 0) := (zl56_1 (Nat.le_of_ble_eq_true rfl)).trans rfl
theorem f56_22 : zi_fe 56 22 = some ((.ifCond .gt 54), 3, 0, 0, 0, 0, 0) := (zl56_1 (Nat.le_of_ble_eq_true rfl)).trans rfl
theorem f56_25 : zi_fe 56 25 = some ((.aload_n 0), 1, 0, 0, 0, 0, 0) := (zl56_1 (Nat.le_of_ble_eq_true rfl)).trans rfl
theorem f56_26 : zi_fe 56 26 = some ((.getfield 24), 3, 4, 7, 3, 157, 0) := (zl56_1 (Nat.le_of_ble_eq_true rfl)).trans rfl
theorem f56_29 : zi_fe 56 29 = some ((.iload_n 2), 1, 0, 0, 0, 0, 0) := (zl56_1 (Nat.le_of_ble_eq_true rfl)).trans rfl
theorem f56_30 : zi_fe 56 30 = some (.baload, 1, 0, 0, 0, 0, 0) := (zl56_1 (Nat.le_of_ble_eq_true rfl)).trans rfl
theorem f56_31 : zi_fe 56 31 = some ((.ifCond .eq 6), 3, 0, 0, 0, 0, 0) := (zl56_1 (Nat.le_of_ble_eq_true rfl)).trans rfl
theorem f56_34 : zi_fe 56 34 = some ((.goto 42), 3, 0, 0, 0, 0, 0) := (zl56_1 (Nat.le_of_ble_eq_true rfl)).trans rfl
theorem f56_37 : zi_fe 56 37 = some ((.iconst 0), 1, 0, 0, 0, 0, 0) := (zl56_1 (Nat.le_of_ble_eq_true rfl)).trans rfl
theorem f56_38 : zi_fe 56 38 = some ((.istore_n 3), 1, 0, 0, 0, 0, 0) := (zl56_1 (Nat.le_of_ble_eq_true rfl)).trans rfl
theorem f56_39 : zi_fe 56 39 = some ((.iload_n 3), 1, 0, 0, 0, 0, 0) := (zl56_1 (Nat.le_of_ble_eq_true rfl)).trans rfl
theorem f56_40 : zi_fe 56 40 = some ((.aload_n 0), 1, 0, 0, 0, 0, 0) := (zl56_1 (Nat.le_of_ble_eq_true rfl)).trans rfl
theorem zl56_2 {pc : Nat} (h : 41 ≤ pc) : zi_fe 56 pc = zu56_2.lookup pc := (zl56_1 (Nat.le_trans (Nat.le_of_ble_eq_true rfl) h)).trans (zi_lkA (a := zi_i56_1) (c := 41) rfl h)
theorem f56_41 : zi_fe 56 41 = some ((.getfield 15), 3, 4, 4, 3, 149, 0) := (zl56_2 (Nat.le_of_ble_eq_true rfl)).trans rfl
theorem f56_44 : zi_fe 56 44 = some ((.iload_n 2), 1, 0, 0, 0, 0, 0) := (zl56_2 (Nat.le_of_ble_eq_true rfl)).trans rfl
theorem f56_45 : zi_fe 56 45 = some (.iaload, 1, 0, 0, 0, 0, 0) := (zl56_2 (Nat.le_of_ble_eq_true rfl)).trans rfl
theorem f56_46 : zi_fe 56 46 = some ((.if_icmp .ge 30), 3, 0, 0, 0, 0, 0) := (zl56_2 (Nat.le_of_ble_eq_true rfl)).trans rfl
theorem f56_49 : zi_fe 56 49 = some ((.iload_n 3), 1, 0, 0, 0, 0, 0) := (zl56_2 (Nat.le_of_ble_eq_true rfl)).trans rfl
theorem f56_50 : zi_fe 56 50 = some ((.iconst 5), 1, 0, 0, 0, 0, 0) := (zl56_2 (Nat.le_of_ble_eq_true rfl)).trans rfl
theorem f56_51 : zi_fe 56 51 = some ((.if_icmp .ge 25), 3, 0, 0, 0, 0, 0) := (zl56_2 (Nat.le_of_ble_eq_true rfl)).trans rfl
theorem f56_54 : zi_fe 56 54 = some ((.aload_n 0), 1, 0, 0, 0, 0, 0) := (zl56_2 (Nat.le_of_ble_eq_true rfl)).trans rfl
theorem f56_55 : zi_fe 56 55 = some ((.getfield 28), 3, 4, 8, 3, 160, 0) := (zl56_2 (Nat.le_of_ble_eq_true rfl)).trans rfl
theorem f56_58 : zi_fe 56 58 = some ((.iload_n 2), 1, 0, 0, 0, 0, 0) := (zl56_2 (Nat.le_of_ble_eq_true rfl)).trans rfl
theorem f56_59 : zi_fe 56 59 = some ((.iconst 5), 1, 0, 0, 0, 0, 0) := (zl56_2 (Nat.le_of_ble_eq_true rfl)).trans rfl
theorem f56_60 : zi_fe 56 60 = some (.imul, 1, 0, 0, 0, 0, 0) := (zl56_2 (Nat.le_of_ble_eq_true rfl)).trans rfl
theorem zl56_3 {pc : Nat} (h : 61 ≤ pc) : zi_fe 56 pc = zu56_3.lookup pc := (zl56_2 (Nat.le_trans (Nat.le_of_ble_eq_true rfl) h)).trans (zi_lkA (a := zi_i56_2) (c := 61) rfl h)
theorem f56_61 : zi_fe 56 61 = some ((.iload_n 3), 1, 0, 0, 0, 0, 0) := (zl56_3 (Nat.le_of_ble_eq_true rfl)).trans rfl
theorem f56_62 : zi_fe 56 62 = some (.iadd, 1, 0, 0, 0, 0, 0) := (zl56_3 (Nat.le_of_ble_eq_true rfl)).trans rfl
theorem f56_63 : zi_fe 56 63 = some (.iaload, 1, 0, 0, 0, 0, 0) := (zl56_3 (Nat.le_of_ble_eq_true rfl)).trans rfl
theorem f56_64 : zi_fe 56 64 = some ((.iload_n 1), 1, 0, 0, 0, 0, 0) := (zl56_3 (Nat.le_of_ble_eq_true rfl)).trans rfl
theorem f56_65 : zi_fe 56 65 = some ((.if_icmp .ne 5), 3, 0, 0, 0, 0, 0) := (zl56_3 (Nat.le_of_ble_eq_true rfl)).trans rfl
theorem f56_68 : zi_fe 56 68 = some ((.iconst 1), 1, 0, 0, 0, 0, 0) := (zl56_3 (Nat.le_of_ble_eq_true rfl)).trans rfl
theorem f56_69 : zi_fe 56 69 = some (.ireturn, 1, 1, 0, 0, 0, 0) := (zl56_3 (Nat.le_of_ble_eq_true rfl)).trans rfl
theorem f56_70 : zi_fe 56 70 = some ((.iinc 3 1), 3, 0, 0, 0, 0, 0) := (zl56_3 (Nat.le_of_ble_eq_true rfl)).trans rfl
theorem f56_73 : zi_fe 56 73 = some ((.goto (-34)), 3, 0, 0, 0, 0, 0) := (zl56_3 (Nat.le_of_ble_eq_true rfl)).trans rfl
theorem f56_76 : zi_fe 56 76 = some ((.iinc 2 1), 3, 0, 0, 0, 0, 0) := (zl56_3 (Nat.le_of_ble_eq_true rfl)).trans rfl
theorem f56_79 : zi_fe 56 79 = some ((.goto (-77)), 3, 0, 0, 0, 0, 0) := (zl56_3 (Nat.le_of_ble_eq_true rfl)).trans rfl
theorem f56_82 : zi_fe 56 82 = some ((.iconst 0), 1, 0, 0, 0, 0, 0) := (zl56_3 (Nat.le_of_ble_eq_true rfl)).trans rfl
theorem zl56_4 {pc : Nat} (h : 83 ≤ pc) : zi_fe 56 pc = zu56_4.lookup pc := (zl56_3 (Nat.le_trans (Nat.le_of_ble_eq_true rfl) h)).trans (zi_lkA (a := zi_i56_3) (c := 83) rfl h)
theorem f56_83 : zi_fe 56 83 = some (.ireturn, 1, 1, 0, 0, 0, 0) := (zl56_4 (Nat.le_of_ble_eq_true rfl)).trans rfl
theorem b56_0 {h : zi_Hp} {a0 : Nat} {x1 : Int32} {u2 : Value} {u3 : Value}  : zv 1 56 0 [.ref a0, .int x1, u2, u3] [] h = zv 1 56 2 [.ref a0, .int x1, .int 0, u3] [] h := by
  refine Eq.trans (zs_ic f56_0 ic_0) ?_
  refine Eq.trans (zv_next f56_1 rfl) ?_
  rfl
theorem b56_2 {h : zi_Hp} {a0 : Nat} {x1 : Int32} {x2 : Int32} {u3 : Value} (g0 : a0 < zh_n h) (g1 : (zh_k h a0).1 = 4) : zv 1 56 2 [.ref a0, .int x1, .int x2, u3] [] h = if x2 < (zh_i h a0 0) then zv 1 56 10 [.ref a0, .int x1, .int x2, u3] [] h else zv 1 56 82 [.ref a0, .int x1, .int x2, u3] [] h := by
  refine Eq.trans (zv_next f56_2 rfl) ?_
  refine Eq.trans (zv_next f56_3 rfl) ?_
  refine Eq.trans (zs_geti f56_4 g0 g1) ?_
  exact zs_icmp f56_7 rfl
theorem b56_10 {h : zi_Hp} {a0 : Nat} {x1 : Int32} {x2 : Int32} {u3 : Value}  : zv 1 56 10 [.ref a0, .int x1, .int x2, u3] [] h = if x2 < 24 then zv 1 56 16 [.ref a0, .int x1, .int x2, u3] [] h else zv 1 56 82 [.ref a0, .int x1, .int x2, u3] [] h := by
  refine Eq.trans (zv_next f56_10 rfl) ?_
  refine Eq.trans (zs_bp f56_11 bp_24) ?_
  exact zs_icmp f56_13 rfl
theorem b56_16 {h : zi_Hp} {a0 : Nat} {x1 : Int32} {x2 : Int32} {u3 : Value} (g0 : a0 < zh_n h) (g1 : (zh_k h a0).1 = 4) (g2 : zh_r h a0 3 = .ref (zq (zh_r h a0 3))) (g3 : (zq (zh_r h a0 3)) < zh_n h) (g4 : ¬ (x2 < 0 ∨ (zh_k h (zq (zh_r h a0 3))).2 ≤ x2.toNatClampNeg)) (g5 : (zh_k h (zq (zh_r h a0 3))).1 = 100) : zv 1 56 16 [.ref a0, .int x1, .int x2, u3] [] h = if 0 < (zh_i h (zq (zh_r h a0 3)) x2.toNatClampNeg) then zv 1 56 76 [.ref a0, .int x1, .int x2, u3] [] h else zv 1 56 25 [.ref a0, .int x1, .int x2, u3] [] h := by
  refine Eq.trans (zv_next f56_16 rfl) ?_
  refine Eq.trans (zs_getr f56_17 g0 g1 g2) ?_
  refine Eq.trans (zv_next f56_20 rfl) ?_
  refine Eq.trans (zs_iald f56_21 g3 g5 g4) ?_
  exact zs_if f56_22 rfl
theorem b56_25 {h : zi_Hp} {a0 : Nat} {x1 : Int32} {x2 : Int32} {u3 : Value} (g0 : a0 < zh_n h) (g1 : (zh_k h a0).1 = 4) (g2 : zh_r h a0 7 = .ref (zq (zh_r h a0 7))) (g3 : (zq (zh_r h a0 7)) < zh_n h) (g4 : ¬ (x2 < 0 ∨ (zh_k h (zq (zh_r h a0 7))).2 ≤ x2.toNatClampNeg)) (g5 : (zh_k h (zq (zh_r h a0 7))).1 = 101) : zv 1 56 25 [.ref a0, .int x1, .int x2, u3] [] h = if (zi_bI (zh_b h (zq (zh_r h a0 7)) x2.toNatClampNeg)) = 0 then zv 1 56 37 [.ref a0, .int x1, .int x2, u3] [] h else zv 1 56 34 [.ref a0, .int x1, .int x2, u3] [] h := by
  refine Eq.trans (zv_next f56_25 rfl) ?_
  refine Eq.trans (zs_getr f56_26 g0 g1 g2) ?_
  refine Eq.trans (zv_next f56_29 rfl) ?_
  refine Eq.trans (zs_bald f56_30 g3 g5 g4) ?_
  exact zs_if f56_31 rfl
theorem b56_34 {h : zi_Hp} {a0 : Nat} {x1 : Int32} {x2 : Int32} {u3 : Value}  : zv 1 56 34 [.ref a0, .int x1, .int x2, u3] [] h = zv 1 56 76 [.ref a0, .int x1, .int x2, u3] [] h := by
  refine Eq.trans (zs_goto (tgt := 76) f56_34 rfl) ?_
  rfl
theorem b56_37 {h : zi_Hp} {a0 : Nat} {x1 : Int32} {x2 : Int32} {u3 : Value}  : zv 1 56 37 [.ref a0, .int x1, .int x2, u3] [] h = zv 1 56 39 [.ref a0, .int x1, .int x2, .int 0] [] h := by
  refine Eq.trans (zs_ic f56_37 ic_0) ?_
  refine Eq.trans (zv_next f56_38 rfl) ?_
  rfl
theorem b56_39 {h : zi_Hp} {a0 : Nat} {x1 : Int32} {x2 : Int32} {x3 : Int32} (g0 : a0 < zh_n h) (g1 : (zh_k h a0).1 = 4) (g2 : zh_r h a0 4 = .ref (zq (zh_r h a0 4))) (g3 : (zq (zh_r h a0 4)) < zh_n h) (g4 : ¬ (x2 < 0 ∨ (zh_k h (zq (zh_r h a0 4))).2 ≤ x2.toNatClampNeg)) (g5 : (zh_k h (zq (zh_r h a0 4))).1 = 100) : zv 1 56 39 [.ref a0, .int x1, .int x2, .int x3] [] h = if x3 < (zh_i h (zq (zh_r h a0 4)) x2.toNatClampNeg) then zv 1 56 49 [.ref a0, .int x1, .int x2, .int x3] [] h else zv 1 56 76 [.ref a0, .int x1, .int x2, .int x3] [] h := by
  refine Eq.trans (zv_next f56_39 rfl) ?_
  refine Eq.trans (zv_next f56_40 rfl) ?_
  refine Eq.trans (zs_getr f56_41 g0 g1 g2) ?_
  refine Eq.trans (zv_next f56_44 rfl) ?_
  refine Eq.trans (zs_iald f56_45 g3 g5 g4) ?_
  exact zs_icmp f56_46 rfl
theorem b56_49 {h : zi_Hp} {a0 : Nat} {x1 : Int32} {x2 : Int32} {x3 : Int32}  : zv 1 56 49 [.ref a0, .int x1, .int x2, .int x3] [] h = if x3 < 5 then zv 1 56 54 [.ref a0, .int x1, .int x2, .int x3] [] h else zv 1 56 76 [.ref a0, .int x1, .int x2, .int x3] [] h := by
  refine Eq.trans (zv_next f56_49 rfl) ?_
  refine Eq.trans (zs_ic f56_50 ic_5) ?_
  exact zs_icmp f56_51 rfl
theorem b56_54 {h : zi_Hp} {a0 : Nat} {x1 : Int32} {x2 : Int32} {x3 : Int32} (g0 : a0 < zh_n h) (g1 : (zh_k h a0).1 = 4) (g2 : zh_r h a0 8 = .ref (zq (zh_r h a0 8))) (g3 : (zq (zh_r h a0 8)) < zh_n h) (g4 : ¬ (((x2 * 5) + x3) < 0 ∨ (zh_k h (zq (zh_r h a0 8))).2 ≤ ((x2 * 5) + x3).toNatClampNeg)) (g5 : (zh_k h (zq (zh_r h a0 8))).1 = 100) : zv 1 56 54 [.ref a0, .int x1, .int x2, .int x3] [] h = if (zh_i h (zq (zh_r h a0 8)) ((x2 * 5) + x3).toNatClampNeg) = x1 then zv 1 56 68 [.ref a0, .int x1, .int x2, .int x3] [] h else zv 1 56 70 [.ref a0, .int x1, .int x2, .int x3] [] h := by
  refine Eq.trans (zv_next f56_54 rfl) ?_
  refine Eq.trans (zs_getr f56_55 g0 g1 g2) ?_
  refine Eq.trans (zv_next f56_58 rfl) ?_
  refine Eq.trans (zs_ic f56_59 ic_5) ?_
  refine Eq.trans (zv_next f56_60 rfl) ?_
  refine Eq.trans (zv_next f56_61 rfl) ?_
  refine Eq.trans (zv_next f56_62 rfl) ?_
  refine Eq.trans (zs_iald f56_63 g3 g5 g4) ?_
  refine Eq.trans (zv_next f56_64 rfl) ?_
  exact zs_icmp f56_65 rfl
theorem b56_68 {h : zi_Hp} {a0 : Nat} {x1 : Int32} {x2 : Int32} {x3 : Int32}  : zv 1 56 68 [.ref a0, .int x1, .int x2, .int x3] [] h = some (some (.int 1), h) := by
  refine Eq.trans (zs_ic f56_68 ic_1) ?_
  exact zs_ret1 f56_69 (by decide)
theorem b56_70 {h : zi_Hp} {a0 : Nat} {x1 : Int32} {x2 : Int32} {x3 : Int32}  : zv 1 56 70 [.ref a0, .int x1, .int x2, .int x3] [] h = zv 1 56 39 [.ref a0, .int x1, .int x2, .int (x3 + 1)] [] h := by
  refine Eq.trans (zs_inc f56_70 rfl ic_1 rfl) ?_
  refine Eq.trans (zs_goto (tgt := 39) f56_73 rfl) ?_
  rfl
theorem b56_76 {h : zi_Hp} {a0 : Nat} {x1 : Int32} {x2 : Int32} {u3 : Value}  : zv 1 56 76 [.ref a0, .int x1, .int x2, u3] [] h = zv 1 56 2 [.ref a0, .int x1, .int (x2 + 1), u3] [] h := by
  refine Eq.trans (zs_inc f56_76 rfl ic_1 rfl) ?_
  refine Eq.trans (zs_goto (tgt := 2) f56_79 rfl) ?_
  rfl
theorem b56_82 {h : zi_Hp} {a0 : Nat} {x1 : Int32} {x2 : Int32} {u3 : Value}  : zv 1 56 82 [.ref a0, .int x1, .int x2, u3] [] h = some (some (.int 0), h) := by
  refine Eq.trans (zs_ic f56_82 ic_0) ?_
  exact zs_ret1 f56_83 (by decide)
set_option maxRecDepth 20000 in
theorem zq57 : zi_M[57]? = some zi_m57 := rfl
theorem zl57_0 {pc : Nat} (_ : 0 ≤ pc) : zi_fe 57 pc = zu57_0.lookup pc := zi_feA zq57 pc
theorem f57_0 : zi_fe 57 0 = some ((.iconst 0), 1, 0, 0, 0, 0, 0) := (zl57_0 (Nat.le_of_ble_eq_true rfl)).trans rfl
theorem f57_1 : zi_fe 57 1 = some ((.istore_n 1), 1, 0, 0, 0, 0, 0) := (zl57_0 (Nat.le_of_ble_eq_true rfl)).trans rfl
theorem f57_2 : zi_fe 57 2 = some ((.iconst 0), 1, 0, 0, 0, 0, 0) := (zl57_0 (Nat.le_of_ble_eq_true rfl)).trans rfl
theorem f57_3 : zi_fe 57 3 = some ((.istore_n 2), 1, 0, 0, 0, 0, 0) := (zl57_0 (Nat.le_of_ble_eq_true rfl)).trans rfl
theorem f57_4 : zi_fe 57 4 = some ((.iload_n 2), 1, 0, 0, 0, 0, 0) := (zl57_0 (Nat.le_of_ble_eq_true rfl)).trans rfl
theorem f57_5 : zi_fe 57 5 = some ((.bipush 100), 2, 0, 0, 0, 0, 0) := (zl57_0 (Nat.le_of_ble_eq_true rfl)).trans rfl
theorem f57_7 : zi_fe 57 7 = some ((.if_icmp .ge 21), 3, 0, 0, 0, 0, 0) := (zl57_0 (Nat.le_of_ble_eq_true rfl)).trans rfl
theorem f57_10 : zi_fe 57 10 = some ((.aload_n 0), 1, 0, 0, 0, 0, 0) := (zl57_0 (Nat.le_of_ble_eq_true rfl)).trans rfl
theorem f57_11 : zi_fe 57 11 = some ((.iload_n 2), 1, 0, 0, 0, 0, 0) := (zl57_0 (Nat.le_of_ble_eq_true rfl)).trans rfl
theorem f57_12 : zi_fe 57 12 = some ((.invokevirtual 68), 3, 56, 0, 4, 963, 2) := (zl57_0 (Nat.le_of_ble_eq_true rfl)).trans rfl
theorem f57_15 : zi_fe 57 15 = some ((.ifCond .eq 7), 3, 0, 0, 0, 0, 0) := (zl57_0 (Nat.le_of_ble_eq_true rfl)).trans rfl
theorem f57_18 : zi_fe 57 18 = some ((.iload_n 1), 1, 0, 0, 0, 0, 0) := (zl57_0 (Nat.le_of_ble_eq_true rfl)).trans rfl
theorem zl57_1 {pc : Nat} (h : 19 ≤ pc) : zi_fe 57 pc = zu57_1.lookup pc := (zl57_0 (Nat.le_trans (Nat.le_of_ble_eq_true rfl) h)).trans (zi_lkA (a := zi_i57_0) (c := 19) rfl h)
theorem f57_19 : zi_fe 57 19 = some ((.iload_n 2), 1, 0, 0, 0, 0, 0) := (zl57_1 (Nat.le_of_ble_eq_true rfl)).trans rfl
theorem f57_20 : zi_fe 57 20 = some (.iadd, 1, 0, 0, 0, 0, 0) := (zl57_1 (Nat.le_of_ble_eq_true rfl)).trans rfl
theorem f57_21 : zi_fe 57 21 = some ((.istore_n 1), 1, 0, 0, 0, 0, 0) := (zl57_1 (Nat.le_of_ble_eq_true rfl)).trans rfl
theorem f57_22 : zi_fe 57 22 = some ((.iinc 2 1), 3, 0, 0, 0, 0, 0) := (zl57_1 (Nat.le_of_ble_eq_true rfl)).trans rfl
theorem f57_25 : zi_fe 57 25 = some ((.goto (-21)), 3, 0, 0, 0, 0, 0) := (zl57_1 (Nat.le_of_ble_eq_true rfl)).trans rfl
theorem f57_28 : zi_fe 57 28 = some ((.iload_n 1), 1, 0, 0, 0, 0, 0) := (zl57_1 (Nat.le_of_ble_eq_true rfl)).trans rfl
theorem f57_29 : zi_fe 57 29 = some (.ireturn, 1, 0, 0, 0, 0, 0) := (zl57_1 (Nat.le_of_ble_eq_true rfl)).trans rfl
theorem b57_0 {h : zi_Hp} {a0 : Nat} {u1 : Value} {u2 : Value}  : zv 2 57 0 [.ref a0, u1, u2] [] h = zv 2 57 4 [.ref a0, .int 0, .int 0] [] h := by
  refine Eq.trans (zs_ic f57_0 ic_0) ?_
  refine Eq.trans (zv_next f57_1 rfl) ?_
  refine Eq.trans (zs_ic f57_2 ic_0) ?_
  refine Eq.trans (zv_next f57_3 rfl) ?_
  rfl
theorem b57_4 {h : zi_Hp} {a0 : Nat} {x1 : Int32} {x2 : Int32}  : zv 2 57 4 [.ref a0, .int x1, .int x2] [] h = if x2 < 100 then zv 2 57 10 [.ref a0, .int x1, .int x2] [] h else zv 2 57 28 [.ref a0, .int x1, .int x2] [] h := by
  refine Eq.trans (zv_next f57_4 rfl) ?_
  refine Eq.trans (zs_bp f57_5 bp_100) ?_
  exact zs_icmp f57_7 rfl
theorem b57_10 {h : zi_Hp} {a0 : Nat} {x1 : Int32} {x2 : Int32} (g0 : a0 < zh_n h) (g1 : (zh_k h a0).1 = 4) : zv 2 57 10 [.ref a0, .int x1, .int x2] [] h = (zv 1 56 0 [.ref a0, .int x2, .double 0, .double 0] [] h).bind fun r => zv 2 57 15 [.ref a0, .int x1, .int x2] (r.1.toList ++ []) r.2 := by
  refine Eq.trans (zv_next f57_10 rfl) ?_
  refine Eq.trans (zv_next f57_11 rfl) ?_
  exact zs_callV f57_12 (Nat.le_of_ble_eq_true rfl) (Nat.le_of_ble_eq_true rfl) rfl g0 g1 me_56 (by decide) rfl
theorem b57_15 {h : zi_Hp} {a0 : Nat} {x1 : Int32} {x2 : Int32} {s0 : Int32}  : zv 2 57 15 [.ref a0, .int x1, .int x2] [.int s0] h = if s0 = 0 then zv 2 57 22 [.ref a0, .int x1, .int x2] [] h else zv 2 57 18 [.ref a0, .int x1, .int x2] [] h := by
  exact zs_if f57_15 rfl
theorem b57_18 {h : zi_Hp} {a0 : Nat} {x1 : Int32} {x2 : Int32}  : zv 2 57 18 [.ref a0, .int x1, .int x2] [] h = zv 2 57 22 [.ref a0, .int (x1 + x2), .int x2] [] h := by
  refine Eq.trans (zv_next f57_18 rfl) ?_
  refine Eq.trans (zv_next f57_19 rfl) ?_
  refine Eq.trans (zv_next f57_20 rfl) ?_
  refine Eq.trans (zv_next f57_21 rfl) ?_
  rfl
theorem b57_22 {h : zi_Hp} {a0 : Nat} {x1 : Int32} {x2 : Int32}  : zv 2 57 22 [.ref a0, .int x1, .int x2] [] h = zv 2 57 4 [.ref a0, .int x1, .int (x2 + 1)] [] h := by
  refine Eq.trans (zs_inc f57_22 rfl ic_1 rfl) ?_
  refine Eq.trans (zs_goto (tgt := 4) f57_25 rfl) ?_
  rfl
theorem b57_28 {h : zi_Hp} {a0 : Nat} {x1 : Int32} {x2 : Int32}  : zv 2 57 28 [.ref a0, .int x1, .int x2] [] h = some (some (.int x1), h) := by
  refine Eq.trans (zv_next f57_28 rfl) ?_
  exact zs_ret0 f57_29
set_option maxRecDepth 20000 in
theorem zq58 : zi_M[58]? = some zi_m58 := rfl
theorem zl58_0 {pc : Nat} (_ : 0 ≤ pc) : zi_fe 58 pc = zu58_0.lookup pc := zi_feA zq58 pc
theorem f58_0 : zi_fe 58 0 = some ((.iconst 0), 1, 0, 0, 0, 0, 0) := (zl58_0 (Nat.le_of_ble_eq_true rfl)).trans rfl
theorem f58_1 : zi_fe 58 1 = some ((.istore_n 1), 1, 0, 0, 0, 0, 0) := (zl58_0 (Nat.le_of_ble_eq_true rfl)).trans rfl
theorem f58_2 : zi_fe 58 2 = some ((.iconst 0), 1, 0, 0, 0, 0, 0) := (zl58_0 (Nat.le_of_ble_eq_true rfl)).trans rfl
theorem f58_3 : zi_fe 58 3 = some ((.istore_n 2), 1, 0, 0, 0, 0, 0) := (zl58_0 (Nat.le_of_ble_eq_true rfl)).trans rfl
theorem f58_4 : zi_fe 58 4 = some ((.iload_n 2), 1, 0, 0, 0, 0, 0) := (zl58_0 (Nat.le_of_ble_eq_true rfl)).trans rfl
theorem f58_5 : zi_fe 58 5 = some ((.aload_n 0), 1, 0, 0, 0, 0, 0) := (zl58_0 (Nat.le_of_ble_eq_true rfl)).trans rfl
theorem f58_6 : zi_fe 58 6 = some ((.getfield 37), 3, 4, 0, 0, 137, 0) := (zl58_0 (Nat.le_of_ble_eq_true rfl)).trans rfl
theorem f58_9 : zi_fe 58 9 = some ((.if_icmp .ge 32), 3, 0, 0, 0, 0, 0) := (zl58_0 (Nat.le_of_ble_eq_true rfl)).trans rfl
theorem f58_12 : zi_fe 58 12 = some ((.iload_n 2), 1, 0, 0, 0, 0, 0) := (zl58_0 (Nat.le_of_ble_eq_true rfl)).trans rfl
theorem f58_13 : zi_fe 58 13 = some ((.bipush 24), 2, 0, 0, 0, 0, 0) := (zl58_0 (Nat.le_of_ble_eq_true rfl)).trans rfl
theorem f58_15 : zi_fe 58 15 = some ((.if_icmp .ge 26), 3, 0, 0, 0, 0, 0) := (zl58_0 (Nat.le_of_ble_eq_true rfl)).trans rfl
theorem f58_18 : zi_fe 58 18 = some ((.aload_n 0), 1, 0, 0, 0, 0, 0) := (zl58_0 (Nat.le_of_ble_eq_true rfl)).trans rfl
theorem zl58_1 {pc : Nat} (h : 19 ≤ pc) : zi_fe 58 pc = zu58_1.lookup pc := (zl58_0 (Nat.le_trans (Nat.le_of_ble_eq_true rfl) h)).trans (zi_lkA (a := zi_i58_0) (c := 19) rfl h)
theorem f58_19 : zi_fe 58 19 = some ((.iload_n 2), 1, 0, 0, 0, 0, 0) := (zl58_1 (Nat.le_of_ble_eq_true rfl)).trans rfl
theorem f58_20 : zi_fe 58 20 = some ((.invokevirtual 71), 3, 55, 0, 4, 771, 2) := (zl58_1 (Nat.le_of_ble_eq_true rfl)).trans rfl
theorem f58_23 : zi_fe 58 23 = some ((.ifCond .eq 12), 3, 0, 0, 0, 0, 0) := (zl58_1 (Nat.le_of_ble_eq_true rfl)).trans rfl
theorem f58_26 : zi_fe 58 26 = some ((.iload_n 1), 1, 0, 0, 0, 0, 0) := (zl58_1 (Nat.le_of_ble_eq_true rfl)).trans rfl
theorem f58_27 : zi_fe 58 27 = some ((.aload_n 0), 1, 0, 0, 0, 0, 0) := (zl58_1 (Nat.le_of_ble_eq_true rfl)).trans rfl
theorem f58_28 : zi_fe 58 28 = some ((.getfield 15), 3, 4, 4, 3, 149, 0) := (zl58_1 (Nat.le_of_ble_eq_true rfl)).trans rfl
theorem f58_31 : zi_fe 58 31 = some ((.iload_n 2), 1, 0, 0, 0, 0, 0) := (zl58_1 (Nat.le_of_ble_eq_true rfl)).trans rfl
theorem f58_32 : zi_fe 58 32 = some (.iaload, 1, 0, 0, 0, 0, 0) := (zl58_1 (Nat.le_of_ble_eq_true rfl)).trans rfl
theorem f58_33 : zi_fe 58 33 = some (.iadd, 1, 0, 0, 0, 0, 0) := (zl58_1 (Nat.le_of_ble_eq_true rfl)).trans rfl
theorem f58_34 : zi_fe 58 34 = some ((.istore_n 1), 1, 0, 0, 0, 0, 0) := (zl58_1 (Nat.le_of_ble_eq_true rfl)).trans rfl
theorem f58_35 : zi_fe 58 35 = some ((.iinc 2 1), 3, 0, 0, 0, 0, 0) := (zl58_1 (Nat.le_of_ble_eq_true rfl)).trans rfl
theorem f58_38 : zi_fe 58 38 = some ((.goto (-34)), 3, 0, 0, 0, 0, 0) := (zl58_1 (Nat.le_of_ble_eq_true rfl)).trans rfl
theorem zl58_2 {pc : Nat} (h : 41 ≤ pc) : zi_fe 58 pc = zu58_2.lookup pc := (zl58_1 (Nat.le_trans (Nat.le_of_ble_eq_true rfl) h)).trans (zi_lkA (a := zi_i58_1) (c := 41) rfl h)
theorem f58_41 : zi_fe 58 41 = some ((.iload_n 1), 1, 0, 0, 0, 0, 0) := (zl58_2 (Nat.le_of_ble_eq_true rfl)).trans rfl
theorem f58_42 : zi_fe 58 42 = some (.ireturn, 1, 0, 0, 0, 0, 0) := (zl58_2 (Nat.le_of_ble_eq_true rfl)).trans rfl
theorem b58_0 {h : zi_Hp} {a0 : Nat} {u1 : Value} {u2 : Value}  : zv 3 58 0 [.ref a0, u1, u2] [] h = zv 3 58 4 [.ref a0, .int 0, .int 0] [] h := by
  refine Eq.trans (zs_ic f58_0 ic_0) ?_
  refine Eq.trans (zv_next f58_1 rfl) ?_
  refine Eq.trans (zs_ic f58_2 ic_0) ?_
  refine Eq.trans (zv_next f58_3 rfl) ?_
  rfl
theorem b58_4 {h : zi_Hp} {a0 : Nat} {x1 : Int32} {x2 : Int32} (g0 : a0 < zh_n h) (g1 : (zh_k h a0).1 = 4) : zv 3 58 4 [.ref a0, .int x1, .int x2] [] h = if x2 < (zh_i h a0 0) then zv 3 58 12 [.ref a0, .int x1, .int x2] [] h else zv 3 58 41 [.ref a0, .int x1, .int x2] [] h := by
  refine Eq.trans (zv_next f58_4 rfl) ?_
  refine Eq.trans (zv_next f58_5 rfl) ?_
  refine Eq.trans (zs_geti f58_6 g0 g1) ?_
  exact zs_icmp f58_9 rfl
theorem b58_12 {h : zi_Hp} {a0 : Nat} {x1 : Int32} {x2 : Int32}  : zv 3 58 12 [.ref a0, .int x1, .int x2] [] h = if x2 < 24 then zv 3 58 18 [.ref a0, .int x1, .int x2] [] h else zv 3 58 41 [.ref a0, .int x1, .int x2] [] h := by
  refine Eq.trans (zv_next f58_12 rfl) ?_
  refine Eq.trans (zs_bp f58_13 bp_24) ?_
  exact zs_icmp f58_15 rfl
theorem b58_18 {h : zi_Hp} {a0 : Nat} {x1 : Int32} {x2 : Int32} (g0 : a0 < zh_n h) (g1 : (zh_k h a0).1 = 4) : zv 3 58 18 [.ref a0, .int x1, .int x2] [] h = (zv 2 55 0 [.ref a0, .int x2] [] h).bind fun r => zv 3 58 23 [.ref a0, .int x1, .int x2] (r.1.toList ++ []) r.2 := by
  refine Eq.trans (zv_next f58_18 rfl) ?_
  refine Eq.trans (zv_next f58_19 rfl) ?_
  exact zs_callV f58_20 (Nat.le_of_ble_eq_true rfl) (Nat.le_of_ble_eq_true rfl) rfl g0 g1 me_55 (by decide) rfl
theorem b58_23 {h : zi_Hp} {a0 : Nat} {x1 : Int32} {x2 : Int32} {s0 : Int32}  : zv 3 58 23 [.ref a0, .int x1, .int x2] [.int s0] h = if s0 = 0 then zv 3 58 35 [.ref a0, .int x1, .int x2] [] h else zv 3 58 26 [.ref a0, .int x1, .int x2] [] h := by
  exact zs_if f58_23 rfl
theorem b58_26 {h : zi_Hp} {a0 : Nat} {x1 : Int32} {x2 : Int32} (g0 : a0 < zh_n h) (g1 : (zh_k h a0).1 = 4) (g2 : zh_r h a0 4 = .ref (zq (zh_r h a0 4))) (g3 : (zq (zh_r h a0 4)) < zh_n h) (g4 : ¬ (x2 < 0 ∨ (zh_k h (zq (zh_r h a0 4))).2 ≤ x2.toNatClampNeg)) (g5 : (zh_k h (zq (zh_r h a0 4))).1 = 100) : zv 3 58 26 [.ref a0, .int x1, .int x2] [] h = zv 3 58 35 [.ref a0, .int (x1 + (zh_i h (zq (zh_r h a0 4)) x2.toNatClampNeg)), .int x2] [] h := by
  refine Eq.trans (zv_next f58_26 rfl) ?_
  refine Eq.trans (zv_next f58_27 rfl) ?_
  refine Eq.trans (zs_getr f58_28 g0 g1 g2) ?_
  refine Eq.trans (zv_next f58_31 rfl) ?_
  refine Eq.trans (zs_iald f58_32 g3 g5 g4) ?_
  refine Eq.trans (zv_next f58_33 rfl) ?_
  refine Eq.trans (zv_next f58_34 rfl) ?_
  rfl
theorem b58_35 {h : zi_Hp} {a0 : Nat} {x1 : Int32} {x2 : Int32}  : zv 3 58 35 [.ref a0, .int x1, .int x2] [] h = zv 3 58 4 [.ref a0, .int x1, .int (x2 + 1)] [] h := by
  refine Eq.trans (zs_inc f58_35 rfl ic_1 rfl) ?_
  refine Eq.trans (zs_goto (tgt := 4) f58_38 rfl) ?_
  rfl
theorem b58_41 {h : zi_Hp} {a0 : Nat} {x1 : Int32} {x2 : Int32}  : zv 3 58 41 [.ref a0, .int x1, .int x2] [] h = some (some (.int x1), h) := by
  refine Eq.trans (zv_next f58_41 rfl) ?_
  exact zs_ret0 f58_42
set_option maxRecDepth 20000 in
theorem zq59 : zi_M[59]? = some zi_m59 := rfl
theorem zl59_0 {pc : Nat} (_ : 0 ≤ pc) : zi_fe 59 pc = zu59_0.lookup pc := zi_feA zq59 pc
theorem f59_0 : zi_fe 59 0 = some ((.iconst 0), 1, 0, 0, 0, 0, 0) := (zl59_0 (Nat.le_of_ble_eq_true rfl)).trans rfl
theorem f59_1 : zi_fe 59 1 = some ((.istore_n 1), 1, 0, 0, 0, 0, 0) := (zl59_0 (Nat.le_of_ble_eq_true rfl)).trans rfl
theorem f59_2 : zi_fe 59 2 = some ((.iconst 0), 1, 0, 0, 0, 0, 0) := (zl59_0 (Nat.le_of_ble_eq_true rfl)).trans rfl
theorem f59_3 : zi_fe 59 3 = some ((.istore_n 2), 1, 0, 0, 0, 0, 0) := (zl59_0 (Nat.le_of_ble_eq_true rfl)).trans rfl
theorem f59_4 : zi_fe 59 4 = some ((.iload_n 2), 1, 0, 0, 0, 0, 0) := (zl59_0 (Nat.le_of_ble_eq_true rfl)).trans rfl
theorem f59_5 : zi_fe 59 5 = some ((.aload_n 0), 1, 0, 0, 0, 0, 0) := (zl59_0 (Nat.le_of_ble_eq_true rfl)).trans rfl
theorem f59_6 : zi_fe 59 6 = some ((.getfield 37), 3, 4, 0, 0, 137, 0) := (zl59_0 (Nat.le_of_ble_eq_true rfl)).trans rfl
theorem f59_9 : zi_fe 59 9 = some ((.if_icmp .ge 20), 3, 0, 0, 0, 0, 0) := (zl59_0 (Nat.le_of_ble_eq_true rfl)).trans rfl
theorem f59_12 : zi_fe 59 12 = some ((.aload_n 0), 1, 0, 0, 0, 0, 0) := (zl59_0 (Nat.le_of_ble_eq_true rfl)).trans rfl
theorem f59_13 : zi_fe 59 13 = some ((.iload_n 2), 1, 0, 0, 0, 0, 0) := (zl59_0 (Nat.le_of_ble_eq_true rfl)).trans rfl
theorem f59_14 : zi_fe 59 14 = some ((.invokevirtual 74), 3, 45, 0, 4, 780, 2) := (zl59_0 (Nat.le_of_ble_eq_true rfl)).trans rfl
theorem f59_17 : zi_fe 59 17 = some ((.ifCond .eq 6), 3, 0, 0, 0, 0, 0) := (zl59_0 (Nat.le_of_ble_eq_true rfl)).trans rfl
theorem zl59_1 {pc : Nat} (h : 20 ≤ pc) : zi_fe 59 pc = zu59_1.lookup pc := (zl59_0 (Nat.le_trans (Nat.le_of_ble_eq_true rfl) h)).trans (zi_lkA (a := zi_i59_0) (c := 20) rfl h)
theorem f59_20 : zi_fe 59 20 = some ((.iinc 1 1), 3, 0, 0, 0, 0, 0) := (zl59_1 (Nat.le_of_ble_eq_true rfl)).trans rfl
theorem f59_23 : zi_fe 59 23 = some ((.iinc 2 1), 3, 0, 0, 0, 0, 0) := (zl59_1 (Nat.le_of_ble_eq_true rfl)).trans rfl
theorem f59_26 : zi_fe 59 26 = some ((.goto (-22)), 3, 0, 0, 0, 0, 0) := (zl59_1 (Nat.le_of_ble_eq_true rfl)).trans rfl
theorem f59_29 : zi_fe 59 29 = some ((.iload_n 1), 1, 0, 0, 0, 0, 0) := (zl59_1 (Nat.le_of_ble_eq_true rfl)).trans rfl
theorem f59_30 : zi_fe 59 30 = some (.ireturn, 1, 0, 0, 0, 0, 0) := (zl59_1 (Nat.le_of_ble_eq_true rfl)).trans rfl
theorem b59_0 {h : zi_Hp} {a0 : Nat} {u1 : Value} {u2 : Value}  : zv 3 59 0 [.ref a0, u1, u2] [] h = zv 3 59 4 [.ref a0, .int 0, .int 0] [] h := by
  refine Eq.trans (zs_ic f59_0 ic_0) ?_
  refine Eq.trans (zv_next f59_1 rfl) ?_
  refine Eq.trans (zs_ic f59_2 ic_0) ?_
  refine Eq.trans (zv_next f59_3 rfl) ?_
  rfl
theorem b59_4 {h : zi_Hp} {a0 : Nat} {x1 : Int32} {x2 : Int32} (g0 : a0 < zh_n h) (g1 : (zh_k h a0).1 = 4) : zv 3 59 4 [.ref a0, .int x1, .int x2] [] h = if x2 < (zh_i h a0 0) then zv 3 59 12 [.ref a0, .int x1, .int x2] [] h else zv 3 59 29 [.ref a0, .int x1, .int x2] [] h := by
  refine Eq.trans (zv_next f59_4 rfl) ?_
  refine Eq.trans (zv_next f59_5 rfl) ?_
  refine Eq.trans (zs_geti f59_6 g0 g1) ?_
  exact zs_icmp f59_9 rfl
theorem b59_12 {h : zi_Hp} {a0 : Nat} {x1 : Int32} {x2 : Int32} (g0 : a0 < zh_n h) (g1 : (zh_k h a0).1 = 4) : zv 3 59 12 [.ref a0, .int x1, .int x2] [] h = (zv 2 45 0 [.ref a0, .int x2] [] h).bind fun r => zv 3 59 17 [.ref a0, .int x1, .int x2] (r.1.toList ++ []) r.2 := by
  refine Eq.trans (zv_next f59_12 rfl) ?_
  refine Eq.trans (zv_next f59_13 rfl) ?_
  exact zs_callV f59_14 (Nat.le_of_ble_eq_true rfl) (Nat.le_of_ble_eq_true rfl) rfl g0 g1 me_45 (by decide) rfl
theorem b59_17 {h : zi_Hp} {a0 : Nat} {x1 : Int32} {x2 : Int32} {s0 : Int32}  : zv 3 59 17 [.ref a0, .int x1, .int x2] [.int s0] h = if s0 = 0 then zv 3 59 23 [.ref a0, .int x1, .int x2] [] h else zv 3 59 20 [.ref a0, .int x1, .int x2] [] h := by
  exact zs_if f59_17 rfl
theorem b59_20 {h : zi_Hp} {a0 : Nat} {x1 : Int32} {x2 : Int32}  : zv 3 59 20 [.ref a0, .int x1, .int x2] [] h = zv 3 59 23 [.ref a0, .int (x1 + 1), .int x2] [] h := by
  refine Eq.trans (zs_inc f59_20 rfl ic_1 rfl) ?_
  rfl
theorem b59_23 {h : zi_Hp} {a0 : Nat} {x1 : Int32} {x2 : Int32}  : zv 3 59 23 [.ref a0, .int x1, .int x2] [] h = zv 3 59 4 [.ref a0, .int x1, .int (x2 + 1)] [] h := by
  refine Eq.trans (zs_inc f59_23 rfl ic_1 rfl) ?_
  refine Eq.trans (zs_goto (tgt := 4) f59_26 rfl) ?_
  rfl
theorem b59_29 {h : zi_Hp} {a0 : Nat} {x1 : Int32} {x2 : Int32}  : zv 3 59 29 [.ref a0, .int x1, .int x2] [] h = some (some (.int x1), h) := by
  refine Eq.trans (zv_next f59_29 rfl) ?_
  exact zs_ret0 f59_30
set_option maxRecDepth 20000 in
theorem zq60 : zi_M[60]? = some zi_m60 := rfl
theorem zl60_0 {pc : Nat} (_ : 0 ≤ pc) : zi_fe 60 pc = zu60_0.lookup pc := zi_feA zq60 pc
theorem f60_0 : zi_fe 60 0 = some ((.iconst 0), 1, 0, 0, 0, 0, 0) := (zl60_0 (Nat.le_of_ble_eq_true rfl)).trans rfl
theorem f60_1 : zi_fe 60 1 = some ((.istore_n 1), 1, 0, 0, 0, 0, 0) := (zl60_0 (Nat.le_of_ble_eq_true rfl)).trans rfl
theorem f60_2 : zi_fe 60 2 = some ((.iconst 0), 1, 0, 0, 0, 0, 0) := (zl60_0 (Nat.le_of_ble_eq_true rfl)).trans rfl
theorem f60_3 : zi_fe 60 3 = some ((.istore_n 2), 1, 0, 0, 0, 0, 0) := (zl60_0 (Nat.le_of_ble_eq_true rfl)).trans rfl
theorem f60_4 : zi_fe 60 4 = some ((.iload_n 2), 1, 0, 0, 0, 0, 0) := (zl60_0 (Nat.le_of_ble_eq_true rfl)).trans rfl
theorem f60_5 : zi_fe 60 5 = some ((.aload_n 0), 1, 0, 0, 0, 0, 0) := (zl60_0 (Nat.le_of_ble_eq_true rfl)).trans rfl
theorem f60_6 : zi_fe 60 6 = some ((.getfield 37), 3, 4, 0, 0, 137, 0) := (zl60_0 (Nat.le_of_ble_eq_true rfl)).trans rfl
theorem f60_9 : zi_fe 60 9 = some ((.if_icmp .ge 20), 3, 0, 0, 0, 0, 0) := (zl60_0 (Nat.le_of_ble_eq_true rfl)).trans rfl
theorem f60_12 : zi_fe 60 12 = some ((.aload_n 0), 1, 0, 0, 0, 0, 0) := (zl60_0 (Nat.le_of_ble_eq_true rfl)).trans rfl
theorem f60_13 : zi_fe 60 13 = some ((.iload_n 2), 1, 0, 0, 0, 0, 0) := (zl60_0 (Nat.le_of_ble_eq_true rfl)).trans rfl
theorem f60_14 : zi_fe 60 14 = some ((.invokevirtual 77), 3, 42, 0, 4, 954, 2) := (zl60_0 (Nat.le_of_ble_eq_true rfl)).trans rfl
theorem f60_17 : zi_fe 60 17 = some ((.ifCond .ne 6), 3, 0, 0, 0, 0, 0) := (zl60_0 (Nat.le_of_ble_eq_true rfl)).trans rfl
theorem zl60_1 {pc : Nat} (h : 20 ≤ pc) : zi_fe 60 pc = zu60_1.lookup pc := (zl60_0 (Nat.le_trans (Nat.le_of_ble_eq_true rfl) h)).trans (zi_lkA (a := zi_i60_0) (c := 20) rfl h)
theorem f60_20 : zi_fe 60 20 = some ((.iinc 1 1), 3, 0, 0, 0, 0, 0) := (zl60_1 (Nat.le_of_ble_eq_true rfl)).trans rfl
theorem f60_23 : zi_fe 60 23 = some ((.iinc 2 1), 3, 0, 0, 0, 0, 0) := (zl60_1 (Nat.le_of_ble_eq_true rfl)).trans rfl
theorem f60_26 : zi_fe 60 26 = some ((.goto (-22)), 3, 0, 0, 0, 0, 0) := (zl60_1 (Nat.le_of_ble_eq_true rfl)).trans rfl
theorem f60_29 : zi_fe 60 29 = some ((.iload_n 1), 1, 0, 0, 0, 0, 0) := (zl60_1 (Nat.le_of_ble_eq_true rfl)).trans rfl
theorem f60_30 : zi_fe 60 30 = some (.ireturn, 1, 0, 0, 0, 0, 0) := (zl60_1 (Nat.le_of_ble_eq_true rfl)).trans rfl
theorem b60_0 {h : zi_Hp} {a0 : Nat} {u1 : Value} {u2 : Value}  : zv 3 60 0 [.ref a0, u1, u2] [] h = zv 3 60 4 [.ref a0, .int 0, .int 0] [] h := by
  refine Eq.trans (zs_ic f60_0 ic_0) ?_
  refine Eq.trans (zv_next f60_1 rfl) ?_
  refine Eq.trans (zs_ic f60_2 ic_0) ?_
  refine Eq.trans (zv_next f60_3 rfl) ?_
  rfl
theorem b60_4 {h : zi_Hp} {a0 : Nat} {x1 : Int32} {x2 : Int32} (g0 : a0 < zh_n h) (g1 : (zh_k h a0).1 = 4) : zv 3 60 4 [.ref a0, .int x1, .int x2] [] h = if x2 < (zh_i h a0 0) then zv 3 60 12 [.ref a0, .int x1, .int x2] [] h else zv 3 60 29 [.ref a0, .int x1, .int x2] [] h := by
  refine Eq.trans (zv_next f60_4 rfl) ?_
  refine Eq.trans (zv_next f60_5 rfl) ?_
  refine Eq.trans (zs_geti f60_6 g0 g1) ?_
  exact zs_icmp f60_9 rfl
theorem b60_12 {h : zi_Hp} {a0 : Nat} {x1 : Int32} {x2 : Int32} (g0 : a0 < zh_n h) (g1 : (zh_k h a0).1 = 4) : zv 3 60 12 [.ref a0, .int x1, .int x2] [] h = (zv 2 42 0 [.ref a0, .int x2] [] h).bind fun r => zv 3 60 17 [.ref a0, .int x1, .int x2] (r.1.toList ++ []) r.2 := by
  refine Eq.trans (zv_next f60_12 rfl) ?_
  refine Eq.trans (zv_next f60_13 rfl) ?_
  exact zs_callV f60_14 (Nat.le_of_ble_eq_true rfl) (Nat.le_of_ble_eq_true rfl) rfl g0 g1 me_42 (by decide) rfl
theorem b60_17 {h : zi_Hp} {a0 : Nat} {x1 : Int32} {x2 : Int32} {s0 : Int32}  : zv 3 60 17 [.ref a0, .int x1, .int x2] [.int s0] h = if s0 = 0 then zv 3 60 20 [.ref a0, .int x1, .int x2] [] h else zv 3 60 23 [.ref a0, .int x1, .int x2] [] h := by
  exact zs_if f60_17 rfl
theorem b60_20 {h : zi_Hp} {a0 : Nat} {x1 : Int32} {x2 : Int32}  : zv 3 60 20 [.ref a0, .int x1, .int x2] [] h = zv 3 60 23 [.ref a0, .int (x1 + 1), .int x2] [] h := by
  refine Eq.trans (zs_inc f60_20 rfl ic_1 rfl) ?_
  rfl
theorem b60_23 {h : zi_Hp} {a0 : Nat} {x1 : Int32} {x2 : Int32}  : zv 3 60 23 [.ref a0, .int x1, .int x2] [] h = zv 3 60 4 [.ref a0, .int x1, .int (x2 + 1)] [] h := by
  refine Eq.trans (zs_inc f60_23 rfl ic_1 rfl) ?_
  refine Eq.trans (zs_goto (tgt := 4) f60_26 rfl) ?_
  rfl
theorem b60_29 {h : zi_Hp} {a0 : Nat} {x1 : Int32} {x2 : Int32}  : zv 3 60 29 [.ref a0, .int x1, .int x2] [] h = some (some (.int x1), h) := by
  refine Eq.trans (zv_next f60_29 rfl) ?_
  exact zs_ret0 f60_30
set_option maxRecDepth 20000 in
theorem zq61 : zi_M[61]? = some zi_m61 := rfl
theorem zl61_0 {pc : Nat} (_ : 0 ≤ pc) : zi_fe 61 pc = zu61_0.lookup pc := zi_feA zq61 pc
theorem f61_0 : zi_fe 61 0 = some ((.iconst 0), 1, 0, 0, 0, 0, 0) := (zl61_0 (Nat.le_of_ble_eq_true rfl)).trans rfl
theorem f61_1 : zi_fe 61 1 = some ((.istore_n 1), 1, 0, 0, 0, 0, 0) := (zl61_0 (Nat.le_of_ble_eq_true rfl)).trans rfl
theorem f61_2 : zi_fe 61 2 = some ((.iconst 0), 1, 0, 0, 0, 0, 0) := (zl61_0 (Nat.le_of_ble_eq_true rfl)).trans rfl
theorem f61_3 : zi_fe 61 3 = some ((.istore_n 2), 1, 0, 0, 0, 0, 0) := (zl61_0 (Nat.le_of_ble_eq_true rfl)).trans rfl
theorem f61_4 : zi_fe 61 4 = some ((.iload_n 2), 1, 0, 0, 0, 0, 0) := (zl61_0 (Nat.le_of_ble_eq_true rfl)).trans rfl
theorem f61_5 : zi_fe 61 5 = some ((.aload_n 0), 1, 0, 0, 0, 0, 0) := (zl61_0 (Nat.le_of_ble_eq_true rfl)).trans rfl
theorem f61_6 : zi_fe 61 6 = some ((.getfield 37), 3, 4, 0, 0, 137, 0) := (zl61_0 (Nat.le_of_ble_eq_true rfl)).trans rfl
theorem f61_9 : zi_fe 61 9 = some ((.if_icmp .ge 33), 3, 0, 0, 0, 0, 0) := (zl61_0 (Nat.le_of_ble_eq_true rfl)).trans rfl
theorem f61_12 : zi_fe 61 12 = some ((.iload_n 2), 1, 0, 0, 0, 0, 0) := (zl61_0 (Nat.le_of_ble_eq_true rfl)).trans rfl
theorem f61_13 : zi_fe 61 13 = some ((.bipush 24), 2, 0, 0, 0, 0, 0) := (zl61_0 (Nat.le_of_ble_eq_true rfl)).trans rfl
theorem f61_15 : zi_fe 61 15 = some ((.if_icmp .ge 27), 3, 0, 0, 0, 0, 0) := (zl61_0 (Nat.le_of_ble_eq_true rfl)).trans rfl
theorem f61_18 : zi_fe 61 18 = some ((.aload_n 0), 1, 0, 0, 0, 0, 0) := (zl61_0 (Nat.le_of_ble_eq_true rfl)).trans rfl
theorem zl61_1 {pc : Nat} (h : 19 ≤ pc) : zi_fe 61 pc = zu61_1.lookup pc := (zl61_0 (Nat.le_trans (Nat.le_of_ble_eq_true rfl) h)).trans (zi_lkA (a := zi_i61_0) (c := 19) rfl h)
theorem f61_19 : zi_fe 61 19 = some ((.getfield 9), 3, 4, 3, 3, 147, 0) := (zl61_1 (Nat.le_of_ble_eq_true rfl)).trans rfl
theorem f61_22 : zi_fe 61 22 = some ((.iload_n 2), 1, 0, 0, 0, 0, 0) := (zl61_1 (Nat.le_of_ble_eq_true rfl)).trans rfl
theorem f61_23 : zi_fe 61 23 = some (.iaload, 1, 0, 0, 0, 0, 0) := (zl61_1 (Nat.le_of_ble_eq_true rfl)).trans rfl
theorem f61_24 : zi_fe 61 24 = some ((.ifCond .le 12), 3, 0, 0, 0, 0, 0) := (zl61_1 (Nat.le_of_ble_eq_true rfl)).trans rfl
theorem f61_27 : zi_fe 61 27 = some ((.iload_n 1), 1, 0, 0, 0, 0, 0) := (zl61_1 (Nat.le_of_ble_eq_true rfl)).trans rfl
theorem f61_28 : zi_fe 61 28 = some ((.aload_n 0), 1, 0, 0, 0, 0, 0) := (zl61_1 (Nat.le_of_ble_eq_true rfl)).trans rfl
theorem f61_29 : zi_fe 61 29 = some ((.getfield 15), 3, 4, 4, 3, 149, 0) := (zl61_1 (Nat.le_of_ble_eq_true rfl)).trans rfl
theorem f61_32 : zi_fe 61 32 = some ((.iload_n 2), 1, 0, 0, 0, 0, 0) := (zl61_1 (Nat.le_of_ble_eq_true rfl)).trans rfl
theorem f61_33 : zi_fe 61 33 = some (.iaload, 1, 0, 0, 0, 0, 0) := (zl61_1 (Nat.le_of_ble_eq_true rfl)).trans rfl
theorem f61_34 : zi_fe 61 34 = some (.iadd, 1, 0, 0, 0, 0, 0) := (zl61_1 (Nat.le_of_ble_eq_true rfl)).trans rfl
theorem f61_35 : zi_fe 61 35 = some ((.istore_n 1), 1, 0, 0, 0, 0, 0) := (zl61_1 (Nat.le_of_ble_eq_true rfl)).trans rfl
theorem f61_36 : zi_fe 61 36 = some ((.iinc 2 1), 3, 0, 0, 0, 0, 0) := (zl61_1 (Nat.le_of_ble_eq_true rfl)).trans rfl
theorem zl61_2 {pc : Nat} (h : 39 ≤ pc) : zi_fe 61 pc = zu61_2.lookup pc := (zl61_1 (Nat.le_trans (Nat.le_of_ble_eq_true rfl) h)).trans (zi_lkA (a := zi_i61_1) (c := 39) rfl h)
theorem f61_39 : zi_fe 61 39 = some ((.goto (-35)), 3, 0, 0, 0, 0, 0) := (zl61_2 (Nat.le_of_ble_eq_true rfl)).trans rfl
theorem f61_42 : zi_fe 61 42 = some ((.iload_n 1), 1, 0, 0, 0, 0, 0) := (zl61_2 (Nat.le_of_ble_eq_true rfl)).trans rfl
theorem f61_43 : zi_fe 61 43 = some (.ireturn, 1, 0, 0, 0, 0, 0) := (zl61_2 (Nat.le_of_ble_eq_true rfl)).trans rfl
theorem b61_0 {h : zi_Hp} {a0 : Nat} {u1 : Value} {u2 : Value}  : zv 1 61 0 [.ref a0, u1, u2] [] h = zv 1 61 4 [.ref a0, .int 0, .int 0] [] h := by
  refine Eq.trans (zs_ic f61_0 ic_0) ?_
  refine Eq.trans (zv_next f61_1 rfl) ?_
  refine Eq.trans (zs_ic f61_2 ic_0) ?_
  refine Eq.trans (zv_next f61_3 rfl) ?_
  rfl
theorem b61_4 {h : zi_Hp} {a0 : Nat} {x1 : Int32} {x2 : Int32} (g0 : a0 < zh_n h) (g1 : (zh_k h a0).1 = 4) : zv 1 61 4 [.ref a0, .int x1, .int x2] [] h = if x2 < (zh_i h a0 0) then zv 1 61 12 [.ref a0, .int x1, .int x2] [] h else zv 1 61 42 [.ref a0, .int x1, .int x2] [] h := by
  refine Eq.trans (zv_next f61_4 rfl) ?_
  refine Eq.trans (zv_next f61_5 rfl) ?_
  refine Eq.trans (zs_geti f61_6 g0 g1) ?_
  exact zs_icmp f61_9 rfl
theorem b61_12 {h : zi_Hp} {a0 : Nat} {x1 : Int32} {x2 : Int32}  : zv 1 61 12 [.ref a0, .int x1, .int x2] [] h = if x2 < 24 then zv 1 61 18 [.ref a0, .int x1, .int x2] [] h else zv 1 61 42 [.ref a0, .int x1, .int x2] [] h := by
  refine Eq.trans (zv_next f61_12 rfl) ?_
  refine Eq.trans (zs_bp f61_13 bp_24) ?_
  exact zs_icmp f61_15 rfl
theorem b61_18 {h : zi_Hp} {a0 : Nat} {x1 : Int32} {x2 : Int32} (g0 : a0 < zh_n h) (g1 : (zh_k h a0).1 = 4) (g2 : zh_r h a0 3 = .ref (zq (zh_r h a0 3))) (g3 : (zq (zh_r h a0 3)) < zh_n h) (g4 : ¬ (x2 < 0 ∨ (zh_k h (zq (zh_r h a0 3))).2 ≤ x2.toNatClampNeg)) (g5 : (zh_k h (zq (zh_r h a0 3))).1 = 100) : zv 1 61 18 [.ref a0, .int x1, .int x2] [] h = if 0 < (zh_i h (zq (zh_r h a0 3)) x2.toNatClampNeg) then zv 1 61 27 [.ref a0, .int x1, .int x2] [] h else zv 1 61 36 [.ref a0, .int x1, .int x2] [] h := by
  refine Eq.trans (zv_next f61_18 rfl) ?_
  refine Eq.trans (zs_getr f61_19 g0 g1 g2) ?_
  refine Eq.trans (zv_next f61_22 rfl) ?_
  refine Eq.trans (zs_iald f61_23 g3 g5 g4) ?_
  exact zs_if f61_24 rfl
theorem b61_27 {h : zi_Hp} {a0 : Nat} {x1 : Int32} {x2 : Int32} (g0 : a0 < zh_n h) (g1 : (zh_k h a0).1 = 4) (g2 : zh_r h a0 4 = .ref (zq (zh_r h a0 4))) (g3 : (zq (zh_r h a0 4)) < zh_n h) (g4 : ¬ (x2 < 0 ∨ (zh_k h (zq (zh_r h a0 4))).2 ≤ x2.toNatClampNeg)) (g5 : (zh_k h (zq (zh_r h a0 4))).1 = 100) : zv 1 61 27 [.ref a0, .int x1, .int x2] [] h = zv 1 61 36 [.ref a0, .int (x1 + (zh_i h (zq (zh_r h a0 4)) x2.toNatClampNeg)), .int x2] [] h := by
  refine Eq.trans (zv_next f61_27 rfl) ?_
  refine Eq.trans (zv_next f61_28 rfl) ?_
  refine Eq.trans (zs_getr f61_29 g0 g1 g2) ?_
  refine Eq.trans (zv_next f61_32 rfl) ?_
  refine Eq.trans (zs_iald f61_33 g3 g5 g4) ?_
  refine Eq.trans (zv_next f61_34 rfl) ?_
  refine Eq.trans (zv_next f61_35 rfl) ?_
  rfl
theorem b61_36 {h : zi_Hp} {a0 : Nat} {x1 : Int32} {x2 : Int32}  : zv 1 61 36 [.ref a0, .int x1, .int x2] [] h = zv 1 61 4 [.ref a0, .int x1, .int (x2 + 1)] [] h := by
  refine Eq.trans (zs_inc f61_36 rfl ic_1 rfl) ?_
  refine Eq.trans (zs_goto (tgt := 4) f61_39 rfl) ?_
  rfl
theorem b61_42 {h : zi_Hp} {a0 : Nat} {x1 : Int32} {x2 : Int32}  : zv 1 61 42 [.ref a0, .int x1, .int x2] [] h = some (some (.int x1), h) := by
  refine Eq.trans (zv_next f61_42 rfl) ?_
  exact zs_ret0 f61_43
set_option maxRecDepth 20000 in
theorem zq62 : zi_M[62]? = some zi_m62 := rfl
theorem zl62_0 {pc : Nat} (_ : 0 ≤ pc) : zi_fe 62 pc = zu62_0.lookup pc := zi_feA zq62 pc
theorem f62_0 : zi_fe 62 0 = some ((.iconst 0), 1, 0, 0, 0, 0, 0) := (zl62_0 (Nat.le_of_ble_eq_true rfl)).trans rfl
theorem f62_1 : zi_fe 62 1 = some ((.istore_n 1), 1, 0, 0, 0, 0, 0) := (zl62_0 (Nat.le_of_ble_eq_true rfl)).trans rfl
theorem f62_2 : zi_fe 62 2 = some ((.iconst 0), 1, 0, 0, 0, 0, 0) := (zl62_0 (Nat.le_of_ble_eq_true rfl)).trans rfl
theorem f62_3 : zi_fe 62 3 = some ((.istore_n 2), 1, 0, 0, 0, 0, 0) := (zl62_0 (Nat.le_of_ble_eq_true rfl)).trans rfl
theorem f62_4 : zi_fe 62 4 = some ((.iload_n 2), 1, 0, 0, 0, 0, 0) := (zl62_0 (Nat.le_of_ble_eq_true rfl)).trans rfl
theorem f62_5 : zi_fe 62 5 = some ((.aload_n 0), 1, 0, 0, 0, 0, 0) := (zl62_0 (Nat.le_of_ble_eq_true rfl)).trans rfl
theorem f62_6 : zi_fe 62 6 = some ((.getfield 37), 3, 4, 0, 0, 137, 0) := (zl62_0 (Nat.le_of_ble_eq_true rfl)).trans rfl
theorem f62_9 : zi_fe 62 9 = some ((.if_icmp .ge 26), 3, 0, 0, 0, 0, 0) := (zl62_0 (Nat.le_of_ble_eq_true rfl)).trans rfl
theorem f62_12 : zi_fe 62 12 = some ((.iload_n 2), 1, 0, 0, 0, 0, 0) := (zl62_0 (Nat.le_of_ble_eq_true rfl)).trans rfl
theorem f62_13 : zi_fe 62 13 = some ((.bipush 24), 2, 0, 0, 0, 0, 0) := (zl62_0 (Nat.le_of_ble_eq_true rfl)).trans rfl
theorem f62_15 : zi_fe 62 15 = some ((.if_icmp .ge 20), 3, 0, 0, 0, 0, 0) := (zl62_0 (Nat.le_of_ble_eq_true rfl)).trans rfl
theorem f62_18 : zi_fe 62 18 = some ((.iload_n 1), 1, 0, 0, 0, 0, 0) := (zl62_0 (Nat.le_of_ble_eq_true rfl)).trans rfl
theorem zl62_1 {pc : Nat} (h : 19 ≤ pc) : zi_fe 62 pc = zu62_1.lookup pc := (zl62_0 (Nat.le_trans (Nat.le_of_ble_eq_true rfl) h)).trans (zi_lkA (a := zi_i62_0) (c := 19) rfl h)
theorem f62_19 : zi_fe 62 19 = some ((.aload_n 0), 1, 0, 0, 0, 0, 0) := (zl62_1 (Nat.le_of_ble_eq_true rfl)).trans rfl
theorem f62_20 : zi_fe 62 20 = some ((.getfield 15), 3, 4, 4, 3, 149, 0) := (zl62_1 (Nat.le_of_ble_eq_true rfl)).trans rfl
theorem f62_23 : zi_fe 62 23 = some ((.iload_n 2), 1, 0, 0, 0, 0, 0) := (zl62_1 (Nat.le_of_ble_eq_true rfl)).trans rfl
theorem f62_24 : zi_fe 62 24 = some (.iaload, 1, 0, 0, 0, 0, 0) := (zl62_1 (Nat.le_of_ble_eq_true rfl)).trans rfl
theorem f62_25 : zi_fe 62 25 = some ((.invokestatic 80), 3, 0, 9, 0, 844, 2) := (zl62_1 (Nat.le_of_ble_eq_true rfl)).trans rfl
theorem f62_28 : zi_fe 62 28 = some ((.istore_n 1), 1, 0, 0, 0, 0, 0) := (zl62_1 (Nat.le_of_ble_eq_true rfl)).trans rfl
theorem f62_29 : zi_fe 62 29 = some ((.iinc 2 1), 3, 0, 0, 0, 0, 0) := (zl62_1 (Nat.le_of_ble_eq_true rfl)).trans rfl
theorem f62_32 : zi_fe 62 32 = some ((.goto (-28)), 3, 0, 0, 0, 0, 0) := (zl62_1 (Nat.le_of_ble_eq_true rfl)).trans rfl
theorem f62_35 : zi_fe 62 35 = some ((.iload_n 1), 1, 0, 0, 0, 0, 0) := (zl62_1 (Nat.le_of_ble_eq_true rfl)).trans rfl
theorem f62_36 : zi_fe 62 36 = some (.ireturn, 1, 0, 0, 0, 0, 0) := (zl62_1 (Nat.le_of_ble_eq_true rfl)).trans rfl
theorem b62_0 {h : zi_Hp} {a0 : Nat} {u1 : Value} {u2 : Value}  : zv 1 62 0 [.ref a0, u1, u2] [] h = zv 1 62 4 [.ref a0, .int 0, .int 0] [] h := by
  refine Eq.trans (zs_ic f62_0 ic_0) ?_
  refine Eq.trans (zv_next f62_1 rfl) ?_
  refine Eq.trans (zs_ic f62_2 ic_0) ?_
  refine Eq.trans (zv_next f62_3 rfl) ?_
  rfl
theorem b62_4 {h : zi_Hp} {a0 : Nat} {x1 : Int32} {x2 : Int32} (g0 : a0 < zh_n h) (g1 : (zh_k h a0).1 = 4) : zv 1 62 4 [.ref a0, .int x1, .int x2] [] h = if x2 < (zh_i h a0 0) then zv 1 62 12 [.ref a0, .int x1, .int x2] [] h else zv 1 62 35 [.ref a0, .int x1, .int x2] [] h := by
  refine Eq.trans (zv_next f62_4 rfl) ?_
  refine Eq.trans (zv_next f62_5 rfl) ?_
  refine Eq.trans (zs_geti f62_6 g0 g1) ?_
  exact zs_icmp f62_9 rfl
theorem b62_12 {h : zi_Hp} {a0 : Nat} {x1 : Int32} {x2 : Int32}  : zv 1 62 12 [.ref a0, .int x1, .int x2] [] h = if x2 < 24 then zv 1 62 18 [.ref a0, .int x1, .int x2] [] h else zv 1 62 35 [.ref a0, .int x1, .int x2] [] h := by
  refine Eq.trans (zv_next f62_12 rfl) ?_
  refine Eq.trans (zs_bp f62_13 bp_24) ?_
  exact zs_icmp f62_15 rfl
theorem b62_18 {h : zi_Hp} {a0 : Nat} {x1 : Int32} {x2 : Int32} (g0 : a0 < zh_n h) (g1 : (zh_k h a0).1 = 4) (g2 : zh_r h a0 4 = .ref (zq (zh_r h a0 4))) (g3 : (zq (zh_r h a0 4)) < zh_n h) (g4 : ¬ (x2 < 0 ∨ (zh_k h (zq (zh_r h a0 4))).2 ≤ x2.toNatClampNeg)) (g5 : (zh_k h (zq (zh_r h a0 4))).1 = 100) : zv 1 62 18 [.ref a0, .int x1, .int x2] [] h = zv 1 62 4 [.ref a0, .int (if x1 < (zh_i h (zq (zh_r h a0 4)) x2.toNatClampNeg) then (zh_i h (zq (zh_r h a0 4)) x2.toNatClampNeg) else x1), .int (x2 + 1)] [] h := by
  refine Eq.trans (zv_next f62_18 rfl) ?_
  refine Eq.trans (zv_next f62_19 rfl) ?_
  refine Eq.trans (zs_getr f62_20 g0 g1 g2) ?_
  refine Eq.trans (zv_next f62_23 rfl) ?_
  refine Eq.trans (zs_iald f62_24 g3 g5 g4) ?_
  refine Eq.trans (zs_max f62_25 (Nat.le_of_ble_eq_true rfl)) ?_
  refine Eq.trans (zv_next f62_28 rfl) ?_
  refine Eq.trans (zs_inc f62_29 rfl ic_1 rfl) ?_
  refine Eq.trans (zs_goto (tgt := 4) f62_32 rfl) ?_
  rfl
theorem b62_35 {h : zi_Hp} {a0 : Nat} {x1 : Int32} {x2 : Int32}  : zv 1 62 35 [.ref a0, .int x1, .int x2] [] h = some (some (.int x1), h) := by
  refine Eq.trans (zv_next f62_35 rfl) ?_
  exact zs_ret0 f62_36
set_option maxRecDepth 20000 in
theorem zq63 : zi_M[63]? = some zi_m63 := rfl
theorem zl63_0 {pc : Nat} (_ : 0 ≤ pc) : zi_fe 63 pc = zu63_0.lookup pc := zi_feA zq63 pc
theorem f63_0 : zi_fe 63 0 = some ((.iload_n 1), 1, 0, 0, 0, 0, 0) := (zl63_0 (Nat.le_of_ble_eq_true rfl)).trans rfl
theorem f63_1 : zi_fe 63 1 = some ((.bipush 24), 2, 0, 0, 0, 0, 0) := (zl63_0 (Nat.le_of_ble_eq_true rfl)).trans rfl
theorem f63_3 : zi_fe 63 3 = some ((.if_icmp .lt 6), 3, 0, 0, 0, 0, 0) := (zl63_0 (Nat.le_of_ble_eq_true rfl)).trans rfl
theorem f63_6 : zi_fe 63 6 = some ((.bipush (-4)), 2, 0, 0, 0, 0, 0) := (zl63_0 (Nat.le_of_ble_eq_true rfl)).trans rfl
theorem f63_8 : zi_fe 63 8 = some (.ireturn, 1, 0, 0, 0, 0, 0) := (zl63_0 (Nat.le_of_ble_eq_true rfl)).trans rfl
theorem f63_9 : zi_fe 63 9 = some ((.iconst 0), 1, 0, 0, 0, 0, 0) := (zl63_0 (Nat.le_of_ble_eq_true rfl)).trans rfl
theorem f63_10 : zi_fe 63 10 = some ((.istore_n 2), 1, 0, 0, 0, 0, 0) := (zl63_0 (Nat.le_of_ble_eq_true rfl)).trans rfl
theorem f63_11 : zi_fe 63 11 = some ((.iconst 0), 1, 0, 0, 0, 0, 0) := (zl63_0 (Nat.le_of_ble_eq_true rfl)).trans rfl
theorem f63_12 : zi_fe 63 12 = some ((.istore_n 3), 1, 0, 0, 0, 0, 0) := (zl63_0 (Nat.le_of_ble_eq_true rfl)).trans rfl
theorem f63_13 : zi_fe 63 13 = some ((.iload_n 3), 1, 0, 0, 0, 0, 0) := (zl63_0 (Nat.le_of_ble_eq_true rfl)).trans rfl
theorem f63_14 : zi_fe 63 14 = some ((.iload_n 1), 1, 0, 0, 0, 0, 0) := (zl63_0 (Nat.le_of_ble_eq_true rfl)).trans rfl
theorem f63_15 : zi_fe 63 15 = some ((.if_icmp .ge 19), 3, 0, 0, 0, 0, 0) := (zl63_0 (Nat.le_of_ble_eq_true rfl)).trans rfl
theorem zl63_1 {pc : Nat} (h : 18 ≤ pc) : zi_fe 63 pc = zu63_1.lookup pc := (zl63_0 (Nat.le_trans (Nat.le_of_ble_eq_true rfl) h)).trans (zi_lkA (a := zi_i63_0) (c := 18) rfl h)
theorem f63_18 : zi_fe 63 18 = some ((.iload_n 2), 1, 0, 0, 0, 0, 0) := (zl63_1 (Nat.le_of_ble_eq_true rfl)).trans rfl
theorem f63_19 : zi_fe 63 19 = some ((.ifCond .lt 15), 3, 0, 0, 0, 0, 0) := (zl63_1 (Nat.le_of_ble_eq_true rfl)).trans rfl
theorem f63_22 : zi_fe 63 22 = some ((.aload_n 0), 1, 0, 0, 0, 0, 0) := (zl63_1 (Nat.le_of_ble_eq_true rfl)).trans rfl
theorem f63_23 : zi_fe 63 23 = some ((.iload_n 2), 1, 0, 0, 0, 0, 0) := (zl63_1 (Nat.le_of_ble_eq_true rfl)).trans rfl
theorem f63_24 : zi_fe 63 24 = some ((.invokevirtual 85), 3, 44, 0, 4, 948, 2) := (zl63_1 (Nat.le_of_ble_eq_true rfl)).trans rfl
theorem f63_27 : zi_fe 63 27 = some ((.istore_n 2), 1, 0, 0, 0, 0, 0) := (zl63_1 (Nat.le_of_ble_eq_true rfl)).trans rfl
theorem f63_28 : zi_fe 63 28 = some ((.iinc 3 1), 3, 0, 0, 0, 0, 0) := (zl63_1 (Nat.le_of_ble_eq_true rfl)).trans rfl
theorem f63_31 : zi_fe 63 31 = some ((.goto (-18)), 3, 0, 0, 0, 0, 0) := (zl63_1 (Nat.le_of_ble_eq_true rfl)).trans rfl
theorem f63_34 : zi_fe 63 34 = some ((.iload_n 2), 1, 0, 0, 0, 0, 0) := (zl63_1 (Nat.le_of_ble_eq_true rfl)).trans rfl
theorem f63_35 : zi_fe 63 35 = some (.ireturn, 1, 0, 0, 0, 0, 0) := (zl63_1 (Nat.le_of_ble_eq_true rfl)).trans rfl
theorem b63_0 {h : zi_Hp} {a0 : Nat} {x1 : Int32} {u2 : Value} {u3 : Value}  : zv 3 63 0 [.ref a0, .int x1, u2, u3] [] h = if x1 < 24 then zv 3 63 9 [.ref a0, .int x1, u2, u3] [] h else zv 3 63 6 [.ref a0, .int x1, u2, u3] [] h := by
  refine Eq.trans (zv_next f63_0 rfl) ?_
  refine Eq.trans (zs_bp f63_1 bp_24) ?_
  exact zs_icmp f63_3 rfl
theorem b63_6 {h : zi_Hp} {a0 : Nat} {x1 : Int32} {u2 : Value} {u3 : Value}  : zv 3 63 6 [.ref a0, .int x1, u2, u3] [] h = some (some (.int (-4)), h) := by
  refine Eq.trans (zs_bp f63_6 bp_m4) ?_
  exact zs_ret0 f63_8
theorem b63_9 {h : zi_Hp} {a0 : Nat} {x1 : Int32} {u2 : Value} {u3 : Value}  : zv 3 63 9 [.ref a0, .int x1, u2, u3] [] h = zv 3 63 13 [.ref a0, .int x1, .int 0, .int 0] [] h := by
  refine Eq.trans (zs_ic f63_9 ic_0) ?_
  refine Eq.trans (zv_next f63_10 rfl) ?_
  refine Eq.trans (zs_ic f63_11 ic_0) ?_
  refine Eq.trans (zv_next f63_12 rfl) ?_
  rfl
theorem b63_13 {h : zi_Hp} {a0 : Nat} {x1 : Int32} {x2 : Int32} {x3 : Int32}  : zv 3 63 13 [.ref a0, .int x1, .int x2, .int x3] [] h = if x3 < x1 then zv 3 63 18 [.ref a0, .int x1, .int x2, .int x3] [] h else zv 3 63 34 [.ref a0, .int x1, .int x2, .int x3] [] h := by
  refine Eq.trans (zv_next f63_13 rfl) ?_
  refine Eq.trans (zv_next f63_14 rfl) ?_
  exact zs_icmp f63_15 rfl
theorem b63_18 {h : zi_Hp} {a0 : Nat} {x1 : Int32} {x2 : Int32} {x3 : Int32}  : zv 3 63 18 [.ref a0, .int x1, .int x2, .int x3] [] h = if x2 < 0 then zv 3 63 34 [.ref a0, .int x1, .int x2, .int x3] [] h else zv 3 63 22 [.ref a0, .int x1, .int x2, .int x3] [] h := by
  refine Eq.trans (zv_next f63_18 rfl) ?_
  exact zs_if f63_19 rfl
theorem b63_22 {h : zi_Hp} {a0 : Nat} {x1 : Int32} {x2 : Int32} {x3 : Int32} (g0 : a0 < zh_n h) (g1 : (zh_k h a0).1 = 4) : zv 3 63 22 [.ref a0, .int x1, .int x2, .int x3] [] h = (zv 2 44 0 [.ref a0, .int x2] [] h).bind fun r => zv 3 63 27 [.ref a0, .int x1, .int x2, .int x3] (r.1.toList ++ []) r.2 := by
  refine Eq.trans (zv_next f63_22 rfl) ?_
  refine Eq.trans (zv_next f63_23 rfl) ?_
  exact zs_callV f63_24 (Nat.le_of_ble_eq_true rfl) (Nat.le_of_ble_eq_true rfl) rfl g0 g1 me_44 (by decide) rfl
theorem b63_27 {h : zi_Hp} {a0 : Nat} {x1 : Int32} {x2 : Int32} {x3 : Int32} {s0 : Int32}  : zv 3 63 27 [.ref a0, .int x1, .int x2, .int x3] [.int s0] h = zv 3 63 13 [.ref a0, .int x1, .int s0, .int (x3 + 1)] [] h := by
  refine Eq.trans (zv_next f63_27 rfl) ?_
  refine Eq.trans (zs_inc f63_28 rfl ic_1 rfl) ?_
  refine Eq.trans (zs_goto (tgt := 13) f63_31 rfl) ?_
  rfl
theorem b63_34 {h : zi_Hp} {a0 : Nat} {x1 : Int32} {x2 : Int32} {x3 : Int32}  : zv 3 63 34 [.ref a0, .int x1, .int x2, .int x3] [] h = some (some (.int x2), h) := by
  refine Eq.trans (zv_next f63_34 rfl) ?_
  exact zs_ret0 f63_35
set_option maxRecDepth 20000 in
theorem zq64 : zi_M[64]? = some zi_m64 := rfl
theorem zl64_0 {pc : Nat} (_ : 0 ≤ pc) : zi_fe 64 pc = zu64_0.lookup pc := zi_feA zq64 pc
theorem f64_0 : zi_fe 64 0 = some ((.iconst 0), 1, 0, 0, 0, 0, 0) := (zl64_0 (Nat.le_of_ble_eq_true rfl)).trans rfl
theorem f64_1 : zi_fe 64 1 = some ((.istore_n 1), 1, 0, 0, 0, 0, 0) := (zl64_0 (Nat.le_of_ble_eq_true rfl)).trans rfl
theorem f64_2 : zi_fe 64 2 = some ((.iload_n 1), 1, 0, 0, 0, 0, 0) := (zl64_0 (Nat.le_of_ble_eq_true rfl)).trans rfl
theorem f64_3 : zi_fe 64 3 = some ((.aload_n 0), 1, 0, 0, 0, 0, 0) := (zl64_0 (Nat.le_of_ble_eq_true rfl)).trans rfl
theorem f64_4 : zi_fe 64 4 = some ((.getfield 37), 3, 4, 0, 0, 137, 0) := (zl64_0 (Nat.le_of_ble_eq_true rfl)).trans rfl
theorem f64_7 : zi_fe 64 7 = some ((.if_icmp .ge 52), 3, 0, 0, 0, 0, 0) := (zl64_0 (Nat.le_of_ble_eq_true rfl)).trans rfl
theorem f64_10 : zi_fe 64 10 = some ((.iload_n 1), 1, 0, 0, 0, 0, 0) := (zl64_0 (Nat.le_of_ble_eq_true rfl)).trans rfl
theorem f64_11 : zi_fe 64 11 = some ((.bipush 24), 2, 0, 0, 0, 0, 0) := (zl64_0 (Nat.le_of_ble_eq_true rfl)).trans rfl
theorem f64_13 : zi_fe 64 13 = some ((.if_icmp .ge 46), 3, 0, 0, 0, 0, 0) := (zl64_0 (Nat.le_of_ble_eq_true rfl)).trans rfl
theorem f64_16 : zi_fe 64 16 = some ((.iconst 1), 1, 0, 0, 0, 0, 0) := (zl64_0 (Nat.le_of_ble_eq_true rfl)).trans rfl
theorem f64_17 : zi_fe 64 17 = some ((.istore_n 2), 1, 0, 0, 0, 0, 0) := (zl64_0 (Nat.le_of_ble_eq_true rfl)).trans rfl
theorem f64_18 : zi_fe 64 18 = some ((.iload_n 2), 1, 0, 0, 0, 0, 0) := (zl64_0 (Nat.le_of_ble_eq_true rfl)).trans rfl
theorem zl64_1 {pc : Nat} (h : 19 ≤ pc) : zi_fe 64 pc = zu64_1.lookup pc := (zl64_0 (Nat.le_trans (Nat.le_of_ble_eq_true rfl) h)).trans (zi_lkA (a := zi_i64_0) (c := 19) rfl h)
theorem f64_19 : zi_fe 64 19 = some ((.aload_n 0), 1, 0, 0, 0, 0, 0) := (zl64_1 (Nat.le_of_ble_eq_true rfl)).trans rfl
theorem f64_20 : zi_fe 64 20 = some ((.getfield 15), 3, 4, 4, 3, 149, 0) := (zl64_1 (Nat.le_of_ble_eq_true rfl)).trans rfl
theorem f64_23 : zi_fe 64 23 = some ((.iload_n 1), 1, 0, 0, 0, 0, 0) := (zl64_1 (Nat.le_of_ble_eq_true rfl)).trans rfl
theorem f64_24 : zi_fe 64 24 = some (.iaload, 1, 0, 0, 0, 0, 0) := (zl64_1 (Nat.le_of_ble_eq_true rfl)).trans rfl
theorem f64_25 : zi_fe 64 25 = some ((.if_icmp .ge 28), 3, 0, 0, 0, 0, 0) := (zl64_1 (Nat.le_of_ble_eq_true rfl)).trans rfl
theorem f64_28 : zi_fe 64 28 = some ((.aload_n 0), 1, 0, 0, 0, 0, 0) := (zl64_1 (Nat.le_of_ble_eq_true rfl)).trans rfl
theorem f64_29 : zi_fe 64 29 = some ((.iload_n 1), 1, 0, 0, 0, 0, 0) := (zl64_1 (Nat.le_of_ble_eq_true rfl)).trans rfl
theorem f64_30 : zi_fe 64 30 = some ((.iload_n 2), 1, 0, 0, 0, 0, 0) := (zl64_1 (Nat.le_of_ble_eq_true rfl)).trans rfl
theorem f64_31 : zi_fe 64 31 = some ((.iconst 1), 1, 0, 0, 0, 0, 0) := (zl64_1 (Nat.le_of_ble_eq_true rfl)).trans rfl
theorem f64_32 : zi_fe 64 32 = some (.isub, 1, 0, 0, 0, 0, 0) := (zl64_1 (Nat.le_of_ble_eq_true rfl)).trans rfl
theorem f64_33 : zi_fe 64 33 = some ((.invokevirtual 65), 3, 47, 0, 4, 675, 3) := (zl64_1 (Nat.le_of_ble_eq_true rfl)).trans rfl
theorem f64_36 : zi_fe 64 36 = some ((.aload_n 0), 1, 0, 0, 0, 0, 0) := (zl64_1 (Nat.le_of_ble_eq_true rfl)).trans rfl
theorem zl64_2 {pc : Nat} (h : 37 ≤ pc) : zi_fe 64 pc = zu64_2.lookup pc := (zl64_1 (Nat.le_trans (Nat.le_of_ble_eq_true rfl) h)).trans (zi_lkA (a := zi_i64_1) (c := 37) rfl h)
theorem f64_37 : zi_fe 64 37 = some ((.iload_n 1), 1, 0, 0, 0, 0, 0) := (zl64_2 (Nat.le_of_ble_eq_true rfl)).trans rfl
theorem f64_38 : zi_fe 64 38 = some ((.iload_n 2), 1, 0, 0, 0, 0, 0) := (zl64_2 (Nat.le_of_ble_eq_true rfl)).trans rfl
theorem f64_39 : zi_fe 64 39 = some ((.invokevirtual 65), 3, 47, 0, 4, 675, 3) := (zl64_2 (Nat.le_of_ble_eq_true rfl)).trans rfl
theorem f64_42 : zi_fe 64 42 = some ((.if_icmp .lt 5), 3, 0, 0, 0, 0, 0) := (zl64_2 (Nat.le_of_ble_eq_true rfl)).trans rfl
theorem f64_45 : zi_fe 64 45 = some ((.iconst 0), 1, 0, 0, 0, 0, 0) := (zl64_2 (Nat.le_of_ble_eq_true rfl)).trans rfl
theorem f64_46 : zi_fe 64 46 = some (.ireturn, 1, 1, 0, 0, 0, 0) := (zl64_2 (Nat.le_of_ble_eq_true rfl)).trans rfl
theorem f64_47 : zi_fe 64 47 = some ((.iinc 2 1), 3, 0, 0, 0, 0, 0) := (zl64_2 (Nat.le_of_ble_eq_true rfl)).trans rfl
theorem f64_50 : zi_fe 64 50 = some ((.goto (-32)), 3, 0, 0, 0, 0, 0) := (zl64_2 (Nat.le_of_ble_eq_true rfl)).trans rfl
theorem f64_53 : zi_fe 64 53 = some ((.iinc 1 1), 3, 0, 0, 0, 0, 0) := (zl64_2 (Nat.le_of_ble_eq_true rfl)).trans rfl
theorem f64_56 : zi_fe 64 56 = some ((.goto (-54)), 3, 0, 0, 0, 0, 0) := (zl64_2 (Nat.le_of_ble_eq_true rfl)).trans rfl
theorem f64_59 : zi_fe 64 59 = some ((.iconst 1), 1, 0, 0, 0, 0, 0) := (zl64_2 (Nat.le_of_ble_eq_true rfl)).trans rfl
theorem f64_60 : zi_fe 64 60 = some (.ireturn, 1, 1, 0, 0, 0, 0) := (zl64_2 (Nat.le_of_ble_eq_true rfl)).trans rfl
theorem b64_0 {h : zi_Hp} {a0 : Nat} {u1 : Value} {u2 : Value}  : zv 3 64 0 [.ref a0, u1, u2] [] h = zv 3 64 2 [.ref a0, .int 0, u2] [] h := by
  refine Eq.trans (zs_ic f64_0 ic_0) ?_
  refine Eq.trans (zv_next f64_1 rfl) ?_
  rfl
theorem b64_2 {h : zi_Hp} {a0 : Nat} {x1 : Int32} {u2 : Value} (g0 : a0 < zh_n h) (g1 : (zh_k h a0).1 = 4) : zv 3 64 2 [.ref a0, .int x1, u2] [] h = if x1 < (zh_i h a0 0) then zv 3 64 10 [.ref a0, .int x1, u2] [] h else zv 3 64 59 [.ref a0, .int x1, u2] [] h := by
  refine Eq.trans (zv_next f64_2 rfl) ?_
  refine Eq.trans (zv_next f64_3 rfl) ?_
  refine Eq.trans (zs_geti f64_4 g0 g1) ?_
  exact zs_icmp f64_7 rfl
theorem b64_10 {h : zi_Hp} {a0 : Nat} {x1 : Int32} {u2 : Value}  : zv 3 64 10 [.ref a0, .int x1, u2] [] h = if x1 < 24 then zv 3 64 16 [.ref a0, .int x1, u2] [] h else zv 3 64 59 [.ref a0, .int x1, u2] [] h := by
  refine Eq.trans (zv_next f64_10 rfl) ?_
  refine Eq.trans (zs_bp f64_11 bp_24) ?_
  exact zs_icmp f64_13 rfl
theorem b64_16 {h : zi_Hp} {a0 : Nat} {x1 : Int32} {u2 : Value}  : zv 3 64 16 [.ref a0, .int x1, u2] [] h = zv 3 64 18 [.ref a0, .int x1, .int 1] [] h := by
  refine Eq.trans (zs_ic f64_16 ic_1) ?_
  refine Eq.trans (zv_next f64_17 rfl) ?_
  rfl
theorem b64_18 {h : zi_Hp} {a0 : Nat} {x1 : Int32} {x2 : Int32} (g0 : a0 < zh_n h) (g1 : (zh_k h a0).1 = 4) (g2 : zh_r h a0 4 = .ref (zq (zh_r h a0 4))) (g3 : (zq (zh_r h a0 4)) < zh_n h) (g4 : ¬ (x1 < 0 ∨ (zh_k h (zq (zh_r h a0 4))).2 ≤ x1.toNatClampNeg)) (g5 : (zh_k h (zq (zh_r h a0 4))).1 = 100) : zv 3 64 18 [.ref a0, .int x1, .int x2] [] h = if x2 < (zh_i h (zq (zh_r h a0 4)) x1.toNatClampNeg) then zv 3 64 28 [.ref a0, .int x1, .int x2] [] h else zv 3 64 53 [.ref a0, .int x1, .int x2] [] h := by
  refine Eq.trans (zv_next f64_18 rfl) ?_
  refine Eq.trans (zv_next f64_19 rfl) ?_
  refine Eq.trans (zs_getr f64_20 g0 g1 g2) ?_
  refine Eq.trans (zv_next f64_23 rfl) ?_
  refine Eq.trans (zs_iald f64_24 g3 g5 g4) ?_
  exact zs_icmp f64_25 rfl
theorem b64_28 {h : zi_Hp} {a0 : Nat} {x1 : Int32} {x2 : Int32} (g0 : a0 < zh_n h) (g1 : (zh_k h a0).1 = 4) : zv 3 64 28 [.ref a0, .int x1, .int x2] [] h = (zv 2 47 0 [.ref a0, .int x1, .int (x2 - 1)] [] h).bind fun r => zv 3 64 36 [.ref a0, .int x1, .int x2] (r.1.toList ++ []) r.2 := by
  refine Eq.trans (zv_next f64_28 rfl) ?_
  refine Eq.trans (zv_next f64_29 rfl) ?_
  refine Eq.trans (zv_next f64_30 rfl) ?_
  refine Eq.trans (zs_ic f64_31 ic_1) ?_
  refine Eq.trans (zv_next f64_32 rfl) ?_
  exact zs_callV f64_33 (Nat.le_of_ble_eq_true rfl) (Nat.le_of_ble_eq_true rfl) rfl g0 g1 me_47 (by decide) rfl
theorem b64_36 {h : zi_Hp} {a0 : Nat} {x1 : Int32} {x2 : Int32} {s0 : Int32} (g0 : a0 < zh_n h) (g1 : (zh_k h a0).1 = 4) : zv 3 64 36 [.ref a0, .int x1, .int x2] [.int s0] h = (zv 2 47 0 [.ref a0, .int x1, .int x2] [] h).bind fun r => zv 3 64 42 [.ref a0, .int x1, .int x2] (r.1.toList ++ [.int s0]) r.2 := by
  refine Eq.trans (zv_next f64_36 rfl) ?_
  refine Eq.trans (zv_next f64_37 rfl) ?_
  refine Eq.trans (zv_next f64_38 rfl) ?_
  exact zs_callV f64_39 (Nat.le_of_ble_eq_true rfl) (Nat.le_of_ble_eq_true rfl) rfl g0 g1 me_47 (by decide) rfl
theorem b64_42 {h : zi_Hp} {a0 : Nat} {x1 : Int32} {x2 : Int32} {s0 : Int32} {s1 : Int32}  : zv 3 64 42 [.ref a0, .int x1, .int x2] [.int s1, .int s0] h = if s0 < s1 then zv 3 64 47 [.ref a0, .int x1, .int x2] [] h else zv 3 64 45 [.ref a0, .int x1, .int x2] [] h := by
  exact zs_icmp f64_42 rfl
theorem b64_45 {h : zi_Hp} {a0 : Nat} {x1 : Int32} {x2 : Int32}  : zv 3 64 45 [.ref a0, .int x1, .int x2] [] h = some (some (.int 0), h) := by
  refine Eq.trans (zs_ic f64_45 ic_0) ?_
  exact zs_ret1 f64_46 (by decide)
theorem b64_47 {h : zi_Hp} {a0 : Nat} {x1 : Int32} {x2 : Int32}  : zv 3 64 47 [.ref a0, .int x1, .int x2] [] h = zv 3 64 18 [.ref a0, .int x1, .int (x2 + 1)] [] h := by
  refine Eq.trans (zs_inc f64_47 rfl ic_1 rfl) ?_
  refine Eq.trans (zs_goto (tgt := 18) f64_50 rfl) ?_
  rfl
theorem b64_53 {h : zi_Hp} {a0 : Nat} {x1 : Int32} {x2 : Int32}  : zv 3 64 53 [.ref a0, .int x1, .int x2] [] h = zv 3 64 2 [.ref a0, .int (x1 + 1), .int x2] [] h := by
  refine Eq.trans (zs_inc f64_53 rfl ic_1 rfl) ?_
  refine Eq.trans (zs_goto (tgt := 2) f64_56 rfl) ?_
  rfl
theorem b64_59 {h : zi_Hp} {a0 : Nat} {x1 : Int32} {u2 : Value}  : zv 3 64 59 [.ref a0, .int x1, u2] [] h = some (some (.int 1), h) := by
  refine Eq.trans (zs_ic f64_59 ic_1) ?_
  exact zs_ret1 f64_60 (by decide)
set_option maxRecDepth 20000 in
theorem zq65 : zi_M[65]? = some zi_m65 := rfl
theorem zl65_0 {pc : Nat} (_ : 0 ≤ pc) : zi_fe 65 pc = zu65_0.lookup pc := zi_feA zq65 pc
theorem f65_0 : zi_fe 65 0 = some ((.iconst 0), 1, 0, 0, 0, 0, 0) := (zl65_0 (Nat.le_of_ble_eq_true rfl)).trans rfl
theorem f65_1 : zi_fe 65 1 = some ((.istore_n 1), 1, 0, 0, 0, 0, 0) := (zl65_0 (Nat.le_of_ble_eq_true rfl)).trans rfl
theorem f65_2 : zi_fe 65 2 = some ((.iload_n 1), 1, 0, 0, 0, 0, 0) := (zl65_0 (Nat.le_of_ble_eq_true rfl)).trans rfl
theorem f65_3 : zi_fe 65 3 = some ((.aload_n 0), 1, 0, 0, 0, 0, 0) := (zl65_0 (Nat.le_of_ble_eq_true rfl)).trans rfl
theorem f65_4 : zi_fe 65 4 = some ((.getfield 37), 3, 4, 0, 0, 137, 0) := (zl65_0 (Nat.le_of_ble_eq_true rfl)).trans rfl
theorem f65_7 : zi_fe 65 7 = some ((.if_icmp .ge 56), 3, 0, 0, 0, 0, 0) := (zl65_0 (Nat.le_of_ble_eq_true rfl)).trans rfl
theorem f65_10 : zi_fe 65 10 = some ((.iload_n 1), 1, 0, 0, 0, 0, 0) := (zl65_0 (Nat.le_of_ble_eq_true rfl)).trans rfl
theorem f65_11 : zi_fe 65 11 = some ((.bipush 24), 2, 0, 0, 0, 0, 0) := (zl65_0 (Nat.le_of_ble_eq_true rfl)).trans rfl
theorem f65_13 : zi_fe 65 13 = some ((.if_icmp .ge 50), 3, 0, 0, 0, 0, 0) := (zl65_0 (Nat.le_of_ble_eq_true rfl)).trans rfl
theorem f65_16 : zi_fe 65 16 = some ((.aload_n 0), 1, 0, 0, 0, 0, 0) := (zl65_0 (Nat.le_of_ble_eq_true rfl)).trans rfl
theorem f65_17 : zi_fe 65 17 = some ((.iload_n 1), 1, 0, 0, 0, 0, 0) := (zl65_0 (Nat.le_of_ble_eq_true rfl)).trans rfl
theorem f65_18 : zi_fe 65 18 = some ((.invokevirtual 71), 3, 55, 0, 4, 771, 2) := (zl65_0 (Nat.le_of_ble_eq_true rfl)).trans rfl
theorem zl65_1 {pc : Nat} (h : 21 ≤ pc) : zi_fe 65 pc = zu65_1.lookup pc := (zl65_0 (Nat.le_trans (Nat.le_of_ble_eq_true rfl) h)).trans (zi_lkA (a := zi_i65_0) (c := 21) rfl h)
theorem f65_21 : zi_fe 65 21 = some ((.ifCond .eq 36), 3, 0, 0, 0, 0, 0) := (zl65_1 (Nat.le_of_ble_eq_true rfl)).trans rfl
theorem f65_24 : zi_fe 65 24 = some ((.aload_n 0), 1, 0, 0, 0, 0, 0) := (zl65_1 (Nat.le_of_ble_eq_true rfl)).trans rfl
theorem f65_25 : zi_fe 65 25 = some ((.getfield 15), 3, 4, 4, 3, 149, 0) := (zl65_1 (Nat.le_of_ble_eq_true rfl)).trans rfl
theorem f65_28 : zi_fe 65 28 = some ((.iload_n 1), 1, 0, 0, 0, 0, 0) := (zl65_1 (Nat.le_of_ble_eq_true rfl)).trans rfl
theorem f65_29 : zi_fe 65 29 = some (.iaload, 1, 0, 0, 0, 0, 0) := (zl65_1 (Nat.le_of_ble_eq_true rfl)).trans rfl
theorem f65_30 : zi_fe 65 30 = some ((.ifCond .le 27), 3, 0, 0, 0, 0, 0) := (zl65_1 (Nat.le_of_ble_eq_true rfl)).trans rfl
theorem f65_33 : zi_fe 65 33 = some ((.aload_n 0), 1, 0, 0, 0, 0, 0) := (zl65_1 (Nat.le_of_ble_eq_true rfl)).trans rfl
theorem f65_34 : zi_fe 65 34 = some ((.iload_n 1), 1, 0, 0, 0, 0, 0) := (zl65_1 (Nat.le_of_ble_eq_true rfl)).trans rfl
theorem f65_35 : zi_fe 65 35 = some ((.aload_n 0), 1, 0, 0, 0, 0, 0) := (zl65_1 (Nat.le_of_ble_eq_true rfl)).trans rfl
theorem f65_36 : zi_fe 65 36 = some ((.getfield 15), 3, 4, 4, 3, 149, 0) := (zl65_1 (Nat.le_of_ble_eq_true rfl)).trans rfl
theorem f65_39 : zi_fe 65 39 = some ((.iload_n 1), 1, 0, 0, 0, 0, 0) := (zl65_1 (Nat.le_of_ble_eq_true rfl)).trans rfl
theorem f65_40 : zi_fe 65 40 = some (.iaload, 1, 0, 0, 0, 0, 0) := (zl65_1 (Nat.le_of_ble_eq_true rfl)).trans rfl
theorem zl65_2 {pc : Nat} (h : 41 ≤ pc) : zi_fe 65 pc = zu65_2.lookup pc := (zl65_1 (Nat.le_trans (Nat.le_of_ble_eq_true rfl) h)).trans (zi_lkA (a := zi_i65_1) (c := 41) rfl h)
theorem f65_41 : zi_fe 65 41 = some ((.iconst 1), 1, 0, 0, 0, 0, 0) := (zl65_2 (Nat.le_of_ble_eq_true rfl)).trans rfl
theorem f65_42 : zi_fe 65 42 = some (.isub, 1, 0, 0, 0, 0, 0) := (zl65_2 (Nat.le_of_ble_eq_true rfl)).trans rfl
theorem f65_43 : zi_fe 65 43 = some ((.invokevirtual 65), 3, 47, 0, 4, 675, 3) := (zl65_2 (Nat.le_of_ble_eq_true rfl)).trans rfl
theorem f65_46 : zi_fe 65 46 = some ((.aload_n 0), 1, 0, 0, 0, 0, 0) := (zl65_2 (Nat.le_of_ble_eq_true rfl)).trans rfl
theorem f65_47 : zi_fe 65 47 = some ((.getfield 18), 3, 4, 5, 3, 152, 0) := (zl65_2 (Nat.le_of_ble_eq_true rfl)).trans rfl
theorem f65_50 : zi_fe 65 50 = some ((.iload_n 1), 1, 0, 0, 0, 0, 0) := (zl65_2 (Nat.le_of_ble_eq_true rfl)).trans rfl
theorem f65_51 : zi_fe 65 51 = some (.iaload, 1, 0, 0, 0, 0, 0) := (zl65_2 (Nat.le_of_ble_eq_true rfl)).trans rfl
theorem f65_52 : zi_fe 65 52 = some ((.if_icmp .le 5), 3, 0, 0, 0, 0, 0) := (zl65_2 (Nat.le_of_ble_eq_true rfl)).trans rfl
theorem f65_55 : zi_fe 65 55 = some ((.iconst 0), 1, 0, 0, 0, 0, 0) := (zl65_2 (Nat.le_of_ble_eq_true rfl)).trans rfl
theorem f65_56 : zi_fe 65 56 = some (.ireturn, 1, 1, 0, 0, 0, 0) := (zl65_2 (Nat.le_of_ble_eq_true rfl)).trans rfl
theorem f65_57 : zi_fe 65 57 = some ((.iinc 1 1), 3, 0, 0, 0, 0, 0) := (zl65_2 (Nat.le_of_ble_eq_true rfl)).trans rfl
theorem f65_60 : zi_fe 65 60 = some ((.goto (-58)), 3, 0, 0, 0, 0, 0) := (zl65_2 (Nat.le_of_ble_eq_true rfl)).trans rfl
theorem zl65_3 {pc : Nat} (h : 63 ≤ pc) : zi_fe 65 pc = zu65_3.lookup pc := (zl65_2 (Nat.le_trans (Nat.le_of_ble_eq_true rfl) h)).trans (zi_lkA (a := zi_i65_2) (c := 63) rfl h)
theorem f65_63 : zi_fe 65 63 = some ((.iconst 1), 1, 0, 0, 0, 0, 0) := (zl65_3 (Nat.le_of_ble_eq_true rfl)).trans rfl
theorem f65_64 : zi_fe 65 64 = some (.ireturn, 1, 1, 0, 0, 0, 0) := (zl65_3 (Nat.le_of_ble_eq_true rfl)).trans rfl
theorem b65_0 {h : zi_Hp} {a0 : Nat} {u1 : Value}  : zv 3 65 0 [.ref a0, u1] [] h = zv 3 65 2 [.ref a0, .int 0] [] h := by
  refine Eq.trans (zs_ic f65_0 ic_0) ?_
  refine Eq.trans (zv_next f65_1 rfl) ?_
  rfl
theorem b65_2 {h : zi_Hp} {a0 : Nat} {x1 : Int32} (g0 : a0 < zh_n h) (g1 : (zh_k h a0).1 = 4) : zv 3 65 2 [.ref a0, .int x1] [] h = if x1 < (zh_i h a0 0) then zv 3 65 10 [.ref a0, .int x1] [] h else zv 3 65 63 [.ref a0, .int x1] [] h := by
  refine Eq.trans (zv_next f65_2 rfl) ?_
  refine Eq.trans (zv_next f65_3 rfl) ?_
  refine Eq.trans (zs_geti f65_4 g0 g1) ?_
  exact zs_icmp f65_7 rfl
theorem b65_10 {h : zi_Hp} {a0 : Nat} {x1 : Int32}  : zv 3 65 10 [.ref a0, .int x1] [] h = if x1 < 24 then zv 3 65 16 [.ref a0, .int x1] [] h else zv 3 65 63 [.ref a0, .int x1] [] h := by
  refine Eq.trans (zv_next f65_10 rfl) ?_
  refine Eq.trans (zs_bp f65_11 bp_24) ?_
  exact zs_icmp f65_13 rfl
theorem b65_16 {h : zi_Hp} {a0 : Nat} {x1 : Int32} (g0 : a0 < zh_n h) (g1 : (zh_k h a0).1 = 4) : zv 3 65 16 [.ref a0, .int x1] [] h = (zv 2 55 0 [.ref a0, .int x1] [] h).bind fun r => zv 3 65 21 [.ref a0, .int x1] (r.1.toList ++ []) r.2 := by
  refine Eq.trans (zv_next f65_16 rfl) ?_
  refine Eq.trans (zv_next f65_17 rfl) ?_
  exact zs_callV f65_18 (Nat.le_of_ble_eq_true rfl) (Nat.le_of_ble_eq_true rfl) rfl g0 g1 me_55 (by decide) rfl
theorem b65_21 {h : zi_Hp} {a0 : Nat} {x1 : Int32} {s0 : Int32}  : zv 3 65 21 [.ref a0, .int x1] [.int s0] h = if s0 = 0 then zv 3 65 57 [.ref a0, .int x1] [] h else zv 3 65 24 [.ref a0, .int x1] [] h := by
  exact zs_if f65_21 rfl
theorem b65_24 {h : zi_Hp} {a0 : Nat} {x1 : Int32} (g0 : a0 < zh_n h) (g1 : (zh_k h a0).1 = 4) (g2 : zh_r h a0 4 = .ref (zq (zh_r h a0 4))) (g3 : (zq (zh_r h a0 4)) < zh_n h) (g4 : ¬ (x1 < 0 ∨ (zh_k h (zq (zh_r h a0 4))).2 ≤ x1.toNatClampNeg)) (g5 : (zh_k h (zq (zh_r h a0 4))).1 = 100) : zv 3 65 24 [.ref a0, .int x1] [] h = if 0 < (zh_i h (zq (zh_r h a0 4)) x1.toNatClampNeg) then zv 3 65 33 [.ref a0, .int x1] [] h else zv 3 65 57 [.ref a0, .int x1] [] h := by
  refine Eq.trans (zv_next f65_24 rfl) ?_
  refine Eq.trans (zs_getr f65_25 g0 g1 g2) ?_
  refine Eq.trans (zv_next f65_28 rfl) ?_
  refine Eq.trans (zs_iald f65_29 g3 g5 g4) ?_
  exact zs_if f65_30 rfl
theorem b65_33 {h : zi_Hp} {a0 : Nat} {x1 : Int32} (g0 : a0 < zh_n h) (g1 : (zh_k h a0).1 = 4) (g2 : zh_r h a0 4 = .ref (zq (zh_r h a0 4))) (g3 : (zq (zh_r h a0 4)) < zh_n h) (g4 : ¬ (x1 < 0 ∨ (zh_k h (zq (zh_r h a0 4))).2 ≤ x1.toNatClampNeg)) (g5 : (zh_k h (zq (zh_r h a0 4))).1 = 100) : zv 3 65 33 [.ref a0, .int x1] [] h = (zv 2 47 0 [.ref a0, .int x1, .int ((zh_i h (zq (zh_r h a0 4)) x1.toNatClampNeg) - 1)] [] h).bind fun r => zv 3 65 46 [.ref a0, .int x1] (r.1.toList ++ []) r.2 := by
  refine Eq.trans (zv_next f65_33 rfl) ?_
  refine Eq.trans (zv_next f65_34 rfl) ?_
  refine Eq.trans (zv_next f65_35 rfl) ?_
  refine Eq.trans (zs_getr f65_36 g0 g1 g2) ?_
  refine Eq.trans (zv_next f65_39 rfl) ?_
  refine Eq.trans (zs_iald f65_40 g3 g5 g4) ?_
  refine Eq.trans (zs_ic f65_41 ic_1) ?_
  refine Eq.trans (zv_next f65_42 rfl) ?_
  exact zs_callV f65_43 (Nat.le_of_ble_eq_true rfl) (Nat.le_of_ble_eq_true rfl) rfl g0 g1 me_47 (by decide) rfl
theorem b65_46 {h : zi_Hp} {a0 : Nat} {x1 : Int32} {s0 : Int32} (g0 : a0 < zh_n h) (g1 : (zh_k h a0).1 = 4) (g2 : zh_r h a0 5 = .ref (zq (zh_r h a0 5))) (g3 : (zq (zh_r h a0 5)) < zh_n h) (g4 : ¬ (x1 < 0 ∨ (zh_k h (zq (zh_r h a0 5))).2 ≤ x1.toNatClampNeg)) (g5 : (zh_k h (zq (zh_r h a0 5))).1 = 100) : zv 3 65 46 [.ref a0, .int x1] [.int s0] h = if (zh_i h (zq (zh_r h a0 5)) x1.toNatClampNeg) < s0 then zv 3 65 55 [.ref a0, .int x1] [] h else zv 3 65 57 [.ref a0, .int x1] [] h := by
  refine Eq.trans (zv_next f65_46 rfl) ?_
  refine Eq.trans (zs_getr f65_47 g0 g1 g2) ?_
  refine Eq.trans (zv_next f65_50 rfl) ?_
  refine Eq.trans (zs_iald f65_51 g3 g5 g4) ?_
  exact zs_icmp f65_52 rfl
theorem b65_55 {h : zi_Hp} {a0 : Nat} {x1 : Int32}  : zv 3 65 55 [.ref a0, .int x1] [] h = some (some (.int 0), h) := by
  refine Eq.trans (zs_ic f65_55 ic_0) ?_
  exact zs_ret1 f65_56 (by decide)
theorem b65_57 {h : zi_Hp} {a0 : Nat} {x1 : Int32}  : zv 3 65 57 [.ref a0, .int x1] [] h = zv 3 65 2 [.ref a0, .int (x1 + 1)] [] h := by
  refine Eq.trans (zs_inc f65_57 rfl ic_1 rfl) ?_
  refine Eq.trans (zs_goto (tgt := 2) f65_60 rfl) ?_
  rfl
theorem b65_63 {h : zi_Hp} {a0 : Nat} {x1 : Int32}  : zv 3 65 63 [.ref a0, .int x1] [] h = some (some (.int 1), h) := by
  refine Eq.trans (zs_ic f65_63 ic_1) ?_
  exact zs_ret1 f65_64 (by decide)
set_option maxRecDepth 20000 in
theorem zq66 : zi_M[66]? = some zi_m66 := rfl
theorem zl66_0 {pc : Nat} (_ : 0 ≤ pc) : zi_fe 66 pc = zu66_0.lookup pc := zi_feA zq66 pc
theorem f66_0 : zi_fe 66 0 = some ((.iconst 0), 1, 0, 0, 0, 0, 0) := (zl66_0 (Nat.le_of_ble_eq_true rfl)).trans rfl
theorem f66_1 : zi_fe 66 1 = some ((.istore_n 1), 1, 0, 0, 0, 0, 0) := (zl66_0 (Nat.le_of_ble_eq_true rfl)).trans rfl
theorem f66_2 : zi_fe 66 2 = some ((.iload_n 1), 1, 0, 0, 0, 0, 0) := (zl66_0 (Nat.le_of_ble_eq_true rfl)).trans rfl
theorem f66_3 : zi_fe 66 3 = some ((.aload_n 0), 1, 0, 0, 0, 0, 0) := (zl66_0 (Nat.le_of_ble_eq_true rfl)).trans rfl
theorem f66_4 : zi_fe 66 4 = some ((.getfield 37), 3, 4, 0, 0, 137, 0) := (zl66_0 (Nat.le_of_ble_eq_true rfl)).trans rfl
theorem f66_7 : zi_fe 66 7 = some ((.if_icmp .ge 42), 3, 0, 0, 0, 0, 0) := (zl66_0 (Nat.le_of_ble_eq_true rfl)).trans rfl
theorem f66_10 : zi_fe 66 10 = some ((.aload_n 0), 1, 0, 0, 0, 0, 0) := (zl66_0 (Nat.le_of_ble_eq_true rfl)).trans rfl
theorem f66_11 : zi_fe 66 11 = some ((.iload_n 1), 1, 0, 0, 0, 0, 0) := (zl66_0 (Nat.le_of_ble_eq_true rfl)).trans rfl
theorem f66_12 : zi_fe 66 12 = some ((.invokevirtual 85), 3, 44, 0, 4, 948, 2) := (zl66_0 (Nat.le_of_ble_eq_true rfl)).trans rfl
theorem f66_15 : zi_fe 66 15 = some ((.istore_n 2), 1, 0, 0, 0, 0, 0) := (zl66_0 (Nat.le_of_ble_eq_true rfl)).trans rfl
theorem f66_16 : zi_fe 66 16 = some ((.iload_n 2), 1, 0, 0, 0, 0, 0) := (zl66_0 (Nat.le_of_ble_eq_true rfl)).trans rfl
theorem f66_17 : zi_fe 66 17 = some ((.ifCond .lt 26), 3, 0, 0, 0, 0, 0) := (zl66_0 (Nat.le_of_ble_eq_true rfl)).trans rfl
theorem zl66_1 {pc : Nat} (h : 20 ≤ pc) : zi_fe 66 pc = zu66_1.lookup pc := (zl66_0 (Nat.le_trans (Nat.le_of_ble_eq_true rfl) h)).trans (zi_lkA (a := zi_i66_0) (c := 20) rfl h)
theorem f66_20 : zi_fe 66 20 = some ((.aload_n 0), 1, 0, 0, 0, 0, 0) := (zl66_1 (Nat.le_of_ble_eq_true rfl)).trans rfl
theorem f66_21 : zi_fe 66 21 = some ((.iload_n 1), 1, 0, 0, 0, 0, 0) := (zl66_1 (Nat.le_of_ble_eq_true rfl)).trans rfl
theorem f66_22 : zi_fe 66 22 = some ((.invokevirtual 74), 3, 45, 0, 4, 780, 2) := (zl66_1 (Nat.le_of_ble_eq_true rfl)).trans rfl
theorem f66_25 : zi_fe 66 25 = some ((.ifCond .ne 18), 3, 0, 0, 0, 0, 0) := (zl66_1 (Nat.le_of_ble_eq_true rfl)).trans rfl
theorem f66_28 : zi_fe 66 28 = some ((.aload_n 0), 1, 0, 0, 0, 0, 0) := (zl66_1 (Nat.le_of_ble_eq_true rfl)).trans rfl
theorem f66_29 : zi_fe 66 29 = some ((.iload_n 1), 1, 0, 0, 0, 0, 0) := (zl66_1 (Nat.le_of_ble_eq_true rfl)).trans rfl
theorem f66_30 : zi_fe 66 30 = some ((.invokevirtual 88), 3, 43, 0, 4, 949, 2) := (zl66_1 (Nat.le_of_ble_eq_true rfl)).trans rfl
theorem f66_33 : zi_fe 66 33 = some ((.aload_n 0), 1, 0, 0, 0, 0, 0) := (zl66_1 (Nat.le_of_ble_eq_true rfl)).trans rfl
theorem f66_34 : zi_fe 66 34 = some ((.iload_n 2), 1, 0, 0, 0, 0, 0) := (zl66_1 (Nat.le_of_ble_eq_true rfl)).trans rfl
theorem f66_35 : zi_fe 66 35 = some ((.invokevirtual 88), 3, 43, 0, 4, 949, 2) := (zl66_1 (Nat.le_of_ble_eq_true rfl)).trans rfl
theorem f66_38 : zi_fe 66 38 = some ((.if_icmp .lt 5), 3, 0, 0, 0, 0, 0) := (zl66_1 (Nat.le_of_ble_eq_true rfl)).trans rfl
theorem f66_41 : zi_fe 66 41 = some ((.iconst 0), 1, 0, 0, 0, 0, 0) := (zl66_1 (Nat.le_of_ble_eq_true rfl)).trans rfl
theorem zl66_2 {pc : Nat} (h : 42 ≤ pc) : zi_fe 66 pc = zu66_2.lookup pc := (zl66_1 (Nat.le_trans (Nat.le_of_ble_eq_true rfl) h)).trans (zi_lkA (a := zi_i66_1) (c := 42) rfl h)
theorem f66_42 : zi_fe 66 42 = some (.ireturn, 1, 1, 0, 0, 0, 0) := (zl66_2 (Nat.le_of_ble_eq_true rfl)).trans rfl
theorem f66_43 : zi_fe 66 43 = some ((.iinc 1 1), 3, 0, 0, 0, 0, 0) := (zl66_2 (Nat.le_of_ble_eq_true rfl)).trans rfl
theorem f66_46 : zi_fe 66 46 = some ((.goto (-44)), 3, 0, 0, 0, 0, 0) := (zl66_2 (Nat.le_of_ble_eq_true rfl)).trans rfl
theorem f66_49 : zi_fe 66 49 = some ((.iconst 1), 1, 0, 0, 0, 0, 0) := (zl66_2 (Nat.le_of_ble_eq_true rfl)).trans rfl
theorem f66_50 : zi_fe 66 50 = some (.ireturn, 1, 1, 0, 0, 0, 0) := (zl66_2 (Nat.le_of_ble_eq_true rfl)).trans rfl
theorem b66_0 {h : zi_Hp} {a0 : Nat} {u1 : Value} {u2 : Value}  : zv 3 66 0 [.ref a0, u1, u2] [] h = zv 3 66 2 [.ref a0, .int 0, u2] [] h := by
  refine Eq.trans (zs_ic f66_0 ic_0) ?_
  refine Eq.trans (zv_next f66_1 rfl) ?_
  rfl
theorem b66_2 {h : zi_Hp} {a0 : Nat} {x1 : Int32} {u2 : Value} (g0 : a0 < zh_n h) (g1 : (zh_k h a0).1 = 4) : zv 3 66 2 [.ref a0, .int x1, u2] [] h = if x1 < (zh_i h a0 0) then zv 3 66 10 [.ref a0, .int x1, u2] [] h else zv 3 66 49 [.ref a0, .int x1, u2] [] h := by
  refine Eq.trans (zv_next f66_2 rfl) ?_
  refine Eq.trans (zv_next f66_3 rfl) ?_
  refine Eq.trans (zs_geti f66_4 g0 g1) ?_
  exact zs_icmp f66_7 rfl
theorem b66_10 {h : zi_Hp} {a0 : Nat} {x1 : Int32} {u2 : Value} (g0 : a0 < zh_n h) (g1 : (zh_k h a0).1 = 4) : zv 3 66 10 [.ref a0, .int x1, u2] [] h = (zv 2 44 0 [.ref a0, .int x1] [] h).bind fun r => zv 3 66 15 [.ref a0, .int x1, u2] (r.1.toList ++ []) r.2 := by
  refine Eq.trans (zv_next f66_10 rfl) ?_
  refine Eq.trans (zv_next f66_11 rfl) ?_
  exact zs_callV f66_12 (Nat.le_of_ble_eq_true rfl) (Nat.le_of_ble_eq_true rfl) rfl g0 g1 me_44 (by decide) rfl
theorem b66_15 {h : zi_Hp} {a0 : Nat} {x1 : Int32} {u2 : Value} {s0 : Int32}  : zv 3 66 15 [.ref a0, .int x1, u2] [.int s0] h = if s0 < 0 then zv 3 66 43 [.ref a0, .int x1, .int s0] [] h else zv 3 66 20 [.ref a0, .int x1, .int s0] [] h := by
  refine Eq.trans (zv_next f66_15 rfl) ?_
  refine Eq.trans (zv_next f66_16 rfl) ?_
  exact zs_if f66_17 rfl
theorem b66_20 {h : zi_Hp} {a0 : Nat} {x1 : Int32} {x2 : Int32} (g0 : a0 < zh_n h) (g1 : (zh_k h a0).1 = 4) : zv 3 66 20 [.ref a0, .int x1, .int x2] [] h = (zv 2 45 0 [.ref a0, .int x1] [] h).bind fun r => zv 3 66 25 [.ref a0, .int x1, .int x2] (r.1.toList ++ []) r.2 := by
  refine Eq.trans (zv_next f66_20 rfl) ?_
  refine Eq.trans (zv_next f66_21 rfl) ?_
  exact zs_callV f66_22 (Nat.le_of_ble_eq_true rfl) (Nat.le_of_ble_eq_true rfl) rfl g0 g1 me_45 (by decide) rfl
theorem b66_25 {h : zi_Hp} {a0 : Nat} {x1 : Int32} {x2 : Int32} {s0 : Int32}  : zv 3 66 25 [.ref a0, .int x1, .int x2] [.int s0] h = if s0 = 0 then zv 3 66 28 [.ref a0, .int x1, .int x2] [] h else zv 3 66 43 [.ref a0, .int x1, .int x2] [] h := by
  exact zs_if f66_25 rfl
theorem b66_28 {h : zi_Hp} {a0 : Nat} {x1 : Int32} {x2 : Int32} (g0 : a0 < zh_n h) (g1 : (zh_k h a0).1 = 4) : zv 3 66 28 [.ref a0, .int x1, .int x2] [] h = (zv 2 43 0 [.ref a0, .int x1] [] h).bind fun r => zv 3 66 33 [.ref a0, .int x1, .int x2] (r.1.toList ++ []) r.2 := by
  refine Eq.trans (zv_next f66_28 rfl) ?_
  refine Eq.trans (zv_next f66_29 rfl) ?_
  exact zs_callV f66_30 (Nat.le_of_ble_eq_true rfl) (Nat.le_of_ble_eq_true rfl) rfl g0 g1 me_43 (by decide) rfl
theorem b66_33 {h : zi_Hp} {a0 : Nat} {x1 : Int32} {x2 : Int32} {s0 : Int32} (g0 : a0 < zh_n h) (g1 : (zh_k h a0).1 = 4) : zv 3 66 33 [.ref a0, .int x1, .int x2] [.int s0] h = (zv 2 43 0 [.ref a0, .int x2] [] h).bind fun r => zv 3 66 38 [.ref a0, .int x1, .int x2] (r.1.toList ++ [.int s0]) r.2 := by
  refine Eq.trans (zv_next f66_33 rfl) ?_
  refine Eq.trans (zv_next f66_34 rfl) ?_
  exact zs_callV f66_35 (Nat.le_of_ble_eq_true rfl) (Nat.le_of_ble_eq_true rfl) rfl g0 g1 me_43 (by decide) rfl
theorem b66_38 {h : zi_Hp} {a0 : Nat} {x1 : Int32} {x2 : Int32} {s0 : Int32} {s1 : Int32}  : zv 3 66 38 [.ref a0, .int x1, .int x2] [.int s1, .int s0] h = if s0 < s1 then zv 3 66 43 [.ref a0, .int x1, .int x2] [] h else zv 3 66 41 [.ref a0, .int x1, .int x2] [] h := by
  exact zs_icmp f66_38 rfl
theorem b66_41 {h : zi_Hp} {a0 : Nat} {x1 : Int32} {x2 : Int32}  : zv 3 66 41 [.ref a0, .int x1, .int x2] [] h = some (some (.int 0), h) := by
  refine Eq.trans (zs_ic f66_41 ic_0) ?_
  exact zs_ret1 f66_42 (by decide)
theorem b66_43 {h : zi_Hp} {a0 : Nat} {x1 : Int32} {x2 : Int32}  : zv 3 66 43 [.ref a0, .int x1, .int x2] [] h = zv 3 66 2 [.ref a0, .int (x1 + 1), .int x2] [] h := by
  refine Eq.trans (zs_inc f66_43 rfl ic_1 rfl) ?_
  refine Eq.trans (zs_goto (tgt := 2) f66_46 rfl) ?_
  rfl
theorem b66_49 {h : zi_Hp} {a0 : Nat} {x1 : Int32} {u2 : Value}  : zv 3 66 49 [.ref a0, .int x1, u2] [] h = some (some (.int 1), h) := by
  refine Eq.trans (zs_ic f66_49 ic_1) ?_
  exact zs_ret1 f66_50 (by decide)
set_option maxRecDepth 20000 in
theorem zq67 : zi_M[67]? = some zi_m67 := rfl
theorem zl67_0 {pc : Nat} (_ : 0 ≤ pc) : zi_fe 67 pc = zu67_0.lookup pc := zi_feA zq67 pc
theorem f67_0 : zi_fe 67 0 = some ((.iconst 0), 1, 0, 0, 0, 0, 0) := (zl67_0 (Nat.le_of_ble_eq_true rfl)).trans rfl
theorem f67_1 : zi_fe 67 1 = some ((.istore_n 1), 1, 0, 0, 0, 0, 0) := (zl67_0 (Nat.le_of_ble_eq_true rfl)).trans rfl
theorem f67_2 : zi_fe 67 2 = some ((.iload_n 1), 1, 0, 0, 0, 0, 0) := (zl67_0 (Nat.le_of_ble_eq_true rfl)).trans rfl
theorem f67_3 : zi_fe 67 3 = some ((.aload_n 0), 1, 0, 0, 0, 0, 0) := (zl67_0 (Nat.le_of_ble_eq_true rfl)).trans rfl
theorem f67_4 : zi_fe 67 4 = some ((.getfield 37), 3, 4, 0, 0, 137, 0) := (zl67_0 (Nat.le_of_ble_eq_true rfl)).trans rfl
theorem f67_7 : zi_fe 67 7 = some ((.if_icmp .ge 34), 3, 0, 0, 0, 0, 0) := (zl67_0 (Nat.le_of_ble_eq_true rfl)).trans rfl
theorem f67_10 : zi_fe 67 10 = some ((.aload_n 0), 1, 0, 0, 0, 0, 0) := (zl67_0 (Nat.le_of_ble_eq_true rfl)).trans rfl
theorem f67_11 : zi_fe 67 11 = some ((.iload_n 1), 1, 0, 0, 0, 0, 0) := (zl67_0 (Nat.le_of_ble_eq_true rfl)).trans rfl
theorem f67_12 : zi_fe 67 12 = some ((.invokevirtual 85), 3, 44, 0, 4, 948, 2) := (zl67_0 (Nat.le_of_ble_eq_true rfl)).trans rfl
theorem f67_15 : zi_fe 67 15 = some ((.istore_n 2), 1, 0, 0, 0, 0, 0) := (zl67_0 (Nat.le_of_ble_eq_true rfl)).trans rfl
theorem f67_16 : zi_fe 67 16 = some ((.iload_n 2), 1, 0, 0, 0, 0, 0) := (zl67_0 (Nat.le_of_ble_eq_true rfl)).trans rfl
theorem f67_17 : zi_fe 67 17 = some ((.ifCond .lt 18), 3, 0, 0, 0, 0, 0) := (zl67_0 (Nat.le_of_ble_eq_true rfl)).trans rfl
theorem zl67_1 {pc : Nat} (h : 20 ≤ pc) : zi_fe 67 pc = zu67_1.lookup pc := (zl67_0 (Nat.le_trans (Nat.le_of_ble_eq_true rfl) h)).trans (zi_lkA (a := zi_i67_0) (c := 20) rfl h)
theorem f67_20 : zi_fe 67 20 = some ((.aload_n 0), 1, 0, 0, 0, 0, 0) := (zl67_1 (Nat.le_of_ble_eq_true rfl)).trans rfl
theorem f67_21 : zi_fe 67 21 = some ((.iload_n 1), 1, 0, 0, 0, 0, 0) := (zl67_1 (Nat.le_of_ble_eq_true rfl)).trans rfl
theorem f67_22 : zi_fe 67 22 = some ((.invokevirtual 77), 3, 42, 0, 4, 954, 2) := (zl67_1 (Nat.le_of_ble_eq_true rfl)).trans rfl
theorem f67_25 : zi_fe 67 25 = some ((.aload_n 0), 1, 0, 0, 0, 0, 0) := (zl67_1 (Nat.le_of_ble_eq_true rfl)).trans rfl
theorem f67_26 : zi_fe 67 26 = some ((.iload_n 2), 1, 0, 0, 0, 0, 0) := (zl67_1 (Nat.le_of_ble_eq_true rfl)).trans rfl
theorem f67_27 : zi_fe 67 27 = some ((.invokevirtual 77), 3, 42, 0, 4, 954, 2) := (zl67_1 (Nat.le_of_ble_eq_true rfl)).trans rfl
theorem f67_30 : zi_fe 67 30 = some ((.if_icmp .eq 5), 3, 0, 0, 0, 0, 0) := (zl67_1 (Nat.le_of_ble_eq_true rfl)).trans rfl
theorem f67_33 : zi_fe 67 33 = some ((.iconst 0), 1, 0, 0, 0, 0, 0) := (zl67_1 (Nat.le_of_ble_eq_true rfl)).trans rfl
theorem f67_34 : zi_fe 67 34 = some (.ireturn, 1, 1, 0, 0, 0, 0) := (zl67_1 (Nat.le_of_ble_eq_true rfl)).trans rfl
theorem f67_35 : zi_fe 67 35 = some ((.iinc 1 1), 3, 0, 0, 0, 0, 0) := (zl67_1 (Nat.le_of_ble_eq_true rfl)).trans rfl
theorem f67_38 : zi_fe 67 38 = some ((.goto (-36)), 3, 0, 0, 0, 0, 0) := (zl67_1 (Nat.le_of_ble_eq_true rfl)).trans rfl
theorem f67_41 : zi_fe 67 41 = some ((.iconst 1), 1, 0, 0, 0, 0, 0) := (zl67_1 (Nat.le_of_ble_eq_true rfl)).trans rfl
theorem zl67_2 {pc : Nat} (h : 42 ≤ pc) : zi_fe 67 pc = zu67_2.lookup pc := (zl67_1 (Nat.le_trans (Nat.le_of_ble_eq_true rfl) h)).trans (zi_lkA (a := zi_i67_1) (c := 42) rfl h)
theorem f67_42 : zi_fe 67 42 = some (.ireturn, 1, 1, 0, 0, 0, 0) := (zl67_2 (Nat.le_of_ble_eq_true rfl)).trans rfl
theorem b67_0 {h : zi_Hp} {a0 : Nat} {u1 : Value} {u2 : Value}  : zv 3 67 0 [.ref a0, u1, u2] [] h = zv 3 67 2 [.ref a0, .int 0, u2] [] h := by
  refine Eq.trans (zs_ic f67_0 ic_0) ?_
  refine Eq.trans (zv_next f67_1 rfl) ?_
  rfl
theorem b67_2 {h : zi_Hp} {a0 : Nat} {x1 : Int32} {u2 : Value} (g0 : a0 < zh_n h) (g1 : (zh_k h a0).1 = 4) : zv 3 67 2 [.ref a0, .int x1, u2] [] h = if x1 < (zh_i h a0 0) then zv 3 67 10 [.ref a0, .int x1, u2] [] h else zv 3 67 41 [.ref a0, .int x1, u2] [] h := by
  refine Eq.trans (zv_next f67_2 rfl) ?_
  refine Eq.trans (zv_next f67_3 rfl) ?_
  refine Eq.trans (zs_geti f67_4 g0 g1) ?_
  exact zs_icmp f67_7 rfl
theorem b67_10 {h : zi_Hp} {a0 : Nat} {x1 : Int32} {u2 : Value} (g0 : a0 < zh_n h) (g1 : (zh_k h a0).1 = 4) : zv 3 67 10 [.ref a0, .int x1, u2] [] h = (zv 2 44 0 [.ref a0, .int x1] [] h).bind fun r => zv 3 67 15 [.ref a0, .int x1, u2] (r.1.toList ++ []) r.2 := by
  refine Eq.trans (zv_next f67_10 rfl) ?_
  refine Eq.trans (zv_next f67_11 rfl) ?_
  exact zs_callV f67_12 (Nat.le_of_ble_eq_true rfl) (Nat.le_of_ble_eq_true rfl) rfl g0 g1 me_44 (by decide) rfl
theorem b67_15 {h : zi_Hp} {a0 : Nat} {x1 : Int32} {u2 : Value} {s0 : Int32}  : zv 3 67 15 [.ref a0, .int x1, u2] [.int s0] h = if s0 < 0 then zv 3 67 35 [.ref a0, .int x1, .int s0] [] h else zv 3 67 20 [.ref a0, .int x1, .int s0] [] h := by
  refine Eq.trans (zv_next f67_15 rfl) ?_
  refine Eq.trans (zv_next f67_16 rfl) ?_
  exact zs_if f67_17 rfl
theorem b67_20 {h : zi_Hp} {a0 : Nat} {x1 : Int32} {x2 : Int32} (g0 : a0 < zh_n h) (g1 : (zh_k h a0).1 = 4) : zv 3 67 20 [.ref a0, .int x1, .int x2] [] h = (zv 2 42 0 [.ref a0, .int x1] [] h).bind fun r => zv 3 67 25 [.ref a0, .int x1, .int x2] (r.1.toList ++ []) r.2 := by
  refine Eq.trans (zv_next f67_20 rfl) ?_
  refine Eq.trans (zv_next f67_21 rfl) ?_
  exact zs_callV f67_22 (Nat.le_of_ble_eq_true rfl) (Nat.le_of_ble_eq_true rfl) rfl g0 g1 me_42 (by decide) rfl
theorem b67_25 {h : zi_Hp} {a0 : Nat} {x1 : Int32} {x2 : Int32} {s0 : Int32} (g0 : a0 < zh_n h) (g1 : (zh_k h a0).1 = 4) : zv 3 67 25 [.ref a0, .int x1, .int x2] [.int s0] h = (zv 2 42 0 [.ref a0, .int x2] [] h).bind fun r => zv 3 67 30 [.ref a0, .int x1, .int x2] (r.1.toList ++ [.int s0]) r.2 := by
  refine Eq.trans (zv_next f67_25 rfl) ?_
  refine Eq.trans (zv_next f67_26 rfl) ?_
  exact zs_callV f67_27 (Nat.le_of_ble_eq_true rfl) (Nat.le_of_ble_eq_true rfl) rfl g0 g1 me_42 (by decide) rfl
theorem b67_30 {h : zi_Hp} {a0 : Nat} {x1 : Int32} {x2 : Int32} {s0 : Int32} {s1 : Int32}  : zv 3 67 30 [.ref a0, .int x1, .int x2] [.int s1, .int s0] h = if s0 = s1 then zv 3 67 35 [.ref a0, .int x1, .int x2] [] h else zv 3 67 33 [.ref a0, .int x1, .int x2] [] h := by
  exact zs_icmp f67_30 rfl
theorem b67_33 {h : zi_Hp} {a0 : Nat} {x1 : Int32} {x2 : Int32}  : zv 3 67 33 [.ref a0, .int x1, .int x2] [] h = some (some (.int 0), h) := by
  refine Eq.trans (zs_ic f67_33 ic_0) ?_
  exact zs_ret1 f67_34 (by decide)
theorem b67_35 {h : zi_Hp} {a0 : Nat} {x1 : Int32} {x2 : Int32}  : zv 3 67 35 [.ref a0, .int x1, .int x2] [] h = zv 3 67 2 [.ref a0, .int (x1 + 1), .int x2] [] h := by
  refine Eq.trans (zs_inc f67_35 rfl ic_1 rfl) ?_
  refine Eq.trans (zs_goto (tgt := 2) f67_38 rfl) ?_
  rfl
theorem b67_41 {h : zi_Hp} {a0 : Nat} {x1 : Int32} {u2 : Value}  : zv 3 67 41 [.ref a0, .int x1, u2] [] h = some (some (.int 1), h) := by
  refine Eq.trans (zs_ic f67_41 ic_1) ?_
  exact zs_ret1 f67_42 (by decide)
set_option maxRecDepth 20000 in
theorem zq68 : zi_M[68]? = some zi_m68 := rfl
theorem zl68_0 {pc : Nat} (_ : 0 ≤ pc) : zi_fe 68 pc = zu68_0.lookup pc := zi_feA zq68 pc
theorem f68_0 : zi_fe 68 0 = some ((.iconst 0), 1, 0, 0, 0, 0, 0) := (zl68_0 (Nat.le_of_ble_eq_true rfl)).trans rfl
theorem f68_1 : zi_fe 68 1 = some ((.istore_n 1), 1, 0, 0, 0, 0, 0) := (zl68_0 (Nat.le_of_ble_eq_true rfl)).trans rfl
theorem f68_2 : zi_fe 68 2 = some ((.iload_n 1), 1, 0, 0, 0, 0, 0) := (zl68_0 (Nat.le_of_ble_eq_true rfl)).trans rfl
theorem f68_3 : zi_fe 68 3 = some ((.bipush 100), 2, 0, 0, 0, 0, 0) := (zl68_0 (Nat.le_of_ble_eq_true rfl)).trans rfl
theorem f68_5 : zi_fe 68 5 = some ((.if_icmp .ge 27), 3, 0, 0, 0, 0, 0) := (zl68_0 (Nat.le_of_ble_eq_true rfl)).trans rfl
theorem f68_8 : zi_fe 68 8 = some ((.aload_n 0), 1, 0, 0, 0, 0, 0) := (zl68_0 (Nat.le_of_ble_eq_true rfl)).trans rfl
theorem f68_9 : zi_fe 68 9 = some ((.iload_n 1), 1, 0, 0, 0, 0, 0) := (zl68_0 (Nat.le_of_ble_eq_true rfl)).trans rfl
theorem f68_10 : zi_fe 68 10 = some ((.invokevirtual 68), 3, 56, 0, 4, 963, 2) := (zl68_0 (Nat.le_of_ble_eq_true rfl)).trans rfl
theorem f68_13 : zi_fe 68 13 = some ((.ifCond .eq 13), 3, 0, 0, 0, 0, 0) := (zl68_0 (Nat.le_of_ble_eq_true rfl)).trans rfl
theorem f68_16 : zi_fe 68 16 = some ((.aload_n 0), 1, 0, 0, 0, 0, 0) := (zl68_0 (Nat.le_of_ble_eq_true rfl)).trans rfl
theorem f68_17 : zi_fe 68 17 = some ((.iload_n 1), 1, 0, 0, 0, 0, 0) := (zl68_0 (Nat.le_of_ble_eq_true rfl)).trans rfl
theorem f68_18 : zi_fe 68 18 = some ((.invokevirtual 91), 3, 69, 0, 4, 964, 2) := (zl68_0 (Nat.le_of_ble_eq_true rfl)).trans rfl
theorem zl68_1 {pc : Nat} (h : 21 ≤ pc) : zi_fe 68 pc = zu68_1.lookup pc := (zl68_0 (Nat.le_trans (Nat.le_of_ble_eq_true rfl) h)).trans (zi_lkA (a := zi_i68_0) (c := 21) rfl h)
theorem f68_21 : zi_fe 68 21 = some ((.ifCond .ne 5), 3, 0, 0, 0, 0, 0) := (zl68_1 (Nat.le_of_ble_eq_true rfl)).trans rfl
theorem f68_24 : zi_fe 68 24 = some ((.iconst 0), 1, 0, 0, 0, 0, 0) := (zl68_1 (Nat.le_of_ble_eq_true rfl)).trans rfl
theorem f68_25 : zi_fe 68 25 = some (.ireturn, 1, 1, 0, 0, 0, 0) := (zl68_1 (Nat.le_of_ble_eq_true rfl)).trans rfl
theorem f68_26 : zi_fe 68 26 = some ((.iinc 1 1), 3, 0, 0, 0, 0, 0) := (zl68_1 (Nat.le_of_ble_eq_true rfl)).trans rfl
theorem f68_29 : zi_fe 68 29 = some ((.goto (-27)), 3, 0, 0, 0, 0, 0) := (zl68_1 (Nat.le_of_ble_eq_true rfl)).trans rfl
theorem f68_32 : zi_fe 68 32 = some ((.iconst 1), 1, 0, 0, 0, 0, 0) := (zl68_1 (Nat.le_of_ble_eq_true rfl)).trans rfl
theorem f68_33 : zi_fe 68 33 = some (.ireturn, 1, 1, 0, 0, 0, 0) := (zl68_1 (Nat.le_of_ble_eq_true rfl)).trans rfl
theorem b68_0 {h : zi_Hp} {a0 : Nat} {u1 : Value}  : zv 5 68 0 [.ref a0, u1] [] h = zv 5 68 2 [.ref a0, .int 0] [] h := by
  refine Eq.trans (zs_ic f68_0 ic_0) ?_
  refine Eq.trans (zv_next f68_1 rfl) ?_
  rfl
theorem b68_2 {h : zi_Hp} {a0 : Nat} {x1 : Int32}  : zv 5 68 2 [.ref a0, .int x1] [] h = if x1 < 100 then zv 5 68 8 [.ref a0, .int x1] [] h else zv 5 68 32 [.ref a0, .int x1] [] h := by
  refine Eq.trans (zv_next f68_2 rfl) ?_
  refine Eq.trans (zs_bp f68_3 bp_100) ?_
  exact zs_icmp f68_5 rfl
theorem b68_8 {h : zi_Hp} {a0 : Nat} {x1 : Int32} (g0 : a0 < zh_n h) (g1 : (zh_k h a0).1 = 4) : zv 5 68 8 [.ref a0, .int x1] [] h = (zv 1 56 0 [.ref a0, .int x1, .double 0, .double 0] [] h).bind fun r => zv 5 68 13 [.ref a0, .int x1] (r.1.toList ++ []) r.2 := by
  refine Eq.trans (zv_next f68_8 rfl) ?_
  refine Eq.trans (zv_next f68_9 rfl) ?_
  exact zs_callV f68_10 (Nat.le_of_ble_eq_true rfl) (Nat.le_of_ble_eq_true rfl) rfl g0 g1 me_56 (by decide) rfl
theorem b68_13 {h : zi_Hp} {a0 : Nat} {x1 : Int32} {s0 : Int32}  : zv 5 68 13 [.ref a0, .int x1] [.int s0] h = if s0 = 0 then zv 5 68 26 [.ref a0, .int x1] [] h else zv 5 68 16 [.ref a0, .int x1] [] h := by
  exact zs_if f68_13 rfl
theorem b68_16 {h : zi_Hp} {a0 : Nat} {x1 : Int32} (g0 : a0 < zh_n h) (g1 : (zh_k h a0).1 = 4) : zv 5 68 16 [.ref a0, .int x1] [] h = (zv 4 69 0 [.ref a0, .int x1, .double 0, .double 0] [] h).bind fun r => zv 5 68 21 [.ref a0, .int x1] (r.1.toList ++ []) r.2 := by
  refine Eq.trans (zv_next f68_16 rfl) ?_
  refine Eq.trans (zv_next f68_17 rfl) ?_
  exact zs_callV f68_18 (Nat.le_of_ble_eq_true rfl) (Nat.le_of_ble_eq_true rfl) rfl g0 g1 me_69 (by decide) rfl
theorem b68_21 {h : zi_Hp} {a0 : Nat} {x1 : Int32} {s0 : Int32}  : zv 5 68 21 [.ref a0, .int x1] [.int s0] h = if s0 = 0 then zv 5 68 24 [.ref a0, .int x1] [] h else zv 5 68 26 [.ref a0, .int x1] [] h := by
  exact zs_if f68_21 rfl
theorem b68_24 {h : zi_Hp} {a0 : Nat} {x1 : Int32}  : zv 5 68 24 [.ref a0, .int x1] [] h = some (some (.int 0), h) := by
  refine Eq.trans (zs_ic f68_24 ic_0) ?_
  exact zs_ret1 f68_25 (by decide)
theorem b68_26 {h : zi_Hp} {a0 : Nat} {x1 : Int32}  : zv 5 68 26 [.ref a0, .int x1] [] h = zv 5 68 2 [.ref a0, .int (x1 + 1)] [] h := by
  refine Eq.trans (zs_inc f68_26 rfl ic_1 rfl) ?_
  refine Eq.trans (zs_goto (tgt := 2) f68_29 rfl) ?_
  rfl
theorem b68_32 {h : zi_Hp} {a0 : Nat} {x1 : Int32}  : zv 5 68 32 [.ref a0, .int x1] [] h = some (some (.int 1), h) := by
  refine Eq.trans (zs_ic f68_32 ic_1) ?_
  exact zs_ret1 f68_33 (by decide)
set_option maxRecDepth 20000 in
theorem zq69 : zi_M[69]? = some zi_m69 := rfl
theorem zl69_0 {pc : Nat} (_ : 0 ≤ pc) : zi_fe 69 pc = zu69_0.lookup pc := zi_feA zq69 pc
theorem f69_0 : zi_fe 69 0 = some ((.aload_n 0), 1, 0, 0, 0, 0, 0) := (zl69_0 (Nat.le_of_ble_eq_true rfl)).trans rfl
theorem f69_1 : zi_fe 69 1 = some ((.getfield 45), 3, 4, 1, 0, 141, 0) := (zl69_0 (Nat.le_of_ble_eq_true rfl)).trans rfl
theorem f69_4 : zi_fe 69 4 = some ((.istore_n 2), 1, 0, 0, 0, 0, 0) := (zl69_0 (Nat.le_of_ble_eq_true rfl)).trans rfl
theorem f69_5 : zi_fe 69 5 = some ((.iconst 0), 1, 0, 0, 0, 0, 0) := (zl69_0 (Nat.le_of_ble_eq_true rfl)).trans rfl
theorem f69_6 : zi_fe 69 6 = some ((.istore_n 3), 1, 0, 0, 0, 0, 0) := (zl69_0 (Nat.le_of_ble_eq_true rfl)).trans rfl
theorem f69_7 : zi_fe 69 7 = some ((.iload_n 3), 1, 0, 0, 0, 0, 0) := (zl69_0 (Nat.le_of_ble_eq_true rfl)).trans rfl
theorem f69_8 : zi_fe 69 8 = some ((.bipush 24), 2, 0, 0, 0, 0, 0) := (zl69_0 (Nat.le_of_ble_eq_true rfl)).trans rfl
theorem f69_10 : zi_fe 69 10 = some ((.if_icmp .gt 65), 3, 0, 0, 0, 0, 0) := (zl69_0 (Nat.le_of_ble_eq_true rfl)).trans rfl
theorem f69_13 : zi_fe 69 13 = some ((.aload_n 0), 1, 0, 0, 0, 0, 0) := (zl69_0 (Nat.le_of_ble_eq_true rfl)).trans rfl
theorem f69_14 : zi_fe 69 14 = some ((.iload_n 2), 1, 0, 0, 0, 0, 0) := (zl69_0 (Nat.le_of_ble_eq_true rfl)).trans rfl
theorem f69_15 : zi_fe 69 15 = some ((.invokevirtual 74), 3, 45, 0, 4, 780, 2) := (zl69_0 (Nat.le_of_ble_eq_true rfl)).trans rfl
theorem f69_18 : zi_fe 69 18 = some ((.ifCond .ne 12), 3, 0, 0, 0, 0, 0) := (zl69_0 (Nat.le_of_ble_eq_true rfl)).trans rfl
theorem zl69_1 {pc : Nat} (h : 21 ≤ pc) : zi_fe 69 pc = zu69_1.lookup pc := (zl69_0 (Nat.le_trans (Nat.le_of_ble_eq_true rfl) h)).trans (zi_lkA (a := zi_i69_0) (c := 21) rfl h)
theorem f69_21 : zi_fe 69 21 = some ((.iload_n 1), 1, 0, 0, 0, 0, 0) := (zl69_1 (Nat.le_of_ble_eq_true rfl)).trans rfl
theorem f69_22 : zi_fe 69 22 = some ((.aload_n 0), 1, 0, 0, 0, 0, 0) := (zl69_1 (Nat.le_of_ble_eq_true rfl)).trans rfl
theorem f69_23 : zi_fe 69 23 = some ((.iload_n 2), 1, 0, 0, 0, 0, 0) := (zl69_1 (Nat.le_of_ble_eq_true rfl)).trans rfl
theorem f69_24 : zi_fe 69 24 = some ((.invokevirtual 88), 3, 43, 0, 4, 949, 2) := (zl69_1 (Nat.le_of_ble_eq_true rfl)).trans rfl
theorem f69_27 : zi_fe 69 27 = some ((.if_icmp .le 12), 3, 0, 0, 0, 0, 0) := (zl69_1 (Nat.le_of_ble_eq_true rfl)).trans rfl
theorem f69_30 : zi_fe 69 30 = some ((.aload_n 0), 1, 0, 0, 0, 0, 0) := (zl69_1 (Nat.le_of_ble_eq_true rfl)).trans rfl
theorem f69_31 : zi_fe 69 31 = some ((.iload_n 2), 1, 0, 0, 0, 0, 0) := (zl69_1 (Nat.le_of_ble_eq_true rfl)).trans rfl
theorem f69_32 : zi_fe 69 32 = some ((.invokevirtual 85), 3, 44, 0, 4, 948, 2) := (zl69_1 (Nat.le_of_ble_eq_true rfl)).trans rfl
theorem f69_35 : zi_fe 69 35 = some ((.istore_n 2), 1, 0, 0, 0, 0, 0) := (zl69_1 (Nat.le_of_ble_eq_true rfl)).trans rfl
theorem f69_36 : zi_fe 69 36 = some ((.goto 33), 3, 0, 0, 0, 0, 0) := (zl69_1 (Nat.le_of_ble_eq_true rfl)).trans rfl
theorem f69_39 : zi_fe 69 39 = some ((.aload_n 0), 1, 0, 0, 0, 0, 0) := (zl69_1 (Nat.le_of_ble_eq_true rfl)).trans rfl
theorem f69_40 : zi_fe 69 40 = some ((.iload_n 2), 1, 0, 0, 0, 0, 0) := (zl69_1 (Nat.le_of_ble_eq_true rfl)).trans rfl
theorem zl69_2 {pc : Nat} (h : 41 ≤ pc) : zi_fe 69 pc = zu69_2.lookup pc := (zl69_1 (Nat.le_trans (Nat.le_of_ble_eq_true rfl) h)).trans (zi_lkA (a := zi_i69_1) (c := 41) rfl h)
theorem f69_41 : zi_fe 69 41 = some ((.invokevirtual 77), 3, 42, 0, 4, 954, 2) := (zl69_2 (Nat.le_of_ble_eq_true rfl)).trans rfl
theorem f69_44 : zi_fe 69 44 = some ((.ifCond .le 18), 3, 0, 0, 0, 0, 0) := (zl69_2 (Nat.le_of_ble_eq_true rfl)).trans rfl
theorem f69_47 : zi_fe 69 47 = some ((.aload_n 0), 1, 0, 0, 0, 0, 0) := (zl69_2 (Nat.le_of_ble_eq_true rfl)).trans rfl
theorem f69_48 : zi_fe 69 48 = some ((.iload_n 2), 1, 0, 0, 0, 0, 0) := (zl69_2 (Nat.le_of_ble_eq_true rfl)).trans rfl
theorem f69_49 : zi_fe 69 49 = some ((.aload_n 0), 1, 0, 0, 0, 0, 0) := (zl69_2 (Nat.le_of_ble_eq_true rfl)).trans rfl
theorem f69_50 : zi_fe 69 50 = some ((.iload_n 2), 1, 0, 0, 0, 0, 0) := (zl69_2 (Nat.le_of_ble_eq_true rfl)).trans rfl
theorem f69_51 : zi_fe 69 51 = some ((.iload_n 1), 1, 0, 0, 0, 0, 0) := (zl69_2 (Nat.le_of_ble_eq_true rfl)).trans rfl
theorem f69_52 : zi_fe 69 52 = some ((.invokevirtual 61), 3, 49, 0, 4, 674, 3) := (zl69_2 (Nat.le_of_ble_eq_true rfl)).trans rfl
theorem f69_55 : zi_fe 69 55 = some ((.invokevirtual 94), 3, 48, 0, 4, 968, 3) := (zl69_2 (Nat.le_of_ble_eq_true rfl)).trans rfl
theorem f69_58 : zi_fe 69 58 = some ((.istore_n 2), 1, 0, 0, 0, 0, 0) := (zl69_2 (Nat.le_of_ble_eq_true rfl)).trans rfl
theorem f69_59 : zi_fe 69 59 = some ((.goto 10), 3, 0, 0, 0, 0, 0) := (zl69_2 (Nat.le_of_ble_eq_true rfl)).trans rfl
theorem f69_62 : zi_fe 69 62 = some ((.aload_n 0), 1, 0, 0, 0, 0, 0) := (zl69_2 (Nat.le_of_ble_eq_true rfl)).trans rfl
theorem zl69_3 {pc : Nat} (h : 63 ≤ pc) : zi_fe 69 pc = zu69_3.lookup pc := (zl69_2 (Nat.le_trans (Nat.le_of_ble_eq_true rfl) h)).trans (zi_lkA (a := zi_i69_2) (c := 63) rfl h)
theorem f69_63 : zi_fe 69 63 = some ((.iload_n 2), 1, 0, 0, 0, 0, 0) := (zl69_3 (Nat.le_of_ble_eq_true rfl)).trans rfl
theorem f69_64 : zi_fe 69 64 = some ((.iload_n 1), 1, 0, 0, 0, 0, 0) := (zl69_3 (Nat.le_of_ble_eq_true rfl)).trans rfl
theorem f69_65 : zi_fe 69 65 = some ((.invokevirtual 97), 3, 50, 0, 4, 969, 3) := (zl69_3 (Nat.le_of_ble_eq_true rfl)).trans rfl
theorem f69_68 : zi_fe 69 68 = some (.ireturn, 1, 1, 0, 0, 0, 0) := (zl69_3 (Nat.le_of_ble_eq_true rfl)).trans rfl
theorem f69_69 : zi_fe 69 69 = some ((.iinc 3 1), 3, 0, 0, 0, 0, 0) := (zl69_3 (Nat.le_of_ble_eq_true rfl)).trans rfl
theorem f69_72 : zi_fe 69 72 = some ((.goto (-65)), 3, 0, 0, 0, 0, 0) := (zl69_3 (Nat.le_of_ble_eq_true rfl)).trans rfl
theorem f69_75 : zi_fe 69 75 = some ((.iconst 0), 1, 0, 0, 0, 0, 0) := (zl69_3 (Nat.le_of_ble_eq_true rfl)).trans rfl
theorem f69_76 : zi_fe 69 76 = some (.ireturn, 1, 1, 0, 0, 0, 0) := (zl69_3 (Nat.le_of_ble_eq_true rfl)).trans rfl
theorem b69_0 {h : zi_Hp} {a0 : Nat} {x1 : Int32} {u2 : Value} {u3 : Value} (g0 : a0 < zh_n h) (g1 : (zh_k h a0).1 = 4) : zv 4 69 0 [.ref a0, .int x1, u2, u3] [] h = zv 4 69 7 [.ref a0, .int x1, .int (zh_i h a0 1), .int 0] [] h := by
  refine Eq.trans (zv_next f69_0 rfl) ?_
  refine Eq.trans (zs_geti f69_1 g0 g1) ?_
  refine Eq.trans (zv_next f69_4 rfl) ?_
  refine Eq.trans (zs_ic f69_5 ic_0) ?_
  refine Eq.trans (zv_next f69_6 rfl) ?_
  rfl
theorem b69_7 {h : zi_Hp} {a0 : Nat} {x1 : Int32} {x2 : Int32} {x3 : Int32}  : zv 4 69 7 [.ref a0, .int x1, .int x2, .int x3] [] h = if 24 < x3 then zv 4 69 75 [.ref a0, .int x1, .int x2, .int x3] [] h else zv 4 69 13 [.ref a0, .int x1, .int x2, .int x3] [] h := by
  refine Eq.trans (zv_next f69_7 rfl) ?_
  refine Eq.trans (zs_bp f69_8 bp_24) ?_
  exact zs_icmp f69_10 rfl
theorem b69_13 {h : zi_Hp} {a0 : Nat} {x1 : Int32} {x2 : Int32} {x3 : Int32} (g0 : a0 < zh_n h) (g1 : (zh_k h a0).1 = 4) : zv 4 69 13 [.ref a0, .int x1, .int x2, .int x3] [] h = (zv 2 45 0 [.ref a0, .int x2] [] h).bind fun r => zv 4 69 18 [.ref a0, .int x1, .int x2, .int x3] (r.1.toList ++ []) r.2 := by
  refine Eq.trans (zv_next f69_13 rfl) ?_
  refine Eq.trans (zv_next f69_14 rfl) ?_
  exact zs_callV f69_15 (Nat.le_of_ble_eq_true rfl) (Nat.le_of_ble_eq_true rfl) rfl g0 g1 me_45 (by decide) rfl
theorem b69_18 {h : zi_Hp} {a0 : Nat} {x1 : Int32} {x2 : Int32} {x3 : Int32} {s0 : Int32}  : zv 4 69 18 [.ref a0, .int x1, .int x2, .int x3] [.int s0] h = if s0 = 0 then zv 4 69 21 [.ref a0, .int x1, .int x2, .int x3] [] h else zv 4 69 30 [.ref a0, .int x1, .int x2, .int x3] [] h := by
  exact zs_if f69_18 rfl
theorem b69_21 {h : zi_Hp} {a0 : Nat} {x1 : Int32} {x2 : Int32} {x3 : Int32} (g0 : a0 < zh_n h) (g1 : (zh_k h a0).1 = 4) : zv 4 69 21 [.ref a0, .int x1, .int x2, .int x3] [] h = (zv 2 43 0 [.ref a0, .int x2] [] h).bind fun r => zv 4 69 27 [.ref a0, .int x1, .int x2, .int x3] (r.1.toList ++ [.int x1]) r.2 := by
  refine Eq.trans (zv_next f69_21 rfl) ?_
  refine Eq.trans (zv_next f69_22 rfl) ?_
  refine Eq.trans (zv_next f69_23 rfl) ?_
  exact zs_callV f69_24 (Nat.le_of_ble_eq_true rfl) (Nat.le_of_ble_eq_true rfl) rfl g0 g1 me_43 (by decide) rfl
theorem b69_27 {h : zi_Hp} {a0 : Nat} {x1 : Int32} {x2 : Int32} {x3 : Int32} {s0 : Int32} {s1 : Int32}  : zv 4 69 27 [.ref a0, .int x1, .int x2, .int x3] [.int s1, .int s0] h = if s1 < s0 then zv 4 69 30 [.ref a0, .int x1, .int x2, .int x3] [] h else zv 4 69 39 [.ref a0, .int x1, .int x2, .int x3] [] h := by
  exact zs_icmp f69_27 rfl
theorem b69_30 {h : zi_Hp} {a0 : Nat} {x1 : Int32} {x2 : Int32} {x3 : Int32} (g0 : a0 < zh_n h) (g1 : (zh_k h a0).1 = 4) : zv 4 69 30 [.ref a0, .int x1, .int x2, .int x3] [] h = (zv 2 44 0 [.ref a0, .int x2] [] h).bind fun r => zv 4 69 35 [.ref a0, .int x1, .int x2, .int x3] (r.1.toList ++ []) r.2 := by
  refine Eq.trans (zv_next f69_30 rfl) ?_
  refine Eq.trans (zv_next f69_31 rfl) ?_
  exact zs_callV f69_32 (Nat.le_of_ble_eq_true rfl) (Nat.le_of_ble_eq_true rfl) rfl g0 g1 me_44 (by decide) rfl
theorem b69_35 {h : zi_Hp} {a0 : Nat} {x1 : Int32} {x2 : Int32} {x3 : Int32} {s0 : Int32}  : zv 4 69 35 [.ref a0, .int x1, .int x2, .int x3] [.int s0] h = zv 4 69 69 [.ref a0, .int x1, .int s0, .int x3] [] h := by
  refine Eq.trans (zv_next f69_35 rfl) ?_
  refine Eq.trans (zs_goto (tgt := 69) f69_36 rfl) ?_
  rfl
theorem b69_39 {h : zi_Hp} {a0 : Nat} {x1 : Int32} {x2 : Int32} {x3 : Int32} (g0 : a0 < zh_n h) (g1 : (zh_k h a0).1 = 4) : zv 4 69 39 [.ref a0, .int x1, .int x2, .int x3] [] h = (zv 2 42 0 [.ref a0, .int x2] [] h).bind fun r => zv 4 69 44 [.ref a0, .int x1, .int x2, .int x3] (r.1.toList ++ []) r.2 := by
  refine Eq.trans (zv_next f69_39 rfl) ?_
  refine Eq.trans (zv_next f69_40 rfl) ?_
  exact zs_callV f69_41 (Nat.le_of_ble_eq_true rfl) (Nat.le_of_ble_eq_true rfl) rfl g0 g1 me_42 (by decide) rfl
theorem b69_44 {h : zi_Hp} {a0 : Nat} {x1 : Int32} {x2 : Int32} {x3 : Int32} {s0 : Int32}  : zv 4 69 44 [.ref a0, .int x1, .int x2, .int x3] [.int s0] h = if 0 < s0 then zv 4 69 47 [.ref a0, .int x1, .int x2, .int x3] [] h else zv 4 69 62 [.ref a0, .int x1, .int x2, .int x3] [] h := by
  exact zs_if f69_44 rfl
theorem b69_47 {h : zi_Hp} {a0 : Nat} {x1 : Int32} {x2 : Int32} {x3 : Int32} (g0 : a0 < zh_n h) (g1 : (zh_k h a0).1 = 4) : zv 4 69 47 [.ref a0, .int x1, .int x2, .int x3] [] h = (zv 2 49 0 [.ref a0, .int x2, .int x1, .double 0] [] h).bind fun r => zv 4 69 55 [.ref a0, .int x1, .int x2, .int x3] (r.1.toList ++ [.int x2, .ref a0]) r.2 := by
  refine Eq.trans (zv_next f69_47 rfl) ?_
  refine Eq.trans (zv_next f69_48 rfl) ?_
  refine Eq.trans (zv_next f69_49 rfl) ?_
  refine Eq.trans (zv_next f69_50 rfl) ?_
  refine Eq.trans (zv_next f69_51 rfl) ?_
  exact zs_callV f69_52 (Nat.le_of_ble_eq_true rfl) (Nat.le_of_ble_eq_true rfl) rfl g0 g1 me_49 (by decide) rfl
theorem b69_55 {h : zi_Hp} {a0 : Nat} {x1 : Int32} {x2 : Int32} {x3 : Int32} {t0 : Nat} {s1 : Int32} {s2 : Int32} (g0 : t0 < zh_n h) (g1 : (zh_k h t0).1 = 4) : zv 4 69 55 [.ref a0, .int x1, .int x2, .int x3] [.int s2, .int s1, .ref t0] h = (zv 2 48 0 [.ref t0, .int s1, .int s2] [] h).bind fun r => zv 4 69 58 [.ref a0, .int x1, .int x2, .int x3] (r.1.toList ++ []) r.2 := by
  exact zs_callV f69_55 (Nat.le_of_ble_eq_true rfl) (Nat.le_of_ble_eq_true rfl) rfl g0 g1 me_48 (by decide) rfl
theorem b69_58 {h : zi_Hp} {a0 : Nat} {x1 : Int32} {x2 : Int32} {x3 : Int32} {s0 : Int32}  : zv 4 69 58 [.ref a0, .int x1, .int x2, .int x3] [.int s0] h = zv 4 69 69 [.ref a0, .int x1, .int s0, .int x3] [] h := by
  refine Eq.trans (zv_next f69_58 rfl) ?_
  refine Eq.trans (zs_goto (tgt := 69) f69_59 rfl) ?_
  rfl
theorem b69_62 {h : zi_Hp} {a0 : Nat} {x1 : Int32} {x2 : Int32} {x3 : Int32} (g0 : a0 < zh_n h) (g1 : (zh_k h a0).1 = 4) : zv 4 69 62 [.ref a0, .int x1, .int x2, .int x3] [] h = (zv 3 50 0 [.ref a0, .int x2, .int x1] [] h).bind fun r => zv 4 69 68 [.ref a0, .int x1, .int x2, .int x3] (r.1.toList ++ []) r.2 := by
  refine Eq.trans (zv_next f69_62 rfl) ?_
  refine Eq.trans (zv_next f69_63 rfl) ?_
  refine Eq.trans (zv_next f69_64 rfl) ?_
  exact zs_callV f69_65 (Nat.le_of_ble_eq_true rfl) (Nat.le_of_ble_eq_true rfl) rfl g0 g1 me_50 (by decide) rfl
theorem b69_68 {h : zi_Hp} {a0 : Nat} {x1 : Int32} {x2 : Int32} {x3 : Int32} {s0 : Int32} (g0 : s0 = 0 ∨ s0 = 1) : zv 4 69 68 [.ref a0, .int x1, .int x2, .int x3] [.int s0] h = some (some (.int s0), h) := by
  exact zs_ret1 f69_68 g0
theorem b69_69 {h : zi_Hp} {a0 : Nat} {x1 : Int32} {x2 : Int32} {x3 : Int32}  : zv 4 69 69 [.ref a0, .int x1, .int x2, .int x3] [] h = zv 4 69 7 [.ref a0, .int x1, .int x2, .int (x3 + 1)] [] h := by
  refine Eq.trans (zs_inc f69_69 rfl ic_1 rfl) ?_
  refine Eq.trans (zs_goto (tgt := 7) f69_72 rfl) ?_
  rfl
theorem b69_75 {h : zi_Hp} {a0 : Nat} {x1 : Int32} {x2 : Int32} {x3 : Int32}  : zv 4 69 75 [.ref a0, .int x1, .int x2, .int x3] [] h = some (some (.int 0), h) := by
  refine Eq.trans (zs_ic f69_75 ic_0) ?_
  exact zs_ret1 f69_76 (by decide)
set_option maxRecDepth 20000 in
theorem zq70 : zi_M[70]? = some zi_m70 := rfl
theorem zl70_0 {pc : Nat} (_ : 0 ≤ pc) : zi_fe 70 pc = zu70_0.lookup pc := zi_feA zq70 pc
theorem f70_0 : zi_fe 70 0 = some ((.aload_n 0), 1, 0, 0, 0, 0, 0) := (zl70_0 (Nat.le_of_ble_eq_true rfl)).trans rfl
theorem f70_1 : zi_fe 70 1 = some ((.invokespecial 3), 3, 0, 3, 0, 269, 1) := (zl70_0 (Nat.le_of_ble_eq_true rfl)).trans rfl
theorem f70_4 : zi_fe 70 4 = some ((.aload_n 0), 1, 0, 0, 0, 0, 0) := (zl70_0 (Nat.le_of_ble_eq_true rfl)).trans rfl
theorem f70_5 : zi_fe 70 5 = some ((.bipush 8), 2, 0, 0, 0, 0, 0) := (zl70_0 (Nat.le_of_ble_eq_true rfl)).trans rfl
theorem f70_7 : zi_fe 70 7 = some ((.anewarray 9), 3, 103, 0, 263, 270, 0) := (zl70_0 (Nat.le_of_ble_eq_true rfl)).trans rfl
theorem f70_10 : zi_fe 70 10 = some ((.putfield 11), 3, 5, 0, 3, 272, 0) := (zl70_0 (Nat.le_of_ble_eq_true rfl)).trans rfl
theorem f70_13 : zi_fe 70 13 = some ((.iconst 0), 1, 0, 0, 0, 0, 0) := (zl70_0 (Nat.le_of_ble_eq_true rfl)).trans rfl
theorem f70_14 : zi_fe 70 14 = some ((.istore_n 1), 1, 0, 0, 0, 0, 0) := (zl70_0 (Nat.le_of_ble_eq_true rfl)).trans rfl
theorem f70_15 : zi_fe 70 15 = some ((.iload_n 1), 1, 0, 0, 0, 0, 0) := (zl70_0 (Nat.le_of_ble_eq_true rfl)).trans rfl
theorem f70_16 : zi_fe 70 16 = some ((.bipush 7), 2, 0, 0, 0, 0, 0) := (zl70_0 (Nat.le_of_ble_eq_true rfl)).trans rfl
theorem f70_18 : zi_fe 70 18 = some ((.if_icmp .gt 22), 3, 0, 0, 0, 0, 0) := (zl70_0 (Nat.le_of_ble_eq_true rfl)).trans rfl
theorem f70_21 : zi_fe 70 21 = some ((.aload_n 0), 1, 0, 0, 0, 0, 0) := (zl70_0 (Nat.le_of_ble_eq_true rfl)).trans rfl
theorem zl70_1 {pc : Nat} (h : 22 ≤ pc) : zi_fe 70 pc = zu70_1.lookup pc := (zl70_0 (Nat.le_trans (Nat.le_of_ble_eq_true rfl) h)).trans (zi_lkA (a := zi_i70_0) (c := 22) rfl h)
theorem f70_22 : zi_fe 70 22 = some ((.getfield 11), 3, 5, 0, 3, 272, 0) := (zl70_1 (Nat.le_of_ble_eq_true rfl)).trans rfl
theorem f70_25 : zi_fe 70 25 = some ((.iload_n 1), 1, 0, 0, 0, 0, 0) := (zl70_1 (Nat.le_of_ble_eq_true rfl)).trans rfl
theorem f70_26 : zi_fe 70 26 = some ((.new 9), 3, 6, 2, 118, 270, 0) := (zl70_1 (Nat.le_of_ble_eq_true rfl)).trans rfl
theorem f70_29 : zi_fe 70 29 = some (.dup, 1, 0, 0, 0, 0, 0) := (zl70_1 (Nat.le_of_ble_eq_true rfl)).trans rfl
theorem f70_30 : zi_fe 70 30 = some ((.invokespecial 17), 3, 74, 4, 6, 271, 1) := (zl70_1 (Nat.le_of_ble_eq_true rfl)).trans rfl
theorem f70_33 : zi_fe 70 33 = some (.aastore, 1, 0, 0, 0, 0, 0) := (zl70_1 (Nat.le_of_ble_eq_true rfl)).trans rfl
theorem f70_34 : zi_fe 70 34 = some ((.iinc 1 1), 3, 0, 0, 0, 0, 0) := (zl70_1 (Nat.le_of_ble_eq_true rfl)).trans rfl
theorem f70_37 : zi_fe 70 37 = some ((.goto (-22)), 3, 0, 0, 0, 0, 0) := (zl70_1 (Nat.le_of_ble_eq_true rfl)).trans rfl
theorem f70_40 : zi_fe 70 40 = some (.return_, 1, 0, 0, 0, 0, 0) := (zl70_1 (Nat.le_of_ble_eq_true rfl)).trans rfl
theorem b70_0 {h : zi_Hp} {a0 : Nat} {u1 : Value}  : zv 5 70 0 [.ref a0, u1] [] h = zv 5 70 10 [.ref a0, u1] [.ref (zh_n h), .ref a0] (zh_al h 103 8) := by
  refine Eq.trans (zv_next f70_0 rfl) ?_
  refine Eq.trans (zs_objI f70_1 (Nat.le_of_ble_eq_true rfl)) ?_
  refine Eq.trans (zv_next f70_4 rfl) ?_
  refine Eq.trans (zs_bp f70_5 bp_8) ?_
  refine Eq.trans (zs_anew (N := 8) f70_7 (by decide)) ?_
  rfl
theorem b70_10 {h : zi_Hp} {a0 : Nat} {u1 : Value} {t0 : Nat} {t1 : Nat} (g0 : t0 < zh_n h) (g1 : (zh_k h t0).1 = 5) : zv 5 70 10 [.ref a0, u1] [.ref t1, .ref t0] h = zv 5 70 15 [.ref a0, .int 0] [] (zh_wr h t0 0 (.ref t1)) := by
  refine Eq.trans (zs_put f70_10 g0 g1 rfl) ?_
  refine Eq.trans (zs_ic f70_13 ic_0) ?_
  refine Eq.trans (zv_next f70_14 rfl) ?_
  rfl
theorem b70_15 {h : zi_Hp} {a0 : Nat} {x1 : Int32}  : zv 5 70 15 [.ref a0, .int x1] [] h = if 7 < x1 then zv 5 70 40 [.ref a0, .int x1] [] h else zv 5 70 21 [.ref a0, .int x1] [] h := by
  refine Eq.trans (zv_next f70_15 rfl) ?_
  refine Eq.trans (zs_bp f70_16 bp_7) ?_
  exact zs_icmp f70_18 rfl
theorem b70_21 {h : zi_Hp} {a0 : Nat} {x1 : Int32} (g0 : a0 < zh_n h) (g1 : (zh_k h a0).1 = 5) (g2 : zh_r h a0 0 = .ref (zq (zh_r h a0 0))) : zv 5 70 21 [.ref a0, .int x1] [] h = zv 5 70 29 [.ref a0, .int x1] [.ref (zh_n h), .int x1, .ref (zq (zh_r h a0 0))] (zh_al h 6 2) := by
  refine Eq.trans (zv_next f70_21 rfl) ?_
  refine Eq.trans (zs_getr f70_22 g0 g1 g2) ?_
  refine Eq.trans (zv_next f70_25 rfl) ?_
  refine Eq.trans (zv_next f70_26 rfl) ?_
  rfl
theorem b70_29 {h : zi_Hp} {a0 : Nat} {x1 : Int32} {t0 : Nat} {s1 : Int32} {t2 : Nat}  : zv 5 70 29 [.ref a0, .int x1] [.ref t2, .int s1, .ref t0] h = (zv 4 74 0 [.ref t2] [] h).bind fun r => zv 5 70 33 [.ref a0, .int x1] (r.1.toList ++ [.ref t2, .int s1, .ref t0]) r.2 := by
  refine Eq.trans (zv_next f70_29 rfl) ?_
  exact zs_callI f70_30 (by decide) (Nat.le_of_ble_eq_true rfl) (Nat.le_of_ble_eq_true rfl) rfl me_74 (by decide) rfl
theorem b70_33 {h : zi_Hp} {a0 : Nat} {x1 : Int32} {t0 : Nat} {s1 : Int32} {t2 : Nat} (g0 : t0 < zh_n h) (g1 : ¬ (s1 < 0 ∨ (zh_k h t0).2 ≤ s1.toNatClampNeg)) (g2 : (zh_k h t0).1 = 103 ∨ (zh_k h t0).1 = 104) (g3 : t2 < zh_n h) (g4 : (zh_k h t2).1 = zi_comp (zh_k h t0).1) : zv 5 70 33 [.ref a0, .int x1] [.ref t2, .int s1, .ref t0] h = zv 5 70 15 [.ref a0, .int (x1 + 1)] [] (zh_wr h t0 s1.toNatClampNeg (.ref t2)) := by
  refine Eq.trans (zs_aast f70_33 g0 g2 g1 g3 g4) ?_
  refine Eq.trans (zs_inc f70_34 rfl ic_1 rfl) ?_
  refine Eq.trans (zs_goto (tgt := 15) f70_37 rfl) ?_
  rfl
theorem b70_40 {h : zi_Hp} {a0 : Nat} {x1 : Int32}  : zv 5 70 40 [.ref a0, .int x1] [] h = some (none, h) := by
  exact zv_ret f70_40 rfl
set_option maxRecDepth 20000 in
theorem zq71 : zi_M[71]? = some zi_m71 := rfl
theorem zl71_0 {pc : Nat} (_ : 0 ≤ pc) : zi_fe 71 pc = zu71_0.lookup pc := zi_feA zq71 pc
theorem f71_0 : zi_fe 71 0 = some ((.aload_n 0), 1, 0, 0, 0, 0, 0) := (zl71_0 (Nat.le_of_ble_eq_true rfl)).trans rfl
theorem f71_1 : zi_fe 71 1 = some ((.iconst 0), 1, 0, 0, 0, 0, 0) := (zl71_0 (Nat.le_of_ble_eq_true rfl)).trans rfl
theorem f71_2 : zi_fe 71 2 = some ((.putfield 18), 3, 5, 1, 0, 273, 0) := (zl71_0 (Nat.le_of_ble_eq_true rfl)).trans rfl
theorem f71_5 : zi_fe 71 5 = some ((.aload_n 0), 1, 0, 0, 0, 0, 0) := (zl71_0 (Nat.le_of_ble_eq_true rfl)).trans rfl
theorem f71_6 : zi_fe 71 6 = some ((.iconst 0), 1, 0, 0, 0, 0, 0) := (zl71_0 (Nat.le_of_ble_eq_true rfl)).trans rfl
theorem f71_7 : zi_fe 71 7 = some ((.putfield 22), 3, 5, 2, 0, 275, 0) := (zl71_0 (Nat.le_of_ble_eq_true rfl)).trans rfl
theorem f71_10 : zi_fe 71 10 = some ((.aload_n 0), 1, 0, 0, 0, 0, 0) := (zl71_0 (Nat.le_of_ble_eq_true rfl)).trans rfl
theorem f71_11 : zi_fe 71 11 = some ((.iconst 0), 1, 0, 0, 0, 0, 0) := (zl71_0 (Nat.le_of_ble_eq_true rfl)).trans rfl
theorem f71_12 : zi_fe 71 12 = some ((.putfield 25), 3, 5, 3, 0, 277, 0) := (zl71_0 (Nat.le_of_ble_eq_true rfl)).trans rfl
theorem f71_15 : zi_fe 71 15 = some ((.aload_n 0), 1, 0, 0, 0, 0, 0) := (zl71_0 (Nat.le_of_ble_eq_true rfl)).trans rfl
theorem f71_16 : zi_fe 71 16 = some ((.iconst 0), 1, 0, 0, 0, 0, 0) := (zl71_0 (Nat.le_of_ble_eq_true rfl)).trans rfl
theorem f71_17 : zi_fe 71 17 = some ((.putfield 28), 3, 5, 4, 0, 279, 0) := (zl71_0 (Nat.le_of_ble_eq_true rfl)).trans rfl
theorem zl71_1 {pc : Nat} (h : 20 ≤ pc) : zi_fe 71 pc = zu71_1.lookup pc := (zl71_0 (Nat.le_trans (Nat.le_of_ble_eq_true rfl) h)).trans (zi_lkA (a := zi_i71_0) (c := 20) rfl h)
theorem f71_20 : zi_fe 71 20 = some ((.aload_n 0), 1, 0, 0, 0, 0, 0) := (zl71_1 (Nat.le_of_ble_eq_true rfl)).trans rfl
theorem f71_21 : zi_fe 71 21 = some ((.iconst 0), 1, 0, 0, 0, 0, 0) := (zl71_1 (Nat.le_of_ble_eq_true rfl)).trans rfl
theorem f71_22 : zi_fe 71 22 = some ((.putfield 31), 3, 5, 5, 0, 281, 0) := (zl71_1 (Nat.le_of_ble_eq_true rfl)).trans rfl
theorem f71_25 : zi_fe 71 25 = some ((.aload_n 0), 1, 0, 0, 0, 0, 0) := (zl71_1 (Nat.le_of_ble_eq_true rfl)).trans rfl
theorem f71_26 : zi_fe 71 26 = some ((.iconst 0), 1, 0, 0, 0, 0, 0) := (zl71_1 (Nat.le_of_ble_eq_true rfl)).trans rfl
theorem f71_27 : zi_fe 71 27 = some ((.putfield 34), 3, 5, 6, 0, 283, 0) := (zl71_1 (Nat.le_of_ble_eq_true rfl)).trans rfl
theorem f71_30 : zi_fe 71 30 = some ((.aload_n 0), 1, 0, 0, 0, 0, 0) := (zl71_1 (Nat.le_of_ble_eq_true rfl)).trans rfl
theorem f71_31 : zi_fe 71 31 = some ((.bipush (-4)), 2, 0, 0, 0, 0, 0) := (zl71_1 (Nat.le_of_ble_eq_true rfl)).trans rfl
theorem f71_33 : zi_fe 71 33 = some ((.putfield 37), 3, 5, 7, 0, 285, 0) := (zl71_1 (Nat.le_of_ble_eq_true rfl)).trans rfl
theorem f71_36 : zi_fe 71 36 = some ((.aload_n 0), 1, 0, 0, 0, 0, 0) := (zl71_1 (Nat.le_of_ble_eq_true rfl)).trans rfl
theorem f71_37 : zi_fe 71 37 = some ((.lconst 0), 1, 0, 0, 0, 0, 0) := (zl71_1 (Nat.le_of_ble_eq_true rfl)).trans rfl
theorem f71_38 : zi_fe 71 38 = some ((.putfield 40), 3, 5, 8, 2, 287, 0) := (zl71_1 (Nat.le_of_ble_eq_true rfl)).trans rfl
theorem zl71_2 {pc : Nat} (h : 41 ≤ pc) : zi_fe 71 pc = zu71_2.lookup pc := (zl71_1 (Nat.le_trans (Nat.le_of_ble_eq_true rfl) h)).trans (zi_lkA (a := zi_i71_1) (c := 41) rfl h)
theorem f71_41 : zi_fe 71 41 = some ((.aload_n 0), 1, 0, 0, 0, 0, 0) := (zl71_2 (Nat.le_of_ble_eq_true rfl)).trans rfl
theorem f71_42 : zi_fe 71 42 = some ((.iload_n 2), 1, 0, 0, 0, 0, 0) := (zl71_2 (Nat.le_of_ble_eq_true rfl)).trans rfl
theorem f71_43 : zi_fe 71 43 = some ((.bipush 7), 2, 0, 0, 0, 0, 0) := (zl71_2 (Nat.le_of_ble_eq_true rfl)).trans rfl
theorem f71_45 : zi_fe 71 45 = some ((.invokestatic 44), 3, 0, 10, 0, 858, 2) := (zl71_2 (Nat.le_of_ble_eq_true rfl)).trans rfl
theorem f71_48 : zi_fe 71 48 = some ((.putfield 50), 3, 5, 9, 0, 289, 0) := (zl71_2 (Nat.le_of_ble_eq_true rfl)).trans rfl
theorem f71_51 : zi_fe 71 51 = some ((.aload_n 0), 1, 0, 0, 0, 0, 0) := (zl71_2 (Nat.le_of_ble_eq_true rfl)).trans rfl
theorem f71_52 : zi_fe 71 52 = some ((.aload_n 1), 1, 0, 0, 0, 0, 0) := (zl71_2 (Nat.le_of_ble_eq_true rfl)).trans rfl
theorem f71_53 : zi_fe 71 53 = some ((.invokevirtual 53), 3, 100, 0, 6, 861, 1) := (zl71_2 (Nat.le_of_ble_eq_true rfl)).trans rfl
theorem f71_56 : zi_fe 71 56 = some ((.putfield 57), 3, 5, 10, 0, 290, 0) := (zl71_2 (Nat.le_of_ble_eq_true rfl)).trans rfl
theorem f71_59 : zi_fe 71 59 = some ((.aload_n 0), 1, 0, 0, 0, 0, 0) := (zl71_2 (Nat.le_of_ble_eq_true rfl)).trans rfl
theorem f71_60 : zi_fe 71 60 = some ((.iload_n 3), 1, 0, 0, 0, 0, 0) := (zl71_2 (Nat.le_of_ble_eq_true rfl)).trans rfl
theorem f71_61 : zi_fe 71 61 = some ((.putfield 60), 3, 5, 11, 0, 291, 0) := (zl71_2 (Nat.le_of_ble_eq_true rfl)).trans rfl
theorem zl71_3 {pc : Nat} (h : 64 ≤ pc) : zi_fe 71 pc = zu71_3.lookup pc := (zl71_2 (Nat.le_trans (Nat.le_of_ble_eq_true rfl) h)).trans (zi_lkA (a := zi_i71_2) (c := 64) rfl h)
theorem f71_64 : zi_fe 71 64 = some ((.aload_n 0), 1, 0, 0, 0, 0, 0) := (zl71_3 (Nat.le_of_ble_eq_true rfl)).trans rfl
theorem f71_65 : zi_fe 71 65 = some ((.iload 4), 2, 0, 0, 0, 0, 0) := (zl71_3 (Nat.le_of_ble_eq_true rfl)).trans rfl
theorem f71_67 : zi_fe 71 67 = some ((.putfield 63), 3, 5, 12, 0, 292, 0) := (zl71_3 (Nat.le_of_ble_eq_true rfl)).trans rfl
theorem f71_70 : zi_fe 71 70 = some ((.aload_n 0), 1, 0, 0, 0, 0, 0) := (zl71_3 (Nat.le_of_ble_eq_true rfl)).trans rfl
theorem f71_71 : zi_fe 71 71 = some ((.getfield 11), 3, 5, 0, 3, 272, 0) := (zl71_3 (Nat.le_of_ble_eq_true rfl)).trans rfl
theorem f71_74 : zi_fe 71 74 = some ((.iconst 0), 1, 0, 0, 0, 0, 0) := (zl71_3 (Nat.le_of_ble_eq_true rfl)).trans rfl
theorem f71_75 : zi_fe 71 75 = some (.aaload, 1, 0, 0, 0, 0, 0) := (zl71_3 (Nat.le_of_ble_eq_true rfl)).trans rfl
theorem f71_76 : zi_fe 71 76 = some ((.aload_n 1), 1, 0, 0, 0, 0, 0) := (zl71_3 (Nat.le_of_ble_eq_true rfl)).trans rfl
theorem f71_77 : zi_fe 71 77 = some ((.invokevirtual 66), 3, 75, 0, 6, 865, 2) := (zl71_3 (Nat.le_of_ble_eq_true rfl)).trans rfl
theorem f71_80 : zi_fe 71 80 = some ((.aload_n 0), 1, 0, 0, 0, 0, 0) := (zl71_3 (Nat.le_of_ble_eq_true rfl)).trans rfl
theorem f71_81 : zi_fe 71 81 = some ((.iconst 0), 1, 0, 0, 0, 0, 0) := (zl71_3 (Nat.le_of_ble_eq_true rfl)).trans rfl
theorem f71_82 : zi_fe 71 82 = some ((.iconst 1), 1, 0, 0, 0, 0, 0) := (zl71_3 (Nat.le_of_ble_eq_true rfl)).trans rfl
theorem zl71_4 {pc : Nat} (h : 83 ≤ pc) : zi_fe 71 pc = zu71_4.lookup pc := (zl71_3 (Nat.le_trans (Nat.le_of_ble_eq_true rfl) h)).trans (zi_lkA (a := zi_i71_3) (c := 83) rfl h)
theorem f71_83 : zi_fe 71 83 = some ((.ldc2_w 70), 3, 0, 0, 0, 878, 279936) := (zl71_4 (Nat.le_of_ble_eq_true rfl)).trans rfl
theorem f71_86 : zi_fe 71 86 = some ((.invokestatic 72), 3, 72, 1, 5, 879, 4) := (zl71_4 (Nat.le_of_ble_eq_true rfl)).trans rfl
theorem f71_89 : zi_fe 71 89 = some (.return_, 1, 0, 0, 0, 0, 0) := (zl71_4 (Nat.le_of_ble_eq_true rfl)).trans rfl
theorem b71_0 {h : zi_Hp} {a0 : Nat} {a1 : Nat} {x2 : Int32} {x3 : Int32} {x4 : Int32} (g0 : a0 < zh_n h) (g1 : (zh_k h a0).1 = 5) (g2 : a1 < zh_n h) (g3 : (zh_k h a1).1 = 6) : zv 16 71 0 [.ref a0, .ref a1, .int x2, .int x3, .int x4] [] h = (zv 1 100 0 [.ref a1, .double 0, .double 0] [] (zh_wi (zh_wl (zh_wi (zh_wi (zh_wi (zh_wi (zh_wi (zh_wi (zh_wi h a0 1 0) a0 2 0) a0 3 0) a0 4 0) a0 5 0) a0 6 0) a0 7 (-4)) a0 8 0) a0 9 (if 7 < x2 then 7 else x2))).bind fun r => zv 16 71 56 [.ref a0, .ref a1, .int x2, .int x3, .int x4] (r.1.toList ++ [.ref a0]) r.2 := by
  refine Eq.trans (zv_next f71_0 rfl) ?_
  refine Eq.trans (zs_ic f71_1 ic_0) ?_
  refine Eq.trans (zs_put f71_2 g0 g1 rfl) ?_
  refine Eq.trans (zv_next f71_5 rfl) ?_
  refine Eq.trans (zs_ic f71_6 ic_0) ?_
  refine Eq.trans (zs_put f71_7 g0 g1 rfl) ?_
  refine Eq.trans (zv_next f71_10 rfl) ?_
  refine Eq.trans (zs_ic f71_11 ic_0) ?_
  refine Eq.trans (zs_put f71_12 g0 g1 rfl) ?_
  refine Eq.trans (zv_next f71_15 rfl) ?_
  refine Eq.trans (zs_ic f71_16 ic_0) ?_
  refine Eq.trans (zs_put f71_17 (zo_ni (zo_ni (zo_ni g0))) (zo_ki (zo_ki (zo_ki g1))) rfl) ?_
  refine Eq.trans (zv_next f71_20 rfl) ?_
  refine Eq.trans (zs_ic f71_21 ic_0) ?_
  refine Eq.trans (zs_put f71_22 (zo_ni (zo_ni (zo_ni (zo_ni g0)))) (zo_ki (zo_ki (zo_ki (zo_ki g1)))) rfl) ?_
  refine Eq.trans (zv_next f71_25 rfl) ?_
  refine Eq.trans (zs_ic f71_26 ic_0) ?_
  refine Eq.trans (zs_put f71_27 (zo_ni (zo_ni (zo_ni (zo_ni (zo_ni g0))))) (zo_ki (zo_ki (zo_ki (zo_ki (zo_ki g1))))) rfl) ?_
  refine Eq.trans (zv_next f71_30 rfl) ?_
  refine Eq.trans (zs_bp f71_31 bp_m4) ?_
  refine Eq.trans (zs_put f71_33 (zo_ni (zo_ni (zo_ni (zo_ni (zo_ni (zo_ni g0)))))) (zo_ki (zo_ki (zo_ki (zo_ki (zo_ki (zo_ki g1)))))) rfl) ?_
  refine Eq.trans (zv_next f71_36 rfl) ?_
  refine Eq.trans (zs_lc f71_37 lc_0) ?_
  refine Eq.trans (zs_put f71_38 (zo_ni (zo_ni (zo_ni (zo_ni (zo_ni (zo_ni (zo_ni g0))))))) (zo_ki (zo_ki (zo_ki (zo_ki (zo_ki (zo_ki (zo_ki g1))))))) rfl) ?_
  refine Eq.trans (zv_next f71_41 rfl) ?_
  refine Eq.trans (zv_next f71_42 rfl) ?_
  refine Eq.trans (zs_bp f71_43 bp_7) ?_
  refine Eq.trans (zs_min f71_45 (Nat.le_of_ble_eq_true rfl)) ?_
  refine Eq.trans (zs_put f71_48 (zo_nl (zo_ni (zo_ni (zo_ni (zo_ni (zo_ni (zo_ni (zo_ni g0)))))))) (zo_kl (zo_ki (zo_ki (zo_ki (zo_ki (zo_ki (zo_ki (zo_ki g1)))))))) rfl) ?_
  refine Eq.trans (zv_next f71_51 rfl) ?_
  refine Eq.trans (zv_next f71_52 rfl) ?_
  exact zs_callV f71_53 (Nat.le_of_ble_eq_true rfl) (Nat.le_of_ble_eq_true rfl) rfl (zo_ni (zo_nl (zo_ni (zo_ni (zo_ni (zo_ni (zo_ni (zo_ni (zo_ni g2))))))))) (zo_ki (zo_kl (zo_ki (zo_ki (zo_ki (zo_ki (zo_ki (zo_ki (zo_ki g3))))))))) me_100 (by decide) rfl
theorem b71_56 {h : zi_Hp} {a0 : Nat} {a1 : Nat} {x2 : Int32} {x3 : Int32} {x4 : Int32} {t0 : Nat} {s1 : Int32} (g0 : t0 < zh_n h) (g1 : (zh_k h t0).1 = 5) (g2 : a0 < zh_n h) (g3 : (zh_k h a0).1 = 5) (g4 : zh_r h a0 0 = .ref (zq (zh_r h a0 0))) (g5 : (zq (zh_r h a0 0)) < zh_n h) (g6 : 0 < (zh_k h (zq (zh_r h a0 0))).2) (g7 : (zh_k h (zq (zh_r h a0 0))).1 = 103 ∨ (zh_k h (zq (zh_r h a0 0))).1 = 104 ∨ (zh_k h (zq (zh_r h a0 0))).1 = 105) (g8 : zh_r h (zq (zh_r h a0 0)) 0 = .ref (zq (zh_r h (zq (zh_r h a0 0)) 0))) (g9 : (zq (zh_r h (zq (zh_r h a0 0)) 0)) < zh_n h) (g10 : (zh_k h (zq (zh_r h (zq (zh_r h a0 0)) 0))).1 = 6) : zv 16 71 56 [.ref a0, .ref a1, .int x2, .int x3, .int x4] [.int s1, .ref t0] h = (zv 2 75 0 [.ref (zq (zh_r h (zq (zh_r h a0 0)) 0)), .ref a1, .double 0] [] (zh_wi (zh_wi (zh_wi h t0 10 s1) a0 11 x3) a0 12 x4)).bind fun r => zv 16 71 80 [.ref a0, .ref a1, .int x2, .int x3, .int x4] (r.1.toList ++ []) r.2 := by
  refine Eq.trans (zs_put f71_56 g0 g1 rfl) ?_
  refine Eq.trans (zv_next f71_59 rfl) ?_
  refine Eq.trans (zv_next f71_60 rfl) ?_
  refine Eq.trans (zs_put f71_61 g2 g3 rfl) ?_
  refine Eq.trans (zv_next f71_64 rfl) ?_
  refine Eq.trans (zv_next f71_65 rfl) ?_
  refine Eq.trans (zs_put f71_67 g2 g3 rfl) ?_
  refine Eq.trans (zv_next f71_70 rfl) ?_
  refine Eq.trans (zs_getr f71_71 g2 g3 g4) ?_
  refine Eq.trans (zs_ic f71_74 ic_0) ?_
  refine Eq.trans (zs_aald f71_75 g5 g7 (zj_lit (by decide) g6) g8) ?_
  refine Eq.trans (zv_next f71_76 rfl) ?_
  exact zs_callV f71_77 (Nat.le_of_ble_eq_true rfl) (Nat.le_of_ble_eq_true rfl) rfl (zo_ni (zo_ni (zo_ni g9))) (zo_ki (zo_ki (zo_ki g10))) me_75 (by decide) rfl
theorem b71_80 {h : zi_Hp} {a0 : Nat} {a1 : Nat} {x2 : Int32} {x3 : Int32} {x4 : Int32}  : zv 16 71 80 [.ref a0, .ref a1, .int x2, .int x3, .int x4] [] h = (zv 14 72 0 [.ref a0, .int 0, .int 1, .long 279936, .double 1, .double 0, .double 0, .double 0, .double 0, .double 0] [] h).bind fun r => zv 16 71 89 [.ref a0, .ref a1, .int x2, .int x3, .int x4] (r.1.toList ++ []) r.2 := by
  refine Eq.trans (zv_next f71_80 rfl) ?_
  refine Eq.trans (zs_ic f71_81 ic_0) ?_
  refine Eq.trans (zs_ic f71_82 ic_1) ?_
  refine Eq.trans (zs_l2 f71_83 l2_279936) ?_
  exact zs_callS f71_86 (by decide) (Nat.le_of_ble_eq_true rfl) (Nat.le_of_ble_eq_true rfl) rfl me_72 (by decide) rfl
theorem b71_89 {h : zi_Hp} {a0 : Nat} {a1 : Nat} {x2 : Int32} {x3 : Int32} {x4 : Int32}  : zv 16 71 89 [.ref a0, .ref a1, .int x2, .int x3, .int x4] [] h = some (none, h) := by
  exact zv_ret f71_89 rfl
set_option maxRecDepth 20000 in
theorem zq72 : zi_M[72]? = some zi_m72 := rfl
theorem zl72_0 {pc : Nat} (_ : 0 ≤ pc) : zi_fe 72 pc = zu72_0.lookup pc := zi_feA zq72 pc
theorem f72_0 : zi_fe 72 0 = some ((.iload_n 1), 1, 0, 0, 0, 0, 0) := (zl72_0 (Nat.le_of_ble_eq_true rfl)).trans rfl
theorem f72_1 : zi_fe 72 1 = some ((.ifCond .lt 9), 3, 0, 0, 0, 0, 0) := (zl72_0 (Nat.le_of_ble_eq_true rfl)).trans rfl
theorem f72_4 : zi_fe 72 4 = some ((.iload_n 1), 1, 0, 0, 0, 0, 0) := (zl72_0 (Nat.le_of_ble_eq_true rfl)).trans rfl
theorem f72_5 : zi_fe 72 5 = some ((.bipush 7), 2, 0, 0, 0, 0, 0) := (zl72_0 (Nat.le_of_ble_eq_true rfl)).trans rfl
theorem f72_7 : zi_fe 72 7 = some ((.if_icmp .le 4), 3, 0, 0, 0, 0, 0) := (zl72_0 (Nat.le_of_ble_eq_true rfl)).trans rfl
theorem f72_10 : zi_fe 72 10 = some (.return_, 1, 0, 0, 0, 0, 0) := (zl72_0 (Nat.le_of_ble_eq_true rfl)).trans rfl
theorem f72_11 : zi_fe 72 11 = some ((.aload_n 0), 1, 0, 0, 0, 0, 0) := (zl72_0 (Nat.le_of_ble_eq_true rfl)).trans rfl
theorem f72_12 : zi_fe 72 12 = some ((.getfield 11), 3, 5, 0, 3, 272, 0) := (zl72_0 (Nat.le_of_ble_eq_true rfl)).trans rfl
theorem f72_15 : zi_fe 72 15 = some ((.iload_n 1), 1, 0, 0, 0, 0, 0) := (zl72_0 (Nat.le_of_ble_eq_true rfl)).trans rfl
theorem f72_16 : zi_fe 72 16 = some (.aaload, 1, 0, 0, 0, 0, 0) := (zl72_0 (Nat.le_of_ble_eq_true rfl)).trans rfl
theorem f72_17 : zi_fe 72 17 = some ((.astore 5), 2, 0, 0, 0, 0, 0) := (zl72_0 (Nat.le_of_ble_eq_true rfl)).trans rfl
theorem f72_19 : zi_fe 72 19 = some ((.iload_n 1), 1, 0, 0, 0, 0, 0) := (zl72_0 (Nat.le_of_ble_eq_true rfl)).trans rfl
theorem zl72_1 {pc : Nat} (h : 20 ≤ pc) : zi_fe 72 pc = zu72_1.lookup pc := (zl72_0 (Nat.le_trans (Nat.le_of_ble_eq_true rfl) h)).trans (zi_lkA (a := zi_i72_0) (c := 20) rfl h)
theorem f72_20 : zi_fe 72 20 = some ((.aload_n 0), 1, 0, 0, 0, 0, 0) := (zl72_1 (Nat.le_of_ble_eq_true rfl)).trans rfl
theorem f72_21 : zi_fe 72 21 = some ((.getfield 50), 3, 5, 9, 0, 289, 0) := (zl72_1 (Nat.le_of_ble_eq_true rfl)).trans rfl
theorem f72_24 : zi_fe 72 24 = some ((.if_icmp .ge 17), 3, 0, 0, 0, 0, 0) := (zl72_1 (Nat.le_of_ble_eq_true rfl)).trans rfl
theorem f72_27 : zi_fe 72 27 = some ((.iload_n 1), 1, 0, 0, 0, 0, 0) := (zl72_1 (Nat.le_of_ble_eq_true rfl)).trans rfl
theorem f72_28 : zi_fe 72 28 = some ((.bipush 7), 2, 0, 0, 0, 0, 0) := (zl72_1 (Nat.le_of_ble_eq_true rfl)).trans rfl
theorem f72_30 : zi_fe 72 30 = some ((.if_icmp .ge 11), 3, 0, 0, 0, 0, 0) := (zl72_1 (Nat.le_of_ble_eq_true rfl)).trans rfl
theorem f72_33 : zi_fe 72 33 = some ((.aload 5), 2, 0, 0, 0, 0, 0) := (zl72_1 (Nat.le_of_ble_eq_true rfl)).trans rfl
theorem f72_35 : zi_fe 72 35 = some ((.invokevirtual 76), 3, 96, 0, 6, 882, 1) := (zl72_1 (Nat.le_of_ble_eq_true rfl)).trans rfl
theorem f72_38 : zi_fe 72 38 = some ((.goto 4), 3, 0, 0, 0, 0, 0) := (zl72_1 (Nat.le_of_ble_eq_true rfl)).trans rfl
theorem f72_41 : zi_fe 72 41 = some ((.iconst 0), 1, 0, 0, 0, 0, 0) := (zl72_1 (Nat.le_of_ble_eq_true rfl)).trans rfl
theorem f72_42 : zi_fe 72 42 = some ((.istore 6), 2, 0, 0, 0, 0, 0) := (zl72_1 (Nat.le_of_ble_eq_true rfl)).trans rfl
theorem f72_44 : zi_fe 72 44 = some ((.iload 6), 2, 0, 0, 0, 0, 0) := (zl72_1 (Nat.le_of_ble_eq_true rfl)).trans rfl
theorem zl72_2 {pc : Nat} (h : 46 ≤ pc) : zi_fe 72 pc = zu72_2.lookup pc := (zl72_1 (Nat.le_trans (Nat.le_of_ble_eq_true rfl) h)).trans (zi_lkA (a := zi_i72_1) (c := 46) rfl h)
theorem f72_46 : zi_fe 72 46 = some ((.invokestatic 79), 3, 242, 1, 12, 883, 1) := (zl72_2 (Nat.le_of_ble_eq_true rfl)).trans rfl
theorem f72_49 : zi_fe 72 49 = some ((.istore 7), 2, 0, 0, 0, 0, 0) := (zl72_2 (Nat.le_of_ble_eq_true rfl)).trans rfl
theorem f72_51 : zi_fe 72 51 = some ((.iload 7), 2, 0, 0, 0, 0, 0) := (zl72_2 (Nat.le_of_ble_eq_true rfl)).trans rfl
theorem f72_53 : zi_fe 72 53 = some ((.ifCond .ne 12), 3, 0, 0, 0, 0, 0) := (zl72_2 (Nat.le_of_ble_eq_true rfl)).trans rfl
theorem f72_56 : zi_fe 72 56 = some ((.aload_n 0), 1, 0, 0, 0, 0, 0) := (zl72_2 (Nat.le_of_ble_eq_true rfl)).trans rfl
theorem f72_57 : zi_fe 72 57 = some ((.aload 5), 2, 0, 0, 0, 0, 0) := (zl72_2 (Nat.le_of_ble_eq_true rfl)).trans rfl
theorem f72_59 : zi_fe 72 59 = some ((.iload_n 2), 1, 0, 0, 0, 0, 0) := (zl72_2 (Nat.le_of_ble_eq_true rfl)).trans rfl
theorem f72_60 : zi_fe 72 60 = some ((.lload_n 3), 1, 0, 0, 0, 0, 0) := (zl72_2 (Nat.le_of_ble_eq_true rfl)).trans rfl
theorem f72_61 : zi_fe 72 61 = some ((.invokevirtual 85), 3, 73, 0, 5, 889, 4) := (zl72_2 (Nat.le_of_ble_eq_true rfl)).trans rfl
theorem f72_64 : zi_fe 72 64 = some (.return_, 1, 0, 0, 0, 0, 0) := (zl72_2 (Nat.le_of_ble_eq_true rfl)).trans rfl
theorem f72_65 : zi_fe 72 65 = some ((.aload_n 0), 1, 0, 0, 0, 0, 0) := (zl72_2 (Nat.le_of_ble_eq_true rfl)).trans rfl
theorem f72_66 : zi_fe 72 66 = some ((.getfield 11), 3, 5, 0, 3, 272, 0) := (zl72_2 (Nat.le_of_ble_eq_true rfl)).trans rfl
theorem zl72_3 {pc : Nat} (h : 69 ≤ pc) : zi_fe 72 pc = zu72_3.lookup pc := (zl72_2 (Nat.le_trans (Nat.le_of_ble_eq_true rfl) h)).trans (zi_lkA (a := zi_i72_2) (c := 69) rfl h)
theorem f72_69 : zi_fe 72 69 = some ((.iload_n 1), 1, 0, 0, 0, 0, 0) := (zl72_3 (Nat.le_of_ble_eq_true rfl)).trans rfl
theorem f72_70 : zi_fe 72 70 = some ((.iconst 1), 1, 0, 0, 0, 0, 0) := (zl72_3 (Nat.le_of_ble_eq_true rfl)).trans rfl
theorem f72_71 : zi_fe 72 71 = some (.iadd, 1, 0, 0, 0, 0, 0) := (zl72_3 (Nat.le_of_ble_eq_true rfl)).trans rfl
theorem f72_72 : zi_fe 72 72 = some (.aaload, 1, 0, 0, 0, 0, 0) := (zl72_3 (Nat.le_of_ble_eq_true rfl)).trans rfl
theorem f72_73 : zi_fe 72 73 = some ((.astore 8), 2, 0, 0, 0, 0, 0) := (zl72_3 (Nat.le_of_ble_eq_true rfl)).trans rfl
theorem f72_75 : zi_fe 72 75 = some ((.iconst 0), 1, 0, 0, 0, 0, 0) := (zl72_3 (Nat.le_of_ble_eq_true rfl)).trans rfl
theorem f72_76 : zi_fe 72 76 = some ((.istore 9), 2, 0, 0, 0, 0, 0) := (zl72_3 (Nat.le_of_ble_eq_true rfl)).trans rfl
theorem f72_78 : zi_fe 72 78 = some ((.iload 9), 2, 0, 0, 0, 0, 0) := (zl72_3 (Nat.le_of_ble_eq_true rfl)).trans rfl
theorem f72_80 : zi_fe 72 80 = some ((.iconst 3), 1, 0, 0, 0, 0, 0) := (zl72_3 (Nat.le_of_ble_eq_true rfl)).trans rfl
theorem f72_81 : zi_fe 72 81 = some ((.if_icmp .ge 53), 3, 0, 0, 0, 0, 0) := (zl72_3 (Nat.le_of_ble_eq_true rfl)).trans rfl
theorem f72_84 : zi_fe 72 84 = some ((.iload 6), 2, 0, 0, 0, 0, 0) := (zl72_3 (Nat.le_of_ble_eq_true rfl)).trans rfl
theorem f72_86 : zi_fe 72 86 = some ((.iconst 1), 1, 0, 0, 0, 0, 0) := (zl72_3 (Nat.le_of_ble_eq_true rfl)).trans rfl
theorem zl72_4 {pc : Nat} (h : 87 ≤ pc) : zi_fe 72 pc = zu72_4.lookup pc := (zl72_3 (Nat.le_trans (Nat.le_of_ble_eq_true rfl) h)).trans (zi_lkA (a := zi_i72_3) (c := 87) rfl h)
theorem f72_87 : zi_fe 72 87 = some ((.iload 9), 2, 0, 0, 0, 0, 0) := (zl72_4 (Nat.le_of_ble_eq_true rfl)).trans rfl
theorem f72_89 : zi_fe 72 89 = some (.ishl, 1, 0, 0, 0, 0, 0) := (zl72_4 (Nat.le_of_ble_eq_true rfl)).trans rfl
theorem f72_90 : zi_fe 72 90 = some (.iand, 1, 0, 0, 0, 0, 0) := (zl72_4 (Nat.le_of_ble_eq_true rfl)).trans rfl
theorem f72_91 : zi_fe 72 91 = some ((.ifCond .eq 37), 3, 0, 0, 0, 0, 0) := (zl72_4 (Nat.le_of_ble_eq_true rfl)).trans rfl
theorem f72_94 : zi_fe 72 94 = some ((.aload 8), 2, 0, 0, 0, 0, 0) := (zl72_4 (Nat.le_of_ble_eq_true rfl)).trans rfl
theorem f72_96 : zi_fe 72 96 = some ((.aload 5), 2, 0, 0, 0, 0, 0) := (zl72_4 (Nat.le_of_ble_eq_true rfl)).trans rfl
theorem f72_98 : zi_fe 72 98 = some ((.invokevirtual 66), 3, 75, 0, 6, 865, 2) := (zl72_4 (Nat.le_of_ble_eq_true rfl)).trans rfl
theorem f72_101 : zi_fe 72 101 = some ((.aload 8), 2, 0, 0, 0, 0, 0) := (zl72_4 (Nat.le_of_ble_eq_true rfl)).trans rfl
theorem f72_103 : zi_fe 72 103 = some ((.iload 9), 2, 0, 0, 0, 0, 0) := (zl72_4 (Nat.le_of_ble_eq_true rfl)).trans rfl
theorem f72_105 : zi_fe 72 105 = some ((.invokevirtual 89), 3, 80, 0, 6, 911, 2) := (zl72_4 (Nat.le_of_ble_eq_true rfl)).trans rfl
theorem f72_108 : zi_fe 72 108 = some (.pop, 1, 0, 0, 0, 0, 0) := (zl72_4 (Nat.le_of_ble_eq_true rfl)).trans rfl
theorem f72_109 : zi_fe 72 109 = some ((.aload_n 0), 1, 0, 0, 0, 0, 0) := (zl72_4 (Nat.le_of_ble_eq_true rfl)).trans rfl
theorem zl72_5 {pc : Nat} (h : 110 ≤ pc) : zi_fe 72 pc = zu72_5.lookup pc := (zl72_4 (Nat.le_trans (Nat.le_of_ble_eq_true rfl) h)).trans (zi_lkA (a := zi_i72_4) (c := 110) rfl h)
theorem f72_110 : zi_fe 72 110 = some ((.iload_n 1), 1, 0, 0, 0, 0, 0) := (zl72_5 (Nat.le_of_ble_eq_true rfl)).trans rfl
theorem f72_111 : zi_fe 72 111 = some ((.iconst 1), 1, 0, 0, 0, 0, 0) := (zl72_5 (Nat.le_of_ble_eq_true rfl)).trans rfl
theorem f72_112 : zi_fe 72 112 = some (.iadd, 1, 0, 0, 0, 0, 0) := (zl72_5 (Nat.le_of_ble_eq_true rfl)).trans rfl
theorem f72_113 : zi_fe 72 113 = some ((.iload_n 2), 1, 0, 0, 0, 0, 0) := (zl72_5 (Nat.le_of_ble_eq_true rfl)).trans rfl
theorem f72_114 : zi_fe 72 114 = some ((.bipush 10), 2, 0, 0, 0, 0, 0) := (zl72_5 (Nat.le_of_ble_eq_true rfl)).trans rfl
theorem f72_116 : zi_fe 72 116 = some (.imul, 1, 0, 0, 0, 0, 0) := (zl72_5 (Nat.le_of_ble_eq_true rfl)).trans rfl
theorem f72_117 : zi_fe 72 117 = some ((.iload 9), 2, 0, 0, 0, 0, 0) := (zl72_5 (Nat.le_of_ble_eq_true rfl)).trans rfl
theorem f72_119 : zi_fe 72 119 = some (.iadd, 1, 0, 0, 0, 0, 0) := (zl72_5 (Nat.le_of_ble_eq_true rfl)).trans rfl
theorem f72_120 : zi_fe 72 120 = some ((.lload_n 3), 1, 0, 0, 0, 0, 0) := (zl72_5 (Nat.le_of_ble_eq_true rfl)).trans rfl
theorem f72_121 : zi_fe 72 121 = some ((.iload 7), 2, 0, 0, 0, 0, 0) := (zl72_5 (Nat.le_of_ble_eq_true rfl)).trans rfl
theorem f72_123 : zi_fe 72 123 = some (.i2l, 1, 0, 0, 0, 0, 0) := (zl72_5 (Nat.le_of_ble_eq_true rfl)).trans rfl
theorem f72_124 : zi_fe 72 124 = some (.ldiv, 1, 0, 0, 0, 0, 0) := (zl72_5 (Nat.le_of_ble_eq_true rfl)).trans rfl
theorem zl72_6 {pc : Nat} (h : 125 ≤ pc) : zi_fe 72 pc = zu72_6.lookup pc := (zl72_5 (Nat.le_trans (Nat.le_of_ble_eq_true rfl) h)).trans (zi_lkA (a := zi_i72_5) (c := 125) rfl h)
theorem f72_125 : zi_fe 72 125 = some ((.invokestatic 72), 3, 72, 1, 5, 879, 4) := (zl72_6 (Nat.le_of_ble_eq_true rfl)).trans rfl
theorem f72_128 : zi_fe 72 128 = some ((.iinc 9 1), 3, 0, 0, 0, 0, 0) := (zl72_6 (Nat.le_of_ble_eq_true rfl)).trans rfl
theorem f72_131 : zi_fe 72 131 = some ((.goto (-53)), 3, 0, 0, 0, 0, 0) := (zl72_6 (Nat.le_of_ble_eq_true rfl)).trans rfl
theorem f72_134 : zi_fe 72 134 = some (.return_, 1, 0, 0, 0, 0, 0) := (zl72_6 (Nat.le_of_ble_eq_true rfl)).trans rfl
theorem b72_0 {k : Nat} {h : zi_Hp} {a0 : Nat} {x1 : Int32} {x2 : Int32} {y3 : Int64} {u5 : Value} {u6 : Value} {u7 : Value} {u8 : Value} {u9 : Value}  : zv k 72 0 [.ref a0, .int x1, .int x2, .long y3, .double 1, u5, u6, u7, u8, u9] [] h = if x1 < 0 then zv k 72 10 [.ref a0, .int x1, .int x2, .long y3, .double 1, u5, u6, u7, u8, u9] [] h else zv k 72 4 [.ref a0, .int x1, .int x2, .long y3, .double 1, u5, u6, u7, u8, u9] [] h := by
  refine Eq.trans (zv_next f72_0 rfl) ?_
  exact zs_if f72_1 rfl
theorem b72_4 {k : Nat} {h : zi_Hp} {a0 : Nat} {x1 : Int32} {x2 : Int32} {y3 : Int64} {u5 : Value} {u6 : Value} {u7 : Value} {u8 : Value} {u9 : Value}  : zv k 72 4 [.ref a0, .int x1, .int x2, .long y3, .double 1, u5, u6, u7, u8, u9] [] h = if 7 < x1 then zv k 72 10 [.ref a0, .int x1, .int x2, .long y3, .double 1, u5, u6, u7, u8, u9] [] h else zv k 72 11 [.ref a0, .int x1, .int x2, .long y3, .double 1, u5, u6, u7, u8, u9] [] h := by
  refine Eq.trans (zv_next f72_4 rfl) ?_
  refine Eq.trans (zs_bp f72_5 bp_7) ?_
  exact zs_icmp f72_7 rfl
theorem b72_10 {k : Nat} {h : zi_Hp} {a0 : Nat} {x1 : Int32} {x2 : Int32} {y3 : Int64} {u5 : Value} {u6 : Value} {u7 : Value} {u8 : Value} {u9 : Value}  : zv k 72 10 [.ref a0, .int x1, .int x2, .long y3, .double 1, u5, u6, u7, u8, u9] [] h = some (none, h) := by
  exact zv_ret f72_10 rfl
theorem b72_11 {k : Nat} {h : zi_Hp} {a0 : Nat} {x1 : Int32} {x2 : Int32} {y3 : Int64} {u5 : Value} {u6 : Value} {u7 : Value} {u8 : Value} {u9 : Value} (g0 : a0 < zh_n h) (g1 : (zh_k h a0).1 = 5) (g2 : zh_r h a0 0 = .ref (zq (zh_r h a0 0))) (g3 : (zq (zh_r h a0 0)) < zh_n h) (g4 : ¬ (x1 < 0 ∨ (zh_k h (zq (zh_r h a0 0))).2 ≤ x1.toNatClampNeg)) (g5 : (zh_k h (zq (zh_r h a0 0))).1 = 103 ∨ (zh_k h (zq (zh_r h a0 0))).1 = 104 ∨ (zh_k h (zq (zh_r h a0 0))).1 = 105) (g6 : zh_r h (zq (zh_r h a0 0)) x1.toNatClampNeg = .ref (zq (zh_r h (zq (zh_r h a0 0)) x1.toNatClampNeg))) : zv k 72 11 [.ref a0, .int x1, .int x2, .long y3, .double 1, u5, u6, u7, u8, u9] [] h = if x1 < (zh_i h a0 9) then zv k 72 27 [.ref a0, .int x1, .int x2, .long y3, .double 1, .ref (zq (zh_r h (zq (zh_r h a0 0)) x1.toNatClampNeg)), u6, u7, u8, u9] [] h else zv k 72 41 [.ref a0, .int x1, .int x2, .long y3, .double 1, .ref (zq (zh_r h (zq (zh_r h a0 0)) x1.toNatClampNeg)), u6, u7, u8, u9] [] h := by
  refine Eq.trans (zv_next f72_11 rfl) ?_
  refine Eq.trans (zs_getr f72_12 g0 g1 g2) ?_
  refine Eq.trans (zv_next f72_15 rfl) ?_
  refine Eq.trans (zs_aald f72_16 g3 g5 g4 g6) ?_
  refine Eq.trans (zv_next f72_17 rfl) ?_
  refine Eq.trans (zv_next f72_19 rfl) ?_
  refine Eq.trans (zv_next f72_20 rfl) ?_
  refine Eq.trans (zs_geti f72_21 g0 g1) ?_
  exact zs_icmp f72_24 rfl
theorem b72_27 {k : Nat} {h : zi_Hp} {a0 : Nat} {x1 : Int32} {x2 : Int32} {y3 : Int64} {a5 : Nat} {u6 : Value} {u7 : Value} {u8 : Value} {u9 : Value}  : zv k 72 27 [.ref a0, .int x1, .int x2, .long y3, .double 1, .ref a5, u6, u7, u8, u9] [] h = if x1 < 7 then zv k 72 33 [.ref a0, .int x1, .int x2, .long y3, .double 1, .ref a5, u6, u7, u8, u9] [] h else zv k 72 41 [.ref a0, .int x1, .int x2, .long y3, .double 1, .ref a5, u6, u7, u8, u9] [] h := by
  refine Eq.trans (zv_next f72_27 rfl) ?_
  refine Eq.trans (zs_bp f72_28 bp_7) ?_
  exact zs_icmp f72_30 rfl
theorem b72_33 {k : Nat} {h : zi_Hp} {a0 : Nat} {x1 : Int32} {x2 : Int32} {y3 : Int64} {a5 : Nat} {u6 : Value} {u7 : Value} {u8 : Value} {u9 : Value} (g0 : 5 < k) (g1 : a5 < zh_n h) (g2 : (zh_k h a5).1 = 6) : zv k 72 33 [.ref a0, .int x1, .int x2, .long y3, .double 1, .ref a5, u6, u7, u8, u9] [] h = (zv 5 96 0 [.ref a5, .double 0, .double 0] [] h).bind fun r => zv k 72 38 [.ref a0, .int x1, .int x2, .long y3, .double 1, .ref a5, u6, u7, u8, u9] (r.1.toList ++ []) r.2 := by
  refine Eq.trans (zv_next f72_33 rfl) ?_
  exact zs_callV f72_35 (Nat.le_of_ble_eq_true rfl) (Nat.le_of_ble_eq_true rfl) rfl g1 g2 me_96 g0 rfl
theorem b72_38 {k : Nat} {h : zi_Hp} {a0 : Nat} {x1 : Int32} {x2 : Int32} {y3 : Int64} {a5 : Nat} {u6 : Value} {u7 : Value} {u8 : Value} {u9 : Value} {s0 : Int32}  : zv k 72 38 [.ref a0, .int x1, .int x2, .long y3, .double 1, .ref a5, u6, u7, u8, u9] [.int s0] h = zv k 72 42 [.ref a0, .int x1, .int x2, .long y3, .double 1, .ref a5, u6, u7, u8, u9] [.int s0] h := by
  refine Eq.trans (zs_goto (tgt := 42) f72_38 rfl) ?_
  rfl
theorem b72_41 {k : Nat} {h : zi_Hp} {a0 : Nat} {x1 : Int32} {x2 : Int32} {y3 : Int64} {a5 : Nat} {u6 : Value} {u7 : Value} {u8 : Value} {u9 : Value}  : zv k 72 41 [.ref a0, .int x1, .int x2, .long y3, .double 1, .ref a5, u6, u7, u8, u9] [] h = zv k 72 42 [.ref a0, .int x1, .int x2, .long y3, .double 1, .ref a5, u6, u7, u8, u9] [.int 0] h := by
  refine Eq.trans (zs_ic f72_41 ic_0) ?_
  rfl
theorem b72_42 {k : Nat} {h : zi_Hp} {a0 : Nat} {x1 : Int32} {x2 : Int32} {y3 : Int64} {a5 : Nat} {u6 : Value} {u7 : Value} {u8 : Value} {u9 : Value} {s0 : Int32} (g0 : 1 < k) : zv k 72 42 [.ref a0, .int x1, .int x2, .long y3, .double 1, .ref a5, u6, u7, u8, u9] [.int s0] h = (zv 1 242 0 [.int s0] [] h).bind fun r => zv k 72 49 [.ref a0, .int x1, .int x2, .long y3, .double 1, .ref a5, .int s0, u7, u8, u9] (r.1.toList ++ []) r.2 := by
  refine Eq.trans (zv_next f72_42 rfl) ?_
  refine Eq.trans (zv_next f72_44 rfl) ?_
  exact zs_callS f72_46 (by decide) (Nat.le_of_ble_eq_true rfl) (Nat.le_of_ble_eq_true rfl) rfl me_242 g0 rfl
theorem b72_49 {k : Nat} {h : zi_Hp} {a0 : Nat} {x1 : Int32} {x2 : Int32} {y3 : Int64} {a5 : Nat} {x6 : Int32} {u7 : Value} {u8 : Value} {u9 : Value} {s0 : Int32}  : zv k 72 49 [.ref a0, .int x1, .int x2, .long y3, .double 1, .ref a5, .int x6, u7, u8, u9] [.int s0] h = if s0 = 0 then zv k 72 56 [.ref a0, .int x1, .int x2, .long y3, .double 1, .ref a5, .int x6, .int s0, u8, u9] [] h else zv k 72 65 [.ref a0, .int x1, .int x2, .long y3, .double 1, .ref a5, .int x6, .int s0, u8, u9] [] h := by
  refine Eq.trans (zv_next f72_49 rfl) ?_
  refine Eq.trans (zv_next f72_51 rfl) ?_
  exact zs_if f72_53 rfl
theorem b72_56 {k : Nat} {h : zi_Hp} {a0 : Nat} {x1 : Int32} {x2 : Int32} {y3 : Int64} {a5 : Nat} {x6 : Int32} {x7 : Int32} {u8 : Value} {u9 : Value} (g0 : 3 < k) (g1 : a0 < zh_n h) (g2 : (zh_k h a0).1 = 5) : zv k 72 56 [.ref a0, .int x1, .int x2, .long y3, .double 1, .ref a5, .int x6, .int x7, u8, u9] [] h = (zv 3 73 0 [.ref a0, .ref a5, .int x2, .long y3, .double 1] [] h).bind fun r => zv k 72 64 [.ref a0, .int x1, .int x2, .long y3, .double 1, .ref a5, .int x6, .int x7, u8, u9] (r.1.toList ++ []) r.2 := by
  refine Eq.trans (zv_next f72_56 rfl) ?_
  refine Eq.trans (zv_next f72_57 rfl) ?_
  refine Eq.trans (zv_next f72_59 rfl) ?_
  refine Eq.trans (zv_next f72_60 rfl) ?_
  exact zs_callV f72_61 (Nat.le_of_ble_eq_true rfl) (Nat.le_of_ble_eq_true rfl) rfl g1 g2 me_73 g0 rfl
theorem b72_64 {k : Nat} {h : zi_Hp} {a0 : Nat} {x1 : Int32} {x2 : Int32} {y3 : Int64} {a5 : Nat} {x6 : Int32} {x7 : Int32} {u8 : Value} {u9 : Value}  : zv k 72 64 [.ref a0, .int x1, .int x2, .long y3, .double 1, .ref a5, .int x6, .int x7, u8, u9] [] h = some (none, h) := by
  exact zv_ret f72_64 rfl
theorem b72_65 {k : Nat} {h : zi_Hp} {a0 : Nat} {x1 : Int32} {x2 : Int32} {y3 : Int64} {a5 : Nat} {x6 : Int32} {x7 : Int32} {u8 : Value} {u9 : Value} (g0 : a0 < zh_n h) (g1 : (zh_k h a0).1 = 5) (g2 : zh_r h a0 0 = .ref (zq (zh_r h a0 0))) (g3 : (zq (zh_r h a0 0)) < zh_n h) (g4 : ¬ ((x1 + 1) < 0 ∨ (zh_k h (zq (zh_r h a0 0))).2 ≤ (x1 + 1).toNatClampNeg)) (g5 : (zh_k h (zq (zh_r h a0 0))).1 = 103 ∨ (zh_k h (zq (zh_r h a0 0))).1 = 104 ∨ (zh_k h (zq (zh_r h a0 0))).1 = 105) (g6 : zh_r h (zq (zh_r h a0 0)) (x1 + 1).toNatClampNeg = .ref (zq (zh_r h (zq (zh_r h a0 0)) (x1 + 1).toNatClampNeg))) : zv k 72 65 [.ref a0, .int x1, .int x2, .long y3, .double 1, .ref a5, .int x6, .int x7, u8, u9] [] h = zv k 72 78 [.ref a0, .int x1, .int x2, .long y3, .double 1, .ref a5, .int x6, .int x7, .ref (zq (zh_r h (zq (zh_r h a0 0)) (x1 + 1).toNatClampNeg)), .int 0] [] h := by
  refine Eq.trans (zv_next f72_65 rfl) ?_
  refine Eq.trans (zs_getr f72_66 g0 g1 g2) ?_
  refine Eq.trans (zv_next f72_69 rfl) ?_
  refine Eq.trans (zs_ic f72_70 ic_1) ?_
  refine Eq.trans (zv_next f72_71 rfl) ?_
  refine Eq.trans (zs_aald f72_72 g3 g5 g4 g6) ?_
  refine Eq.trans (zv_next f72_73 rfl) ?_
  refine Eq.trans (zs_ic f72_75 ic_0) ?_
  refine Eq.trans (zv_next f72_76 rfl) ?_
  rfl
theorem b72_78 {k : Nat} {h : zi_Hp} {a0 : Nat} {x1 : Int32} {x2 : Int32} {y3 : Int64} {a5 : Nat} {x6 : Int32} {x7 : Int32} {a8 : Nat} {x9 : Int32}  : zv k 72 78 [.ref a0, .int x1, .int x2, .long y3, .double 1, .ref a5, .int x6, .int x7, .ref a8, .int x9] [] h = if x9 < 3 then zv k 72 84 [.ref a0, .int x1, .int x2, .long y3, .double 1, .ref a5, .int x6, .int x7, .ref a8, .int x9] [] h else zv k 72 134 [.ref a0, .int x1, .int x2, .long y3, .double 1, .ref a5, .int x6, .int x7, .ref a8, .int x9] [] h := by
  refine Eq.trans (zv_next f72_78 rfl) ?_
  refine Eq.trans (zs_ic f72_80 ic_3) ?_
  exact zs_icmp f72_81 rfl
theorem b72_84 {k : Nat} {h : zi_Hp} {a0 : Nat} {x1 : Int32} {x2 : Int32} {y3 : Int64} {a5 : Nat} {x6 : Int32} {x7 : Int32} {a8 : Nat} {x9 : Int32}  : zv k 72 84 [.ref a0, .int x1, .int x2, .long y3, .double 1, .ref a5, .int x6, .int x7, .ref a8, .int x9] [] h = if (x6 &&& (1 <<< (x9 &&& 31))) = 0 then zv k 72 128 [.ref a0, .int x1, .int x2, .long y3, .double 1, .ref a5, .int x6, .int x7, .ref a8, .int x9] [] h else zv k 72 94 [.ref a0, .int x1, .int x2, .long y3, .double 1, .ref a5, .int x6, .int x7, .ref a8, .int x9] [] h := by
  refine Eq.trans (zv_next f72_84 rfl) ?_
  refine Eq.trans (zs_ic f72_86 ic_1) ?_
  refine Eq.trans (zv_next f72_87 rfl) ?_
  refine Eq.trans (zv_next f72_89 rfl) ?_
  refine Eq.trans (zv_next f72_90 rfl) ?_
  exact zs_if f72_91 rfl
theorem b72_94 {k : Nat} {h : zi_Hp} {a0 : Nat} {x1 : Int32} {x2 : Int32} {y3 : Int64} {a5 : Nat} {x6 : Int32} {x7 : Int32} {a8 : Nat} {x9 : Int32} (g0 : 2 < k) (g1 : a8 < zh_n h) (g2 : (zh_k h a8).1 = 6) : zv k 72 94 [.ref a0, .int x1, .int x2, .long y3, .double 1, .ref a5, .int x6, .int x7, .ref a8, .int x9] [] h = (zv 2 75 0 [.ref a8, .ref a5, .double 0] [] h).bind fun r => zv k 72 101 [.ref a0, .int x1, .int x2, .long y3, .double 1, .ref a5, .int x6, .int x7, .ref a8, .int x9] (r.1.toList ++ []) r.2 := by
  refine Eq.trans (zv_next f72_94 rfl) ?_
  refine Eq.trans (zv_next f72_96 rfl) ?_
  exact zs_callV f72_98 (Nat.le_of_ble_eq_true rfl) (Nat.le_of_ble_eq_true rfl) rfl g1 g2 me_75 g0 rfl
theorem b72_101 {k : Nat} {h : zi_Hp} {a0 : Nat} {x1 : Int32} {x2 : Int32} {y3 : Int64} {a5 : Nat} {x6 : Int32} {x7 : Int32} {a8 : Nat} {x9 : Int32} (g0 : 5 < k) (g1 : a8 < zh_n h) (g2 : (zh_k h a8).1 = 6) : zv k 72 101 [.ref a0, .int x1, .int x2, .long y3, .double 1, .ref a5, .int x6, .int x7, .ref a8, .int x9] [] h = (zv 5 80 0 [.ref a8, .int x9, .double 0, .double 0, .double 0] [] h).bind fun r => zv k 72 108 [.ref a0, .int x1, .int x2, .long y3, .double 1, .ref a5, .int x6, .int x7, .ref a8, .int x9] (r.1.toList ++ []) r.2 := by
  refine Eq.trans (zv_next f72_101 rfl) ?_
  refine Eq.trans (zv_next f72_103 rfl) ?_
  exact zs_callV f72_105 (Nat.le_of_ble_eq_true rfl) (Nat.le_of_ble_eq_true rfl) rfl g1 g2 me_80 g0 rfl
theorem b72_108 {k : Nat} {h : zi_Hp} {a0 : Nat} {x1 : Int32} {x2 : Int32} {y3 : Int64} {a5 : Nat} {x6 : Int32} {x7 : Int32} {a8 : Nat} {x9 : Int32} {s0 : Int32} (g0 : ¬ (((x7).toInt64) : Int64) = 0) (g1 : (6 + (8 - (x1 + 1).toNatClampNeg)) < k) : zv k 72 108 [.ref a0, .int x1, .int x2, .long y3, .double 1, .ref a5, .int x6, .int x7, .ref a8, .int x9] [.int s0] h = (zv (6 + (8 - (x1 + 1).toNatClampNeg)) 72 0 [.ref a0, .int (x1 + 1), .int ((x2 * 10) + x9), .long (y3 / ((x7).toInt64)), .double 1, .double 0, .double 0, .double 0, .double 0, .double 0] [] h).bind fun r => zv k 72 128 [.ref a0, .int x1, .int x2, .long y3, .double 1, .ref a5, .int x6, .int x7, .ref a8, .int x9] (r.1.toList ++ []) r.2 := by
  refine Eq.trans (zv_next f72_108 rfl) ?_
  refine Eq.trans (zv_next f72_109 rfl) ?_
  refine Eq.trans (zv_next f72_110 rfl) ?_
  refine Eq.trans (zs_ic f72_111 ic_1) ?_
  refine Eq.trans (zv_next f72_112 rfl) ?_
  refine Eq.trans (zv_next f72_113 rfl) ?_
  refine Eq.trans (zs_bp f72_114 bp_10) ?_
  refine Eq.trans (zv_next f72_116 rfl) ?_
  refine Eq.trans (zv_next f72_117 rfl) ?_
  refine Eq.trans (zv_next f72_119 rfl) ?_
  refine Eq.trans (zv_next f72_120 rfl) ?_
  refine Eq.trans (zv_next f72_121 rfl) ?_
  refine Eq.trans (zv_next f72_123 rfl) ?_
  refine Eq.trans (zs_ldiv f72_124 g0) ?_
  exact zs_callS f72_125 (by decide) (Nat.le_of_ble_eq_true rfl) (Nat.le_of_ble_eq_true rfl) rfl me_72 g1 rfl
theorem b72_128 {k : Nat} {h : zi_Hp} {a0 : Nat} {x1 : Int32} {x2 : Int32} {y3 : Int64} {a5 : Nat} {x6 : Int32} {x7 : Int32} {a8 : Nat} {x9 : Int32}  : zv k 72 128 [.ref a0, .int x1, .int x2, .long y3, .double 1, .ref a5, .int x6, .int x7, .ref a8, .int x9] [] h = zv k 72 78 [.ref a0, .int x1, .int x2, .long y3, .double 1, .ref a5, .int x6, .int x7, .ref a8, .int (x9 + 1)] [] h := by
  refine Eq.trans (zs_inc f72_128 rfl ic_1 rfl) ?_
  refine Eq.trans (zs_goto (tgt := 78) f72_131 rfl) ?_
  rfl
theorem b72_134 {k : Nat} {h : zi_Hp} {a0 : Nat} {x1 : Int32} {x2 : Int32} {y3 : Int64} {a5 : Nat} {x6 : Int32} {x7 : Int32} {a8 : Nat} {x9 : Int32}  : zv k 72 134 [.ref a0, .int x1, .int x2, .long y3, .double 1, .ref a5, .int x6, .int x7, .ref a8, .int x9] [] h = some (none, h) := by
  exact zv_ret f72_134 rfl
set_option maxRecDepth 20000 in
theorem zq73 : zi_M[73]? = some zi_m73 := rfl
theorem zl73_0 {pc : Nat} (_ : 0 ≤ pc) : zi_fe 73 pc = zu73_0.lookup pc := zi_feA zq73 pc
theorem f73_0 : zi_fe 73 0 = some ((.aload_n 0), 1, 0, 0, 0, 0, 0) := (zl73_0 (Nat.le_of_ble_eq_true rfl)).trans rfl
theorem f73_1 : zi_fe 73 1 = some (.dup, 1, 0, 0, 0, 0, 0) := (zl73_0 (Nat.le_of_ble_eq_true rfl)).trans rfl
theorem f73_2 : zi_fe 73 2 = some ((.getfield 18), 3, 5, 1, 0, 273, 0) := (zl73_0 (Nat.le_of_ble_eq_true rfl)).trans rfl
theorem f73_5 : zi_fe 73 5 = some ((.iconst 1), 1, 0, 0, 0, 0, 0) := (zl73_0 (Nat.le_of_ble_eq_true rfl)).trans rfl
theorem f73_6 : zi_fe 73 6 = some (.iadd, 1, 0, 0, 0, 0, 0) := (zl73_0 (Nat.le_of_ble_eq_true rfl)).trans rfl
theorem f73_7 : zi_fe 73 7 = some ((.putfield 18), 3, 5, 1, 0, 273, 0) := (zl73_0 (Nat.le_of_ble_eq_true rfl)).trans rfl
theorem f73_10 : zi_fe 73 10 = some ((.aload_n 1), 1, 0, 0, 0, 0, 0) := (zl73_0 (Nat.le_of_ble_eq_true rfl)).trans rfl
theorem f73_11 : zi_fe 73 11 = some ((.invokevirtual 92), 3, 101, 0, 6, 893, 1) := (zl73_0 (Nat.le_of_ble_eq_true rfl)).trans rfl
theorem f73_14 : zi_fe 73 14 = some ((.ifCond .eq 13), 3, 0, 0, 0, 0, 0) := (zl73_0 (Nat.le_of_ble_eq_true rfl)).trans rfl
theorem f73_17 : zi_fe 73 17 = some ((.aload_n 0), 1, 0, 0, 0, 0, 0) := (zl73_0 (Nat.le_of_ble_eq_true rfl)).trans rfl
theorem f73_18 : zi_fe 73 18 = some (.dup, 1, 0, 0, 0, 0, 0) := (zl73_0 (Nat.le_of_ble_eq_true rfl)).trans rfl
theorem f73_19 : zi_fe 73 19 = some ((.getfield 22), 3, 5, 2, 0, 275, 0) := (zl73_0 (Nat.le_of_ble_eq_true rfl)).trans rfl
theorem zl73_1 {pc : Nat} (h : 22 ≤ pc) : zi_fe 73 pc = zu73_1.lookup pc := (zl73_0 (Nat.le_trans (Nat.le_of_ble_eq_true rfl) h)).trans (zi_lkA (a := zi_i73_0) (c := 22) rfl h)
theorem f73_22 : zi_fe 73 22 = some ((.iconst 1), 1, 0, 0, 0, 0, 0) := (zl73_1 (Nat.le_of_ble_eq_true rfl)).trans rfl
theorem f73_23 : zi_fe 73 23 = some (.iadd, 1, 0, 0, 0, 0, 0) := (zl73_1 (Nat.le_of_ble_eq_true rfl)).trans rfl
theorem f73_24 : zi_fe 73 24 = some ((.putfield 22), 3, 5, 2, 0, 275, 0) := (zl73_1 (Nat.le_of_ble_eq_true rfl)).trans rfl
theorem f73_27 : zi_fe 73 27 = some ((.aload_n 0), 1, 0, 0, 0, 0, 0) := (zl73_1 (Nat.le_of_ble_eq_true rfl)).trans rfl
theorem f73_28 : zi_fe 73 28 = some ((.aload_n 0), 1, 0, 0, 0, 0, 0) := (zl73_1 (Nat.le_of_ble_eq_true rfl)).trans rfl
theorem f73_29 : zi_fe 73 29 = some ((.getfield 25), 3, 5, 3, 0, 277, 0) := (zl73_1 (Nat.le_of_ble_eq_true rfl)).trans rfl
theorem f73_32 : zi_fe 73 32 = some ((.aload_n 1), 1, 0, 0, 0, 0, 0) := (zl73_1 (Nat.le_of_ble_eq_true rfl)).trans rfl
theorem f73_33 : zi_fe 73 33 = some ((.getfield 95), 3, 6, 0, 3, 254, 0) := (zl73_1 (Nat.le_of_ble_eq_true rfl)).trans rfl
theorem f73_36 : zi_fe 73 36 = some ((.getfield 99), 3, 4, 0, 0, 138, 0) := (zl73_1 (Nat.le_of_ble_eq_true rfl)).trans rfl
theorem f73_39 : zi_fe 73 39 = some ((.invokestatic 104), 3, 0, 9, 0, 897, 2) := (zl73_1 (Nat.le_of_ble_eq_true rfl)).trans rfl
theorem f73_42 : zi_fe 73 42 = some ((.putfield 25), 3, 5, 3, 0, 277, 0) := (zl73_1 (Nat.le_of_ble_eq_true rfl)).trans rfl
theorem f73_45 : zi_fe 73 45 = some ((.aload_n 0), 1, 0, 0, 0, 0, 0) := (zl73_1 (Nat.le_of_ble_eq_true rfl)).trans rfl
theorem zl73_2 {pc : Nat} (h : 46 ≤ pc) : zi_fe 73 pc = zu73_2.lookup pc := (zl73_1 (Nat.le_trans (Nat.le_of_ble_eq_true rfl) h)).trans (zi_lkA (a := zi_i73_1) (c := 46) rfl h)
theorem f73_46 : zi_fe 73 46 = some ((.aload_n 0), 1, 0, 0, 0, 0, 0) := (zl73_2 (Nat.le_of_ble_eq_true rfl)).trans rfl
theorem f73_47 : zi_fe 73 47 = some ((.getfield 28), 3, 5, 4, 0, 279, 0) := (zl73_2 (Nat.le_of_ble_eq_true rfl)).trans rfl
theorem f73_50 : zi_fe 73 50 = some ((.aload_n 1), 1, 0, 0, 0, 0, 0) := (zl73_2 (Nat.le_of_ble_eq_true rfl)).trans rfl
theorem f73_51 : zi_fe 73 51 = some ((.invokevirtual 53), 3, 100, 0, 6, 861, 1) := (zl73_2 (Nat.le_of_ble_eq_true rfl)).trans rfl
theorem f73_54 : zi_fe 73 54 = some ((.aload_n 0), 1, 0, 0, 0, 0, 0) := (zl73_2 (Nat.le_of_ble_eq_true rfl)).trans rfl
theorem f73_55 : zi_fe 73 55 = some ((.getfield 57), 3, 5, 10, 0, 290, 0) := (zl73_2 (Nat.le_of_ble_eq_true rfl)).trans rfl
theorem f73_58 : zi_fe 73 58 = some (.isub, 1, 0, 0, 0, 0, 0) := (zl73_2 (Nat.le_of_ble_eq_true rfl)).trans rfl
theorem f73_59 : zi_fe 73 59 = some ((.invokestatic 104), 3, 0, 9, 0, 897, 2) := (zl73_2 (Nat.le_of_ble_eq_true rfl)).trans rfl
theorem f73_62 : zi_fe 73 62 = some ((.putfield 28), 3, 5, 4, 0, 279, 0) := (zl73_2 (Nat.le_of_ble_eq_true rfl)).trans rfl
theorem f73_65 : zi_fe 73 65 = some ((.aload_n 1), 1, 0, 0, 0, 0, 0) := (zl73_2 (Nat.le_of_ble_eq_true rfl)).trans rfl
theorem f73_66 : zi_fe 73 66 = some ((.invokevirtual 107), 3, 102, 0, 6, 898, 1) := (zl73_2 (Nat.le_of_ble_eq_true rfl)).trans rfl
theorem f73_69 : zi_fe 73 69 = some ((.ifCond .eq 13), 3, 0, 0, 0, 0, 0) := (zl73_2 (Nat.le_of_ble_eq_true rfl)).trans rfl
theorem zl73_3 {pc : Nat} (h : 72 ≤ pc) : zi_fe 73 pc = zu73_3.lookup pc := (zl73_2 (Nat.le_trans (Nat.le_of_ble_eq_true rfl) h)).trans (zi_lkA (a := zi_i73_2) (c := 72) rfl h)
theorem f73_72 : zi_fe 73 72 = some ((.aload_n 0), 1, 0, 0, 0, 0, 0) := (zl73_3 (Nat.le_of_ble_eq_true rfl)).trans rfl
theorem f73_73 : zi_fe 73 73 = some (.dup, 1, 0, 0, 0, 0, 0) := (zl73_3 (Nat.le_of_ble_eq_true rfl)).trans rfl
theorem f73_74 : zi_fe 73 74 = some ((.getfield 31), 3, 5, 5, 0, 281, 0) := (zl73_3 (Nat.le_of_ble_eq_true rfl)).trans rfl
theorem f73_77 : zi_fe 73 77 = some ((.iconst 1), 1, 0, 0, 0, 0, 0) := (zl73_3 (Nat.le_of_ble_eq_true rfl)).trans rfl
theorem f73_78 : zi_fe 73 78 = some (.iadd, 1, 0, 0, 0, 0, 0) := (zl73_3 (Nat.le_of_ble_eq_true rfl)).trans rfl
theorem f73_79 : zi_fe 73 79 = some ((.putfield 31), 3, 5, 5, 0, 281, 0) := (zl73_3 (Nat.le_of_ble_eq_true rfl)).trans rfl
theorem f73_82 : zi_fe 73 82 = some ((.aload_n 1), 1, 0, 0, 0, 0, 0) := (zl73_3 (Nat.le_of_ble_eq_true rfl)).trans rfl
theorem f73_83 : zi_fe 73 83 = some ((.aload_n 0), 1, 0, 0, 0, 0, 0) := (zl73_3 (Nat.le_of_ble_eq_true rfl)).trans rfl
theorem f73_84 : zi_fe 73 84 = some ((.getfield 60), 3, 5, 11, 0, 291, 0) := (zl73_3 (Nat.le_of_ble_eq_true rfl)).trans rfl
theorem f73_87 : zi_fe 73 87 = some ((.aload_n 0), 1, 0, 0, 0, 0, 0) := (zl73_3 (Nat.le_of_ble_eq_true rfl)).trans rfl
theorem f73_88 : zi_fe 73 88 = some ((.getfield 63), 3, 5, 12, 0, 292, 0) := (zl73_3 (Nat.le_of_ble_eq_true rfl)).trans rfl
theorem f73_91 : zi_fe 73 91 = some ((.invokevirtual 110), 3, 103, 0, 6, 906, 3) := (zl73_3 (Nat.le_of_ble_eq_true rfl)).trans rfl
theorem zl73_4 {pc : Nat} (h : 94 ≤ pc) : zi_fe 73 pc = zu73_4.lookup pc := (zl73_3 (Nat.le_trans (Nat.le_of_ble_eq_true rfl) h)).trans (zi_lkA (a := zi_i73_3) (c := 94) rfl h)
theorem f73_94 : zi_fe 73 94 = some ((.ifCond .eq 35), 3, 0, 0, 0, 0, 0) := (zl73_4 (Nat.le_of_ble_eq_true rfl)).trans rfl
theorem f73_97 : zi_fe 73 97 = some ((.aload_n 0), 1, 0, 0, 0, 0, 0) := (zl73_4 (Nat.le_of_ble_eq_true rfl)).trans rfl
theorem f73_98 : zi_fe 73 98 = some (.dup, 1, 0, 0, 0, 0, 0) := (zl73_4 (Nat.le_of_ble_eq_true rfl)).trans rfl
theorem f73_99 : zi_fe 73 99 = some ((.getfield 34), 3, 5, 6, 0, 283, 0) := (zl73_4 (Nat.le_of_ble_eq_true rfl)).trans rfl
theorem f73_102 : zi_fe 73 102 = some ((.iconst 1), 1, 0, 0, 0, 0, 0) := (zl73_4 (Nat.le_of_ble_eq_true rfl)).trans rfl
theorem f73_103 : zi_fe 73 103 = some (.iadd, 1, 0, 0, 0, 0, 0) := (zl73_4 (Nat.le_of_ble_eq_true rfl)).trans rfl
theorem f73_104 : zi_fe 73 104 = some ((.putfield 34), 3, 5, 6, 0, 283, 0) := (zl73_4 (Nat.le_of_ble_eq_true rfl)).trans rfl
theorem f73_107 : zi_fe 73 107 = some ((.aload_n 0), 1, 0, 0, 0, 0, 0) := (zl73_4 (Nat.le_of_ble_eq_true rfl)).trans rfl
theorem f73_108 : zi_fe 73 108 = some (.dup, 1, 0, 0, 0, 0, 0) := (zl73_4 (Nat.le_of_ble_eq_true rfl)).trans rfl
theorem f73_109 : zi_fe 73 109 = some ((.getfield 40), 3, 5, 8, 2, 287, 0) := (zl73_4 (Nat.le_of_ble_eq_true rfl)).trans rfl
theorem f73_112 : zi_fe 73 112 = some ((.lload_n 3), 1, 0, 0, 0, 0, 0) := (zl73_4 (Nat.le_of_ble_eq_true rfl)).trans rfl
theorem f73_113 : zi_fe 73 113 = some (.ladd, 1, 0, 0, 0, 0, 0) := (zl73_4 (Nat.le_of_ble_eq_true rfl)).trans rfl
theorem zl73_5 {pc : Nat} (h : 114 ≤ pc) : zi_fe 73 pc = zu73_5.lookup pc := (zl73_4 (Nat.le_trans (Nat.le_of_ble_eq_true rfl) h)).trans (zi_lkA (a := zi_i73_4) (c := 114) rfl h)
theorem f73_114 : zi_fe 73 114 = some ((.putfield 40), 3, 5, 8, 2, 287, 0) := (zl73_5 (Nat.le_of_ble_eq_true rfl)).trans rfl
theorem f73_117 : zi_fe 73 117 = some ((.aload_n 0), 1, 0, 0, 0, 0, 0) := (zl73_5 (Nat.le_of_ble_eq_true rfl)).trans rfl
theorem f73_118 : zi_fe 73 118 = some ((.getfield 37), 3, 5, 7, 0, 285, 0) := (zl73_5 (Nat.le_of_ble_eq_true rfl)).trans rfl
theorem f73_121 : zi_fe 73 121 = some ((.ifCond .ge 8), 3, 0, 0, 0, 0, 0) := (zl73_5 (Nat.le_of_ble_eq_true rfl)).trans rfl
theorem f73_124 : zi_fe 73 124 = some ((.aload_n 0), 1, 0, 0, 0, 0, 0) := (zl73_5 (Nat.le_of_ble_eq_true rfl)).trans rfl
theorem f73_125 : zi_fe 73 125 = some ((.iload_n 2), 1, 0, 0, 0, 0, 0) := (zl73_5 (Nat.le_of_ble_eq_true rfl)).trans rfl
theorem f73_126 : zi_fe 73 126 = some ((.putfield 37), 3, 5, 7, 0, 285, 0) := (zl73_5 (Nat.le_of_ble_eq_true rfl)).trans rfl
theorem f73_129 : zi_fe 73 129 = some (.return_, 1, 0, 0, 0, 0, 0) := (zl73_5 (Nat.le_of_ble_eq_true rfl)).trans rfl
theorem b73_0 {h : zi_Hp} {a0 : Nat} {a1 : Nat} {x2 : Int32} {y3 : Int64} (g0 : a0 < zh_n h) (g1 : (zh_k h a0).1 = 5) (g2 : a1 < zh_n h) (g3 : (zh_k h a1).1 = 6) : zv 3 73 0 [.ref a0, .ref a1, .int x2, .long y3, .double 1] [] h = (zv 2 101 0 [.ref a1, .double 0] [] (zh_wi h a0 1 ((zh_i h a0 1) + 1))).bind fun r => zv 3 73 14 [.ref a0, .ref a1, .int x2, .long y3, .double 1] (r.1.toList ++ []) r.2 := by
  refine Eq.trans (zv_next f73_0 rfl) ?_
  refine Eq.trans (zv_next f73_1 rfl) ?_
  refine Eq.trans (zs_geti f73_2 g0 g1) ?_
  refine Eq.trans (zs_ic f73_5 ic_1) ?_
  refine Eq.trans (zv_next f73_6 rfl) ?_
  refine Eq.trans (zs_put f73_7 g0 g1 rfl) ?_
  refine Eq.trans (zv_next f73_10 rfl) ?_
  exact zs_callV f73_11 (Nat.le_of_ble_eq_true rfl) (Nat.le_of_ble_eq_true rfl) rfl g2 g3 me_101 (by decide) rfl
theorem b73_14 {h : zi_Hp} {a0 : Nat} {a1 : Nat} {x2 : Int32} {y3 : Int64} {s0 : Int32}  : zv 3 73 14 [.ref a0, .ref a1, .int x2, .long y3, .double 1] [.int s0] h = if s0 = 0 then zv 3 73 27 [.ref a0, .ref a1, .int x2, .long y3, .double 1] [] h else zv 3 73 17 [.ref a0, .ref a1, .int x2, .long y3, .double 1] [] h := by
  exact zs_if f73_14 rfl
theorem b73_17 {h : zi_Hp} {a0 : Nat} {a1 : Nat} {x2 : Int32} {y3 : Int64} (g0 : a0 < zh_n h) (g1 : (zh_k h a0).1 = 5) : zv 3 73 17 [.ref a0, .ref a1, .int x2, .long y3, .double 1] [] h = zv 3 73 27 [.ref a0, .ref a1, .int x2, .long y3, .double 1] [] (zh_wi h a0 2 ((zh_i h a0 2) + 1)) := by
  refine Eq.trans (zv_next f73_17 rfl) ?_
  refine Eq.trans (zv_next f73_18 rfl) ?_
  refine Eq.trans (zs_geti f73_19 g0 g1) ?_
  refine Eq.trans (zs_ic f73_22 ic_1) ?_
  refine Eq.trans (zv_next f73_23 rfl) ?_
  refine Eq.trans (zs_put f73_24 g0 g1 rfl) ?_
  rfl
theorem b73_27 {h : zi_Hp} {a0 : Nat} {a1 : Nat} {x2 : Int32} {y3 : Int64} (g0 : a0 < zh_n h) (g1 : (zh_k h a0).1 = 5) (g2 : a1 < zh_n h) (g3 : (zh_k h a1).1 = 6) (g4 : zh_r h a1 0 = .ref (zq (zh_r h a1 0))) (g5 : (zq (zh_r h a1 0)) < zh_n h) (g6 : (zh_k h (zq (zh_r h a1 0))).1 = 4) : zv 3 73 27 [.ref a0, .ref a1, .int x2, .long y3, .double 1] [] h = zv 3 73 47 [.ref a0, .ref a1, .int x2, .long y3, .double 1] [.ref a0, .ref a0] (zh_wi h a0 3 (if (zh_i h a0 3) < (zh_i h (zq (zh_r h a1 0)) 0) then (zh_i h (zq (zh_r h a1 0)) 0) else (zh_i h a0 3))) := by
  refine Eq.trans (zv_next f73_27 rfl) ?_
  refine Eq.trans (zv_next f73_28 rfl) ?_
  refine Eq.trans (zs_geti f73_29 g0 g1) ?_
  refine Eq.trans (zv_next f73_32 rfl) ?_
  refine Eq.trans (zs_getr f73_33 g2 g3 g4) ?_
  refine Eq.trans (zs_geti f73_36 g5 g6) ?_
  refine Eq.trans (zs_max f73_39 (Nat.le_of_ble_eq_true rfl)) ?_
  refine Eq.trans (zs_put f73_42 g0 g1 rfl) ?_
  refine Eq.trans (zv_next f73_45 rfl) ?_
  refine Eq.trans (zv_next f73_46 rfl) ?_
  rfl
theorem b73_47 {h : zi_Hp} {a0 : Nat} {a1 : Nat} {x2 : Int32} {y3 : Int64} {t0 : Nat} {t1 : Nat} (g0 : t1 < zh_n h) (g1 : (zh_k h t1).1 = 5) (g2 : a1 < zh_n h) (g3 : (zh_k h a1).1 = 6) : zv 3 73 47 [.ref a0, .ref a1, .int x2, .long y3, .double 1] [.ref t1, .ref t0] h = (zv 1 100 0 [.ref a1, .double 0, .double 0] [] h).bind fun r => zv 3 73 54 [.ref a0, .ref a1, .int x2, .long y3, .double 1] (r.1.toList ++ [.int (zh_i h t1 4), .ref t0]) r.2 := by
  refine Eq.trans (zs_geti f73_47 g0 g1) ?_
  refine Eq.trans (zv_next f73_50 rfl) ?_
  exact zs_callV f73_51 (Nat.le_of_ble_eq_true rfl) (Nat.le_of_ble_eq_true rfl) rfl g2 g3 me_100 (by decide) rfl
theorem b73_54 {h : zi_Hp} {a0 : Nat} {a1 : Nat} {x2 : Int32} {y3 : Int64} {t0 : Nat} {s1 : Int32} {s2 : Int32} (g0 : a0 < zh_n h) (g1 : (zh_k h a0).1 = 5) (g2 : t0 < zh_n h) (g3 : (zh_k h t0).1 = 5) (g4 : a1 < zh_n h) (g5 : (zh_k h a1).1 = 6) : zv 3 73 54 [.ref a0, .ref a1, .int x2, .long y3, .double 1] [.int s2, .int s1, .ref t0] h = (zv 2 102 0 [.ref a1, .double 0] [] (zh_wi h t0 4 (if s1 < (s2 - (zh_i h a0 10)) then (s2 - (zh_i h a0 10)) else s1))).bind fun r => zv 3 73 69 [.ref a0, .ref a1, .int x2, .long y3, .double 1] (r.1.toList ++ []) r.2 := by
  refine Eq.trans (zv_next f73_54 rfl) ?_
  refine Eq.trans (zs_geti f73_55 g0 g1) ?_
  refine Eq.trans (zv_next f73_58 rfl) ?_
  refine Eq.trans (zs_max f73_59 (Nat.le_of_ble_eq_true rfl)) ?_
  refine Eq.trans (zs_put f73_62 g2 g3 rfl) ?_
  refine Eq.trans (zv_next f73_65 rfl) ?_
  exact zs_callV f73_66 (Nat.le_of_ble_eq_true rfl) (Nat.le_of_ble_eq_true rfl) rfl g4 g5 me_102 (by decide) rfl
theorem b73_69 {h : zi_Hp} {a0 : Nat} {a1 : Nat} {x2 : Int32} {y3 : Int64} {s0 : Int32}  : zv 3 73 69 [.ref a0, .ref a1, .int x2, .long y3, .double 1] [.int s0] h = if s0 = 0 then zv 3 73 82 [.ref a0, .ref a1, .int x2, .long y3, .double 1] [] h else zv 3 73 72 [.ref a0, .ref a1, .int x2, .long y3, .double 1] [] h := by
  exact zs_if f73_69 rfl
theorem b73_72 {h : zi_Hp} {a0 : Nat} {a1 : Nat} {x2 : Int32} {y3 : Int64} (g0 : a0 < zh_n h) (g1 : (zh_k h a0).1 = 5) : zv 3 73 72 [.ref a0, .ref a1, .int x2, .long y3, .double 1] [] h = zv 3 73 82 [.ref a0, .ref a1, .int x2, .long y3, .double 1] [] (zh_wi h a0 5 ((zh_i h a0 5) + 1)) := by
  refine Eq.trans (zv_next f73_72 rfl) ?_
  refine Eq.trans (zv_next f73_73 rfl) ?_
  refine Eq.trans (zs_geti f73_74 g0 g1) ?_
  refine Eq.trans (zs_ic f73_77 ic_1) ?_
  refine Eq.trans (zv_next f73_78 rfl) ?_
  refine Eq.trans (zs_put f73_79 g0 g1 rfl) ?_
  rfl
theorem b73_82 {h : zi_Hp} {a0 : Nat} {a1 : Nat} {x2 : Int32} {y3 : Int64} (g0 : a0 < zh_n h) (g1 : (zh_k h a0).1 = 5) (g2 : a1 < zh_n h) (g3 : (zh_k h a1).1 = 6) : zv 3 73 82 [.ref a0, .ref a1, .int x2, .long y3, .double 1] [] h = (zv 2 103 0 [.ref a1, .int (zh_i h a0 11), .int (zh_i h a0 12)] [] h).bind fun r => zv 3 73 94 [.ref a0, .ref a1, .int x2, .long y3, .double 1] (r.1.toList ++ []) r.2 := by
  refine Eq.trans (zv_next f73_82 rfl) ?_
  refine Eq.trans (zv_next f73_83 rfl) ?_
  refine Eq.trans (zs_geti f73_84 g0 g1) ?_
  refine Eq.trans (zv_next f73_87 rfl) ?_
  refine Eq.trans (zs_geti f73_88 g0 g1) ?_
  exact zs_callV f73_91 (Nat.le_of_ble_eq_true rfl) (Nat.le_of_ble_eq_true rfl) rfl g2 g3 me_103 (by decide) rfl
theorem b73_94 {h : zi_Hp} {a0 : Nat} {a1 : Nat} {x2 : Int32} {y3 : Int64} {s0 : Int32}  : zv 3 73 94 [.ref a0, .ref a1, .int x2, .long y3, .double 1] [.int s0] h = if s0 = 0 then zv 3 73 129 [.ref a0, .ref a1, .int x2, .long y3, .double 1] [] h else zv 3 73 97 [.ref a0, .ref a1, .int x2, .long y3, .double 1] [] h := by
  exact zs_if f73_94 rfl
theorem b73_97 {h : zi_Hp} {a0 : Nat} {a1 : Nat} {x2 : Int32} {y3 : Int64} (g0 : a0 < zh_n h) (g1 : (zh_k h a0).1 = 5) : zv 3 73 97 [.ref a0, .ref a1, .int x2, .long y3, .double 1] [] h = zv 3 73 109 [.ref a0, .ref a1, .int x2, .long y3, .double 1] [.ref a0, .ref a0] (zh_wi h a0 6 ((zh_i h a0 6) + 1)) := by
  refine Eq.trans (zv_next f73_97 rfl) ?_
  refine Eq.trans (zv_next f73_98 rfl) ?_
  refine Eq.trans (zs_geti f73_99 g0 g1) ?_
  refine Eq.trans (zs_ic f73_102 ic_1) ?_
  refine Eq.trans (zv_next f73_103 rfl) ?_
  refine Eq.trans (zs_put f73_104 g0 g1 rfl) ?_
  refine Eq.trans (zv_next f73_107 rfl) ?_
  refine Eq.trans (zv_next f73_108 rfl) ?_
  rfl
theorem b73_109 {h : zi_Hp} {a0 : Nat} {a1 : Nat} {x2 : Int32} {y3 : Int64} {t0 : Nat} {t1 : Nat} (g0 : t1 < zh_n h) (g1 : (zh_k h t1).1 = 5) (g2 : t0 < zh_n h) (g3 : (zh_k h t0).1 = 5) : zv 3 73 109 [.ref a0, .ref a1, .int x2, .long y3, .double 1] [.ref t1, .ref t0] h = zv 3 73 118 [.ref a0, .ref a1, .int x2, .long y3, .double 1] [.ref a0] (zh_wl h t0 8 ((zh_l h t1 8) + y3)) := by
  refine Eq.trans (zs_getl f73_109 g0 g1) ?_
  refine Eq.trans (zv_next f73_112 rfl) ?_
  refine Eq.trans (zv_next f73_113 rfl) ?_
  refine Eq.trans (zs_put f73_114 g2 g3 rfl) ?_
  refine Eq.trans (zv_next f73_117 rfl) ?_
  rfl
theorem b73_118 {h : zi_Hp} {a0 : Nat} {a1 : Nat} {x2 : Int32} {y3 : Int64} {t0 : Nat} (g0 : t0 < zh_n h) (g1 : (zh_k h t0).1 = 5) : zv 3 73 118 [.ref a0, .ref a1, .int x2, .long y3, .double 1] [.ref t0] h = if (zh_i h t0 7) < 0 then zv 3 73 124 [.ref a0, .ref a1, .int x2, .long y3, .double 1] [] h else zv 3 73 129 [.ref a0, .ref a1, .int x2, .long y3, .double 1] [] h := by
  refine Eq.trans (zs_geti f73_118 g0 g1) ?_
  exact zs_if f73_121 rfl
theorem b73_124 {h : zi_Hp} {a0 : Nat} {a1 : Nat} {x2 : Int32} {y3 : Int64} (g0 : a0 < zh_n h) (g1 : (zh_k h a0).1 = 5) : zv 3 73 124 [.ref a0, .ref a1, .int x2, .long y3, .double 1] [] h = zv 3 73 129 [.ref a0, .ref a1, .int x2, .long y3, .double 1] [] (zh_wi h a0 7 x2) := by
  refine Eq.trans (zv_next f73_124 rfl) ?_
  refine Eq.trans (zv_next f73_125 rfl) ?_
  refine Eq.trans (zs_put f73_126 g0 g1 rfl) ?_
  rfl
theorem b73_129 {h : zi_Hp} {a0 : Nat} {a1 : Nat} {x2 : Int32} {y3 : Int64}  : zv 3 73 129 [.ref a0, .ref a1, .int x2, .long y3, .double 1] [] h = some (none, h) := by
  exact zv_ret f73_129 rfl
set_option maxRecDepth 20000 in
theorem zq74 : zi_M[74]? = some zi_m74 := rfl
theorem zl74_0 {pc : Nat} (_ : 0 ≤ pc) : zi_fe 74 pc = zu74_0.lookup pc := zi_feA zq74 pc
theorem f74_0 : zi_fe 74 0 = some ((.aload_n 0), 1, 0, 0, 0, 0, 0) := (zl74_0 (Nat.le_of_ble_eq_true rfl)).trans rfl
theorem f74_1 : zi_fe 74 1 = some ((.invokespecial 3), 3, 0, 3, 0, 122, 1) := (zl74_0 (Nat.le_of_ble_eq_true rfl)).trans rfl
theorem f74_4 : zi_fe 74 4 = some ((.aload_n 0), 1, 0, 0, 0, 0, 0) := (zl74_0 (Nat.le_of_ble_eq_true rfl)).trans rfl
theorem f74_5 : zi_fe 74 5 = some ((.new 9), 3, 4, 10, 124, 123, 0) := (zl74_0 (Nat.le_of_ble_eq_true rfl)).trans rfl
theorem f74_8 : zi_fe 74 8 = some (.dup, 1, 0, 0, 0, 0, 0) := (zl74_0 (Nat.le_of_ble_eq_true rfl)).trans rfl
theorem f74_9 : zi_fe 74 9 = some ((.invokespecial 11), 3, 36, 2, 4, 125, 1) := (zl74_0 (Nat.le_of_ble_eq_true rfl)).trans rfl
theorem f74_12 : zi_fe 74 12 = some ((.putfield 12), 3, 6, 0, 3, 253, 0) := (zl74_0 (Nat.le_of_ble_eq_true rfl)).trans rfl
theorem f74_15 : zi_fe 74 15 = some ((.aload_n 0), 1, 0, 0, 0, 0, 0) := (zl74_0 (Nat.le_of_ble_eq_true rfl)).trans rfl
theorem f74_16 : zi_fe 74 16 = some ((.iconst 3), 1, 0, 0, 0, 0, 0) := (zl74_0 (Nat.le_of_ble_eq_true rfl)).trans rfl
theorem f74_17 : zi_fe 74 17 = some ((.anewarray 18), 3, 104, 0, 186, 185, 0) := (zl74_0 (Nat.le_of_ble_eq_true rfl)).trans rfl
theorem f74_20 : zi_fe 74 20 = some (.dup, 1, 0, 0, 0, 0, 0) := (zl74_0 (Nat.le_of_ble_eq_true rfl)).trans rfl
theorem f74_21 : zi_fe 74 21 = some ((.iconst 0), 1, 0, 0, 0, 0, 0) := (zl74_0 (Nat.le_of_ble_eq_true rfl)).trans rfl
theorem zl74_1 {pc : Nat} (h : 22 ≤ pc) : zi_fe 74 pc = zu74_1.lookup pc := (zl74_0 (Nat.le_trans (Nat.le_of_ble_eq_true rfl) h)).trans (zi_lkA (a := zi_i74_0) (c := 22) rfl h)
theorem f74_22 : zi_fe 74 22 = some ((.new 18), 3, 0, 13, 187, 185, 0) := (zl74_1 (Nat.le_of_ble_eq_true rfl)).trans rfl
theorem f74_25 : zi_fe 74 25 = some (.dup, 1, 0, 0, 0, 0, 0) := (zl74_1 (Nat.le_of_ble_eq_true rfl)).trans rfl
theorem f74_26 : zi_fe 74 26 = some ((.invokespecial 20), 3, 0, 2, 0, 188, 1) := (zl74_1 (Nat.le_of_ble_eq_true rfl)).trans rfl
theorem f74_29 : zi_fe 74 29 = some (.aastore, 1, 0, 0, 0, 0, 0) := (zl74_1 (Nat.le_of_ble_eq_true rfl)).trans rfl
theorem f74_30 : zi_fe 74 30 = some (.dup, 1, 0, 0, 0, 0, 0) := (zl74_1 (Nat.le_of_ble_eq_true rfl)).trans rfl
theorem f74_31 : zi_fe 74 31 = some ((.iconst 1), 1, 0, 0, 0, 0, 0) := (zl74_1 (Nat.le_of_ble_eq_true rfl)).trans rfl
theorem f74_32 : zi_fe 74 32 = some ((.new 18), 3, 0, 13, 187, 185, 0) := (zl74_1 (Nat.le_of_ble_eq_true rfl)).trans rfl
theorem f74_35 : zi_fe 74 35 = some (.dup, 1, 0, 0, 0, 0, 0) := (zl74_1 (Nat.le_of_ble_eq_true rfl)).trans rfl
theorem f74_36 : zi_fe 74 36 = some ((.invokespecial 20), 3, 0, 2, 0, 188, 1) := (zl74_1 (Nat.le_of_ble_eq_true rfl)).trans rfl
theorem f74_39 : zi_fe 74 39 = some (.aastore, 1, 0, 0, 0, 0, 0) := (zl74_1 (Nat.le_of_ble_eq_true rfl)).trans rfl
theorem f74_40 : zi_fe 74 40 = some (.dup, 1, 0, 0, 0, 0, 0) := (zl74_1 (Nat.le_of_ble_eq_true rfl)).trans rfl
theorem f74_41 : zi_fe 74 41 = some ((.iconst 2), 1, 0, 0, 0, 0, 0) := (zl74_1 (Nat.le_of_ble_eq_true rfl)).trans rfl
theorem zl74_2 {pc : Nat} (h : 42 ≤ pc) : zi_fe 74 pc = zu74_2.lookup pc := (zl74_1 (Nat.le_trans (Nat.le_of_ble_eq_true rfl) h)).trans (zi_lkA (a := zi_i74_1) (c := 42) rfl h)
theorem f74_42 : zi_fe 74 42 = some ((.new 18), 3, 0, 13, 187, 185, 0) := (zl74_2 (Nat.le_of_ble_eq_true rfl)).trans rfl
theorem f74_45 : zi_fe 74 45 = some (.dup, 1, 0, 0, 0, 0, 0) := (zl74_2 (Nat.le_of_ble_eq_true rfl)).trans rfl
theorem f74_46 : zi_fe 74 46 = some ((.invokespecial 20), 3, 0, 2, 0, 188, 1) := (zl74_2 (Nat.le_of_ble_eq_true rfl)).trans rfl
theorem f74_49 : zi_fe 74 49 = some (.aastore, 1, 0, 0, 0, 0, 0) := (zl74_2 (Nat.le_of_ble_eq_true rfl)).trans rfl
theorem f74_50 : zi_fe 74 50 = some ((.putfield 21), 3, 6, 1, 3, 256, 0) := (zl74_2 (Nat.le_of_ble_eq_true rfl)).trans rfl
theorem f74_53 : zi_fe 74 53 = some (.return_, 1, 0, 0, 0, 0, 0) := (zl74_2 (Nat.le_of_ble_eq_true rfl)).trans rfl
theorem b74_0 {h : zi_Hp} {a0 : Nat}  : zv 4 74 0 [.ref a0] [] h = zv 4 74 8 [.ref a0] [.ref (zh_n h), .ref a0] (zh_al h 4 10) := by
  refine Eq.trans (zv_next f74_0 rfl) ?_
  refine Eq.trans (zs_objI f74_1 (Nat.le_of_ble_eq_true rfl)) ?_
  refine Eq.trans (zv_next f74_4 rfl) ?_
  refine Eq.trans (zv_next f74_5 rfl) ?_
  rfl
theorem b74_8 {h : zi_Hp} {a0 : Nat} {t0 : Nat} {t1 : Nat}  : zv 4 74 8 [.ref a0] [.ref t1, .ref t0] h = (zv 3 36 0 [.ref t1] [] h).bind fun r => zv 4 74 12 [.ref a0] (r.1.toList ++ [.ref t1, .ref t0]) r.2 := by
  refine Eq.trans (zv_next f74_8 rfl) ?_
  exact zs_callI f74_9 (by decide) (Nat.le_of_ble_eq_true rfl) (Nat.le_of_ble_eq_true rfl) rfl me_36 (by decide) rfl
theorem b74_12 {h : zi_Hp} {a0 : Nat} {t0 : Nat} {t1 : Nat} (g0 : t0 < zh_n h) (g1 : (zh_k h t0).1 = 6) : zv 4 74 12 [.ref a0] [.ref t1, .ref t0] h = zv 4 74 20 [.ref a0] [.ref (zh_n h), .ref a0] (zh_al (zh_wr h t0 0 (.ref t1)) 104 3) := by
  refine Eq.trans (zs_put f74_12 g0 g1 rfl) ?_
  refine Eq.trans (zv_next f74_15 rfl) ?_
  refine Eq.trans (zs_ic f74_16 ic_3) ?_
  refine Eq.trans (zs_anew (N := 3) f74_17 (by decide)) ?_
  rfl
theorem b74_20 {h : zi_Hp} {a0 : Nat} {t0 : Nat} {t1 : Nat}  : zv 4 74 20 [.ref a0] [.ref t1, .ref t0] h = zv 4 74 25 [.ref a0] [.ref (zh_n h), .int 0, .ref t1, .ref t1, .ref t0] (zh_al h 0 13) := by
  refine Eq.trans (zv_next f74_20 rfl) ?_
  refine Eq.trans (zs_ic f74_21 ic_0) ?_
  refine Eq.trans (zv_next f74_22 rfl) ?_
  rfl
theorem b74_25 {h : zi_Hp} {a0 : Nat} {t0 : Nat} {t1 : Nat} {t2 : Nat} {s3 : Int32} {t4 : Nat}  : zv 4 74 25 [.ref a0] [.ref t4, .int s3, .ref t2, .ref t1, .ref t0] h = (zv 3 0 0 [.ref t4] [] h).bind fun r => zv 4 74 29 [.ref a0] (r.1.toList ++ [.ref t4, .int s3, .ref t2, .ref t1, .ref t0]) r.2 := by
  refine Eq.trans (zv_next f74_25 rfl) ?_
  exact zs_callI f74_26 (by decide) (Nat.le_of_ble_eq_true rfl) (Nat.le_of_ble_eq_true rfl) rfl me_0 (by decide) rfl
theorem b74_29 {h : zi_Hp} {a0 : Nat} {t0 : Nat} {t1 : Nat} {t2 : Nat} {s3 : Int32} {t4 : Nat} (g0 : t2 < zh_n h) (g1 : ¬ (s3 < 0 ∨ (zh_k h t2).2 ≤ s3.toNatClampNeg)) (g2 : (zh_k h t2).1 = 103 ∨ (zh_k h t2).1 = 104) (g3 : t4 < zh_n h) (g4 : (zh_k h t4).1 = zi_comp (zh_k h t2).1) : zv 4 74 29 [.ref a0] [.ref t4, .int s3, .ref t2, .ref t1, .ref t0] h = zv 4 74 35 [.ref a0] [.ref (zh_n h), .int 1, .ref t1, .ref t1, .ref t0] (zh_al (zh_wr h t2 s3.toNatClampNeg (.ref t4)) 0 13) := by
  refine Eq.trans (zs_aast f74_29 g0 g2 g1 g3 g4) ?_
  refine Eq.trans (zv_next f74_30 rfl) ?_
  refine Eq.trans (zs_ic f74_31 ic_1) ?_
  refine Eq.trans (zv_next f74_32 rfl) ?_
  rfl
theorem b74_35 {h : zi_Hp} {a0 : Nat} {t0 : Nat} {t1 : Nat} {t2 : Nat} {s3 : Int32} {t4 : Nat}  : zv 4 74 35 [.ref a0] [.ref t4, .int s3, .ref t2, .ref t1, .ref t0] h = (zv 3 0 0 [.ref t4] [] h).bind fun r => zv 4 74 39 [.ref a0] (r.1.toList ++ [.ref t4, .int s3, .ref t2, .ref t1, .ref t0]) r.2 := by
  refine Eq.trans (zv_next f74_35 rfl) ?_
  exact zs_callI f74_36 (by decide) (Nat.le_of_ble_eq_true rfl) (Nat.le_of_ble_eq_true rfl) rfl me_0 (by decide) rfl
theorem b74_39 {h : zi_Hp} {a0 : Nat} {t0 : Nat} {t1 : Nat} {t2 : Nat} {s3 : Int32} {t4 : Nat} (g0 : t2 < zh_n h) (g1 : ¬ (s3 < 0 ∨ (zh_k h t2).2 ≤ s3.toNatClampNeg)) (g2 : (zh_k h t2).1 = 103 ∨ (zh_k h t2).1 = 104) (g3 : t4 < zh_n h) (g4 : (zh_k h t4).1 = zi_comp (zh_k h t2).1) : zv 4 74 39 [.ref a0] [.ref t4, .int s3, .ref t2, .ref t1, .ref t0] h = zv 4 74 45 [.ref a0] [.ref (zh_n h), .int 2, .ref t1, .ref t1, .ref t0] (zh_al (zh_wr h t2 s3.toNatClampNeg (.ref t4)) 0 13) := by
  refine Eq.trans (zs_aast f74_39 g0 g2 g1 g3 g4) ?_
  refine Eq.trans (zv_next f74_40 rfl) ?_
  refine Eq.trans (zs_ic f74_41 ic_2) ?_
  refine Eq.trans (zv_next f74_42 rfl) ?_
  rfl
theorem b74_45 {h : zi_Hp} {a0 : Nat} {t0 : Nat} {t1 : Nat} {t2 : Nat} {s3 : Int32} {t4 : Nat}  : zv 4 74 45 [.ref a0] [.ref t4, .int s3, .ref t2, .ref t1, .ref t0] h = (zv 3 0 0 [.ref t4] [] h).bind fun r => zv 4 74 49 [.ref a0] (r.1.toList ++ [.ref t4, .int s3, .ref t2, .ref t1, .ref t0]) r.2 := by
  refine Eq.trans (zv_next f74_45 rfl) ?_
  exact zs_callI f74_46 (by decide) (Nat.le_of_ble_eq_true rfl) (Nat.le_of_ble_eq_true rfl) rfl me_0 (by decide) rfl
theorem b74_49 {h : zi_Hp} {a0 : Nat} {t0 : Nat} {t1 : Nat} {t2 : Nat} {s3 : Int32} {t4 : Nat} (g0 : t2 < zh_n h) (g1 : ¬ (s3 < 0 ∨ (zh_k h t2).2 ≤ s3.toNatClampNeg)) (g2 : (zh_k h t2).1 = 103 ∨ (zh_k h t2).1 = 104) (g3 : t4 < zh_n h) (g4 : (zh_k h t4).1 = zi_comp (zh_k h t2).1) (g5 : t0 < zh_n h) (g6 : (zh_k h t0).1 = 6) : zv 4 74 49 [.ref a0] [.ref t4, .int s3, .ref t2, .ref t1, .ref t0] h = some (none, zh_wr (zh_wr h t2 s3.toNatClampNeg (.ref t4)) t0 1 (.ref t1)) := by
  refine Eq.trans (zs_aast f74_49 g0 g2 g1 g3 g4) ?_
  refine Eq.trans (zs_put f74_50 g5 g6 rfl) ?_
  exact zv_ret f74_53 rfl
set_option maxRecDepth 20000 in
theorem zq75 : zi_M[75]? = some zi_m75 := rfl
theorem zl75_0 {pc : Nat} (_ : 0 ≤ pc) : zi_fe 75 pc = zu75_0.lookup pc := zi_feA zq75 pc
theorem f75_0 : zi_fe 75 0 = some ((.aload_n 0), 1, 0, 0, 0, 0, 0) := (zl75_0 (Nat.le_of_ble_eq_true rfl)).trans rfl
theorem f75_1 : zi_fe 75 1 = some ((.getfield 12), 3, 6, 0, 3, 253, 0) := (zl75_0 (Nat.le_of_ble_eq_true rfl)).trans rfl
theorem f75_4 : zi_fe 75 4 = some ((.aload_n 1), 1, 0, 0, 0, 0, 0) := (zl75_0 (Nat.le_of_ble_eq_true rfl)).trans rfl
theorem f75_5 : zi_fe 75 5 = some ((.getfield 12), 3, 6, 0, 3, 253, 0) := (zl75_0 (Nat.le_of_ble_eq_true rfl)).trans rfl
theorem f75_8 : zi_fe 75 8 = some ((.invokevirtual 25), 3, 38, 0, 4, 869, 2) := (zl75_0 (Nat.le_of_ble_eq_true rfl)).trans rfl
theorem f75_11 : zi_fe 75 11 = some ((.iconst 0), 1, 0, 0, 0, 0, 0) := (zl75_0 (Nat.le_of_ble_eq_true rfl)).trans rfl
theorem f75_12 : zi_fe 75 12 = some ((.istore_n 2), 1, 0, 0, 0, 0, 0) := (zl75_0 (Nat.le_of_ble_eq_true rfl)).trans rfl
theorem f75_13 : zi_fe 75 13 = some ((.iload_n 2), 1, 0, 0, 0, 0, 0) := (zl75_0 (Nat.le_of_ble_eq_true rfl)).trans rfl
theorem f75_14 : zi_fe 75 14 = some ((.iconst 3), 1, 0, 0, 0, 0, 0) := (zl75_0 (Nat.le_of_ble_eq_true rfl)).trans rfl
theorem f75_15 : zi_fe 75 15 = some ((.if_icmp .ge 24), 3, 0, 0, 0, 0, 0) := (zl75_0 (Nat.le_of_ble_eq_true rfl)).trans rfl
theorem f75_18 : zi_fe 75 18 = some ((.aload_n 0), 1, 0, 0, 0, 0, 0) := (zl75_0 (Nat.le_of_ble_eq_true rfl)).trans rfl
theorem f75_19 : zi_fe 75 19 = some ((.getfield 21), 3, 6, 1, 3, 256, 0) := (zl75_0 (Nat.le_of_ble_eq_true rfl)).trans rfl
theorem zl75_1 {pc : Nat} (h : 22 ≤ pc) : zi_fe 75 pc = zu75_1.lookup pc := (zl75_0 (Nat.le_trans (Nat.le_of_ble_eq_true rfl) h)).trans (zi_lkA (a := zi_i75_0) (c := 22) rfl h)
theorem f75_22 : zi_fe 75 22 = some ((.iload_n 2), 1, 0, 0, 0, 0, 0) := (zl75_1 (Nat.le_of_ble_eq_true rfl)).trans rfl
theorem f75_23 : zi_fe 75 23 = some (.aaload, 1, 0, 0, 0, 0, 0) := (zl75_1 (Nat.le_of_ble_eq_true rfl)).trans rfl
theorem f75_24 : zi_fe 75 24 = some ((.aload_n 1), 1, 0, 0, 0, 0, 0) := (zl75_1 (Nat.le_of_ble_eq_true rfl)).trans rfl
theorem f75_25 : zi_fe 75 25 = some ((.getfield 21), 3, 6, 1, 3, 256, 0) := (zl75_1 (Nat.le_of_ble_eq_true rfl)).trans rfl
theorem f75_28 : zi_fe 75 28 = some ((.iload_n 2), 1, 0, 0, 0, 0, 0) := (zl75_1 (Nat.le_of_ble_eq_true rfl)).trans rfl
theorem f75_29 : zi_fe 75 29 = some (.aaload, 1, 0, 0, 0, 0, 0) := (zl75_1 (Nat.le_of_ble_eq_true rfl)).trans rfl
theorem f75_30 : zi_fe 75 30 = some ((.invokevirtual 29), 3, 3, 0, 0, 873, 2) := (zl75_1 (Nat.le_of_ble_eq_true rfl)).trans rfl
theorem f75_33 : zi_fe 75 33 = some ((.iinc 2 1), 3, 0, 0, 0, 0, 0) := (zl75_1 (Nat.le_of_ble_eq_true rfl)).trans rfl
theorem f75_36 : zi_fe 75 36 = some ((.goto (-23)), 3, 0, 0, 0, 0, 0) := (zl75_1 (Nat.le_of_ble_eq_true rfl)).trans rfl
theorem f75_39 : zi_fe 75 39 = some (.return_, 1, 0, 0, 0, 0, 0) := (zl75_1 (Nat.le_of_ble_eq_true rfl)).trans rfl
theorem b75_0 {h : zi_Hp} {a0 : Nat} {a1 : Nat} {u2 : Value} (g0 : a0 < zh_n h) (g1 : (zh_k h a0).1 = 6) (g2 : zh_r h a0 0 = .ref (zq (zh_r h a0 0))) (g3 : a1 < zh_n h) (g4 : (zh_k h a1).1 = 6) (g5 : zh_r h a1 0 = .ref (zq (zh_r h a1 0))) (g6 : (zq (zh_r h a0 0)) < zh_n h) (g7 : (zh_k h (zq (zh_r h a0 0))).1 = 4) : zv 2 75 0 [.ref a0, .ref a1, u2] [] h = (zv 1 38 0 [.ref (zq (zh_r h a0 0)), .ref (zq (zh_r h a1 0))] [] h).bind fun r => zv 2 75 11 [.ref a0, .ref a1, u2] (r.1.toList ++ []) r.2 := by
  refine Eq.trans (zv_next f75_0 rfl) ?_
  refine Eq.trans (zs_getr f75_1 g0 g1 g2) ?_
  refine Eq.trans (zv_next f75_4 rfl) ?_
  refine Eq.trans (zs_getr f75_5 g3 g4 g5) ?_
  exact zs_callV f75_8 (Nat.le_of_ble_eq_true rfl) (Nat.le_of_ble_eq_true rfl) rfl g6 g7 me_38 (by decide) rfl
theorem b75_11 {h : zi_Hp} {a0 : Nat} {a1 : Nat} {u2 : Value}  : zv 2 75 11 [.ref a0, .ref a1, u2] [] h = zv 2 75 13 [.ref a0, .ref a1, .int 0] [] h := by
  refine Eq.trans (zs_ic f75_11 ic_0) ?_
  refine Eq.trans (zv_next f75_12 rfl) ?_
  rfl
theorem b75_13 {h : zi_Hp} {a0 : Nat} {a1 : Nat} {x2 : Int32}  : zv 2 75 13 [.ref a0, .ref a1, .int x2] [] h = if x2 < 3 then zv 2 75 18 [.ref a0, .ref a1, .int x2] [] h else zv 2 75 39 [.ref a0, .ref a1, .int x2] [] h := by
  refine Eq.trans (zv_next f75_13 rfl) ?_
  refine Eq.trans (zs_ic f75_14 ic_3) ?_
  exact zs_icmp f75_15 rfl
theorem b75_18 {h : zi_Hp} {a0 : Nat} {a1 : Nat} {x2 : Int32} (g0 : a0 < zh_n h) (g1 : (zh_k h a0).1 = 6) (g2 : zh_r h a0 1 = .ref (zq (zh_r h a0 1))) (g3 : (zq (zh_r h a0 1)) < zh_n h) (g4 : ¬ (x2 < 0 ∨ (zh_k h (zq (zh_r h a0 1))).2 ≤ x2.toNatClampNeg)) (g5 : (zh_k h (zq (zh_r h a0 1))).1 = 103 ∨ (zh_k h (zq (zh_r h a0 1))).1 = 104 ∨ (zh_k h (zq (zh_r h a0 1))).1 = 105) (g6 : zh_r h (zq (zh_r h a0 1)) x2.toNatClampNeg = .ref (zq (zh_r h (zq (zh_r h a0 1)) x2.toNatClampNeg))) (g7 : a1 < zh_n h) (g8 : (zh_k h a1).1 = 6) (g9 : zh_r h a1 1 = .ref (zq (zh_r h a1 1))) (g10 : (zq (zh_r h a1 1)) < zh_n h) (g11 : ¬ (x2 < 0 ∨ (zh_k h (zq (zh_r h a1 1))).2 ≤ x2.toNatClampNeg)) (g12 : (zh_k h (zq (zh_r h a1 1))).1 = 103 ∨ (zh_k h (zq (zh_r h a1 1))).1 = 104 ∨ (zh_k h (zq (zh_r h a1 1))).1 = 105) (g13 : zh_r h (zq (zh_r h a1 1)) x2.toNatClampNeg = .ref (zq (zh_r h (zq (zh_r h a1 1)) x2.toNatClampNeg))) (g14 : (zq (zh_r h (zq (zh_r h a0 1)) x2.toNatClampNeg)) < zh_n h) (g15 : (zh_k h (zq (zh_r h (zq (zh_r h a0 1)) x2.toNatClampNeg))).1 = 0) : zv 2 75 18 [.ref a0, .ref a1, .int x2] [] h = (zv 1 3 0 [.ref (zq (zh_r h (zq (zh_r h a0 1)) x2.toNatClampNeg)), .ref (zq (zh_r h (zq (zh_r h a1 1)) x2.toNatClampNeg))] [] h).bind fun r => zv 2 75 33 [.ref a0, .ref a1, .int x2] (r.1.toList ++ []) r.2 := by
  refine Eq.trans (zv_next f75_18 rfl) ?_
  refine Eq.trans (zs_getr f75_19 g0 g1 g2) ?_
  refine Eq.trans (zv_next f75_22 rfl) ?_
  refine Eq.trans (zs_aald f75_23 g3 g5 g4 g6) ?_
  refine Eq.trans (zv_next f75_24 rfl) ?_
  refine Eq.trans (zs_getr f75_25 g7 g8 g9) ?_
  refine Eq.trans (zv_next f75_28 rfl) ?_
  refine Eq.trans (zs_aald f75_29 g10 g12 g11 g13) ?_
  exact zs_callV f75_30 (Nat.le_of_ble_eq_true rfl) (Nat.le_of_ble_eq_true rfl) rfl g14 g15 me_3 (by decide) rfl
theorem b75_33 {h : zi_Hp} {a0 : Nat} {a1 : Nat} {x2 : Int32}  : zv 2 75 33 [.ref a0, .ref a1, .int x2] [] h = zv 2 75 13 [.ref a0, .ref a1, .int (x2 + 1)] [] h := by
  refine Eq.trans (zs_inc f75_33 rfl ic_1 rfl) ?_
  refine Eq.trans (zs_goto (tgt := 13) f75_36 rfl) ?_
  rfl
theorem b75_39 {h : zi_Hp} {a0 : Nat} {a1 : Nat} {x2 : Int32}  : zv 2 75 39 [.ref a0, .ref a1, .int x2] [] h = some (none, h) := by
  exact zv_ret f75_39 rfl
set_option maxRecDepth 20000 in
theorem zq76 : zi_M[76]? = some zi_m76 := rfl
theorem zl76_0 {pc : Nat} (_ : 0 ≤ pc) : zi_fe 76 pc = zu76_0.lookup pc := zi_feA zq76 pc
theorem f76_0 : zi_fe 76 0 = some ((.aload_n 0), 1, 0, 0, 0, 0, 0) := (zl76_0 (Nat.le_of_ble_eq_true rfl)).trans rfl
theorem f76_1 : zi_fe 76 1 = some ((.getfield 12), 3, 6, 0, 3, 253, 0) := (zl76_0 (Nat.le_of_ble_eq_true rfl)).trans rfl
theorem f76_4 : zi_fe 76 4 = some ((.invokevirtual 32), 3, 37, 0, 4, 577, 1) := (zl76_0 (Nat.le_of_ble_eq_true rfl)).trans rfl
theorem f76_7 : zi_fe 76 7 = some ((.iconst 0), 1, 0, 0, 0, 0, 0) := (zl76_0 (Nat.le_of_ble_eq_true rfl)).trans rfl
theorem f76_8 : zi_fe 76 8 = some ((.istore_n 2), 1, 0, 0, 0, 0, 0) := (zl76_0 (Nat.le_of_ble_eq_true rfl)).trans rfl
theorem f76_9 : zi_fe 76 9 = some ((.iload_n 2), 1, 0, 0, 0, 0, 0) := (zl76_0 (Nat.le_of_ble_eq_true rfl)).trans rfl
theorem f76_10 : zi_fe 76 10 = some ((.iconst 3), 1, 0, 0, 0, 0, 0) := (zl76_0 (Nat.le_of_ble_eq_true rfl)).trans rfl
theorem f76_11 : zi_fe 76 11 = some ((.if_icmp .ge 19), 3, 0, 0, 0, 0, 0) := (zl76_0 (Nat.le_of_ble_eq_true rfl)).trans rfl
theorem f76_14 : zi_fe 76 14 = some ((.aload_n 0), 1, 0, 0, 0, 0, 0) := (zl76_0 (Nat.le_of_ble_eq_true rfl)).trans rfl
theorem f76_15 : zi_fe 76 15 = some ((.getfield 21), 3, 6, 1, 3, 256, 0) := (zl76_0 (Nat.le_of_ble_eq_true rfl)).trans rfl
theorem f76_18 : zi_fe 76 18 = some ((.iload_n 2), 1, 0, 0, 0, 0, 0) := (zl76_0 (Nat.le_of_ble_eq_true rfl)).trans rfl
theorem f76_19 : zi_fe 76 19 = some (.aaload, 1, 0, 0, 0, 0, 0) := (zl76_0 (Nat.le_of_ble_eq_true rfl)).trans rfl
theorem zl76_1 {pc : Nat} (h : 20 ≤ pc) : zi_fe 76 pc = zu76_1.lookup pc := (zl76_0 (Nat.le_trans (Nat.le_of_ble_eq_true rfl) h)).trans (zi_lkA (a := zi_i76_0) (c := 20) rfl h)
theorem f76_20 : zi_fe 76 20 = some ((.iconst 0), 1, 0, 0, 0, 0, 0) := (zl76_1 (Nat.le_of_ble_eq_true rfl)).trans rfl
theorem f76_21 : zi_fe 76 21 = some ((.putfield 35), 3, 0, 0, 0, 200, 0) := (zl76_1 (Nat.le_of_ble_eq_true rfl)).trans rfl
theorem f76_24 : zi_fe 76 24 = some ((.iinc 2 1), 3, 0, 0, 0, 0, 0) := (zl76_1 (Nat.le_of_ble_eq_true rfl)).trans rfl
theorem f76_27 : zi_fe 76 27 = some ((.goto (-18)), 3, 0, 0, 0, 0, 0) := (zl76_1 (Nat.le_of_ble_eq_true rfl)).trans rfl
theorem f76_30 : zi_fe 76 30 = some ((.aload_n 0), 1, 0, 0, 0, 0, 0) := (zl76_1 (Nat.le_of_ble_eq_true rfl)).trans rfl
theorem f76_31 : zi_fe 76 31 = some ((.getfield 12), 3, 6, 0, 3, 253, 0) := (zl76_1 (Nat.le_of_ble_eq_true rfl)).trans rfl
theorem f76_34 : zi_fe 76 34 = some ((.aload_n 1), 1, 0, 0, 0, 0, 0) := (zl76_1 (Nat.le_of_ble_eq_true rfl)).trans rfl
theorem f76_35 : zi_fe 76 35 = some ((.getfield 39), 3, 1, 1, 0, 358, 0) := (zl76_1 (Nat.le_of_ble_eq_true rfl)).trans rfl
theorem f76_38 : zi_fe 76 38 = some ((.putfield 44), 3, 4, 2, 0, 145, 0) := (zl76_1 (Nat.le_of_ble_eq_true rfl)).trans rfl
theorem f76_41 : zi_fe 76 41 = some ((.iconst 0), 1, 0, 0, 0, 0, 0) := (zl76_1 (Nat.le_of_ble_eq_true rfl)).trans rfl
theorem f76_42 : zi_fe 76 42 = some ((.istore_n 2), 1, 0, 0, 0, 0, 0) := (zl76_1 (Nat.le_of_ble_eq_true rfl)).trans rfl
theorem f76_43 : zi_fe 76 43 = some ((.iload_n 2), 1, 0, 0, 0, 0, 0) := (zl76_1 (Nat.le_of_ble_eq_true rfl)).trans rfl
theorem zl76_2 {pc : Nat} (h : 44 ≤ pc) : zi_fe 76 pc = zu76_2.lookup pc := (zl76_1 (Nat.le_trans (Nat.le_of_ble_eq_true rfl) h)).trans (zi_lkA (a := zi_i76_1) (c := 44) rfl h)
theorem f76_44 : zi_fe 76 44 = some ((.aload_n 1), 1, 0, 0, 0, 0, 0) := (zl76_2 (Nat.le_of_ble_eq_true rfl)).trans rfl
theorem f76_45 : zi_fe 76 45 = some ((.getfield 45), 3, 1, 2, 0, 360, 0) := (zl76_2 (Nat.le_of_ble_eq_true rfl)).trans rfl
theorem f76_48 : zi_fe 76 48 = some ((.if_icmp .ge 32), 3, 0, 0, 0, 0, 0) := (zl76_2 (Nat.le_of_ble_eq_true rfl)).trans rfl
theorem f76_51 : zi_fe 76 51 = some ((.iload_n 2), 1, 0, 0, 0, 0, 0) := (zl76_2 (Nat.le_of_ble_eq_true rfl)).trans rfl
theorem f76_52 : zi_fe 76 52 = some ((.bipush 40), 2, 0, 0, 0, 0, 0) := (zl76_2 (Nat.le_of_ble_eq_true rfl)).trans rfl
theorem f76_54 : zi_fe 76 54 = some ((.if_icmp .ge 26), 3, 0, 0, 0, 0, 0) := (zl76_2 (Nat.le_of_ble_eq_true rfl)).trans rfl
theorem f76_57 : zi_fe 76 57 = some ((.aload_n 0), 1, 0, 0, 0, 0, 0) := (zl76_2 (Nat.le_of_ble_eq_true rfl)).trans rfl
theorem f76_58 : zi_fe 76 58 = some ((.aload_n 1), 1, 0, 0, 0, 0, 0) := (zl76_2 (Nat.le_of_ble_eq_true rfl)).trans rfl
theorem f76_59 : zi_fe 76 59 = some ((.getfield 48), 3, 1, 5, 3, 366, 0) := (zl76_2 (Nat.le_of_ble_eq_true rfl)).trans rfl
theorem f76_62 : zi_fe 76 62 = some ((.iload_n 2), 1, 0, 0, 0, 0, 0) := (zl76_2 (Nat.le_of_ble_eq_true rfl)).trans rfl
theorem f76_63 : zi_fe 76 63 = some (.iaload, 1, 0, 0, 0, 0, 0) := (zl76_2 (Nat.le_of_ble_eq_true rfl)).trans rfl
theorem f76_64 : zi_fe 76 64 = some ((.aload_n 1), 1, 0, 0, 0, 0, 0) := (zl76_2 (Nat.le_of_ble_eq_true rfl)).trans rfl
theorem zl76_3 {pc : Nat} (h : 65 ≤ pc) : zi_fe 76 pc = zu76_3.lookup pc := (zl76_2 (Nat.le_trans (Nat.le_of_ble_eq_true rfl) h)).trans (zi_lkA (a := zi_i76_2) (c := 65) rfl h)
theorem f76_65 : zi_fe 76 65 = some ((.getfield 52), 3, 1, 6, 3, 368, 0) := (zl76_3 (Nat.le_of_ble_eq_true rfl)).trans rfl
theorem f76_68 : zi_fe 76 68 = some ((.iload_n 2), 1, 0, 0, 0, 0, 0) := (zl76_3 (Nat.le_of_ble_eq_true rfl)).trans rfl
theorem f76_69 : zi_fe 76 69 = some (.iaload, 1, 0, 0, 0, 0, 0) := (zl76_3 (Nat.le_of_ble_eq_true rfl)).trans rfl
theorem f76_70 : zi_fe 76 70 = some ((.invokevirtual 55), 3, 78, 0, 6, 578, 3) := (zl76_3 (Nat.le_of_ble_eq_true rfl)).trans rfl
theorem f76_73 : zi_fe 76 73 = some (.pop, 1, 0, 0, 0, 0, 0) := (zl76_3 (Nat.le_of_ble_eq_true rfl)).trans rfl
theorem f76_74 : zi_fe 76 74 = some ((.iinc 2 1), 3, 0, 0, 0, 0, 0) := (zl76_3 (Nat.le_of_ble_eq_true rfl)).trans rfl
theorem f76_77 : zi_fe 76 77 = some ((.goto (-34)), 3, 0, 0, 0, 0, 0) := (zl76_3 (Nat.le_of_ble_eq_true rfl)).trans rfl
theorem f76_80 : zi_fe 76 80 = some ((.iconst 0), 1, 0, 0, 0, 0, 0) := (zl76_3 (Nat.le_of_ble_eq_true rfl)).trans rfl
theorem f76_81 : zi_fe 76 81 = some ((.istore_n 2), 1, 0, 0, 0, 0, 0) := (zl76_3 (Nat.le_of_ble_eq_true rfl)).trans rfl
theorem f76_82 : zi_fe 76 82 = some ((.iload_n 2), 1, 0, 0, 0, 0, 0) := (zl76_3 (Nat.le_of_ble_eq_true rfl)).trans rfl
theorem f76_83 : zi_fe 76 83 = some ((.iconst 3), 1, 0, 0, 0, 0, 0) := (zl76_3 (Nat.le_of_ble_eq_true rfl)).trans rfl
theorem f76_84 : zi_fe 76 84 = some ((.if_icmp .ge 30), 3, 0, 0, 0, 0, 0) := (zl76_3 (Nat.le_of_ble_eq_true rfl)).trans rfl
theorem zl76_4 {pc : Nat} (h : 87 ≤ pc) : zi_fe 76 pc = zu76_4.lookup pc := (zl76_3 (Nat.le_trans (Nat.le_of_ble_eq_true rfl) h)).trans (zi_lkA (a := zi_i76_3) (c := 87) rfl h)
theorem f76_87 : zi_fe 76 87 = some ((.aload_n 1), 1, 0, 0, 0, 0, 0) := (zl76_4 (Nat.le_of_ble_eq_true rfl)).trans rfl
theorem f76_88 : zi_fe 76 88 = some ((.getfield 59), 3, 1, 7, 3, 370, 0) := (zl76_4 (Nat.le_of_ble_eq_true rfl)).trans rfl
theorem f76_91 : zi_fe 76 91 = some ((.iload_n 2), 1, 0, 0, 0, 0, 0) := (zl76_4 (Nat.le_of_ble_eq_true rfl)).trans rfl
theorem f76_92 : zi_fe 76 92 = some (.iaload, 1, 0, 0, 0, 0, 0) := (zl76_4 (Nat.le_of_ble_eq_true rfl)).trans rfl
theorem f76_93 : zi_fe 76 93 = some ((.ifCond .lt 15), 3, 0, 0, 0, 0, 0) := (zl76_4 (Nat.le_of_ble_eq_true rfl)).trans rfl
theorem f76_96 : zi_fe 76 96 = some ((.aload_n 0), 1, 0, 0, 0, 0, 0) := (zl76_4 (Nat.le_of_ble_eq_true rfl)).trans rfl
theorem f76_97 : zi_fe 76 97 = some ((.iload_n 2), 1, 0, 0, 0, 0, 0) := (zl76_4 (Nat.le_of_ble_eq_true rfl)).trans rfl
theorem f76_98 : zi_fe 76 98 = some ((.iconst 0), 1, 0, 0, 0, 0, 0) := (zl76_4 (Nat.le_of_ble_eq_true rfl)).trans rfl
theorem f76_99 : zi_fe 76 99 = some ((.aload_n 1), 1, 0, 0, 0, 0, 0) := (zl76_4 (Nat.le_of_ble_eq_true rfl)).trans rfl
theorem f76_100 : zi_fe 76 100 = some ((.getfield 59), 3, 1, 7, 3, 370, 0) := (zl76_4 (Nat.le_of_ble_eq_true rfl)).trans rfl
theorem f76_103 : zi_fe 76 103 = some ((.iload_n 2), 1, 0, 0, 0, 0, 0) := (zl76_4 (Nat.le_of_ble_eq_true rfl)).trans rfl
theorem f76_104 : zi_fe 76 104 = some (.iaload, 1, 0, 0, 0, 0, 0) := (zl76_4 (Nat.le_of_ble_eq_true rfl)).trans rfl
theorem zl76_5 {pc : Nat} (h : 105 ≤ pc) : zi_fe 76 pc = zu76_5.lookup pc := (zl76_4 (Nat.le_trans (Nat.le_of_ble_eq_true rfl) h)).trans (zi_lkA (a := zi_i76_4) (c := 105) rfl h)
theorem f76_105 : zi_fe 76 105 = some ((.invokevirtual 62), 3, 77, 0, 6, 582, 4) := (zl76_5 (Nat.le_of_ble_eq_true rfl)).trans rfl
theorem f76_108 : zi_fe 76 108 = some ((.iinc 2 1), 3, 0, 0, 0, 0, 0) := (zl76_5 (Nat.le_of_ble_eq_true rfl)).trans rfl
theorem f76_111 : zi_fe 76 111 = some ((.goto (-29)), 3, 0, 0, 0, 0, 0) := (zl76_5 (Nat.le_of_ble_eq_true rfl)).trans rfl
theorem f76_114 : zi_fe 76 114 = some (.return_, 1, 0, 0, 0, 0, 0) := (zl76_5 (Nat.le_of_ble_eq_true rfl)).trans rfl
theorem b76_0 {h : zi_Hp} {a0 : Nat} {a1 : Nat} {u2 : Value} (g0 : a0 < zh_n h) (g1 : (zh_k h a0).1 = 6) (g2 : zh_r h a0 0 = .ref (zq (zh_r h a0 0))) (g3 : (zq (zh_r h a0 0)) < zh_n h) (g4 : (zh_k h (zq (zh_r h a0 0))).1 = 4) : zv 7 76 0 [.ref a0, .ref a1, u2] [] h = (zv 2 37 0 [.ref (zq (zh_r h a0 0))] [] h).bind fun r => zv 7 76 7 [.ref a0, .ref a1, u2] (r.1.toList ++ []) r.2 := by
  refine Eq.trans (zv_next f76_0 rfl) ?_
  refine Eq.trans (zs_getr f76_1 g0 g1 g2) ?_
  exact zs_callV f76_4 (Nat.le_of_ble_eq_true rfl) (Nat.le_of_ble_eq_true rfl) rfl g3 g4 me_37 (by decide) rfl
theorem b76_7 {h : zi_Hp} {a0 : Nat} {a1 : Nat} {u2 : Value}  : zv 7 76 7 [.ref a0, .ref a1, u2] [] h = zv 7 76 9 [.ref a0, .ref a1, .int 0] [] h := by
  refine Eq.trans (zs_ic f76_7 ic_0) ?_
  refine Eq.trans (zv_next f76_8 rfl) ?_
  rfl
theorem b76_9 {h : zi_Hp} {a0 : Nat} {a1 : Nat} {x2 : Int32}  : zv 7 76 9 [.ref a0, .ref a1, .int x2] [] h = if x2 < 3 then zv 7 76 14 [.ref a0, .ref a1, .int x2] [] h else zv 7 76 30 [.ref a0, .ref a1, .int x2] [] h := by
  refine Eq.trans (zv_next f76_9 rfl) ?_
  refine Eq.trans (zs_ic f76_10 ic_3) ?_
  exact zs_icmp f76_11 rfl
theorem b76_14 {h : zi_Hp} {a0 : Nat} {a1 : Nat} {x2 : Int32} (g0 : a0 < zh_n h) (g1 : (zh_k h a0).1 = 6) (g2 : zh_r h a0 1 = .ref (zq (zh_r h a0 1))) (g3 : (zq (zh_r h a0 1)) < zh_n h) (g4 : ¬ (x2 < 0 ∨ (zh_k h (zq (zh_r h a0 1))).2 ≤ x2.toNatClampNeg)) (g5 : (zh_k h (zq (zh_r h a0 1))).1 = 103 ∨ (zh_k h (zq (zh_r h a0 1))).1 = 104 ∨ (zh_k h (zq (zh_r h a0 1))).1 = 105) (g6 : zh_r h (zq (zh_r h a0 1)) x2.toNatClampNeg = .ref (zq (zh_r h (zq (zh_r h a0 1)) x2.toNatClampNeg))) (g7 : (zq (zh_r h (zq (zh_r h a0 1)) x2.toNatClampNeg)) < zh_n h) (g8 : (zh_k h (zq (zh_r h (zq (zh_r h a0 1)) x2.toNatClampNeg))).1 = 0) : zv 7 76 14 [.ref a0, .ref a1, .int x2] [] h = zv 7 76 9 [.ref a0, .ref a1, .int (x2 + 1)] [] (zh_wi h (zq (zh_r h (zq (zh_r h a0 1)) x2.toNatClampNeg)) 0 0) := by
  refine Eq.trans (zv_next f76_14 rfl) ?_
  refine Eq.trans (zs_getr f76_15 g0 g1 g2) ?_
  refine Eq.trans (zv_next f76_18 rfl) ?_
  refine Eq.trans (zs_aald f76_19 g3 g5 g4 g6) ?_
  refine Eq.trans (zs_ic f76_20 ic_0) ?_
  refine Eq.trans (zs_put f76_21 g7 g8 rfl) ?_
  refine Eq.trans (zs_inc f76_24 rfl ic_1 rfl) ?_
  refine Eq.trans (zs_goto (tgt := 9) f76_27 rfl) ?_
  rfl
theorem b76_30 {h : zi_Hp} {a0 : Nat} {a1 : Nat} {x2 : Int32} (g0 : a0 < zh_n h) (g1 : (zh_k h a0).1 = 6) (g2 : zh_r h a0 0 = .ref (zq (zh_r h a0 0))) (g3 : a1 < zh_n h) (g4 : (zh_k h a1).1 = 1) (g5 : (zq (zh_r h a0 0)) < zh_n h) (g6 : (zh_k h (zq (zh_r h a0 0))).1 = 4) : zv 7 76 30 [.ref a0, .ref a1, .int x2] [] h = zv 7 76 43 [.ref a0, .ref a1, .int 0] [] (zh_wi h (zq (zh_r h a0 0)) 2 (zh_i h a1 1)) := by
  refine Eq.trans (zv_next f76_30 rfl) ?_
  refine Eq.trans (zs_getr f76_31 g0 g1 g2) ?_
  refine Eq.trans (zv_next f76_34 rfl) ?_
  refine Eq.trans (zs_geti f76_35 g3 g4) ?_
  refine Eq.trans (zs_put f76_38 g5 g6 rfl) ?_
  refine Eq.trans (zs_ic f76_41 ic_0) ?_
  refine Eq.trans (zv_next f76_42 rfl) ?_
  rfl
theorem b76_43 {h : zi_Hp} {a0 : Nat} {a1 : Nat} {x2 : Int32} (g0 : a1 < zh_n h) (g1 : (zh_k h a1).1 = 1) : zv 7 76 43 [.ref a0, .ref a1, .int x2] [] h = if x2 < (zh_i h a1 2) then zv 7 76 51 [.ref a0, .ref a1, .int x2] [] h else zv 7 76 80 [.ref a0, .ref a1, .int x2] [] h := by
  refine Eq.trans (zv_next f76_43 rfl) ?_
  refine Eq.trans (zv_next f76_44 rfl) ?_
  refine Eq.trans (zs_geti f76_45 g0 g1) ?_
  exact zs_icmp f76_48 rfl
theorem b76_51 {h : zi_Hp} {a0 : Nat} {a1 : Nat} {x2 : Int32}  : zv 7 76 51 [.ref a0, .ref a1, .int x2] [] h = if x2 < 40 then zv 7 76 57 [.ref a0, .ref a1, .int x2] [] h else zv 7 76 80 [.ref a0, .ref a1, .int x2] [] h := by
  refine Eq.trans (zv_next f76_51 rfl) ?_
  refine Eq.trans (zs_bp f76_52 bp_40) ?_
  exact zs_icmp f76_54 rfl
theorem b76_57 {h : zi_Hp} {a0 : Nat} {a1 : Nat} {x2 : Int32} (g0 : a1 < zh_n h) (g1 : (zh_k h a1).1 = 1) (g2 : zh_r h a1 5 = .ref (zq (zh_r h a1 5))) (g3 : (zq (zh_r h a1 5)) < zh_n h) (g4 : ¬ (x2 < 0 ∨ (zh_k h (zq (zh_r h a1 5))).2 ≤ x2.toNatClampNeg)) (g5 : (zh_k h (zq (zh_r h a1 5))).1 = 100) (g6 : zh_r h a1 6 = .ref (zq (zh_r h a1 6))) (g7 : (zq (zh_r h a1 6)) < zh_n h) (g8 : ¬ (x2 < 0 ∨ (zh_k h (zq (zh_r h a1 6))).2 ≤ x2.toNatClampNeg)) (g9 : (zh_k h (zq (zh_r h a1 6))).1 = 100) (g10 : a0 < zh_n h) (g11 : (zh_k h a0).1 = 6) : zv 7 76 57 [.ref a0, .ref a1, .int x2] [] h = (zv 6 78 0 [.ref a0, .int (zh_i h (zq (zh_r h a1 5)) x2.toNatClampNeg), .int (zh_i h (zq (zh_r h a1 6)) x2.toNatClampNeg), .double 0, .double 0] [] h).bind fun r => zv 7 76 73 [.ref a0, .ref a1, .int x2] (r.1.toList ++ []) r.2 := by
  refine Eq.trans (zv_next f76_57 rfl) ?_
  refine Eq.trans (zv_next f76_58 rfl) ?_
  refine Eq.trans (zs_getr f76_59 g0 g1 g2) ?_
  refine Eq.trans (zv_next f76_62 rfl) ?_
  refine Eq.trans (zs_iald f76_63 g3 g5 g4) ?_
  refine Eq.trans (zv_next f76_64 rfl) ?_
  refine Eq.trans (zs_getr f76_65 g0 g1 g6) ?_
  refine Eq.trans (zv_next f76_68 rfl) ?_
  refine Eq.trans (zs_iald f76_69 g7 g9 g8) ?_
  exact zs_callV f76_70 (Nat.le_of_ble_eq_true rfl) (Nat.le_of_ble_eq_true rfl) rfl g10 g11 me_78 (by decide) rfl
theorem b76_73 {h : zi_Hp} {a0 : Nat} {a1 : Nat} {x2 : Int32} {s0 : Int32}  : zv 7 76 73 [.ref a0, .ref a1, .int x2] [.int s0] h = zv 7 76 43 [.ref a0, .ref a1, .int (x2 + 1)] [] h := by
  refine Eq.trans (zv_next f76_73 rfl) ?_
  refine Eq.trans (zs_inc f76_74 rfl ic_1 rfl) ?_
  refine Eq.trans (zs_goto (tgt := 43) f76_77 rfl) ?_
  rfl
theorem b76_80 {h : zi_Hp} {a0 : Nat} {a1 : Nat} {x2 : Int32}  : zv 7 76 80 [.ref a0, .ref a1, .int x2] [] h = zv 7 76 82 [.ref a0, .ref a1, .int 0] [] h := by
  refine Eq.trans (zs_ic f76_80 ic_0) ?_
  refine Eq.trans (zv_next f76_81 rfl) ?_
  rfl
theorem b76_82 {h : zi_Hp} {a0 : Nat} {a1 : Nat} {x2 : Int32}  : zv 7 76 82 [.ref a0, .ref a1, .int x2] [] h = if x2 < 3 then zv 7 76 87 [.ref a0, .ref a1, .int x2] [] h else zv 7 76 114 [.ref a0, .ref a1, .int x2] [] h := by
  refine Eq.trans (zv_next f76_82 rfl) ?_
  refine Eq.trans (zs_ic f76_83 ic_3) ?_
  exact zs_icmp f76_84 rfl
theorem b76_87 {h : zi_Hp} {a0 : Nat} {a1 : Nat} {x2 : Int32} (g0 : a1 < zh_n h) (g1 : (zh_k h a1).1 = 1) (g2 : zh_r h a1 7 = .ref (zq (zh_r h a1 7))) (g3 : (zq (zh_r h a1 7)) < zh_n h) (g4 : ¬ (x2 < 0 ∨ (zh_k h (zq (zh_r h a1 7))).2 ≤ x2.toNatClampNeg)) (g5 : (zh_k h (zq (zh_r h a1 7))).1 = 100) : zv 7 76 87 [.ref a0, .ref a1, .int x2] [] h = if (zh_i h (zq (zh_r h a1 7)) x2.toNatClampNeg) < 0 then zv 7 76 108 [.ref a0, .ref a1, .int x2] [] h else zv 7 76 96 [.ref a0, .ref a1, .int x2] [] h := by
  refine Eq.trans (zv_next f76_87 rfl) ?_
  refine Eq.trans (zs_getr f76_88 g0 g1 g2) ?_
  refine Eq.trans (zv_next f76_91 rfl) ?_
  refine Eq.trans (zs_iald f76_92 g3 g5 g4) ?_
  exact zs_if f76_93 rfl
theorem b76_96 {h : zi_Hp} {a0 : Nat} {a1 : Nat} {x2 : Int32} (g0 : a1 < zh_n h) (g1 : (zh_k h a1).1 = 1) (g2 : zh_r h a1 7 = .ref (zq (zh_r h a1 7))) (g3 : (zq (zh_r h a1 7)) < zh_n h) (g4 : ¬ (x2 < 0 ∨ (zh_k h (zq (zh_r h a1 7))).2 ≤ x2.toNatClampNeg)) (g5 : (zh_k h (zq (zh_r h a1 7))).1 = 100) (g6 : a0 < zh_n h) (g7 : (zh_k h a0).1 = 6) : zv 7 76 96 [.ref a0, .ref a1, .int x2] [] h = (zv 4 77 0 [.ref a0, .int x2, .int 0, .int (zh_i h (zq (zh_r h a1 7)) x2.toNatClampNeg), .double 0] [] h).bind fun r => zv 7 76 108 [.ref a0, .ref a1, .int x2] (r.1.toList ++ []) r.2 := by
  refine Eq.trans (zv_next f76_96 rfl) ?_
  refine Eq.trans (zv_next f76_97 rfl) ?_
  refine Eq.trans (zs_ic f76_98 ic_0) ?_
  refine Eq.trans (zv_next f76_99 rfl) ?_
  refine Eq.trans (zs_getr f76_100 g0 g1 g2) ?_
  refine Eq.trans (zv_next f76_103 rfl) ?_
  refine Eq.trans (zs_iald f76_104 g3 g5 g4) ?_
  exact zs_callV f76_105 (Nat.le_of_ble_eq_true rfl) (Nat.le_of_ble_eq_true rfl) rfl g6 g7 me_77 (by decide) rfl
theorem b76_108 {h : zi_Hp} {a0 : Nat} {a1 : Nat} {x2 : Int32}  : zv 7 76 108 [.ref a0, .ref a1, .int x2] [] h = zv 7 76 82 [.ref a0, .ref a1, .int (x2 + 1)] [] h := by
  refine Eq.trans (zs_inc f76_108 rfl ic_1 rfl) ?_
  refine Eq.trans (zs_goto (tgt := 82) f76_111 rfl) ?_
  rfl
theorem b76_114 {h : zi_Hp} {a0 : Nat} {a1 : Nat} {x2 : Int32}  : zv 7 76 114 [.ref a0, .ref a1, .int x2] [] h = some (none, h) := by
  exact zv_ret f76_114 rfl
