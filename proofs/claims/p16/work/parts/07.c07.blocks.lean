set_option maxRecDepth 20000 in
theorem zq237 : zi_M[237]? = some zi_m237 := rfl
theorem zl237_0 {pc : Nat} (_ : 0 ≤ pc) : zi_fe 237 pc = zu237_0.lookup pc := zi_feA zq237 pc
theorem f237_0 : zi_fe 237 0 = some ((.iload_n 1), 1, 0, 0, 0, 0, 0) := (zl237_0 (Nat.le_of_ble_eq_true rfl)).trans rfl
theorem f237_1 : zi_fe 237 1 = some ((.iload_n 2), 1, 0, 0, 0, 0, 0) := (zl237_0 (Nat.le_of_ble_eq_true rfl)).trans rfl
theorem f237_2 : zi_fe 237 2 = some ((.invokestatic 384), 3, 234, 1, 8, 1553, 2) := (zl237_0 (Nat.le_of_ble_eq_true rfl)).trans rfl
theorem f237_5 : zi_fe 237 5 = some ((.ifCond .eq 16), 3, 0, 0, 0, 0, 0) := (zl237_0 (Nat.le_of_ble_eq_true rfl)).trans rfl
theorem f237_8 : zi_fe 237 8 = some ((.iload 4), 2, 0, 0, 0, 0, 0) := (zl237_0 (Nat.le_of_ble_eq_true rfl)).trans rfl
theorem f237_10 : zi_fe 237 10 = some (.i2l, 1, 0, 0, 0, 0, 0) := (zl237_0 (Nat.le_of_ble_eq_true rfl)).trans rfl
theorem f237_11 : zi_fe 237 11 = some ((.lconst 0), 1, 0, 0, 0, 0, 0) := (zl237_0 (Nat.le_of_ble_eq_true rfl)).trans rfl
theorem f237_12 : zi_fe 237 12 = some ((.ldc2_w 387), 3, 0, 0, 0, 1565, 40) := (zl237_0 (Nat.le_of_ble_eq_true rfl)).trans rfl
theorem f237_15 : zi_fe 237 15 = some ((.invokestatic 196), 3, 142, 1, 8, 1189, 3) := (zl237_0 (Nat.le_of_ble_eq_true rfl)).trans rfl
theorem f237_18 : zi_fe 237 18 = some ((.ifCond .ne 5), 3, 0, 0, 0, 0, 0) := (zl237_0 (Nat.le_of_ble_eq_true rfl)).trans rfl
theorem f237_21 : zi_fe 237 21 = some ((.iconst (-1)), 1, 0, 0, 0, 0, 0) := (zl237_0 (Nat.le_of_ble_eq_true rfl)).trans rfl
theorem f237_22 : zi_fe 237 22 = some (.ireturn, 1, 0, 0, 0, 0, 0) := (zl237_0 (Nat.le_of_ble_eq_true rfl)).trans rfl
theorem zl237_1 {pc : Nat} (h : 23 ≤ pc) : zi_fe 237 pc = zu237_1.lookup pc := (zl237_0 (Nat.le_trans (Nat.le_of_ble_eq_true rfl) h)).trans (zi_lkA (a := zi_i237_0) (c := 23) rfl h)
theorem f237_23 : zi_fe 237 23 = some ((.aload_n 0), 1, 0, 0, 0, 0, 0) := (zl237_1 (Nat.le_of_ble_eq_true rfl)).trans rfl
theorem f237_24 : zi_fe 237 24 = some ((.iconst 0), 1, 0, 0, 0, 0, 0) := (zl237_1 (Nat.le_of_ble_eq_true rfl)).trans rfl
theorem f237_25 : zi_fe 237 25 = some ((.iconst 0), 1, 0, 0, 0, 0, 0) := (zl237_1 (Nat.le_of_ble_eq_true rfl)).trans rfl
theorem f237_26 : zi_fe 237 26 = some ((.invokevirtual 83), 3, 146, 0, 8, 1276, 3) := (zl237_1 (Nat.le_of_ble_eq_true rfl)).trans rfl
theorem f237_29 : zi_fe 237 29 = some ((.ifCond .ne 10), 3, 0, 0, 0, 0, 0) := (zl237_1 (Nat.le_of_ble_eq_true rfl)).trans rfl
theorem f237_32 : zi_fe 237 32 = some ((.aload_n 0), 1, 0, 0, 0, 0, 0) := (zl237_1 (Nat.le_of_ble_eq_true rfl)).trans rfl
theorem f237_33 : zi_fe 237 33 = some ((.invokevirtual 283), 3, 198, 0, 8, 1391, 1) := (zl237_1 (Nat.le_of_ble_eq_true rfl)).trans rfl
theorem f237_36 : zi_fe 237 36 = some ((.ifCond .le 6), 3, 0, 0, 0, 0, 0) := (zl237_1 (Nat.le_of_ble_eq_true rfl)).trans rfl
theorem f237_39 : zi_fe 237 39 = some ((.bipush (-2)), 2, 0, 0, 0, 0, 0) := (zl237_1 (Nat.le_of_ble_eq_true rfl)).trans rfl
theorem f237_41 : zi_fe 237 41 = some (.ireturn, 1, 0, 0, 0, 0, 0) := (zl237_1 (Nat.le_of_ble_eq_true rfl)).trans rfl
theorem f237_42 : zi_fe 237 42 = some ((.aload_n 0), 1, 0, 0, 0, 0, 0) := (zl237_1 (Nat.le_of_ble_eq_true rfl)).trans rfl
theorem f237_43 : zi_fe 237 43 = some ((.iconst 0), 1, 0, 0, 0, 0, 0) := (zl237_1 (Nat.le_of_ble_eq_true rfl)).trans rfl
theorem zl237_2 {pc : Nat} (h : 44 ≤ pc) : zi_fe 237 pc = zu237_2.lookup pc := (zl237_1 (Nat.le_trans (Nat.le_of_ble_eq_true rfl) h)).trans (zi_lkA (a := zi_i237_1) (c := 44) rfl h)
theorem f237_44 : zi_fe 237 44 = some ((.invokevirtual 329), 3, 211, 0, 8, 1475, 2) := (zl237_2 (Nat.le_of_ble_eq_true rfl)).trans rfl
theorem f237_47 : zi_fe 237 47 = some ((.iconst 0), 1, 0, 0, 0, 0, 0) := (zl237_2 (Nat.le_of_ble_eq_true rfl)).trans rfl
theorem f237_48 : zi_fe 237 48 = some ((.istore 5), 2, 0, 0, 0, 0, 0) := (zl237_2 (Nat.le_of_ble_eq_true rfl)).trans rfl
theorem f237_50 : zi_fe 237 50 = some ((.iconst 0), 1, 0, 0, 0, 0, 0) := (zl237_2 (Nat.le_of_ble_eq_true rfl)).trans rfl
theorem f237_51 : zi_fe 237 51 = some ((.istore 6), 2, 0, 0, 0, 0, 0) := (zl237_2 (Nat.le_of_ble_eq_true rfl)).trans rfl
theorem f237_53 : zi_fe 237 53 = some ((.iconst 0), 1, 0, 0, 0, 0, 0) := (zl237_2 (Nat.le_of_ble_eq_true rfl)).trans rfl
theorem f237_54 : zi_fe 237 54 = some ((.istore 7), 2, 0, 0, 0, 0, 0) := (zl237_2 (Nat.le_of_ble_eq_true rfl)).trans rfl
theorem f237_56 : zi_fe 237 56 = some ((.iload 7), 2, 0, 0, 0, 0, 0) := (zl237_2 (Nat.le_of_ble_eq_true rfl)).trans rfl
theorem f237_58 : zi_fe 237 58 = some ((.iload 4), 2, 0, 0, 0, 0, 0) := (zl237_2 (Nat.le_of_ble_eq_true rfl)).trans rfl
theorem f237_60 : zi_fe 237 60 = some ((.if_icmp .ge 138), 3, 0, 0, 0, 0, 0) := (zl237_2 (Nat.le_of_ble_eq_true rfl)).trans rfl
theorem f237_63 : zi_fe 237 63 = some ((.iload 5), 2, 0, 0, 0, 0, 0) := (zl237_2 (Nat.le_of_ble_eq_true rfl)).trans rfl
theorem f237_65 : zi_fe 237 65 = some ((.ifCond .ne 133), 3, 0, 0, 0, 0, 0) := (zl237_2 (Nat.le_of_ble_eq_true rfl)).trans rfl
theorem zl237_3 {pc : Nat} (h : 68 ≤ pc) : zi_fe 237 pc = zu237_3.lookup pc := (zl237_2 (Nat.le_trans (Nat.le_of_ble_eq_true rfl) h)).trans (zi_lkA (a := zi_i237_2) (c := 68) rfl h)
theorem f237_68 : zi_fe 237 68 = some ((.iload_n 3), 1, 0, 0, 0, 0, 0) := (zl237_3 (Nat.le_of_ble_eq_true rfl)).trans rfl
theorem f237_69 : zi_fe 237 69 = some (.i2l, 1, 0, 0, 0, 0, 0) := (zl237_3 (Nat.le_of_ble_eq_true rfl)).trans rfl
theorem f237_70 : zi_fe 237 70 = some ((.iload 7), 2, 0, 0, 0, 0, 0) := (zl237_3 (Nat.le_of_ble_eq_true rfl)).trans rfl
theorem f237_72 : zi_fe 237 72 = some (.i2l, 1, 0, 0, 0, 0, 0) := (zl237_3 (Nat.le_of_ble_eq_true rfl)).trans rfl
theorem f237_73 : zi_fe 237 73 = some (.ladd, 1, 0, 0, 0, 0, 0) := (zl237_3 (Nat.le_of_ble_eq_true rfl)).trans rfl
theorem f237_74 : zi_fe 237 74 = some ((.lstore 8), 2, 0, 0, 0, 0, 0) := (zl237_3 (Nat.le_of_ble_eq_true rfl)).trans rfl
theorem f237_76 : zi_fe 237 76 = some ((.aload_n 0), 1, 0, 0, 0, 0, 0) := (zl237_3 (Nat.le_of_ble_eq_true rfl)).trans rfl
theorem f237_77 : zi_fe 237 77 = some ((.getfield 66), 3, 8, 35, 3, 1100, 0) := (zl237_3 (Nat.le_of_ble_eq_true rfl)).trans rfl
theorem f237_80 : zi_fe 237 80 = some ((.iload_n 1), 1, 0, 0, 0, 0, 0) := (zl237_3 (Nat.le_of_ble_eq_true rfl)).trans rfl
theorem f237_81 : zi_fe 237 81 = some (.iaload, 1, 0, 0, 0, 0, 0) := (zl237_3 (Nat.le_of_ble_eq_true rfl)).trans rfl
theorem f237_82 : zi_fe 237 82 = some ((.bipush (-4)), 2, 0, 0, 0, 0, 0) := (zl237_3 (Nat.le_of_ble_eq_true rfl)).trans rfl
theorem f237_84 : zi_fe 237 84 = some ((.if_icmp .ne 7), 3, 0, 0, 0, 0, 0) := (zl237_3 (Nat.le_of_ble_eq_true rfl)).trans rfl
theorem zl237_4 {pc : Nat} (h : 87 ≤ pc) : zi_fe 237 pc = zu237_4.lookup pc := (zl237_3 (Nat.le_trans (Nat.le_of_ble_eq_true rfl) h)).trans (zi_lkA (a := zi_i237_3) (c := 87) rfl h)
theorem f237_87 : zi_fe 237 87 = some ((.iconst 1), 1, 0, 0, 0, 0, 0) := (zl237_4 (Nat.le_of_ble_eq_true rfl)).trans rfl
theorem f237_88 : zi_fe 237 88 = some ((.goto 42), 3, 0, 0, 0, 0, 0) := (zl237_4 (Nat.le_of_ble_eq_true rfl)).trans rfl
theorem f237_91 : zi_fe 237 91 = some ((.aload_n 0), 1, 0, 0, 0, 0, 0) := (zl237_4 (Nat.le_of_ble_eq_true rfl)).trans rfl
theorem f237_92 : zi_fe 237 92 = some ((.getfield 66), 3, 8, 35, 3, 1100, 0) := (zl237_4 (Nat.le_of_ble_eq_true rfl)).trans rfl
theorem f237_95 : zi_fe 237 95 = some ((.iload_n 1), 1, 0, 0, 0, 0, 0) := (zl237_4 (Nat.le_of_ble_eq_true rfl)).trans rfl
theorem f237_96 : zi_fe 237 96 = some (.iaload, 1, 0, 0, 0, 0, 0) := (zl237_4 (Nat.le_of_ble_eq_true rfl)).trans rfl
theorem f237_97 : zi_fe 237 97 = some ((.iload_n 2), 1, 0, 0, 0, 0, 0) := (zl237_4 (Nat.le_of_ble_eq_true rfl)).trans rfl
theorem f237_98 : zi_fe 237 98 = some ((.if_icmp .eq 7), 3, 0, 0, 0, 0, 0) := (zl237_4 (Nat.le_of_ble_eq_true rfl)).trans rfl
theorem f237_101 : zi_fe 237 101 = some ((.iconst 3), 1, 0, 0, 0, 0, 0) := (zl237_4 (Nat.le_of_ble_eq_true rfl)).trans rfl
theorem f237_102 : zi_fe 237 102 = some ((.goto 28), 3, 0, 0, 0, 0, 0) := (zl237_4 (Nat.le_of_ble_eq_true rfl)).trans rfl
theorem f237_105 : zi_fe 237 105 = some ((.lload 8), 2, 0, 0, 0, 0, 0) := (zl237_4 (Nat.le_of_ble_eq_true rfl)).trans rfl
theorem f237_107 : zi_fe 237 107 = some ((.lconst 0), 1, 0, 0, 0, 0, 0) := (zl237_4 (Nat.le_of_ble_eq_true rfl)).trans rfl
theorem zl237_5 {pc : Nat} (h : 108 ≤ pc) : zi_fe 237 pc = zu237_5.lookup pc := (zl237_4 (Nat.le_trans (Nat.le_of_ble_eq_true rfl) h)).trans (zi_lkA (a := zi_i237_4) (c := 108) rfl h)
theorem f237_108 : zi_fe 237 108 = some (.lcmp, 1, 0, 0, 0, 0, 0) := (zl237_5 (Nat.le_of_ble_eq_true rfl)).trans rfl
theorem f237_109 : zi_fe 237 109 = some ((.ifCond .lt 16), 3, 0, 0, 0, 0, 0) := (zl237_5 (Nat.le_of_ble_eq_true rfl)).trans rfl
theorem f237_112 : zi_fe 237 112 = some ((.lload 8), 2, 0, 0, 0, 0, 0) := (zl237_5 (Nat.le_of_ble_eq_true rfl)).trans rfl
theorem f237_114 : zi_fe 237 114 = some ((.aload_n 0), 1, 0, 0, 0, 0, 0) := (zl237_5 (Nat.le_of_ble_eq_true rfl)).trans rfl
theorem f237_115 : zi_fe 237 115 = some ((.getfield 69), 3, 8, 36, 3, 1101, 0) := (zl237_5 (Nat.le_of_ble_eq_true rfl)).trans rfl
theorem f237_118 : zi_fe 237 118 = some ((.iload_n 1), 1, 0, 0, 0, 0, 0) := (zl237_5 (Nat.le_of_ble_eq_true rfl)).trans rfl
theorem f237_119 : zi_fe 237 119 = some (.iaload, 1, 0, 0, 0, 0, 0) := (zl237_5 (Nat.le_of_ble_eq_true rfl)).trans rfl
theorem f237_120 : zi_fe 237 120 = some (.i2l, 1, 0, 0, 0, 0, 0) := (zl237_5 (Nat.le_of_ble_eq_true rfl)).trans rfl
theorem f237_121 : zi_fe 237 121 = some (.lcmp, 1, 0, 0, 0, 0, 0) := (zl237_5 (Nat.le_of_ble_eq_true rfl)).trans rfl
theorem f237_122 : zi_fe 237 122 = some ((.ifCond .lt 7), 3, 0, 0, 0, 0, 0) := (zl237_5 (Nat.le_of_ble_eq_true rfl)).trans rfl
theorem f237_125 : zi_fe 237 125 = some ((.iconst 2), 1, 0, 0, 0, 0, 0) := (zl237_5 (Nat.le_of_ble_eq_true rfl)).trans rfl
theorem f237_126 : zi_fe 237 126 = some ((.goto 4), 3, 0, 0, 0, 0, 0) := (zl237_5 (Nat.le_of_ble_eq_true rfl)).trans rfl
theorem zl237_6 {pc : Nat} (h : 129 ≤ pc) : zi_fe 237 pc = zu237_6.lookup pc := (zl237_5 (Nat.le_trans (Nat.le_of_ble_eq_true rfl) h)).trans (zi_lkA (a := zi_i237_5) (c := 129) rfl h)
theorem f237_129 : zi_fe 237 129 = some ((.iconst 0), 1, 0, 0, 0, 0, 0) := (zl237_6 (Nat.le_of_ble_eq_true rfl)).trans rfl
theorem f237_130 : zi_fe 237 130 = some ((.istore 5), 2, 0, 0, 0, 0, 0) := (zl237_6 (Nat.le_of_ble_eq_true rfl)).trans rfl
theorem f237_132 : zi_fe 237 132 = some ((.iload 5), 2, 0, 0, 0, 0, 0) := (zl237_6 (Nat.le_of_ble_eq_true rfl)).trans rfl
theorem f237_134 : zi_fe 237 134 = some ((.ifCond .ne 58), 3, 0, 0, 0, 0, 0) := (zl237_6 (Nat.le_of_ble_eq_true rfl)).trans rfl
theorem f237_137 : zi_fe 237 137 = some ((.aload_n 0), 1, 0, 0, 0, 0, 0) := (zl237_6 (Nat.le_of_ble_eq_true rfl)).trans rfl
theorem f237_138 : zi_fe 237 138 = some ((.getfield 72), 3, 8, 37, 3, 1102, 0) := (zl237_6 (Nat.le_of_ble_eq_true rfl)).trans rfl
theorem f237_141 : zi_fe 237 141 = some ((.bipush 40), 2, 0, 0, 0, 0, 0) := (zl237_6 (Nat.le_of_ble_eq_true rfl)).trans rfl
theorem f237_143 : zi_fe 237 143 = some ((.iload_n 1), 1, 0, 0, 0, 0, 0) := (zl237_6 (Nat.le_of_ble_eq_true rfl)).trans rfl
theorem f237_144 : zi_fe 237 144 = some (.imul, 1, 0, 0, 0, 0, 0) := (zl237_6 (Nat.le_of_ble_eq_true rfl)).trans rfl
theorem f237_145 : zi_fe 237 145 = some ((.iload_n 3), 1, 0, 0, 0, 0, 0) := (zl237_6 (Nat.le_of_ble_eq_true rfl)).trans rfl
theorem f237_146 : zi_fe 237 146 = some (.iadd, 1, 0, 0, 0, 0, 0) := (zl237_6 (Nat.le_of_ble_eq_true rfl)).trans rfl
theorem f237_147 : zi_fe 237 147 = some ((.iload 7), 2, 0, 0, 0, 0, 0) := (zl237_6 (Nat.le_of_ble_eq_true rfl)).trans rfl
theorem zl237_7 {pc : Nat} (h : 149 ≤ pc) : zi_fe 237 pc = zu237_7.lookup pc := (zl237_6 (Nat.le_trans (Nat.le_of_ble_eq_true rfl) h)).trans (zi_lkA (a := zi_i237_6) (c := 149) rfl h)
theorem f237_149 : zi_fe 237 149 = some (.iadd, 1, 0, 0, 0, 0, 0) := (zl237_7 (Nat.le_of_ble_eq_true rfl)).trans rfl
theorem f237_150 : zi_fe 237 150 = some (.iaload, 1, 0, 0, 0, 0, 0) := (zl237_7 (Nat.le_of_ble_eq_true rfl)).trans rfl
theorem f237_151 : zi_fe 237 151 = some ((.istore 10), 2, 0, 0, 0, 0, 0) := (zl237_7 (Nat.le_of_ble_eq_true rfl)).trans rfl
theorem f237_153 : zi_fe 237 153 = some ((.iload 10), 2, 0, 0, 0, 0, 0) := (zl237_7 (Nat.le_of_ble_eq_true rfl)).trans rfl
theorem f237_155 : zi_fe 237 155 = some (.i2l, 1, 0, 0, 0, 0, 0) := (zl237_7 (Nat.le_of_ble_eq_true rfl)).trans rfl
theorem f237_156 : zi_fe 237 156 = some ((.lconst 0), 1, 0, 0, 0, 0, 0) := (zl237_7 (Nat.le_of_ble_eq_true rfl)).trans rfl
theorem f237_157 : zi_fe 237 157 = some ((.ldc2_w 305), 3, 0, 0, 0, 1431, 99) := (zl237_7 (Nat.le_of_ble_eq_true rfl)).trans rfl
theorem f237_160 : zi_fe 237 160 = some ((.invokestatic 196), 3, 142, 1, 8, 1189, 3) := (zl237_7 (Nat.le_of_ble_eq_true rfl)).trans rfl
theorem f237_163 : zi_fe 237 163 = some ((.ifCond .eq 15), 3, 0, 0, 0, 0, 0) := (zl237_7 (Nat.le_of_ble_eq_true rfl)).trans rfl
theorem f237_166 : zi_fe 237 166 = some ((.aload_n 0), 1, 0, 0, 0, 0, 0) := (zl237_7 (Nat.le_of_ble_eq_true rfl)).trans rfl
theorem f237_167 : zi_fe 237 167 = some ((.iconst 1), 1, 0, 0, 0, 0, 0) := (zl237_7 (Nat.le_of_ble_eq_true rfl)).trans rfl
theorem f237_168 : zi_fe 237 168 = some ((.iload 10), 2, 0, 0, 0, 0, 0) := (zl237_7 (Nat.le_of_ble_eq_true rfl)).trans rfl
theorem zl237_8 {pc : Nat} (h : 170 ≤ pc) : zi_fe 237 pc = zu237_8.lookup pc := (zl237_7 (Nat.le_trans (Nat.le_of_ble_eq_true rfl) h)).trans (zi_lkA (a := zi_i237_7) (c := 170) rfl h)
theorem f237_170 : zi_fe 237 170 = some ((.invokevirtual 277), 3, 179, 0, 8, 1245, 3) := (zl237_8 (Nat.le_of_ble_eq_true rfl)).trans rfl
theorem f237_173 : zi_fe 237 173 = some ((.bipush (-3)), 2, 0, 0, 0, 0, 0) := (zl237_8 (Nat.le_of_ble_eq_true rfl)).trans rfl
theorem f237_175 : zi_fe 237 175 = some ((.if_icmp .ne 14), 3, 0, 0, 0, 0, 0) := (zl237_8 (Nat.le_of_ble_eq_true rfl)).trans rfl
theorem f237_178 : zi_fe 237 178 = some ((.aload_n 0), 1, 0, 0, 0, 0, 0) := (zl237_8 (Nat.le_of_ble_eq_true rfl)).trans rfl
theorem f237_179 : zi_fe 237 179 = some ((.iconst 0), 1, 0, 0, 0, 0, 0) := (zl237_8 (Nat.le_of_ble_eq_true rfl)).trans rfl
theorem f237_180 : zi_fe 237 180 = some ((.invokevirtual 343), 3, 212, 0, 8, 1483, 2) := (zl237_8 (Nat.le_of_ble_eq_true rfl)).trans rfl
theorem f237_183 : zi_fe 237 183 = some ((.bipush (-20)), 2, 0, 0, 0, 0, 0) := (zl237_8 (Nat.le_of_ble_eq_true rfl)).trans rfl
theorem f237_185 : zi_fe 237 185 = some ((.iload 7), 2, 0, 0, 0, 0, 0) := (zl237_8 (Nat.le_of_ble_eq_true rfl)).trans rfl
theorem f237_187 : zi_fe 237 187 = some (.isub, 1, 0, 0, 0, 0, 0) := (zl237_8 (Nat.le_of_ble_eq_true rfl)).trans rfl
theorem f237_188 : zi_fe 237 188 = some (.ireturn, 1, 0, 0, 0, 0, 0) := (zl237_8 (Nat.le_of_ble_eq_true rfl)).trans rfl
theorem f237_189 : zi_fe 237 189 = some ((.iinc 6 1), 3, 0, 0, 0, 0, 0) := (zl237_8 (Nat.le_of_ble_eq_true rfl)).trans rfl
theorem f237_192 : zi_fe 237 192 = some ((.iinc 7 1), 3, 0, 0, 0, 0, 0) := (zl237_8 (Nat.le_of_ble_eq_true rfl)).trans rfl
theorem zl237_9 {pc : Nat} (h : 195 ≤ pc) : zi_fe 237 pc = zu237_9.lookup pc := (zl237_8 (Nat.le_trans (Nat.le_of_ble_eq_true rfl) h)).trans (zi_lkA (a := zi_i237_8) (c := 195) rfl h)
theorem f237_195 : zi_fe 237 195 = some ((.goto (-139)), 3, 0, 0, 0, 0, 0) := (zl237_9 (Nat.le_of_ble_eq_true rfl)).trans rfl
theorem f237_198 : zi_fe 237 198 = some ((.aload_n 0), 1, 0, 0, 0, 0, 0) := (zl237_9 (Nat.le_of_ble_eq_true rfl)).trans rfl
theorem f237_199 : zi_fe 237 199 = some ((.iload 5), 2, 0, 0, 0, 0, 0) := (zl237_9 (Nat.le_of_ble_eq_true rfl)).trans rfl
theorem f237_201 : zi_fe 237 201 = some ((.putfield 389), 3, 8, 38, 0, 1103, 0) := (zl237_9 (Nat.le_of_ble_eq_true rfl)).trans rfl
theorem f237_204 : zi_fe 237 204 = some ((.iload 6), 2, 0, 0, 0, 0, 0) := (zl237_9 (Nat.le_of_ble_eq_true rfl)).trans rfl
theorem f237_206 : zi_fe 237 206 = some (.ireturn, 1, 0, 0, 0, 0, 0) := (zl237_9 (Nat.le_of_ble_eq_true rfl)).trans rfl
theorem b237_0 {h : zi_Hp} {a0 : Nat} {x1 : Int32} {x2 : Int32} {x3 : Int32} {x4 : Int32} {u5 : Value} {u6 : Value} {u7 : Value} {u8 : Value} {u9 : Value} {u10 : Value}  : zv 8 237 0 [.ref a0, .int x1, .int x2, .int x3, .int x4, u5, u6, u7, u8, u9, u10] [] h = (zv 2 234 0 [.int x1, .int x2] [] h).bind fun r => zv 8 237 5 [.ref a0, .int x1, .int x2, .int x3, .int x4, u5, u6, u7, u8, u9, u10] (r.1.toList ++ []) r.2 := by
  refine Eq.trans (zv_next f237_0 rfl) ?_
  refine Eq.trans (zv_next f237_1 rfl) ?_
  exact zs_callS f237_2 (by decide) (Nat.le_of_ble_eq_true rfl) (Nat.le_of_ble_eq_true rfl) rfl me_234 (by decide) rfl
theorem b237_5 {h : zi_Hp} {a0 : Nat} {x1 : Int32} {x2 : Int32} {x3 : Int32} {x4 : Int32} {u5 : Value} {u6 : Value} {u7 : Value} {u8 : Value} {u9 : Value} {u10 : Value} {s0 : Int32}  : zv 8 237 5 [.ref a0, .int x1, .int x2, .int x3, .int x4, u5, u6, u7, u8, u9, u10] [.int s0] h = if s0 = 0 then zv 8 237 21 [.ref a0, .int x1, .int x2, .int x3, .int x4, u5, u6, u7, u8, u9, u10] [] h else zv 8 237 8 [.ref a0, .int x1, .int x2, .int x3, .int x4, u5, u6, u7, u8, u9, u10] [] h := by
  exact zs_if f237_5 rfl
theorem b237_8 {h : zi_Hp} {a0 : Nat} {x1 : Int32} {x2 : Int32} {x3 : Int32} {x4 : Int32} {u5 : Value} {u6 : Value} {u7 : Value} {u8 : Value} {u9 : Value} {u10 : Value}  : zv 8 237 8 [.ref a0, .int x1, .int x2, .int x3, .int x4, u5, u6, u7, u8, u9, u10] [] h = (zv 1 142 0 [.long ((x4).toInt64), .double 1, .long 0, .double 1, .long 40, .double 1] [] h).bind fun r => zv 8 237 18 [.ref a0, .int x1, .int x2, .int x3, .int x4, u5, u6, u7, u8, u9, u10] (r.1.toList ++ []) r.2 := by
  refine Eq.trans (zv_next f237_8 rfl) ?_
  refine Eq.trans (zv_next f237_10 rfl) ?_
  refine Eq.trans (zs_lc f237_11 lc_0) ?_
  refine Eq.trans (zs_l2 f237_12 l2_40) ?_
  exact zs_callS f237_15 (by decide) (Nat.le_of_ble_eq_true rfl) (Nat.le_of_ble_eq_true rfl) rfl me_142 (by decide) rfl
theorem b237_18 {h : zi_Hp} {a0 : Nat} {x1 : Int32} {x2 : Int32} {x3 : Int32} {x4 : Int32} {u5 : Value} {u6 : Value} {u7 : Value} {u8 : Value} {u9 : Value} {u10 : Value} {s0 : Int32}  : zv 8 237 18 [.ref a0, .int x1, .int x2, .int x3, .int x4, u5, u6, u7, u8, u9, u10] [.int s0] h = if s0 = 0 then zv 8 237 21 [.ref a0, .int x1, .int x2, .int x3, .int x4, u5, u6, u7, u8, u9, u10] [] h else zv 8 237 23 [.ref a0, .int x1, .int x2, .int x3, .int x4, u5, u6, u7, u8, u9, u10] [] h := by
  exact zs_if f237_18 rfl
theorem b237_21 {h : zi_Hp} {a0 : Nat} {x1 : Int32} {x2 : Int32} {x3 : Int32} {x4 : Int32} {u5 : Value} {u6 : Value} {u7 : Value} {u8 : Value} {u9 : Value} {u10 : Value}  : zv 8 237 21 [.ref a0, .int x1, .int x2, .int x3, .int x4, u5, u6, u7, u8, u9, u10] [] h = some (some (.int (-1)), h) := by
  refine Eq.trans (zs_ic f237_21 ic_m1) ?_
  exact zs_ret0 f237_22
theorem b237_23 {h : zi_Hp} {a0 : Nat} {x1 : Int32} {x2 : Int32} {x3 : Int32} {x4 : Int32} {u5 : Value} {u6 : Value} {u7 : Value} {u8 : Value} {u9 : Value} {u10 : Value} (g0 : a0 < zh_n h) (g1 : (zh_k h a0).1 = 8) : zv 8 237 23 [.ref a0, .int x1, .int x2, .int x3, .int x4, u5, u6, u7, u8, u9, u10] [] h = (zv 1 146 0 [.ref a0, .int 0, .int 0] [] h).bind fun r => zv 8 237 29 [.ref a0, .int x1, .int x2, .int x3, .int x4, u5, u6, u7, u8, u9, u10] (r.1.toList ++ []) r.2 := by
  refine Eq.trans (zv_next f237_23 rfl) ?_
  refine Eq.trans (zs_ic f237_24 ic_0) ?_
  refine Eq.trans (zs_ic f237_25 ic_0) ?_
  exact zs_callV f237_26 (Nat.le_of_ble_eq_true rfl) (Nat.le_of_ble_eq_true rfl) rfl g0 g1 me_146 (by decide) rfl
theorem b237_29 {h : zi_Hp} {a0 : Nat} {x1 : Int32} {x2 : Int32} {x3 : Int32} {x4 : Int32} {u5 : Value} {u6 : Value} {u7 : Value} {u8 : Value} {u9 : Value} {u10 : Value} {s0 : Int32}  : zv 8 237 29 [.ref a0, .int x1, .int x2, .int x3, .int x4, u5, u6, u7, u8, u9, u10] [.int s0] h = if s0 = 0 then zv 8 237 32 [.ref a0, .int x1, .int x2, .int x3, .int x4, u5, u6, u7, u8, u9, u10] [] h else zv 8 237 39 [.ref a0, .int x1, .int x2, .int x3, .int x4, u5, u6, u7, u8, u9, u10] [] h := by
  exact zs_if f237_29 rfl
theorem b237_32 {h : zi_Hp} {a0 : Nat} {x1 : Int32} {x2 : Int32} {x3 : Int32} {x4 : Int32} {u5 : Value} {u6 : Value} {u7 : Value} {u8 : Value} {u9 : Value} {u10 : Value} (g0 : a0 < zh_n h) (g1 : (zh_k h a0).1 = 8) : zv 8 237 32 [.ref a0, .int x1, .int x2, .int x3, .int x4, u5, u6, u7, u8, u9, u10] [] h = (zv 3 198 0 [.ref a0, .double 0, .double 0] [] h).bind fun r => zv 8 237 36 [.ref a0, .int x1, .int x2, .int x3, .int x4, u5, u6, u7, u8, u9, u10] (r.1.toList ++ []) r.2 := by
  refine Eq.trans (zv_next f237_32 rfl) ?_
  exact zs_callV f237_33 (Nat.le_of_ble_eq_true rfl) (Nat.le_of_ble_eq_true rfl) rfl g0 g1 me_198 (by decide) rfl
theorem b237_36 {h : zi_Hp} {a0 : Nat} {x1 : Int32} {x2 : Int32} {x3 : Int32} {x4 : Int32} {u5 : Value} {u6 : Value} {u7 : Value} {u8 : Value} {u9 : Value} {u10 : Value} {s0 : Int32}  : zv 8 237 36 [.ref a0, .int x1, .int x2, .int x3, .int x4, u5, u6, u7, u8, u9, u10] [.int s0] h = if 0 < s0 then zv 8 237 39 [.ref a0, .int x1, .int x2, .int x3, .int x4, u5, u6, u7, u8, u9, u10] [] h else zv 8 237 42 [.ref a0, .int x1, .int x2, .int x3, .int x4, u5, u6, u7, u8, u9, u10] [] h := by
  exact zs_if f237_36 rfl
theorem b237_39 {h : zi_Hp} {a0 : Nat} {x1 : Int32} {x2 : Int32} {x3 : Int32} {x4 : Int32} {u5 : Value} {u6 : Value} {u7 : Value} {u8 : Value} {u9 : Value} {u10 : Value}  : zv 8 237 39 [.ref a0, .int x1, .int x2, .int x3, .int x4, u5, u6, u7, u8, u9, u10] [] h = some (some (.int (-2)), h) := by
  refine Eq.trans (zs_bp f237_39 bp_m2) ?_
  exact zs_ret0 f237_41
theorem b237_42 {h : zi_Hp} {a0 : Nat} {x1 : Int32} {x2 : Int32} {x3 : Int32} {x4 : Int32} {u5 : Value} {u6 : Value} {u7 : Value} {u8 : Value} {u9 : Value} {u10 : Value} (g0 : a0 < zh_n h) (g1 : (zh_k h a0).1 = 8) : zv 8 237 42 [.ref a0, .int x1, .int x2, .int x3, .int x4, u5, u6, u7, u8, u9, u10] [] h = (zv 1 211 0 [.ref a0, .int 0, .double 0] [] h).bind fun r => zv 8 237 47 [.ref a0, .int x1, .int x2, .int x3, .int x4, u5, u6, u7, u8, u9, u10] (r.1.toList ++ []) r.2 := by
  refine Eq.trans (zv_next f237_42 rfl) ?_
  refine Eq.trans (zs_ic f237_43 ic_0) ?_
  exact zs_callV f237_44 (Nat.le_of_ble_eq_true rfl) (Nat.le_of_ble_eq_true rfl) rfl g0 g1 me_211 (by decide) rfl
theorem b237_47 {h : zi_Hp} {a0 : Nat} {x1 : Int32} {x2 : Int32} {x3 : Int32} {x4 : Int32} {u5 : Value} {u6 : Value} {u7 : Value} {u8 : Value} {u9 : Value} {u10 : Value}  : zv 8 237 47 [.ref a0, .int x1, .int x2, .int x3, .int x4, u5, u6, u7, u8, u9, u10] [] h = zv 8 237 56 [.ref a0, .int x1, .int x2, .int x3, .int x4, .int 0, .int 0, .int 0, u8, u9, u10] [] h := by
  refine Eq.trans (zs_ic f237_47 ic_0) ?_
  refine Eq.trans (zv_next f237_48 rfl) ?_
  refine Eq.trans (zs_ic f237_50 ic_0) ?_
  refine Eq.trans (zv_next f237_51 rfl) ?_
  refine Eq.trans (zs_ic f237_53 ic_0) ?_
  refine Eq.trans (zv_next f237_54 rfl) ?_
  rfl
theorem b237_56 {h : zi_Hp} {a0 : Nat} {x1 : Int32} {x2 : Int32} {x3 : Int32} {x4 : Int32} {x5 : Int32} {x6 : Int32} {x7 : Int32} {u8 : Value} {u9 : Value} {u10 : Value}  : zv 8 237 56 [.ref a0, .int x1, .int x2, .int x3, .int x4, .int x5, .int x6, .int x7, u8, u9, u10] [] h = if x7 < x4 then zv 8 237 63 [.ref a0, .int x1, .int x2, .int x3, .int x4, .int x5, .int x6, .int x7, u8, u9, u10] [] h else zv 8 237 198 [.ref a0, .int x1, .int x2, .int x3, .int x4, .int x5, .int x6, .int x7, u8, u9, u10] [] h := by
  refine Eq.trans (zv_next f237_56 rfl) ?_
  refine Eq.trans (zv_next f237_58 rfl) ?_
  exact zs_icmp f237_60 rfl
theorem b237_63 {h : zi_Hp} {a0 : Nat} {x1 : Int32} {x2 : Int32} {x3 : Int32} {x4 : Int32} {x5 : Int32} {x6 : Int32} {x7 : Int32} {u8 : Value} {u9 : Value} {u10 : Value}  : zv 8 237 63 [.ref a0, .int x1, .int x2, .int x3, .int x4, .int x5, .int x6, .int x7, u8, u9, u10] [] h = if x5 = 0 then zv 8 237 68 [.ref a0, .int x1, .int x2, .int x3, .int x4, .int x5, .int x6, .int x7, u8, u9, u10] [] h else zv 8 237 198 [.ref a0, .int x1, .int x2, .int x3, .int x4, .int x5, .int x6, .int x7, u8, u9, u10] [] h := by
  refine Eq.trans (zv_next f237_63 rfl) ?_
  exact zs_if f237_65 rfl
theorem b237_68 {h : zi_Hp} {a0 : Nat} {x1 : Int32} {x2 : Int32} {x3 : Int32} {x4 : Int32} {x5 : Int32} {x6 : Int32} {x7 : Int32} {u8 : Value} {u9 : Value} {u10 : Value} (g0 : a0 < zh_n h) (g1 : (zh_k h a0).1 = 8) (g2 : zh_r h a0 35 = .ref (zq (zh_r h a0 35))) (g3 : (zq (zh_r h a0 35)) < zh_n h) (g4 : ¬ (x1 < 0 ∨ (zh_k h (zq (zh_r h a0 35))).2 ≤ x1.toNatClampNeg)) (g5 : (zh_k h (zq (zh_r h a0 35))).1 = 100) : zv 8 237 68 [.ref a0, .int x1, .int x2, .int x3, .int x4, .int x5, .int x6, .int x7, u8, u9, u10] [] h = if (zh_i h (zq (zh_r h a0 35)) x1.toNatClampNeg) = (-4) then zv 8 237 87 [.ref a0, .int x1, .int x2, .int x3, .int x4, .int x5, .int x6, .int x7, .long (((x3).toInt64) + ((x7).toInt64)), .double 1, u10] [] h else zv 8 237 91 [.ref a0, .int x1, .int x2, .int x3, .int x4, .int x5, .int x6, .int x7, .long (((x3).toInt64) + ((x7).toInt64)), .double 1, u10] [] h := by
  refine Eq.trans (zv_next f237_68 rfl) ?_
  refine Eq.trans (zv_next f237_69 rfl) ?_
  refine Eq.trans (zv_next f237_70 rfl) ?_
  refine Eq.trans (zv_next f237_72 rfl) ?_
  refine Eq.trans (zv_next f237_73 rfl) ?_
  refine Eq.trans (zv_next f237_74 rfl) ?_
  refine Eq.trans (zv_next f237_76 rfl) ?_
  refine Eq.trans (zs_getr f237_77 g0 g1 g2) ?_
  refine Eq.trans (zv_next f237_80 rfl) ?_
  refine Eq.trans (zs_iald f237_81 g3 g5 g4) ?_
  refine Eq.trans (zs_bp f237_82 bp_m4) ?_
  exact zs_icmp f237_84 rfl
theorem b237_87 {h : zi_Hp} {a0 : Nat} {x1 : Int32} {x2 : Int32} {x3 : Int32} {x4 : Int32} {x5 : Int32} {x6 : Int32} {x7 : Int32} {y8 : Int64} {u10 : Value}  : zv 8 237 87 [.ref a0, .int x1, .int x2, .int x3, .int x4, .int x5, .int x6, .int x7, .long y8, .double 1, u10] [] h = zv 8 237 130 [.ref a0, .int x1, .int x2, .int x3, .int x4, .int x5, .int x6, .int x7, .long y8, .double 1, u10] [.int 1] h := by
  refine Eq.trans (zs_ic f237_87 ic_1) ?_
  refine Eq.trans (zs_goto (tgt := 130) f237_88 rfl) ?_
  rfl
theorem b237_91 {h : zi_Hp} {a0 : Nat} {x1 : Int32} {x2 : Int32} {x3 : Int32} {x4 : Int32} {x5 : Int32} {x6 : Int32} {x7 : Int32} {y8 : Int64} {u10 : Value} (g0 : a0 < zh_n h) (g1 : (zh_k h a0).1 = 8) (g2 : zh_r h a0 35 = .ref (zq (zh_r h a0 35))) (g3 : (zq (zh_r h a0 35)) < zh_n h) (g4 : ¬ (x1 < 0 ∨ (zh_k h (zq (zh_r h a0 35))).2 ≤ x1.toNatClampNeg)) (g5 : (zh_k h (zq (zh_r h a0 35))).1 = 100) : zv 8 237 91 [.ref a0, .int x1, .int x2, .int x3, .int x4, .int x5, .int x6, .int x7, .long y8, .double 1, u10] [] h = if (zh_i h (zq (zh_r h a0 35)) x1.toNatClampNeg) = x2 then zv 8 237 105 [.ref a0, .int x1, .int x2, .int x3, .int x4, .int x5, .int x6, .int x7, .long y8, .double 1, u10] [] h else zv 8 237 101 [.ref a0, .int x1, .int x2, .int x3, .int x4, .int x5, .int x6, .int x7, .long y8, .double 1, u10] [] h := by
  refine Eq.trans (zv_next f237_91 rfl) ?_
  refine Eq.trans (zs_getr f237_92 g0 g1 g2) ?_
  refine Eq.trans (zv_next f237_95 rfl) ?_
  refine Eq.trans (zs_iald f237_96 g3 g5 g4) ?_
  refine Eq.trans (zv_next f237_97 rfl) ?_
  exact zs_icmp f237_98 rfl
theorem b237_101 {h : zi_Hp} {a0 : Nat} {x1 : Int32} {x2 : Int32} {x3 : Int32} {x4 : Int32} {x5 : Int32} {x6 : Int32} {x7 : Int32} {y8 : Int64} {u10 : Value}  : zv 8 237 101 [.ref a0, .int x1, .int x2, .int x3, .int x4, .int x5, .int x6, .int x7, .long y8, .double 1, u10] [] h = zv 8 237 130 [.ref a0, .int x1, .int x2, .int x3, .int x4, .int x5, .int x6, .int x7, .long y8, .double 1, u10] [.int 3] h := by
  refine Eq.trans (zs_ic f237_101 ic_3) ?_
  refine Eq.trans (zs_goto (tgt := 130) f237_102 rfl) ?_
  rfl
theorem b237_105 {h : zi_Hp} {a0 : Nat} {x1 : Int32} {x2 : Int32} {x3 : Int32} {x4 : Int32} {x5 : Int32} {x6 : Int32} {x7 : Int32} {y8 : Int64} {u10 : Value}  : zv 8 237 105 [.ref a0, .int x1, .int x2, .int x3, .int x4, .int x5, .int x6, .int x7, .long y8, .double 1, u10] [] h = if (lg_cmp y8 0) < 0 then zv 8 237 125 [.ref a0, .int x1, .int x2, .int x3, .int x4, .int x5, .int x6, .int x7, .long y8, .double 1, u10] [] h else zv 8 237 112 [.ref a0, .int x1, .int x2, .int x3, .int x4, .int x5, .int x6, .int x7, .long y8, .double 1, u10] [] h := by
  refine Eq.trans (zv_next f237_105 rfl) ?_
  refine Eq.trans (zs_lc f237_107 lc_0) ?_
  refine Eq.trans (zv_next f237_108 rfl) ?_
  exact zs_if f237_109 rfl
theorem b237_112 {h : zi_Hp} {a0 : Nat} {x1 : Int32} {x2 : Int32} {x3 : Int32} {x4 : Int32} {x5 : Int32} {x6 : Int32} {x7 : Int32} {y8 : Int64} {u10 : Value} (g0 : a0 < zh_n h) (g1 : (zh_k h a0).1 = 8) (g2 : zh_r h a0 36 = .ref (zq (zh_r h a0 36))) (g3 : (zq (zh_r h a0 36)) < zh_n h) (g4 : ¬ (x1 < 0 ∨ (zh_k h (zq (zh_r h a0 36))).2 ≤ x1.toNatClampNeg)) (g5 : (zh_k h (zq (zh_r h a0 36))).1 = 100) : zv 8 237 112 [.ref a0, .int x1, .int x2, .int x3, .int x4, .int x5, .int x6, .int x7, .long y8, .double 1, u10] [] h = if (lg_cmp y8 (((zh_i h (zq (zh_r h a0 36)) x1.toNatClampNeg)).toInt64)) < 0 then zv 8 237 129 [.ref a0, .int x1, .int x2, .int x3, .int x4, .int x5, .int x6, .int x7, .long y8, .double 1, u10] [] h else zv 8 237 125 [.ref a0, .int x1, .int x2, .int x3, .int x4, .int x5, .int x6, .int x7, .long y8, .double 1, u10] [] h := by
  refine Eq.trans (zv_next f237_112 rfl) ?_
  refine Eq.trans (zv_next f237_114 rfl) ?_
  refine Eq.trans (zs_getr f237_115 g0 g1 g2) ?_
  refine Eq.trans (zv_next f237_118 rfl) ?_
  refine Eq.trans (zs_iald f237_119 g3 g5 g4) ?_
  refine Eq.trans (zv_next f237_120 rfl) ?_
  refine Eq.trans (zv_next f237_121 rfl) ?_
  exact zs_if f237_122 rfl
theorem b237_125 {h : zi_Hp} {a0 : Nat} {x1 : Int32} {x2 : Int32} {x3 : Int32} {x4 : Int32} {x5 : Int32} {x6 : Int32} {x7 : Int32} {y8 : Int64} {u10 : Value}  : zv 8 237 125 [.ref a0, .int x1, .int x2, .int x3, .int x4, .int x5, .int x6, .int x7, .long y8, .double 1, u10] [] h = zv 8 237 130 [.ref a0, .int x1, .int x2, .int x3, .int x4, .int x5, .int x6, .int x7, .long y8, .double 1, u10] [.int 2] h := by
  refine Eq.trans (zs_ic f237_125 ic_2) ?_
  refine Eq.trans (zs_goto (tgt := 130) f237_126 rfl) ?_
  rfl
theorem b237_129 {h : zi_Hp} {a0 : Nat} {x1 : Int32} {x2 : Int32} {x3 : Int32} {x4 : Int32} {x5 : Int32} {x6 : Int32} {x7 : Int32} {y8 : Int64} {u10 : Value}  : zv 8 237 129 [.ref a0, .int x1, .int x2, .int x3, .int x4, .int x5, .int x6, .int x7, .long y8, .double 1, u10] [] h = zv 8 237 130 [.ref a0, .int x1, .int x2, .int x3, .int x4, .int x5, .int x6, .int x7, .long y8, .double 1, u10] [.int 0] h := by
  refine Eq.trans (zs_ic f237_129 ic_0) ?_
  rfl
theorem b237_130 {h : zi_Hp} {a0 : Nat} {x1 : Int32} {x2 : Int32} {x3 : Int32} {x4 : Int32} {x5 : Int32} {x6 : Int32} {x7 : Int32} {y8 : Int64} {u10 : Value} {s0 : Int32}  : zv 8 237 130 [.ref a0, .int x1, .int x2, .int x3, .int x4, .int x5, .int x6, .int x7, .long y8, .double 1, u10] [.int s0] h = if s0 = 0 then zv 8 237 137 [.ref a0, .int x1, .int x2, .int x3, .int x4, .int s0, .int x6, .int x7, .long y8, .double 1, u10] [] h else zv 8 237 192 [.ref a0, .int x1, .int x2, .int x3, .int x4, .int s0, .int x6, .int x7, .long y8, .double 1, u10] [] h := by
  refine Eq.trans (zv_next f237_130 rfl) ?_
  refine Eq.trans (zv_next f237_132 rfl) ?_
  exact zs_if f237_134 rfl
theorem b237_137 {h : zi_Hp} {a0 : Nat} {x1 : Int32} {x2 : Int32} {x3 : Int32} {x4 : Int32} {x5 : Int32} {x6 : Int32} {x7 : Int32} {y8 : Int64} {u10 : Value} (g0 : a0 < zh_n h) (g1 : (zh_k h a0).1 = 8) (g2 : zh_r h a0 37 = .ref (zq (zh_r h a0 37))) (g3 : (zq (zh_r h a0 37)) < zh_n h) (g4 : ¬ ((((40 * x1) + x3) + x7) < 0 ∨ (zh_k h (zq (zh_r h a0 37))).2 ≤ (((40 * x1) + x3) + x7).toNatClampNeg)) (g5 : (zh_k h (zq (zh_r h a0 37))).1 = 100) : zv 8 237 137 [.ref a0, .int x1, .int x2, .int x3, .int x4, .int x5, .int x6, .int x7, .long y8, .double 1, u10] [] h = (zv 1 142 0 [.long (((zh_i h (zq (zh_r h a0 37)) (((40 * x1) + x3) + x7).toNatClampNeg)).toInt64), .double 1, .long 0, .double 1, .long 99, .double 1] [] h).bind fun r => zv 8 237 163 [.ref a0, .int x1, .int x2, .int x3, .int x4, .int x5, .int x6, .int x7, .long y8, .double 1, .int (zh_i h (zq (zh_r h a0 37)) (((40 * x1) + x3) + x7).toNatClampNeg)] (r.1.toList ++ []) r.2 := by
  refine Eq.trans (zv_next f237_137 rfl) ?_
  refine Eq.trans (zs_getr f237_138 g0 g1 g2) ?_
  refine Eq.trans (zs_bp f237_141 bp_40) ?_
  refine Eq.trans (zv_next f237_143 rfl) ?_
  refine Eq.trans (zv_next f237_144 rfl) ?_
  refine Eq.trans (zv_next f237_145 rfl) ?_
  refine Eq.trans (zv_next f237_146 rfl) ?_
  refine Eq.trans (zv_next f237_147 rfl) ?_
  refine Eq.trans (zv_next f237_149 rfl) ?_
  refine Eq.trans (zs_iald f237_150 g3 g5 g4) ?_
  refine Eq.trans (zv_next f237_151 rfl) ?_
  refine Eq.trans (zv_next f237_153 rfl) ?_
  refine Eq.trans (zv_next f237_155 rfl) ?_
  refine Eq.trans (zs_lc f237_156 lc_0) ?_
  refine Eq.trans (zs_l2 f237_157 l2_99) ?_
  exact zs_callS f237_160 (by decide) (Nat.le_of_ble_eq_true rfl) (Nat.le_of_ble_eq_true rfl) rfl me_142 (by decide) rfl
theorem b237_163 {h : zi_Hp} {a0 : Nat} {x1 : Int32} {x2 : Int32} {x3 : Int32} {x4 : Int32} {x5 : Int32} {x6 : Int32} {x7 : Int32} {y8 : Int64} {x10 : Int32} {s0 : Int32}  : zv 8 237 163 [.ref a0, .int x1, .int x2, .int x3, .int x4, .int x5, .int x6, .int x7, .long y8, .double 1, .int x10] [.int s0] h = if s0 = 0 then zv 8 237 178 [.ref a0, .int x1, .int x2, .int x3, .int x4, .int x5, .int x6, .int x7, .long y8, .double 1, .int x10] [] h else zv 8 237 166 [.ref a0, .int x1, .int x2, .int x3, .int x4, .int x5, .int x6, .int x7, .long y8, .double 1, .int x10] [] h := by
  exact zs_if f237_163 rfl
theorem b237_166 {h : zi_Hp} {a0 : Nat} {x1 : Int32} {x2 : Int32} {x3 : Int32} {x4 : Int32} {x5 : Int32} {x6 : Int32} {x7 : Int32} {y8 : Int64} {x10 : Int32} (g0 : a0 < zh_n h) (g1 : (zh_k h a0).1 = 8) : zv 8 237 166 [.ref a0, .int x1, .int x2, .int x3, .int x4, .int x5, .int x6, .int x7, .long y8, .double 1, .int x10] [] h = (zv 7 179 0 [.ref a0, .int 1, .int x10] [] h).bind fun r => zv 8 237 173 [.ref a0, .int x1, .int x2, .int x3, .int x4, .int x5, .int x6, .int x7, .long y8, .double 1, .int x10] (r.1.toList ++ []) r.2 := by
  refine Eq.trans (zv_next f237_166 rfl) ?_
  refine Eq.trans (zs_ic f237_167 ic_1) ?_
  refine Eq.trans (zv_next f237_168 rfl) ?_
  exact zs_callV f237_170 (Nat.le_of_ble_eq_true rfl) (Nat.le_of_ble_eq_true rfl) rfl g0 g1 me_179 (by decide) rfl
theorem b237_173 {h : zi_Hp} {a0 : Nat} {x1 : Int32} {x2 : Int32} {x3 : Int32} {x4 : Int32} {x5 : Int32} {x6 : Int32} {x7 : Int32} {y8 : Int64} {x10 : Int32} {s0 : Int32}  : zv 8 237 173 [.ref a0, .int x1, .int x2, .int x3, .int x4, .int x5, .int x6, .int x7, .long y8, .double 1, .int x10] [.int s0] h = if s0 = (-3) then zv 8 237 178 [.ref a0, .int x1, .int x2, .int x3, .int x4, .int x5, .int x6, .int x7, .long y8, .double 1, .int x10] [] h else zv 8 237 189 [.ref a0, .int x1, .int x2, .int x3, .int x4, .int x5, .int x6, .int x7, .long y8, .double 1, .int x10] [] h := by
  refine Eq.trans (zs_bp f237_173 bp_m3) ?_
  exact zs_icmp f237_175 rfl
theorem b237_178 {h : zi_Hp} {a0 : Nat} {x1 : Int32} {x2 : Int32} {x3 : Int32} {x4 : Int32} {x5 : Int32} {x6 : Int32} {x7 : Int32} {y8 : Int64} {x10 : Int32} (g0 : a0 < zh_n h) (g1 : (zh_k h a0).1 = 8) : zv 8 237 178 [.ref a0, .int x1, .int x2, .int x3, .int x4, .int x5, .int x6, .int x7, .long y8, .double 1, .int x10] [] h = (zv 1 212 0 [.ref a0, .int 0, .double 0] [] h).bind fun r => zv 8 237 183 [.ref a0, .int x1, .int x2, .int x3, .int x4, .int x5, .int x6, .int x7, .long y8, .double 1, .int x10] (r.1.toList ++ []) r.2 := by
  refine Eq.trans (zv_next f237_178 rfl) ?_
  refine Eq.trans (zs_ic f237_179 ic_0) ?_
  exact zs_callV f237_180 (Nat.le_of_ble_eq_true rfl) (Nat.le_of_ble_eq_true rfl) rfl g0 g1 me_212 (by decide) rfl
theorem b237_183 {h : zi_Hp} {a0 : Nat} {x1 : Int32} {x2 : Int32} {x3 : Int32} {x4 : Int32} {x5 : Int32} {x6 : Int32} {x7 : Int32} {y8 : Int64} {x10 : Int32}  : zv 8 237 183 [.ref a0, .int x1, .int x2, .int x3, .int x4, .int x5, .int x6, .int x7, .long y8, .double 1, .int x10] [] h = some (some (.int ((-20) - x7)), h) := by
  refine Eq.trans (zs_bp f237_183 bp_m20) ?_
  refine Eq.trans (zv_next f237_185 rfl) ?_
  refine Eq.trans (zv_next f237_187 rfl) ?_
  exact zs_ret0 f237_188
theorem b237_189 {h : zi_Hp} {a0 : Nat} {x1 : Int32} {x2 : Int32} {x3 : Int32} {x4 : Int32} {x5 : Int32} {x6 : Int32} {x7 : Int32} {y8 : Int64} {x10 : Int32}  : zv 8 237 189 [.ref a0, .int x1, .int x2, .int x3, .int x4, .int x5, .int x6, .int x7, .long y8, .double 1, .int x10] [] h = zv 8 237 192 [.ref a0, .int x1, .int x2, .int x3, .int x4, .int x5, .int (x6 + 1), .int x7, .long y8, .double 1, .int x10] [] h := by
  refine Eq.trans (zs_inc f237_189 rfl ic_1 rfl) ?_
  rfl
theorem b237_192 {h : zi_Hp} {a0 : Nat} {x1 : Int32} {x2 : Int32} {x3 : Int32} {x4 : Int32} {x5 : Int32} {x6 : Int32} {x7 : Int32} {y8 : Int64} {u10 : Value}  : zv 8 237 192 [.ref a0, .int x1, .int x2, .int x3, .int x4, .int x5, .int x6, .int x7, .long y8, .double 1, u10] [] h = zv 8 237 56 [.ref a0, .int x1, .int x2, .int x3, .int x4, .int x5, .int x6, .int (x7 + 1), .long y8, .double 1, u10] [] h := by
  refine Eq.trans (zs_inc f237_192 rfl ic_1 rfl) ?_
  refine Eq.trans (zs_goto (tgt := 56) f237_195 rfl) ?_
  rfl
theorem b237_198 {h : zi_Hp} {a0 : Nat} {x1 : Int32} {x2 : Int32} {x3 : Int32} {x4 : Int32} {x5 : Int32} {x6 : Int32} {x7 : Int32} {u8 : Value} {u9 : Value} {u10 : Value} (g0 : a0 < zh_n h) (g1 : (zh_k h a0).1 = 8) : zv 8 237 198 [.ref a0, .int x1, .int x2, .int x3, .int x4, .int x5, .int x6, .int x7, u8, u9, u10] [] h = some (some (.int x6), zh_wi h a0 38 x5) := by
  refine Eq.trans (zv_next f237_198 rfl) ?_
  refine Eq.trans (zv_next f237_199 rfl) ?_
  refine Eq.trans (zs_put f237_201 g0 g1 rfl) ?_
  refine Eq.trans (zv_next f237_204 rfl) ?_
  exact zs_ret0 f237_206
set_option maxRecDepth 20000 in
theorem zq238 : zi_M[238]? = some zi_m238 := rfl
theorem zl238_0 {pc : Nat} (_ : 0 ≤ pc) : zi_fe 238 pc = zu238_0.lookup pc := zi_feA zq238 pc
theorem f238_0 : zi_fe 238 0 = some ((.aload_n 0), 1, 0, 0, 0, 0, 0) := (zl238_0 (Nat.le_of_ble_eq_true rfl)).trans rfl
theorem f238_1 : zi_fe 238 1 = some ((.getfield 389), 3, 8, 38, 0, 1103, 0) := (zl238_0 (Nat.le_of_ble_eq_true rfl)).trans rfl
theorem f238_4 : zi_fe 238 4 = some (.ireturn, 1, 0, 0, 0, 0, 0) := (zl238_0 (Nat.le_of_ble_eq_true rfl)).trans rfl
theorem b238_0 {h : zi_Hp} {a0 : Nat} (g0 : a0 < zh_n h) (g1 : (zh_k h a0).1 = 8) : zv 1 238 0 [.ref a0] [] h = some (some (.int (zh_i h a0 38)), h) := by
  refine Eq.trans (zv_next f238_0 rfl) ?_
  refine Eq.trans (zs_geti f238_1 g0 g1) ?_
  exact zs_ret0 f238_4
set_option maxRecDepth 20000 in
theorem zq239 : zi_M[239]? = some zi_m239 := rfl
theorem zl239_0 {pc : Nat} (_ : 0 ≤ pc) : zi_fe 239 pc = zu239_0.lookup pc := zi_feA zq239 pc
theorem f239_0 : zi_fe 239 0 = some ((.iconst 0), 1, 0, 0, 0, 0, 0) := (zl239_0 (Nat.le_of_ble_eq_true rfl)).trans rfl
theorem f239_1 : zi_fe 239 1 = some ((.istore_n 2), 1, 0, 0, 0, 0, 0) := (zl239_0 (Nat.le_of_ble_eq_true rfl)).trans rfl
theorem f239_2 : zi_fe 239 2 = some ((.iconst 0), 1, 0, 0, 0, 0, 0) := (zl239_0 (Nat.le_of_ble_eq_true rfl)).trans rfl
theorem f239_3 : zi_fe 239 3 = some ((.istore_n 3), 1, 0, 0, 0, 0, 0) := (zl239_0 (Nat.le_of_ble_eq_true rfl)).trans rfl
theorem f239_4 : zi_fe 239 4 = some ((.iload_n 3), 1, 0, 0, 0, 0, 0) := (zl239_0 (Nat.le_of_ble_eq_true rfl)).trans rfl
theorem f239_5 : zi_fe 239 5 = some ((.aload_n 0), 1, 0, 0, 0, 0, 0) := (zl239_0 (Nat.le_of_ble_eq_true rfl)).trans rfl
theorem f239_6 : zi_fe 239 6 = some ((.getfield 7), 3, 8, 0, 3, 1065, 0) := (zl239_0 (Nat.le_of_ble_eq_true rfl)).trans rfl
theorem f239_9 : zi_fe 239 9 = some ((.sipush 312), 3, 0, 0, 0, 0, 0) := (zl239_0 (Nat.le_of_ble_eq_true rfl)).trans rfl
theorem f239_12 : zi_fe 239 12 = some (.iaload, 1, 0, 0, 0, 0, 0) := (zl239_0 (Nat.le_of_ble_eq_true rfl)).trans rfl
theorem f239_13 : zi_fe 239 13 = some ((.if_icmp .ge 44), 3, 0, 0, 0, 0, 0) := (zl239_0 (Nat.le_of_ble_eq_true rfl)).trans rfl
theorem f239_16 : zi_fe 239 16 = some ((.aload_n 0), 1, 0, 0, 0, 0, 0) := (zl239_0 (Nat.le_of_ble_eq_true rfl)).trans rfl
theorem f239_17 : zi_fe 239 17 = some ((.iload_n 3), 1, 0, 0, 0, 0, 0) := (zl239_0 (Nat.le_of_ble_eq_true rfl)).trans rfl
theorem zl239_1 {pc : Nat} (h : 18 ≤ pc) : zi_fe 239 pc = zu239_1.lookup pc := (zl239_0 (Nat.le_trans (Nat.le_of_ble_eq_true rfl) h)).trans (zi_lkA (a := zi_i239_0) (c := 18) rfl h)
theorem f239_18 : zi_fe 239 18 = some ((.iconst 0), 1, 0, 0, 0, 0, 0) := (zl239_1 (Nat.le_of_ble_eq_true rfl)).trans rfl
theorem f239_19 : zi_fe 239 19 = some ((.invokevirtual 87), 3, 144, 0, 8, 1261, 3) := (zl239_1 (Nat.le_of_ble_eq_true rfl)).trans rfl
theorem f239_22 : zi_fe 239 22 = some ((.ifCond .ne 7), 3, 0, 0, 0, 0, 0) := (zl239_1 (Nat.le_of_ble_eq_true rfl)).trans rfl
theorem f239_25 : zi_fe 239 25 = some ((.iconst 1), 1, 0, 0, 0, 0, 0) := (zl239_1 (Nat.le_of_ble_eq_true rfl)).trans rfl
theorem f239_26 : zi_fe 239 26 = some ((.goto 4), 3, 0, 0, 0, 0, 0) := (zl239_1 (Nat.le_of_ble_eq_true rfl)).trans rfl
theorem f239_29 : zi_fe 239 29 = some ((.iconst 0), 1, 0, 0, 0, 0, 0) := (zl239_1 (Nat.le_of_ble_eq_true rfl)).trans rfl
theorem f239_30 : zi_fe 239 30 = some ((.iload_n 1), 1, 0, 0, 0, 0, 0) := (zl239_1 (Nat.le_of_ble_eq_true rfl)).trans rfl
theorem f239_31 : zi_fe 239 31 = some ((.if_icmp .ne 20), 3, 0, 0, 0, 0, 0) := (zl239_1 (Nat.le_of_ble_eq_true rfl)).trans rfl
theorem f239_34 : zi_fe 239 34 = some ((.iload_n 2), 1, 0, 0, 0, 0, 0) := (zl239_1 (Nat.le_of_ble_eq_true rfl)).trans rfl
theorem f239_35 : zi_fe 239 35 = some ((.iload_n 1), 1, 0, 0, 0, 0, 0) := (zl239_1 (Nat.le_of_ble_eq_true rfl)).trans rfl
theorem f239_36 : zi_fe 239 36 = some ((.ifCond .eq 7), 3, 0, 0, 0, 0, 0) := (zl239_1 (Nat.le_of_ble_eq_true rfl)).trans rfl
theorem f239_39 : zi_fe 239 39 = some ((.iconst 1), 1, 0, 0, 0, 0, 0) := (zl239_1 (Nat.le_of_ble_eq_true rfl)).trans rfl
theorem zl239_2 {pc : Nat} (h : 40 ≤ pc) : zi_fe 239 pc = zu239_2.lookup pc := (zl239_1 (Nat.le_trans (Nat.le_of_ble_eq_true rfl) h)).trans (zi_lkA (a := zi_i239_1) (c := 40) rfl h)
theorem f239_40 : zi_fe 239 40 = some ((.goto 9), 3, 0, 0, 0, 0, 0) := (zl239_2 (Nat.le_of_ble_eq_true rfl)).trans rfl
theorem f239_43 : zi_fe 239 43 = some ((.aload_n 0), 1, 0, 0, 0, 0, 0) := (zl239_2 (Nat.le_of_ble_eq_true rfl)).trans rfl
theorem f239_44 : zi_fe 239 44 = some ((.iload_n 3), 1, 0, 0, 0, 0, 0) := (zl239_2 (Nat.le_of_ble_eq_true rfl)).trans rfl
theorem f239_45 : zi_fe 239 45 = some ((.iconst 1), 1, 0, 0, 0, 0, 0) := (zl239_2 (Nat.le_of_ble_eq_true rfl)).trans rfl
theorem f239_46 : zi_fe 239 46 = some ((.invokevirtual 87), 3, 144, 0, 8, 1261, 3) := (zl239_2 (Nat.le_of_ble_eq_true rfl)).trans rfl
theorem f239_49 : zi_fe 239 49 = some (.iadd, 1, 0, 0, 0, 0, 0) := (zl239_2 (Nat.le_of_ble_eq_true rfl)).trans rfl
theorem f239_50 : zi_fe 239 50 = some ((.istore_n 2), 1, 0, 0, 0, 0, 0) := (zl239_2 (Nat.le_of_ble_eq_true rfl)).trans rfl
theorem f239_51 : zi_fe 239 51 = some ((.iinc 3 1), 3, 0, 0, 0, 0, 0) := (zl239_2 (Nat.le_of_ble_eq_true rfl)).trans rfl
theorem f239_54 : zi_fe 239 54 = some ((.goto (-50)), 3, 0, 0, 0, 0, 0) := (zl239_2 (Nat.le_of_ble_eq_true rfl)).trans rfl
theorem f239_57 : zi_fe 239 57 = some ((.iload_n 2), 1, 0, 0, 0, 0, 0) := (zl239_2 (Nat.le_of_ble_eq_true rfl)).trans rfl
theorem f239_58 : zi_fe 239 58 = some (.ireturn, 1, 0, 0, 0, 0, 0) := (zl239_2 (Nat.le_of_ble_eq_true rfl)).trans rfl
theorem b239_0 {h : zi_Hp} {a0 : Nat} {x1 : Int32} {u2 : Value} {u3 : Value}  : zv 2 239 0 [.ref a0, .int x1, u2, u3] [] h = zv 2 239 4 [.ref a0, .int x1, .int 0, .int 0] [] h := by
  refine Eq.trans (zs_ic f239_0 ic_0) ?_
  refine Eq.trans (zv_next f239_1 rfl) ?_
  refine Eq.trans (zs_ic f239_2 ic_0) ?_
  refine Eq.trans (zv_next f239_3 rfl) ?_
  rfl
theorem b239_4 {h : zi_Hp} {a0 : Nat} {x1 : Int32} {x2 : Int32} {x3 : Int32} (g0 : a0 < zh_n h) (g1 : (zh_k h a0).1 = 8) (g2 : zh_r h a0 0 = .ref (zq (zh_r h a0 0))) (g3 : (zq (zh_r h a0 0)) < zh_n h) (g4 : 312 < (zh_k h (zq (zh_r h a0 0))).2) (g5 : (zh_k h (zq (zh_r h a0 0))).1 = 100) : zv 2 239 4 [.ref a0, .int x1, .int x2, .int x3] [] h = if x3 < (zh_i h (zq (zh_r h a0 0)) 312) then zv 2 239 16 [.ref a0, .int x1, .int x2, .int x3] [] h else zv 2 239 57 [.ref a0, .int x1, .int x2, .int x3] [] h := by
  refine Eq.trans (zv_next f239_4 rfl) ?_
  refine Eq.trans (zv_next f239_5 rfl) ?_
  refine Eq.trans (zs_getr f239_6 g0 g1 g2) ?_
  refine Eq.trans (zs_sp f239_9 sp_312) ?_
  refine Eq.trans (zs_iald f239_12 g3 g5 (zj_lit (by decide) g4)) ?_
  exact zs_icmp f239_13 rfl
theorem b239_16 {h : zi_Hp} {a0 : Nat} {x1 : Int32} {x2 : Int32} {x3 : Int32} (g0 : a0 < zh_n h) (g1 : (zh_k h a0).1 = 8) : zv 2 239 16 [.ref a0, .int x1, .int x2, .int x3] [] h = (zv 1 144 0 [.ref a0, .int x3, .int 0] [] h).bind fun r => zv 2 239 22 [.ref a0, .int x1, .int x2, .int x3] (r.1.toList ++ []) r.2 := by
  refine Eq.trans (zv_next f239_16 rfl) ?_
  refine Eq.trans (zv_next f239_17 rfl) ?_
  refine Eq.trans (zs_ic f239_18 ic_0) ?_
  exact zs_callV f239_19 (Nat.le_of_ble_eq_true rfl) (Nat.le_of_ble_eq_true rfl) rfl g0 g1 me_144 (by decide) rfl
theorem b239_22 {h : zi_Hp} {a0 : Nat} {x1 : Int32} {x2 : Int32} {x3 : Int32} {s0 : Int32}  : zv 2 239 22 [.ref a0, .int x1, .int x2, .int x3] [.int s0] h = if s0 = 0 then zv 2 239 25 [.ref a0, .int x1, .int x2, .int x3] [] h else zv 2 239 29 [.ref a0, .int x1, .int x2, .int x3] [] h := by
  exact zs_if f239_22 rfl
theorem b239_25 {h : zi_Hp} {a0 : Nat} {x1 : Int32} {x2 : Int32} {x3 : Int32}  : zv 2 239 25 [.ref a0, .int x1, .int x2, .int x3] [] h = zv 2 239 30 [.ref a0, .int x1, .int x2, .int x3] [.int 1] h := by
  refine Eq.trans (zs_ic f239_25 ic_1) ?_
  refine Eq.trans (zs_goto (tgt := 30) f239_26 rfl) ?_
  rfl
theorem b239_29 {h : zi_Hp} {a0 : Nat} {x1 : Int32} {x2 : Int32} {x3 : Int32}  : zv 2 239 29 [.ref a0, .int x1, .int x2, .int x3] [] h = zv 2 239 30 [.ref a0, .int x1, .int x2, .int x3] [.int 0] h := by
  refine Eq.trans (zs_ic f239_29 ic_0) ?_
  rfl
theorem b239_30 {h : zi_Hp} {a0 : Nat} {x1 : Int32} {x2 : Int32} {x3 : Int32} {s0 : Int32}  : zv 2 239 30 [.ref a0, .int x1, .int x2, .int x3] [.int s0] h = if s0 = x1 then zv 2 239 34 [.ref a0, .int x1, .int x2, .int x3] [] h else zv 2 239 51 [.ref a0, .int x1, .int x2, .int x3] [] h := by
  refine Eq.trans (zv_next f239_30 rfl) ?_
  exact zs_icmp f239_31 rfl
theorem b239_34 {h : zi_Hp} {a0 : Nat} {x1 : Int32} {x2 : Int32} {x3 : Int32}  : zv 2 239 34 [.ref a0, .int x1, .int x2, .int x3] [] h = if x1 = 0 then zv 2 239 43 [.ref a0, .int x1, .int x2, .int x3] [.int x2] h else zv 2 239 39 [.ref a0, .int x1, .int x2, .int x3] [.int x2] h := by
  refine Eq.trans (zv_next f239_34 rfl) ?_
  refine Eq.trans (zv_next f239_35 rfl) ?_
  exact zs_if f239_36 rfl
theorem b239_39 {h : zi_Hp} {a0 : Nat} {x1 : Int32} {x2 : Int32} {x3 : Int32} {s0 : Int32}  : zv 2 239 39 [.ref a0, .int x1, .int x2, .int x3] [.int s0] h = zv 2 239 49 [.ref a0, .int x1, .int x2, .int x3] [.int 1, .int s0] h := by
  refine Eq.trans (zs_ic f239_39 ic_1) ?_
  refine Eq.trans (zs_goto (tgt := 49) f239_40 rfl) ?_
  rfl
theorem b239_43 {h : zi_Hp} {a0 : Nat} {x1 : Int32} {x2 : Int32} {x3 : Int32} {s0 : Int32} (g0 : a0 < zh_n h) (g1 : (zh_k h a0).1 = 8) : zv 2 239 43 [.ref a0, .int x1, .int x2, .int x3] [.int s0] h = (zv 1 144 0 [.ref a0, .int x3, .int 1] [] h).bind fun r => zv 2 239 49 [.ref a0, .int x1, .int x2, .int x3] (r.1.toList ++ [.int s0]) r.2 := by
  refine Eq.trans (zv_next f239_43 rfl) ?_
  refine Eq.trans (zv_next f239_44 rfl) ?_
  refine Eq.trans (zs_ic f239_45 ic_1) ?_
  exact zs_callV f239_46 (Nat.le_of_ble_eq_true rfl) (Nat.le_of_ble_eq_true rfl) rfl g0 g1 me_144 (by decide) rfl
theorem b239_49 {h : zi_Hp} {a0 : Nat} {x1 : Int32} {x2 : Int32} {x3 : Int32} {s0 : Int32} {s1 : Int32}  : zv 2 239 49 [.ref a0, .int x1, .int x2, .int x3] [.int s1, .int s0] h = zv 2 239 51 [.ref a0, .int x1, .int (s0 + s1), .int x3] [] h := by
  refine Eq.trans (zv_next f239_49 rfl) ?_
  refine Eq.trans (zv_next f239_50 rfl) ?_
  rfl
theorem b239_51 {h : zi_Hp} {a0 : Nat} {x1 : Int32} {x2 : Int32} {x3 : Int32}  : zv 2 239 51 [.ref a0, .int x1, .int x2, .int x3] [] h = zv 2 239 4 [.ref a0, .int x1, .int x2, .int (x3 + 1)] [] h := by
  refine Eq.trans (zs_inc f239_51 rfl ic_1 rfl) ?_
  refine Eq.trans (zs_goto (tgt := 4) f239_54 rfl) ?_
  rfl
theorem b239_57 {h : zi_Hp} {a0 : Nat} {x1 : Int32} {x2 : Int32} {x3 : Int32}  : zv 2 239 57 [.ref a0, .int x1, .int x2, .int x3] [] h = some (some (.int x2), h) := by
  refine Eq.trans (zv_next f239_57 rfl) ?_
  exact zs_ret0 f239_58
set_option maxRecDepth 20000 in
theorem zq240 : zi_M[240]? = some zi_m240 := rfl
theorem zl240_0 {pc : Nat} (_ : 0 ≤ pc) : zi_fe 240 pc = zu240_0.lookup pc := zi_feA zq240 pc
theorem f240_0 : zi_fe 240 0 = some ((.iload_n 1), 1, 0, 0, 0, 0, 0) := (zl240_0 (Nat.le_of_ble_eq_true rfl)).trans rfl
theorem f240_1 : zi_fe 240 1 = some ((.tableswitch 105 0 5 #[39, 45, 65, 70, 93, 99]), 39, 0, 0, 0, 0, 0) := (zl240_0 (Nat.le_of_ble_eq_true rfl)).trans rfl
theorem f240_40 : zi_fe 240 40 = some ((.aload_n 0), 1, 0, 0, 0, 0, 0) := (zl240_0 (Nat.le_of_ble_eq_true rfl)).trans rfl
theorem f240_41 : zi_fe 240 41 = some ((.iconst 1), 1, 0, 0, 0, 0, 0) := (zl240_0 (Nat.le_of_ble_eq_true rfl)).trans rfl
theorem f240_42 : zi_fe 240 42 = some ((.invokevirtual 392), 3, 239, 0, 8, 1574, 2) := (zl240_0 (Nat.le_of_ble_eq_true rfl)).trans rfl
theorem f240_45 : zi_fe 240 45 = some (.ireturn, 1, 0, 0, 0, 0, 0) := (zl240_0 (Nat.le_of_ble_eq_true rfl)).trans rfl
theorem f240_46 : zi_fe 240 46 = some ((.aload_n 0), 1, 0, 0, 0, 0, 0) := (zl240_0 (Nat.le_of_ble_eq_true rfl)).trans rfl
theorem f240_47 : zi_fe 240 47 = some ((.getfield 16), 3, 8, 2, 3, 1067, 0) := (zl240_0 (Nat.le_of_ble_eq_true rfl)).trans rfl
theorem f240_50 : zi_fe 240 50 = some ((.iconst 0), 1, 0, 0, 0, 0, 0) := (zl240_0 (Nat.le_of_ble_eq_true rfl)).trans rfl
theorem f240_51 : zi_fe 240 51 = some (.baload, 1, 0, 0, 0, 0, 0) := (zl240_0 (Nat.le_of_ble_eq_true rfl)).trans rfl
theorem f240_52 : zi_fe 240 52 = some ((.invokestatic 94), 3, 143, 1, 8, 1269, 1) := (zl240_0 (Nat.le_of_ble_eq_true rfl)).trans rfl
theorem f240_55 : zi_fe 240 55 = some ((.aload_n 0), 1, 0, 0, 0, 0, 0) := (zl240_0 (Nat.le_of_ble_eq_true rfl)).trans rfl
theorem zl240_1 {pc : Nat} (h : 56 ≤ pc) : zi_fe 240 pc = zu240_1.lookup pc := (zl240_0 (Nat.le_trans (Nat.le_of_ble_eq_true rfl) h)).trans (zi_lkA (a := zi_i240_0) (c := 56) rfl h)
theorem f240_56 : zi_fe 240 56 = some ((.getfield 16), 3, 8, 2, 3, 1067, 0) := (zl240_1 (Nat.le_of_ble_eq_true rfl)).trans rfl
theorem f240_59 : zi_fe 240 59 = some ((.iconst 1), 1, 0, 0, 0, 0, 0) := (zl240_1 (Nat.le_of_ble_eq_true rfl)).trans rfl
theorem f240_60 : zi_fe 240 60 = some (.baload, 1, 0, 0, 0, 0, 0) := (zl240_1 (Nat.le_of_ble_eq_true rfl)).trans rfl
theorem f240_61 : zi_fe 240 61 = some ((.invokestatic 94), 3, 143, 1, 8, 1269, 1) := (zl240_1 (Nat.le_of_ble_eq_true rfl)).trans rfl
theorem f240_64 : zi_fe 240 64 = some (.iadd, 1, 0, 0, 0, 0, 0) := (zl240_1 (Nat.le_of_ble_eq_true rfl)).trans rfl
theorem f240_65 : zi_fe 240 65 = some (.ireturn, 1, 0, 0, 0, 0, 0) := (zl240_1 (Nat.le_of_ble_eq_true rfl)).trans rfl
theorem f240_66 : zi_fe 240 66 = some ((.aload_n 0), 1, 0, 0, 0, 0, 0) := (zl240_1 (Nat.le_of_ble_eq_true rfl)).trans rfl
theorem f240_67 : zi_fe 240 67 = some ((.getfield 200), 3, 8, 8, 0, 1073, 0) := (zl240_1 (Nat.le_of_ble_eq_true rfl)).trans rfl
theorem f240_70 : zi_fe 240 70 = some (.ireturn, 1, 0, 0, 0, 0, 0) := (zl240_1 (Nat.le_of_ble_eq_true rfl)).trans rfl
theorem f240_71 : zi_fe 240 71 = some ((.aload_n 0), 1, 0, 0, 0, 0, 0) := (zl240_1 (Nat.le_of_ble_eq_true rfl)).trans rfl
theorem f240_72 : zi_fe 240 72 = some ((.getfield 66), 3, 8, 35, 3, 1100, 0) := (zl240_1 (Nat.le_of_ble_eq_true rfl)).trans rfl
theorem f240_75 : zi_fe 240 75 = some ((.iconst 0), 1, 0, 0, 0, 0, 0) := (zl240_1 (Nat.le_of_ble_eq_true rfl)).trans rfl
theorem zl240_2 {pc : Nat} (h : 76 ≤ pc) : zi_fe 240 pc = zu240_2.lookup pc := (zl240_1 (Nat.le_trans (Nat.le_of_ble_eq_true rfl) h)).trans (zi_lkA (a := zi_i240_1) (c := 76) rfl h)
theorem f240_76 : zi_fe 240 76 = some (.iaload, 1, 0, 0, 0, 0, 0) := (zl240_2 (Nat.le_of_ble_eq_true rfl)).trans rfl
theorem f240_77 : zi_fe 240 77 = some ((.bipush (-4)), 2, 0, 0, 0, 0, 0) := (zl240_2 (Nat.le_of_ble_eq_true rfl)).trans rfl
theorem f240_79 : zi_fe 240 79 = some ((.if_icmp .ne 8), 3, 0, 0, 0, 0, 0) := (zl240_2 (Nat.le_of_ble_eq_true rfl)).trans rfl
theorem f240_82 : zi_fe 240 82 = some ((.bipush (-4)), 2, 0, 0, 0, 0, 0) := (zl240_2 (Nat.le_of_ble_eq_true rfl)).trans rfl
theorem f240_84 : zi_fe 240 84 = some ((.goto 9), 3, 0, 0, 0, 0, 0) := (zl240_2 (Nat.le_of_ble_eq_true rfl)).trans rfl
theorem f240_87 : zi_fe 240 87 = some ((.aload_n 0), 1, 0, 0, 0, 0, 0) := (zl240_2 (Nat.le_of_ble_eq_true rfl)).trans rfl
theorem f240_88 : zi_fe 240 88 = some ((.getfield 69), 3, 8, 36, 3, 1101, 0) := (zl240_2 (Nat.le_of_ble_eq_true rfl)).trans rfl
theorem f240_91 : zi_fe 240 91 = some ((.iconst 0), 1, 0, 0, 0, 0, 0) := (zl240_2 (Nat.le_of_ble_eq_true rfl)).trans rfl
theorem f240_92 : zi_fe 240 92 = some (.iaload, 1, 0, 0, 0, 0, 0) := (zl240_2 (Nat.le_of_ble_eq_true rfl)).trans rfl
theorem f240_93 : zi_fe 240 93 = some (.ireturn, 1, 0, 0, 0, 0, 0) := (zl240_2 (Nat.le_of_ble_eq_true rfl)).trans rfl
theorem f240_94 : zi_fe 240 94 = some ((.aload_n 0), 1, 0, 0, 0, 0, 0) := (zl240_2 (Nat.le_of_ble_eq_true rfl)).trans rfl
theorem f240_95 : zi_fe 240 95 = some ((.iconst 1), 1, 0, 0, 0, 0, 0) := (zl240_2 (Nat.le_of_ble_eq_true rfl)).trans rfl
theorem zl240_3 {pc : Nat} (h : 96 ≤ pc) : zi_fe 240 pc = zu240_3.lookup pc := (zl240_2 (Nat.le_trans (Nat.le_of_ble_eq_true rfl) h)).trans (zi_lkA (a := zi_i240_2) (c := 96) rfl h)
theorem f240_96 : zi_fe 240 96 = some ((.invokevirtual 280), 3, 200, 0, 8, 1387, 2) := (zl240_3 (Nat.le_of_ble_eq_true rfl)).trans rfl
theorem f240_99 : zi_fe 240 99 = some (.ireturn, 1, 0, 0, 0, 0, 0) := (zl240_3 (Nat.le_of_ble_eq_true rfl)).trans rfl
theorem f240_100 : zi_fe 240 100 = some ((.aload_n 0), 1, 0, 0, 0, 0, 0) := (zl240_3 (Nat.le_of_ble_eq_true rfl)).trans rfl
theorem f240_101 : zi_fe 240 101 = some ((.iconst 0), 1, 0, 0, 0, 0, 0) := (zl240_3 (Nat.le_of_ble_eq_true rfl)).trans rfl
theorem f240_102 : zi_fe 240 102 = some ((.invokevirtual 392), 3, 239, 0, 8, 1574, 2) := (zl240_3 (Nat.le_of_ble_eq_true rfl)).trans rfl
theorem f240_105 : zi_fe 240 105 = some (.ireturn, 1, 0, 0, 0, 0, 0) := (zl240_3 (Nat.le_of_ble_eq_true rfl)).trans rfl
theorem f240_106 : zi_fe 240 106 = some ((.iconst (-1)), 1, 0, 0, 0, 0, 0) := (zl240_3 (Nat.le_of_ble_eq_true rfl)).trans rfl
theorem f240_107 : zi_fe 240 107 = some (.ireturn, 1, 0, 0, 0, 0, 0) := (zl240_3 (Nat.le_of_ble_eq_true rfl)).trans rfl
theorem b240_0_c0 {h : zi_Hp} {a0 : Nat} {x1 : Int32}  (hx : x1 = 0) : zv 3 240 0 [.ref a0, .int x1] [] h = zv 3 240 40 [.ref a0, .int x1] [] h := by
  refine Eq.trans (zv_next f240_0 rfl) ?_
  exact zs_sw (off := 39) (v := 0) f240_1 (by decide) (by decide) rfl hx
theorem b240_0_c1 {h : zi_Hp} {a0 : Nat} {x1 : Int32}  (hx : x1 = 1) : zv 3 240 0 [.ref a0, .int x1] [] h = zv 3 240 46 [.ref a0, .int x1] [] h := by
  refine Eq.trans (zv_next f240_0 rfl) ?_
  exact zs_sw (off := 45) (v := 1) f240_1 (by decide) (by decide) rfl hx
theorem b240_0_c2 {h : zi_Hp} {a0 : Nat} {x1 : Int32}  (hx : x1 = 2) : zv 3 240 0 [.ref a0, .int x1] [] h = zv 3 240 66 [.ref a0, .int x1] [] h := by
  refine Eq.trans (zv_next f240_0 rfl) ?_
  exact zs_sw (off := 65) (v := 2) f240_1 (by decide) (by decide) rfl hx
theorem b240_0_c3 {h : zi_Hp} {a0 : Nat} {x1 : Int32}  (hx : x1 = 3) : zv 3 240 0 [.ref a0, .int x1] [] h = zv 3 240 71 [.ref a0, .int x1] [] h := by
  refine Eq.trans (zv_next f240_0 rfl) ?_
  exact zs_sw (off := 70) (v := 3) f240_1 (by decide) (by decide) rfl hx
theorem b240_0_c4 {h : zi_Hp} {a0 : Nat} {x1 : Int32}  (hx : x1 = 4) : zv 3 240 0 [.ref a0, .int x1] [] h = zv 3 240 94 [.ref a0, .int x1] [] h := by
  refine Eq.trans (zv_next f240_0 rfl) ?_
  exact zs_sw (off := 93) (v := 4) f240_1 (by decide) (by decide) rfl hx
theorem b240_0_c5 {h : zi_Hp} {a0 : Nat} {x1 : Int32}  (hx : x1 = 5) : zv 3 240 0 [.ref a0, .int x1] [] h = zv 3 240 100 [.ref a0, .int x1] [] h := by
  refine Eq.trans (zv_next f240_0 rfl) ?_
  exact zs_sw (off := 99) (v := 5) f240_1 (by decide) (by decide) rfl hx
theorem b240_0_d {h : zi_Hp} {a0 : Nat} {x1 : Int32}  (hx : (x1).toInt < 0 ∨ 5 < (x1).toInt) : zv 3 240 0 [.ref a0, .int x1] [] h = zv 3 240 106 [.ref a0, .int x1] [] h := by
  refine Eq.trans (zv_next f240_0 rfl) ?_
  exact zs_swO f240_1 rfl hx
theorem b240_40 {h : zi_Hp} {a0 : Nat} {x1 : Int32} (g0 : a0 < zh_n h) (g1 : (zh_k h a0).1 = 8) : zv 3 240 40 [.ref a0, .int x1] [] h = (zv 2 239 0 [.ref a0, .int 1, .double 0, .double 0] [] h).bind fun r => zv 3 240 45 [.ref a0, .int x1] (r.1.toList ++ []) r.2 := by
  refine Eq.trans (zv_next f240_40 rfl) ?_
  refine Eq.trans (zs_ic f240_41 ic_1) ?_
  exact zs_callV f240_42 (Nat.le_of_ble_eq_true rfl) (Nat.le_of_ble_eq_true rfl) rfl g0 g1 me_239 (by decide) rfl
theorem b240_45 {h : zi_Hp} {a0 : Nat} {x1 : Int32} {s0 : Int32}  : zv 3 240 45 [.ref a0, .int x1] [.int s0] h = some (some (.int s0), h) := by
  exact zs_ret0 f240_45
theorem b240_46 {h : zi_Hp} {a0 : Nat} {x1 : Int32} (g0 : a0 < zh_n h) (g1 : (zh_k h a0).1 = 8) (g2 : zh_r h a0 2 = .ref (zq (zh_r h a0 2))) (g3 : (zq (zh_r h a0 2)) < zh_n h) (g4 : 0 < (zh_k h (zq (zh_r h a0 2))).2) (g5 : (zh_k h (zq (zh_r h a0 2))).1 = 101) : zv 3 240 46 [.ref a0, .int x1] [] h = (zv 1 143 0 [.int (zi_bI (zh_b h (zq (zh_r h a0 2)) 0))] [] h).bind fun r => zv 3 240 55 [.ref a0, .int x1] (r.1.toList ++ []) r.2 := by
  refine Eq.trans (zv_next f240_46 rfl) ?_
  refine Eq.trans (zs_getr f240_47 g0 g1 g2) ?_
  refine Eq.trans (zs_ic f240_50 ic_0) ?_
  refine Eq.trans (zs_bald f240_51 g3 g5 (zj_lit (by decide) g4)) ?_
  exact zs_callS f240_52 (by decide) (Nat.le_of_ble_eq_true rfl) (Nat.le_of_ble_eq_true rfl) rfl me_143 (by decide) rfl
theorem b240_55 {h : zi_Hp} {a0 : Nat} {x1 : Int32} {s0 : Int32} (g0 : a0 < zh_n h) (g1 : (zh_k h a0).1 = 8) (g2 : zh_r h a0 2 = .ref (zq (zh_r h a0 2))) (g3 : (zq (zh_r h a0 2)) < zh_n h) (g4 : 1 < (zh_k h (zq (zh_r h a0 2))).2) (g5 : (zh_k h (zq (zh_r h a0 2))).1 = 101) : zv 3 240 55 [.ref a0, .int x1] [.int s0] h = (zv 1 143 0 [.int (zi_bI (zh_b h (zq (zh_r h a0 2)) 1))] [] h).bind fun r => zv 3 240 64 [.ref a0, .int x1] (r.1.toList ++ [.int s0]) r.2 := by
  refine Eq.trans (zv_next f240_55 rfl) ?_
  refine Eq.trans (zs_getr f240_56 g0 g1 g2) ?_
  refine Eq.trans (zs_ic f240_59 ic_1) ?_
  refine Eq.trans (zs_bald f240_60 g3 g5 (zj_lit (by decide) g4)) ?_
  exact zs_callS f240_61 (by decide) (Nat.le_of_ble_eq_true rfl) (Nat.le_of_ble_eq_true rfl) rfl me_143 (by decide) rfl
theorem b240_64 {h : zi_Hp} {a0 : Nat} {x1 : Int32} {s0 : Int32} {s1 : Int32}  : zv 3 240 64 [.ref a0, .int x1] [.int s1, .int s0] h = some (some (.int (s0 + s1)), h) := by
  refine Eq.trans (zv_next f240_64 rfl) ?_
  exact zs_ret0 f240_65
theorem b240_66 {h : zi_Hp} {a0 : Nat} {x1 : Int32} (g0 : a0 < zh_n h) (g1 : (zh_k h a0).1 = 8) : zv 3 240 66 [.ref a0, .int x1] [] h = some (some (.int (zh_i h a0 8)), h) := by
  refine Eq.trans (zv_next f240_66 rfl) ?_
  refine Eq.trans (zs_geti f240_67 g0 g1) ?_
  exact zs_ret0 f240_70
theorem b240_71 {h : zi_Hp} {a0 : Nat} {x1 : Int32} (g0 : a0 < zh_n h) (g1 : (zh_k h a0).1 = 8) (g2 : zh_r h a0 35 = .ref (zq (zh_r h a0 35))) (g3 : (zq (zh_r h a0 35)) < zh_n h) (g4 : 0 < (zh_k h (zq (zh_r h a0 35))).2) (g5 : (zh_k h (zq (zh_r h a0 35))).1 = 100) : zv 3 240 71 [.ref a0, .int x1] [] h = if (zh_i h (zq (zh_r h a0 35)) 0) = (-4) then zv 3 240 82 [.ref a0, .int x1] [] h else zv 3 240 87 [.ref a0, .int x1] [] h := by
  refine Eq.trans (zv_next f240_71 rfl) ?_
  refine Eq.trans (zs_getr f240_72 g0 g1 g2) ?_
  refine Eq.trans (zs_ic f240_75 ic_0) ?_
  refine Eq.trans (zs_iald f240_76 g3 g5 (zj_lit (by decide) g4)) ?_
  refine Eq.trans (zs_bp f240_77 bp_m4) ?_
  exact zs_icmp f240_79 rfl
theorem b240_82 {h : zi_Hp} {a0 : Nat} {x1 : Int32}  : zv 3 240 82 [.ref a0, .int x1] [] h = zv 3 240 93 [.ref a0, .int x1] [.int (-4)] h := by
  refine Eq.trans (zs_bp f240_82 bp_m4) ?_
  refine Eq.trans (zs_goto (tgt := 93) f240_84 rfl) ?_
  rfl
theorem b240_87 {h : zi_Hp} {a0 : Nat} {x1 : Int32} (g0 : a0 < zh_n h) (g1 : (zh_k h a0).1 = 8) (g2 : zh_r h a0 36 = .ref (zq (zh_r h a0 36))) (g3 : (zq (zh_r h a0 36)) < zh_n h) (g4 : 0 < (zh_k h (zq (zh_r h a0 36))).2) (g5 : (zh_k h (zq (zh_r h a0 36))).1 = 100) : zv 3 240 87 [.ref a0, .int x1] [] h = zv 3 240 93 [.ref a0, .int x1] [.int (zh_i h (zq (zh_r h a0 36)) 0)] h := by
  refine Eq.trans (zv_next f240_87 rfl) ?_
  refine Eq.trans (zs_getr f240_88 g0 g1 g2) ?_
  refine Eq.trans (zs_ic f240_91 ic_0) ?_
  refine Eq.trans (zs_iald f240_92 g3 g5 (zj_lit (by decide) g4)) ?_
  rfl
theorem b240_93 {h : zi_Hp} {a0 : Nat} {x1 : Int32} {s0 : Int32}  : zv 3 240 93 [.ref a0, .int x1] [.int s0] h = some (some (.int s0), h) := by
  exact zs_ret0 f240_93
theorem b240_94 {h : zi_Hp} {a0 : Nat} {x1 : Int32} (g0 : a0 < zh_n h) (g1 : (zh_k h a0).1 = 8) : zv 3 240 94 [.ref a0, .int x1] [] h = (zv 2 200 0 [.ref a0, .int 1, .double 0, .double 0, .double 0] [] h).bind fun r => zv 3 240 99 [.ref a0, .int x1] (r.1.toList ++ []) r.2 := by
  refine Eq.trans (zv_next f240_94 rfl) ?_
  refine Eq.trans (zs_ic f240_95 ic_1) ?_
  exact zs_callV f240_96 (Nat.le_of_ble_eq_true rfl) (Nat.le_of_ble_eq_true rfl) rfl g0 g1 me_200 (by decide) rfl
theorem b240_99 {h : zi_Hp} {a0 : Nat} {x1 : Int32} {s0 : Int32}  : zv 3 240 99 [.ref a0, .int x1] [.int s0] h = some (some (.int s0), h) := by
  exact zs_ret0 f240_99
theorem b240_100 {h : zi_Hp} {a0 : Nat} {x1 : Int32} (g0 : a0 < zh_n h) (g1 : (zh_k h a0).1 = 8) : zv 3 240 100 [.ref a0, .int x1] [] h = (zv 2 239 0 [.ref a0, .int 0, .double 0, .double 0] [] h).bind fun r => zv 3 240 105 [.ref a0, .int x1] (r.1.toList ++ []) r.2 := by
  refine Eq.trans (zv_next f240_100 rfl) ?_
  refine Eq.trans (zs_ic f240_101 ic_0) ?_
  exact zs_callV f240_102 (Nat.le_of_ble_eq_true rfl) (Nat.le_of_ble_eq_true rfl) rfl g0 g1 me_239 (by decide) rfl
theorem b240_105 {h : zi_Hp} {a0 : Nat} {x1 : Int32} {s0 : Int32}  : zv 3 240 105 [.ref a0, .int x1] [.int s0] h = some (some (.int s0), h) := by
  exact zs_ret0 f240_105
theorem b240_106 {h : zi_Hp} {a0 : Nat} {x1 : Int32}  : zv 3 240 106 [.ref a0, .int x1] [] h = some (some (.int (-1)), h) := by
  refine Eq.trans (zs_ic f240_106 ic_m1) ?_
  exact zs_ret0 f240_107
set_option maxRecDepth 20000 in
theorem zq241 : zi_M[241]? = some zi_m241 := rfl
theorem zl241_0 {pc : Nat} (_ : 0 ≤ pc) : zi_fe 241 pc = zu241_0.lookup pc := zi_feA zq241 pc
theorem f241_0 : zi_fe 241 0 = some ((.iconst 0), 1, 0, 0, 0, 0, 0) := (zl241_0 (Nat.le_of_ble_eq_true rfl)).trans rfl
theorem f241_1 : zi_fe 241 1 = some ((.istore_n 2), 1, 0, 0, 0, 0, 0) := (zl241_0 (Nat.le_of_ble_eq_true rfl)).trans rfl
theorem f241_2 : zi_fe 241 2 = some ((.aload_n 0), 1, 0, 0, 0, 0, 0) := (zl241_0 (Nat.le_of_ble_eq_true rfl)).trans rfl
theorem f241_3 : zi_fe 241 3 = some (.arraylength, 1, 0, 0, 0, 0, 0) := (zl241_0 (Nat.le_of_ble_eq_true rfl)).trans rfl
theorem f241_4 : zi_fe 241 4 = some ((.istore_n 3), 1, 0, 0, 0, 0, 0) := (zl241_0 (Nat.le_of_ble_eq_true rfl)).trans rfl
theorem f241_5 : zi_fe 241 5 = some ((.iload_n 2), 1, 0, 0, 0, 0, 0) := (zl241_0 (Nat.le_of_ble_eq_true rfl)).trans rfl
theorem f241_6 : zi_fe 241 6 = some ((.iload_n 3), 1, 0, 0, 0, 0, 0) := (zl241_0 (Nat.le_of_ble_eq_true rfl)).trans rfl
theorem f241_7 : zi_fe 241 7 = some ((.if_icmp .ge 13), 3, 0, 0, 0, 0, 0) := (zl241_0 (Nat.le_of_ble_eq_true rfl)).trans rfl
theorem f241_10 : zi_fe 241 10 = some ((.aload_n 0), 1, 0, 0, 0, 0, 0) := (zl241_0 (Nat.le_of_ble_eq_true rfl)).trans rfl
theorem f241_11 : zi_fe 241 11 = some ((.iload_n 2), 1, 0, 0, 0, 0, 0) := (zl241_0 (Nat.le_of_ble_eq_true rfl)).trans rfl
theorem f241_12 : zi_fe 241 12 = some ((.iload_n 1), 1, 0, 0, 0, 0, 0) := (zl241_0 (Nat.le_of_ble_eq_true rfl)).trans rfl
theorem f241_13 : zi_fe 241 13 = some (.iastore, 1, 0, 0, 0, 0, 0) := (zl241_0 (Nat.le_of_ble_eq_true rfl)).trans rfl
theorem zl241_1 {pc : Nat} (h : 14 ≤ pc) : zi_fe 241 pc = zu241_1.lookup pc := (zl241_0 (Nat.le_trans (Nat.le_of_ble_eq_true rfl) h)).trans (zi_lkA (a := zi_i241_0) (c := 14) rfl h)
theorem f241_14 : zi_fe 241 14 = some ((.iinc 2 1), 3, 0, 0, 0, 0, 0) := (zl241_1 (Nat.le_of_ble_eq_true rfl)).trans rfl
theorem f241_17 : zi_fe 241 17 = some ((.goto (-12)), 3, 0, 0, 0, 0, 0) := (zl241_1 (Nat.le_of_ble_eq_true rfl)).trans rfl
theorem f241_20 : zi_fe 241 20 = some (.return_, 1, 0, 0, 0, 0, 0) := (zl241_1 (Nat.le_of_ble_eq_true rfl)).trans rfl
theorem b241_0 {h : zi_Hp} {a0 : Nat} {x1 : Int32} {u2 : Value} {u3 : Value} (g0 : 100 ≤ (zh_k h a0).1 ∧ (zh_k h a0).1 < 106) (g1 : a0 < zh_n h) : zv 1 241 0 [.ref a0, .int x1, u2, u3] [] h = zv 1 241 5 [.ref a0, .int x1, .int 0, .int (Int32.ofNat (zh_k h a0).2)] [] h := by
  refine Eq.trans (zs_ic f241_0 ic_0) ?_
  refine Eq.trans (zv_next f241_1 rfl) ?_
  refine Eq.trans (zv_next f241_2 rfl) ?_
  refine Eq.trans (zs_alen f241_3 g1 g0) ?_
  refine Eq.trans (zv_next f241_4 rfl) ?_
  rfl
theorem b241_5 {h : zi_Hp} {a0 : Nat} {x1 : Int32} {x2 : Int32} {x3 : Int32}  : zv 1 241 5 [.ref a0, .int x1, .int x2, .int x3] [] h = if x2 < x3 then zv 1 241 10 [.ref a0, .int x1, .int x2, .int x3] [] h else zv 1 241 20 [.ref a0, .int x1, .int x2, .int x3] [] h := by
  refine Eq.trans (zv_next f241_5 rfl) ?_
  refine Eq.trans (zv_next f241_6 rfl) ?_
  exact zs_icmp f241_7 rfl
theorem b241_10 {h : zi_Hp} {a0 : Nat} {x1 : Int32} {x2 : Int32} {x3 : Int32} (g0 : a0 < zh_n h) (g1 : ¬ (x2 < 0 ∨ (zh_k h a0).2 ≤ x2.toNatClampNeg)) (g2 : (zh_k h a0).1 = 100) : zv 1 241 10 [.ref a0, .int x1, .int x2, .int x3] [] h = zv 1 241 5 [.ref a0, .int x1, .int (x2 + 1), .int x3] [] (zh_wi h a0 x2.toNatClampNeg x1) := by
  refine Eq.trans (zv_next f241_10 rfl) ?_
  refine Eq.trans (zv_next f241_11 rfl) ?_
  refine Eq.trans (zv_next f241_12 rfl) ?_
  refine Eq.trans (zs_iast f241_13 g0 g2 g1) ?_
  refine Eq.trans (zs_inc f241_14 rfl ic_1 rfl) ?_
  refine Eq.trans (zs_goto (tgt := 5) f241_17 rfl) ?_
  rfl
theorem b241_20 {h : zi_Hp} {a0 : Nat} {x1 : Int32} {x2 : Int32} {x3 : Int32}  : zv 1 241 20 [.ref a0, .int x1, .int x2, .int x3] [] h = some (none, h) := by
  exact zv_ret f241_20 rfl
set_option maxRecDepth 20000 in
theorem zq242 : zi_M[242]? = some zi_m242 := rfl
theorem zl242_0 {pc : Nat} (_ : 0 ≤ pc) : zi_fe 242 pc = zu242_0.lookup pc := zi_feA zq242 pc
theorem f242_0 : zi_fe 242 0 = some ((.iload_n 0), 1, 0, 0, 0, 0, 0) := (zl242_0 (Nat.le_of_ble_eq_true rfl)).trans rfl
theorem f242_1 : zi_fe 242 1 = some ((.iload_n 0), 1, 0, 0, 0, 0, 0) := (zl242_0 (Nat.le_of_ble_eq_true rfl)).trans rfl
theorem f242_2 : zi_fe 242 2 = some ((.iconst 1), 1, 0, 0, 0, 0, 0) := (zl242_0 (Nat.le_of_ble_eq_true rfl)).trans rfl
theorem f242_3 : zi_fe 242 3 = some (.iushr, 1, 0, 0, 0, 0, 0) := (zl242_0 (Nat.le_of_ble_eq_true rfl)).trans rfl
theorem f242_4 : zi_fe 242 4 = some ((.ldc_w 265), 3, 0, 0, 0, 886, 1431655765) := (zl242_0 (Nat.le_of_ble_eq_true rfl)).trans rfl
theorem f242_7 : zi_fe 242 7 = some (.iand, 1, 0, 0, 0, 0, 0) := (zl242_0 (Nat.le_of_ble_eq_true rfl)).trans rfl
theorem f242_8 : zi_fe 242 8 = some (.isub, 1, 0, 0, 0, 0, 0) := (zl242_0 (Nat.le_of_ble_eq_true rfl)).trans rfl
theorem f242_9 : zi_fe 242 9 = some ((.istore_n 0), 1, 0, 0, 0, 0, 0) := (zl242_0 (Nat.le_of_ble_eq_true rfl)).trans rfl
theorem f242_10 : zi_fe 242 10 = some ((.iload_n 0), 1, 0, 0, 0, 0, 0) := (zl242_0 (Nat.le_of_ble_eq_true rfl)).trans rfl
theorem f242_11 : zi_fe 242 11 = some ((.ldc_w 266), 3, 0, 0, 0, 887, 858993459) := (zl242_0 (Nat.le_of_ble_eq_true rfl)).trans rfl
theorem f242_14 : zi_fe 242 14 = some (.iand, 1, 0, 0, 0, 0, 0) := (zl242_0 (Nat.le_of_ble_eq_true rfl)).trans rfl
theorem f242_15 : zi_fe 242 15 = some ((.iload_n 0), 1, 0, 0, 0, 0, 0) := (zl242_0 (Nat.le_of_ble_eq_true rfl)).trans rfl
theorem zl242_1 {pc : Nat} (h : 16 ≤ pc) : zi_fe 242 pc = zu242_1.lookup pc := (zl242_0 (Nat.le_trans (Nat.le_of_ble_eq_true rfl) h)).trans (zi_lkA (a := zi_i242_0) (c := 16) rfl h)
theorem f242_16 : zi_fe 242 16 = some ((.iconst 2), 1, 0, 0, 0, 0, 0) := (zl242_1 (Nat.le_of_ble_eq_true rfl)).trans rfl
theorem f242_17 : zi_fe 242 17 = some (.iushr, 1, 0, 0, 0, 0, 0) := (zl242_1 (Nat.le_of_ble_eq_true rfl)).trans rfl
theorem f242_18 : zi_fe 242 18 = some ((.ldc_w 266), 3, 0, 0, 0, 887, 858993459) := (zl242_1 (Nat.le_of_ble_eq_true rfl)).trans rfl
theorem f242_21 : zi_fe 242 21 = some (.iand, 1, 0, 0, 0, 0, 0) := (zl242_1 (Nat.le_of_ble_eq_true rfl)).trans rfl
theorem f242_22 : zi_fe 242 22 = some (.iadd, 1, 0, 0, 0, 0, 0) := (zl242_1 (Nat.le_of_ble_eq_true rfl)).trans rfl
theorem f242_23 : zi_fe 242 23 = some ((.istore_n 0), 1, 0, 0, 0, 0, 0) := (zl242_1 (Nat.le_of_ble_eq_true rfl)).trans rfl
theorem f242_24 : zi_fe 242 24 = some ((.iload_n 0), 1, 0, 0, 0, 0, 0) := (zl242_1 (Nat.le_of_ble_eq_true rfl)).trans rfl
theorem f242_25 : zi_fe 242 25 = some ((.iload_n 0), 1, 0, 0, 0, 0, 0) := (zl242_1 (Nat.le_of_ble_eq_true rfl)).trans rfl
theorem f242_26 : zi_fe 242 26 = some ((.iconst 4), 1, 0, 0, 0, 0, 0) := (zl242_1 (Nat.le_of_ble_eq_true rfl)).trans rfl
theorem f242_27 : zi_fe 242 27 = some (.iushr, 1, 0, 0, 0, 0, 0) := (zl242_1 (Nat.le_of_ble_eq_true rfl)).trans rfl
theorem f242_28 : zi_fe 242 28 = some (.iadd, 1, 0, 0, 0, 0, 0) := (zl242_1 (Nat.le_of_ble_eq_true rfl)).trans rfl
theorem f242_29 : zi_fe 242 29 = some ((.ldc_w 267), 3, 0, 0, 0, 888, 252645135) := (zl242_1 (Nat.le_of_ble_eq_true rfl)).trans rfl
theorem zl242_2 {pc : Nat} (h : 32 ≤ pc) : zi_fe 242 pc = zu242_2.lookup pc := (zl242_1 (Nat.le_trans (Nat.le_of_ble_eq_true rfl) h)).trans (zi_lkA (a := zi_i242_1) (c := 32) rfl h)
theorem f242_32 : zi_fe 242 32 = some (.iand, 1, 0, 0, 0, 0, 0) := (zl242_2 (Nat.le_of_ble_eq_true rfl)).trans rfl
theorem f242_33 : zi_fe 242 33 = some ((.istore_n 0), 1, 0, 0, 0, 0, 0) := (zl242_2 (Nat.le_of_ble_eq_true rfl)).trans rfl
theorem f242_34 : zi_fe 242 34 = some ((.iload_n 0), 1, 0, 0, 0, 0, 0) := (zl242_2 (Nat.le_of_ble_eq_true rfl)).trans rfl
theorem f242_35 : zi_fe 242 35 = some ((.iload_n 0), 1, 0, 0, 0, 0, 0) := (zl242_2 (Nat.le_of_ble_eq_true rfl)).trans rfl
theorem f242_36 : zi_fe 242 36 = some ((.bipush 8), 2, 0, 0, 0, 0, 0) := (zl242_2 (Nat.le_of_ble_eq_true rfl)).trans rfl
theorem f242_38 : zi_fe 242 38 = some (.iushr, 1, 0, 0, 0, 0, 0) := (zl242_2 (Nat.le_of_ble_eq_true rfl)).trans rfl
theorem f242_39 : zi_fe 242 39 = some (.iadd, 1, 0, 0, 0, 0, 0) := (zl242_2 (Nat.le_of_ble_eq_true rfl)).trans rfl
theorem f242_40 : zi_fe 242 40 = some ((.istore_n 0), 1, 0, 0, 0, 0, 0) := (zl242_2 (Nat.le_of_ble_eq_true rfl)).trans rfl
theorem f242_41 : zi_fe 242 41 = some ((.iload_n 0), 1, 0, 0, 0, 0, 0) := (zl242_2 (Nat.le_of_ble_eq_true rfl)).trans rfl
theorem f242_42 : zi_fe 242 42 = some ((.iload_n 0), 1, 0, 0, 0, 0, 0) := (zl242_2 (Nat.le_of_ble_eq_true rfl)).trans rfl
theorem f242_43 : zi_fe 242 43 = some ((.bipush 16), 2, 0, 0, 0, 0, 0) := (zl242_2 (Nat.le_of_ble_eq_true rfl)).trans rfl
theorem f242_45 : zi_fe 242 45 = some (.iushr, 1, 0, 0, 0, 0, 0) := (zl242_2 (Nat.le_of_ble_eq_true rfl)).trans rfl
theorem zl242_3 {pc : Nat} (h : 46 ≤ pc) : zi_fe 242 pc = zu242_3.lookup pc := (zl242_2 (Nat.le_trans (Nat.le_of_ble_eq_true rfl) h)).trans (zi_lkA (a := zi_i242_2) (c := 46) rfl h)
theorem f242_46 : zi_fe 242 46 = some (.iadd, 1, 0, 0, 0, 0, 0) := (zl242_3 (Nat.le_of_ble_eq_true rfl)).trans rfl
theorem f242_47 : zi_fe 242 47 = some ((.istore_n 0), 1, 0, 0, 0, 0, 0) := (zl242_3 (Nat.le_of_ble_eq_true rfl)).trans rfl
theorem f242_48 : zi_fe 242 48 = some ((.iload_n 0), 1, 0, 0, 0, 0, 0) := (zl242_3 (Nat.le_of_ble_eq_true rfl)).trans rfl
theorem f242_49 : zi_fe 242 49 = some ((.bipush 63), 2, 0, 0, 0, 0, 0) := (zl242_3 (Nat.le_of_ble_eq_true rfl)).trans rfl
theorem f242_51 : zi_fe 242 51 = some (.iand, 1, 0, 0, 0, 0, 0) := (zl242_3 (Nat.le_of_ble_eq_true rfl)).trans rfl
theorem f242_52 : zi_fe 242 52 = some (.ireturn, 1, 0, 0, 0, 0, 0) := (zl242_3 (Nat.le_of_ble_eq_true rfl)).trans rfl
theorem b242_0 {h : zi_Hp} {x0 : Int32}  : zv 1 242 0 [.int x0] [] h = some (some (.int ((((((((x0 - ((((x0).toUInt32 >>> ((1).toUInt32 &&& Int32.toUInt32 31)).toInt32) &&& 1431655765)) &&& 858993459) + (((((x0 - ((((x0).toUInt32 >>> ((1).toUInt32 &&& Int32.toUInt32 31)).toInt32) &&& 1431655765))).toUInt32 >>> ((2).toUInt32 &&& Int32.toUInt32 31)).toInt32) &&& 858993459)) + ((((((x0 - ((((x0).toUInt32 >>> ((1).toUInt32 &&& Int32.toUInt32 31)).toInt32) &&& 1431655765)) &&& 858993459) + (((((x0 - ((((x0).toUInt32 >>> ((1).toUInt32 &&& Int32.toUInt32 31)).toInt32) &&& 1431655765))).toUInt32 >>> ((2).toUInt32 &&& Int32.toUInt32 31)).toInt32) &&& 858993459))).toUInt32 >>> ((4).toUInt32 &&& Int32.toUInt32 31)).toInt32)) &&& 252645135) + ((((((((x0 - ((((x0).toUInt32 >>> ((1).toUInt32 &&& Int32.toUInt32 31)).toInt32) &&& 1431655765)) &&& 858993459) + (((((x0 - ((((x0).toUInt32 >>> ((1).toUInt32 &&& Int32.toUInt32 31)).toInt32) &&& 1431655765))).toUInt32 >>> ((2).toUInt32 &&& Int32.toUInt32 31)).toInt32) &&& 858993459)) + ((((((x0 - ((((x0).toUInt32 >>> ((1).toUInt32 &&& Int32.toUInt32 31)).toInt32) &&& 1431655765)) &&& 858993459) + (((((x0 - ((((x0).toUInt32 >>> ((1).toUInt32 &&& Int32.toUInt32 31)).toInt32) &&& 1431655765))).toUInt32 >>> ((2).toUInt32 &&& Int32.toUInt32 31)).toInt32) &&& 858993459))).toUInt32 >>> ((4).toUInt32 &&& Int32.toUInt32 31)).toInt32)) &&& 252645135)).toUInt32 >>> ((8).toUInt32 &&& Int32.toUInt32 31)).toInt32)) + (((((((((x0 - ((((x0).toUInt32 >>> ((1).toUInt32 &&& Int32.toUInt32 31)).toInt32) &&& 1431655765)) &&& 858993459) + (((((x0 - ((((x0).toUInt32 >>> ((1).toUInt32 &&& Int32.toUInt32 31)).toInt32) &&& 1431655765))).toUInt32 >>> ((2).toUInt32 &&& Int32.toUInt32 31)).toInt32) &&& 858993459)) + ((((((x0 - ((((x0).toUInt32 >>> ((1).toUInt32 &&& Int32.toUInt32 31)).toInt32) &&& 1431655765)) &&& 858993459) + (((((x0 - ((((x0).toUInt32 >>> ((1).toUInt32 &&& Int32.toUInt32 31)).toInt32) &&& 1431655765))).toUInt32 >>> ((2).toUInt32 &&& Int32.toUInt32 31)).toInt32) &&& 858993459))).toUInt32 >>> ((4).toUInt32 &&& Int32.toUInt32 31)).toInt32)) &&& 252645135) + ((((((((x0 - ((((x0).toUInt32 >>> ((1).toUInt32 &&& Int32.toUInt32 31)).toInt32) &&& 1431655765)) &&& 858993459) + (((((x0 - ((((x0).toUInt32 >>> ((1).toUInt32 &&& Int32.toUInt32 31)).toInt32) &&& 1431655765))).toUInt32 >>> ((2).toUInt32 &&& Int32.toUInt32 31)).toInt32) &&& 858993459)) + ((((((x0 - ((((x0).toUInt32 >>> ((1).toUInt32 &&& Int32.toUInt32 31)).toInt32) &&& 1431655765)) &&& 858993459) + (((((x0 - ((((x0).toUInt32 >>> ((1).toUInt32 &&& Int32.toUInt32 31)).toInt32) &&& 1431655765))).toUInt32 >>> ((2).toUInt32 &&& Int32.toUInt32 31)).toInt32) &&& 858993459))).toUInt32 >>> ((4).toUInt32 &&& Int32.toUInt32 31)).toInt32)) &&& 252645135)).toUInt32 >>> ((8).toUInt32 &&& Int32.toUInt32 31)).toInt32))).toUInt32 >>> ((16).toUInt32 &&& Int32.toUInt32 31)).toInt32)) &&& 63)), h) := by
  refine Eq.trans (zv_next f242_0 rfl) ?_
  refine Eq.trans (zv_next f242_1 rfl) ?_
  refine Eq.trans (zs_ic f242_2 ic_1) ?_
  refine Eq.trans (zv_next f242_3 rfl) ?_
  refine Eq.trans (zs_lw f242_4 ic_1431655765) ?_
  refine Eq.trans (zv_next f242_7 rfl) ?_
  refine Eq.trans (zv_next f242_8 rfl) ?_
  refine Eq.trans (zv_next f242_9 rfl) ?_
  refine Eq.trans (zv_next f242_10 rfl) ?_
  refine Eq.trans (zs_lw f242_11 ic_858993459) ?_
  refine Eq.trans (zv_next f242_14 rfl) ?_
  refine Eq.trans (zv_next f242_15 rfl) ?_
  refine Eq.trans (zs_ic f242_16 ic_2) ?_
  refine Eq.trans (zv_next f242_17 rfl) ?_
  refine Eq.trans (zs_lw f242_18 ic_858993459) ?_
  refine Eq.trans (zv_next f242_21 rfl) ?_
  refine Eq.trans (zv_next f242_22 rfl) ?_
  refine Eq.trans (zv_next f242_23 rfl) ?_
  refine Eq.trans (zv_next f242_24 rfl) ?_
  refine Eq.trans (zv_next f242_25 rfl) ?_
  refine Eq.trans (zs_ic f242_26 ic_4) ?_
  refine Eq.trans (zv_next f242_27 rfl) ?_
  refine Eq.trans (zv_next f242_28 rfl) ?_
  refine Eq.trans (zs_lw f242_29 ic_252645135) ?_
  refine Eq.trans (zv_next f242_32 rfl) ?_
  refine Eq.trans (zv_next f242_33 rfl) ?_
  refine Eq.trans (zv_next f242_34 rfl) ?_
  refine Eq.trans (zv_next f242_35 rfl) ?_
  refine Eq.trans (zs_bp f242_36 bp_8) ?_
  refine Eq.trans (zv_next f242_38 rfl) ?_
  refine Eq.trans (zv_next f242_39 rfl) ?_
  refine Eq.trans (zv_next f242_40 rfl) ?_
  refine Eq.trans (zv_next f242_41 rfl) ?_
  refine Eq.trans (zv_next f242_42 rfl) ?_
  refine Eq.trans (zs_bp f242_43 bp_16) ?_
  refine Eq.trans (zv_next f242_45 rfl) ?_
  refine Eq.trans (zv_next f242_46 rfl) ?_
  refine Eq.trans (zv_next f242_47 rfl) ?_
  refine Eq.trans (zv_next f242_48 rfl) ?_
  refine Eq.trans (zs_bp f242_49 bp_63) ?_
  refine Eq.trans (zv_next f242_51 rfl) ?_
  exact zs_ret0 f242_52
set_option maxRecDepth 20000 in
theorem zq243 : zi_M[243]? = some zi_m243 := rfl
theorem zl243_0 {pc : Nat} (_ : 0 ≤ pc) : zi_fe 243 pc = zu243_0.lookup pc := zi_feA zq243 pc
theorem f243_0 : zi_fe 243 0 = some ((.new 7), 3, 7, 9, 110, 109, 0) := (zl243_0 (Nat.le_of_ble_eq_true rfl)).trans rfl
theorem f243_3 : zi_fe 243 3 = some (.dup, 1, 0, 0, 0, 0, 0) := (zl243_0 (Nat.le_of_ble_eq_true rfl)).trans rfl
theorem f243_4 : zi_fe 243 4 = some ((.invokespecial 9), 3, 104, 2, 7, 111, 1) := (zl243_0 (Nat.le_of_ble_eq_true rfl)).trans rfl
theorem f243_7 : zi_fe 243 7 = some ((.astore_n 1), 1, 0, 0, 0, 0, 0) := (zl243_0 (Nat.le_of_ble_eq_true rfl)).trans rfl
theorem f243_8 : zi_fe 243 8 = some ((.new 10), 3, 8, 39, 1052, 1051, 0) := (zl243_0 (Nat.le_of_ble_eq_true rfl)).trans rfl
theorem f243_11 : zi_fe 243 11 = some (.dup, 1, 0, 0, 0, 0, 0) := (zl243_0 (Nat.le_of_ble_eq_true rfl)).trans rfl
theorem f243_12 : zi_fe 243 12 = some ((.invokespecial 12), 3, 141, 2, 8, 1053, 1) := (zl243_0 (Nat.le_of_ble_eq_true rfl)).trans rfl
theorem f243_15 : zi_fe 243 15 = some ((.astore_n 2), 1, 0, 0, 0, 0, 0) := (zl243_0 (Nat.le_of_ble_eq_true rfl)).trans rfl
theorem f243_16 : zi_fe 243 16 = some ((.iconst 0), 1, 0, 0, 0, 0, 0) := (zl243_0 (Nat.le_of_ble_eq_true rfl)).trans rfl
theorem f243_17 : zi_fe 243 17 = some ((.istore_n 3), 1, 0, 0, 0, 0, 0) := (zl243_0 (Nat.le_of_ble_eq_true rfl)).trans rfl
theorem f243_18 : zi_fe 243 18 = some ((.iload_n 3), 1, 0, 0, 0, 0, 0) := (zl243_0 (Nat.le_of_ble_eq_true rfl)).trans rfl
theorem f243_19 : zi_fe 243 19 = some ((.aload_n 0), 1, 0, 0, 0, 0, 0) := (zl243_0 (Nat.le_of_ble_eq_true rfl)).trans rfl
theorem zl243_1 {pc : Nat} (h : 20 ≤ pc) : zi_fe 243 pc = zu243_1.lookup pc := (zl243_0 (Nat.le_trans (Nat.le_of_ble_eq_true rfl) h)).trans (zi_lkA (a := zi_i243_0) (c := 20) rfl h)
theorem f243_20 : zi_fe 243 20 = some (.arraylength, 1, 0, 0, 0, 0, 0) := (zl243_1 (Nat.le_of_ble_eq_true rfl)).trans rfl
theorem f243_21 : zi_fe 243 21 = some ((.iconst 5), 1, 0, 0, 0, 0, 0) := (zl243_1 (Nat.le_of_ble_eq_true rfl)).trans rfl
theorem f243_22 : zi_fe 243 22 = some (.isub, 1, 0, 0, 0, 0, 0) := (zl243_1 (Nat.le_of_ble_eq_true rfl)).trans rfl
theorem f243_23 : zi_fe 243 23 = some ((.if_icmp .gt 940), 3, 0, 0, 0, 0, 0) := (zl243_1 (Nat.le_of_ble_eq_true rfl)).trans rfl
theorem f243_26 : zi_fe 243 26 = some ((.aload_n 0), 1, 0, 0, 0, 0, 0) := (zl243_1 (Nat.le_of_ble_eq_true rfl)).trans rfl
theorem f243_27 : zi_fe 243 27 = some ((.iload_n 3), 1, 0, 0, 0, 0, 0) := (zl243_1 (Nat.le_of_ble_eq_true rfl)).trans rfl
theorem f243_28 : zi_fe 243 28 = some (.iaload, 1, 0, 0, 0, 0, 0) := (zl243_1 (Nat.le_of_ble_eq_true rfl)).trans rfl
theorem f243_29 : zi_fe 243 29 = some ((.bipush 31), 2, 0, 0, 0, 0, 0) := (zl243_1 (Nat.le_of_ble_eq_true rfl)).trans rfl
theorem f243_31 : zi_fe 243 31 = some (.iand, 1, 0, 0, 0, 0, 0) := (zl243_1 (Nat.le_of_ble_eq_true rfl)).trans rfl
theorem f243_32 : zi_fe 243 32 = some ((.tableswitch 925 0 26 #[124, 147, 170, 183, 196, 219, 252, 295, 328, 351, 394, 417, 450, 473, 496, 529, 572, 615, 668, 681, 704, 727, 750, 793, 836, 889, 902]), 124, 0, 0, 0, 0, 0) := (zl243_1 (Nat.le_of_ble_eq_true rfl)).trans rfl
theorem f243_156 : zi_fe 243 156 = some ((.aload_n 1), 1, 0, 0, 0, 0, 0) := (zl243_1 (Nat.le_of_ble_eq_true rfl)).trans rfl
theorem f243_157 : zi_fe 243 157 = some ((.aload_n 0), 1, 0, 0, 0, 0, 0) := (zl243_1 (Nat.le_of_ble_eq_true rfl)).trans rfl
theorem zl243_2 {pc : Nat} (h : 158 ≤ pc) : zi_fe 243 pc = zu243_2.lookup pc := (zl243_1 (Nat.le_trans (Nat.le_of_ble_eq_true rfl) h)).trans (zi_lkA (a := zi_i243_1) (c := 158) rfl h)
theorem f243_158 : zi_fe 243 158 = some ((.iload_n 3), 1, 0, 0, 0, 0, 0) := (zl243_2 (Nat.le_of_ble_eq_true rfl)).trans rfl
theorem f243_159 : zi_fe 243 159 = some ((.iconst 1), 1, 0, 0, 0, 0, 0) := (zl243_2 (Nat.le_of_ble_eq_true rfl)).trans rfl
theorem f243_160 : zi_fe 243 160 = some (.iadd, 1, 0, 0, 0, 0, 0) := (zl243_2 (Nat.le_of_ble_eq_true rfl)).trans rfl
theorem f243_161 : zi_fe 243 161 = some (.iaload, 1, 0, 0, 0, 0, 0) := (zl243_2 (Nat.le_of_ble_eq_true rfl)).trans rfl
theorem f243_162 : zi_fe 243 162 = some ((.invokevirtual 13), 3, 105, 0, 7, 439, 2) := (zl243_2 (Nat.le_of_ble_eq_true rfl)).trans rfl
theorem f243_165 : zi_fe 243 165 = some (.pop, 1, 0, 0, 0, 0, 0) := (zl243_2 (Nat.le_of_ble_eq_true rfl)).trans rfl
theorem f243_166 : zi_fe 243 166 = some ((.aload_n 2), 1, 0, 0, 0, 0, 0) := (zl243_2 (Nat.le_of_ble_eq_true rfl)).trans rfl
theorem f243_167 : zi_fe 243 167 = some ((.aload_n 0), 1, 0, 0, 0, 0, 0) := (zl243_2 (Nat.le_of_ble_eq_true rfl)).trans rfl
theorem f243_168 : zi_fe 243 168 = some ((.iload_n 3), 1, 0, 0, 0, 0, 0) := (zl243_2 (Nat.le_of_ble_eq_true rfl)).trans rfl
theorem f243_169 : zi_fe 243 169 = some ((.iconst 1), 1, 0, 0, 0, 0, 0) := (zl243_2 (Nat.le_of_ble_eq_true rfl)).trans rfl
theorem f243_170 : zi_fe 243 170 = some (.iadd, 1, 0, 0, 0, 0, 0) := (zl243_2 (Nat.le_of_ble_eq_true rfl)).trans rfl
theorem f243_171 : zi_fe 243 171 = some (.iaload, 1, 0, 0, 0, 0, 0) := (zl243_2 (Nat.le_of_ble_eq_true rfl)).trans rfl
theorem zl243_3 {pc : Nat} (h : 172 ≤ pc) : zi_fe 243 pc = zu243_3.lookup pc := (zl243_2 (Nat.le_trans (Nat.le_of_ble_eq_true rfl) h)).trans (zi_lkA (a := zi_i243_2) (c := 172) rfl h)
theorem f243_172 : zi_fe 243 172 = some ((.invokevirtual 17), 3, 180, 0, 8, 1184, 2) := (zl243_3 (Nat.le_of_ble_eq_true rfl)).trans rfl
theorem f243_175 : zi_fe 243 175 = some (.pop, 1, 0, 0, 0, 0, 0) := (zl243_3 (Nat.le_of_ble_eq_true rfl)).trans rfl
theorem f243_176 : zi_fe 243 176 = some ((.goto 781), 3, 0, 0, 0, 0, 0) := (zl243_3 (Nat.le_of_ble_eq_true rfl)).trans rfl
theorem f243_179 : zi_fe 243 179 = some ((.aload_n 1), 1, 0, 0, 0, 0, 0) := (zl243_3 (Nat.le_of_ble_eq_true rfl)).trans rfl
theorem f243_180 : zi_fe 243 180 = some ((.aload_n 0), 1, 0, 0, 0, 0, 0) := (zl243_3 (Nat.le_of_ble_eq_true rfl)).trans rfl
theorem f243_181 : zi_fe 243 181 = some ((.iload_n 3), 1, 0, 0, 0, 0, 0) := (zl243_3 (Nat.le_of_ble_eq_true rfl)).trans rfl
theorem f243_182 : zi_fe 243 182 = some ((.iconst 1), 1, 0, 0, 0, 0, 0) := (zl243_3 (Nat.le_of_ble_eq_true rfl)).trans rfl
theorem f243_183 : zi_fe 243 183 = some (.iadd, 1, 0, 0, 0, 0, 0) := (zl243_3 (Nat.le_of_ble_eq_true rfl)).trans rfl
theorem f243_184 : zi_fe 243 184 = some (.iaload, 1, 0, 0, 0, 0, 0) := (zl243_3 (Nat.le_of_ble_eq_true rfl)).trans rfl
theorem f243_185 : zi_fe 243 185 = some ((.invokevirtual 18), 3, 106, 0, 7, 447, 2) := (zl243_3 (Nat.le_of_ble_eq_true rfl)).trans rfl
theorem f243_188 : zi_fe 243 188 = some (.pop, 1, 0, 0, 0, 0, 0) := (zl243_3 (Nat.le_of_ble_eq_true rfl)).trans rfl
theorem f243_189 : zi_fe 243 189 = some ((.aload_n 2), 1, 0, 0, 0, 0, 0) := (zl243_3 (Nat.le_of_ble_eq_true rfl)).trans rfl
theorem zl243_4 {pc : Nat} (h : 190 ≤ pc) : zi_fe 243 pc = zu243_4.lookup pc := (zl243_3 (Nat.le_trans (Nat.le_of_ble_eq_true rfl) h)).trans (zi_lkA (a := zi_i243_3) (c := 190) rfl h)
theorem f243_190 : zi_fe 243 190 = some ((.aload_n 0), 1, 0, 0, 0, 0, 0) := (zl243_4 (Nat.le_of_ble_eq_true rfl)).trans rfl
theorem f243_191 : zi_fe 243 191 = some ((.iload_n 3), 1, 0, 0, 0, 0, 0) := (zl243_4 (Nat.le_of_ble_eq_true rfl)).trans rfl
theorem f243_192 : zi_fe 243 192 = some ((.iconst 1), 1, 0, 0, 0, 0, 0) := (zl243_4 (Nat.le_of_ble_eq_true rfl)).trans rfl
theorem f243_193 : zi_fe 243 193 = some (.iadd, 1, 0, 0, 0, 0, 0) := (zl243_4 (Nat.le_of_ble_eq_true rfl)).trans rfl
theorem f243_194 : zi_fe 243 194 = some (.iaload, 1, 0, 0, 0, 0, 0) := (zl243_4 (Nat.le_of_ble_eq_true rfl)).trans rfl
theorem f243_195 : zi_fe 243 195 = some ((.invokevirtual 21), 3, 181, 0, 8, 1192, 2) := (zl243_4 (Nat.le_of_ble_eq_true rfl)).trans rfl
theorem f243_198 : zi_fe 243 198 = some (.pop, 1, 0, 0, 0, 0, 0) := (zl243_4 (Nat.le_of_ble_eq_true rfl)).trans rfl
theorem f243_199 : zi_fe 243 199 = some ((.goto 758), 3, 0, 0, 0, 0, 0) := (zl243_4 (Nat.le_of_ble_eq_true rfl)).trans rfl
theorem f243_202 : zi_fe 243 202 = some ((.aload_n 1), 1, 0, 0, 0, 0, 0) := (zl243_4 (Nat.le_of_ble_eq_true rfl)).trans rfl
theorem f243_203 : zi_fe 243 203 = some ((.invokevirtual 22), 3, 107, 0, 7, 451, 1) := (zl243_4 (Nat.le_of_ble_eq_true rfl)).trans rfl
theorem f243_206 : zi_fe 243 206 = some (.pop, 1, 0, 0, 0, 0, 0) := (zl243_4 (Nat.le_of_ble_eq_true rfl)).trans rfl
theorem f243_207 : zi_fe 243 207 = some ((.aload_n 2), 1, 0, 0, 0, 0, 0) := (zl243_4 (Nat.le_of_ble_eq_true rfl)).trans rfl
theorem zl243_5 {pc : Nat} (h : 208 ≤ pc) : zi_fe 243 pc = zu243_5.lookup pc := (zl243_4 (Nat.le_trans (Nat.le_of_ble_eq_true rfl) h)).trans (zi_lkA (a := zi_i243_4) (c := 208) rfl h)
theorem f243_208 : zi_fe 243 208 = some ((.invokevirtual 26), 3, 192, 0, 8, 1196, 1) := (zl243_5 (Nat.le_of_ble_eq_true rfl)).trans rfl
theorem f243_211 : zi_fe 243 211 = some (.pop, 1, 0, 0, 0, 0, 0) := (zl243_5 (Nat.le_of_ble_eq_true rfl)).trans rfl
theorem f243_212 : zi_fe 243 212 = some ((.goto 745), 3, 0, 0, 0, 0, 0) := (zl243_5 (Nat.le_of_ble_eq_true rfl)).trans rfl
theorem f243_215 : zi_fe 243 215 = some ((.aload_n 1), 1, 0, 0, 0, 0, 0) := (zl243_5 (Nat.le_of_ble_eq_true rfl)).trans rfl
theorem f243_216 : zi_fe 243 216 = some ((.invokevirtual 27), 3, 108, 0, 7, 758, 1) := (zl243_5 (Nat.le_of_ble_eq_true rfl)).trans rfl
theorem f243_219 : zi_fe 243 219 = some (.pop, 1, 0, 0, 0, 0, 0) := (zl243_5 (Nat.le_of_ble_eq_true rfl)).trans rfl
theorem f243_220 : zi_fe 243 220 = some ((.aload_n 2), 1, 0, 0, 0, 0, 0) := (zl243_5 (Nat.le_of_ble_eq_true rfl)).trans rfl
theorem f243_221 : zi_fe 243 221 = some ((.invokevirtual 30), 3, 193, 0, 8, 1379, 1) := (zl243_5 (Nat.le_of_ble_eq_true rfl)).trans rfl
theorem f243_224 : zi_fe 243 224 = some (.pop, 1, 0, 0, 0, 0, 0) := (zl243_5 (Nat.le_of_ble_eq_true rfl)).trans rfl
theorem f243_225 : zi_fe 243 225 = some ((.goto 732), 3, 0, 0, 0, 0, 0) := (zl243_5 (Nat.le_of_ble_eq_true rfl)).trans rfl
theorem f243_228 : zi_fe 243 228 = some ((.aload_n 1), 1, 0, 0, 0, 0, 0) := (zl243_5 (Nat.le_of_ble_eq_true rfl)).trans rfl
theorem f243_229 : zi_fe 243 229 = some ((.aload_n 0), 1, 0, 0, 0, 0, 0) := (zl243_5 (Nat.le_of_ble_eq_true rfl)).trans rfl
theorem zl243_6 {pc : Nat} (h : 230 ≤ pc) : zi_fe 243 pc = zu243_6.lookup pc := (zl243_5 (Nat.le_trans (Nat.le_of_ble_eq_true rfl) h)).trans (zi_lkA (a := zi_i243_5) (c := 230) rfl h)
theorem f243_230 : zi_fe 243 230 = some ((.iload_n 3), 1, 0, 0, 0, 0, 0) := (zl243_6 (Nat.le_of_ble_eq_true rfl)).trans rfl
theorem f243_231 : zi_fe 243 231 = some ((.iconst 1), 1, 0, 0, 0, 0, 0) := (zl243_6 (Nat.le_of_ble_eq_true rfl)).trans rfl
theorem f243_232 : zi_fe 243 232 = some (.iadd, 1, 0, 0, 0, 0, 0) := (zl243_6 (Nat.le_of_ble_eq_true rfl)).trans rfl
theorem f243_233 : zi_fe 243 233 = some (.iaload, 1, 0, 0, 0, 0, 0) := (zl243_6 (Nat.le_of_ble_eq_true rfl)).trans rfl
theorem f243_234 : zi_fe 243 234 = some ((.invokevirtual 31), 3, 109, 0, 7, 762, 2) := (zl243_6 (Nat.le_of_ble_eq_true rfl)).trans rfl
theorem f243_237 : zi_fe 243 237 = some (.pop, 1, 0, 0, 0, 0, 0) := (zl243_6 (Nat.le_of_ble_eq_true rfl)).trans rfl
theorem f243_238 : zi_fe 243 238 = some ((.aload_n 2), 1, 0, 0, 0, 0, 0) := (zl243_6 (Nat.le_of_ble_eq_true rfl)).trans rfl
theorem f243_239 : zi_fe 243 239 = some ((.aload_n 0), 1, 0, 0, 0, 0, 0) := (zl243_6 (Nat.le_of_ble_eq_true rfl)).trans rfl
theorem f243_240 : zi_fe 243 240 = some ((.iload_n 3), 1, 0, 0, 0, 0, 0) := (zl243_6 (Nat.le_of_ble_eq_true rfl)).trans rfl
theorem f243_241 : zi_fe 243 241 = some ((.iconst 1), 1, 0, 0, 0, 0, 0) := (zl243_6 (Nat.le_of_ble_eq_true rfl)).trans rfl
theorem f243_242 : zi_fe 243 242 = some (.iadd, 1, 0, 0, 0, 0, 0) := (zl243_6 (Nat.le_of_ble_eq_true rfl)).trans rfl
theorem f243_243 : zi_fe 243 243 = some (.iaload, 1, 0, 0, 0, 0, 0) := (zl243_6 (Nat.le_of_ble_eq_true rfl)).trans rfl
theorem zl243_7 {pc : Nat} (h : 244 ≤ pc) : zi_fe 243 pc = zu243_7.lookup pc := (zl243_6 (Nat.le_trans (Nat.le_of_ble_eq_true rfl) h)).trans (zi_lkA (a := zi_i243_6) (c := 244) rfl h)
theorem f243_244 : zi_fe 243 244 = some ((.invokevirtual 34), 3, 201, 0, 8, 1383, 2) := (zl243_7 (Nat.le_of_ble_eq_true rfl)).trans rfl
theorem f243_247 : zi_fe 243 247 = some (.pop, 1, 0, 0, 0, 0, 0) := (zl243_7 (Nat.le_of_ble_eq_true rfl)).trans rfl
theorem f243_248 : zi_fe 243 248 = some ((.goto 709), 3, 0, 0, 0, 0, 0) := (zl243_7 (Nat.le_of_ble_eq_true rfl)).trans rfl
theorem f243_251 : zi_fe 243 251 = some ((.aload_n 1), 1, 0, 0, 0, 0, 0) := (zl243_7 (Nat.le_of_ble_eq_true rfl)).trans rfl
theorem f243_252 : zi_fe 243 252 = some ((.aload_n 0), 1, 0, 0, 0, 0, 0) := (zl243_7 (Nat.le_of_ble_eq_true rfl)).trans rfl
theorem f243_253 : zi_fe 243 253 = some ((.iload_n 3), 1, 0, 0, 0, 0, 0) := (zl243_7 (Nat.le_of_ble_eq_true rfl)).trans rfl
theorem f243_254 : zi_fe 243 254 = some ((.iconst 1), 1, 0, 0, 0, 0, 0) := (zl243_7 (Nat.le_of_ble_eq_true rfl)).trans rfl
theorem f243_255 : zi_fe 243 255 = some (.iadd, 1, 0, 0, 0, 0, 0) := (zl243_7 (Nat.le_of_ble_eq_true rfl)).trans rfl
theorem f243_256 : zi_fe 243 256 = some (.iaload, 1, 0, 0, 0, 0, 0) := (zl243_7 (Nat.le_of_ble_eq_true rfl)).trans rfl
theorem f243_257 : zi_fe 243 257 = some ((.aload_n 0), 1, 0, 0, 0, 0, 0) := (zl243_7 (Nat.le_of_ble_eq_true rfl)).trans rfl
theorem f243_258 : zi_fe 243 258 = some ((.iload_n 3), 1, 0, 0, 0, 0, 0) := (zl243_7 (Nat.le_of_ble_eq_true rfl)).trans rfl
theorem f243_259 : zi_fe 243 259 = some ((.iconst 2), 1, 0, 0, 0, 0, 0) := (zl243_7 (Nat.le_of_ble_eq_true rfl)).trans rfl
theorem zl243_8 {pc : Nat} (h : 260 ≤ pc) : zi_fe 243 pc = zu243_8.lookup pc := (zl243_7 (Nat.le_trans (Nat.le_of_ble_eq_true rfl) h)).trans (zi_lkA (a := zi_i243_7) (c := 260) rfl h)
theorem f243_260 : zi_fe 243 260 = some (.iadd, 1, 0, 0, 0, 0, 0) := (zl243_8 (Nat.le_of_ble_eq_true rfl)).trans rfl
theorem f243_261 : zi_fe 243 261 = some (.iaload, 1, 0, 0, 0, 0, 0) := (zl243_8 (Nat.le_of_ble_eq_true rfl)).trans rfl
theorem f243_262 : zi_fe 243 262 = some ((.invokevirtual 35), 3, 110, 0, 7, 785, 3) := (zl243_8 (Nat.le_of_ble_eq_true rfl)).trans rfl
theorem f243_265 : zi_fe 243 265 = some (.pop, 1, 0, 0, 0, 0, 0) := (zl243_8 (Nat.le_of_ble_eq_true rfl)).trans rfl
theorem f243_266 : zi_fe 243 266 = some ((.aload_n 2), 1, 0, 0, 0, 0, 0) := (zl243_8 (Nat.le_of_ble_eq_true rfl)).trans rfl
theorem f243_267 : zi_fe 243 267 = some ((.aload_n 0), 1, 0, 0, 0, 0, 0) := (zl243_8 (Nat.le_of_ble_eq_true rfl)).trans rfl
theorem f243_268 : zi_fe 243 268 = some ((.iload_n 3), 1, 0, 0, 0, 0, 0) := (zl243_8 (Nat.le_of_ble_eq_true rfl)).trans rfl
theorem f243_269 : zi_fe 243 269 = some ((.iconst 1), 1, 0, 0, 0, 0, 0) := (zl243_8 (Nat.le_of_ble_eq_true rfl)).trans rfl
theorem f243_270 : zi_fe 243 270 = some (.iadd, 1, 0, 0, 0, 0, 0) := (zl243_8 (Nat.le_of_ble_eq_true rfl)).trans rfl
theorem f243_271 : zi_fe 243 271 = some (.iaload, 1, 0, 0, 0, 0, 0) := (zl243_8 (Nat.le_of_ble_eq_true rfl)).trans rfl
theorem f243_272 : zi_fe 243 272 = some ((.aload_n 0), 1, 0, 0, 0, 0, 0) := (zl243_8 (Nat.le_of_ble_eq_true rfl)).trans rfl
theorem f243_273 : zi_fe 243 273 = some ((.iload_n 3), 1, 0, 0, 0, 0, 0) := (zl243_8 (Nat.le_of_ble_eq_true rfl)).trans rfl
theorem zl243_9 {pc : Nat} (h : 274 ≤ pc) : zi_fe 243 pc = zu243_9.lookup pc := (zl243_8 (Nat.le_trans (Nat.le_of_ble_eq_true rfl) h)).trans (zi_lkA (a := zi_i243_8) (c := 274) rfl h)
theorem f243_274 : zi_fe 243 274 = some ((.iconst 2), 1, 0, 0, 0, 0, 0) := (zl243_9 (Nat.le_of_ble_eq_true rfl)).trans rfl
theorem f243_275 : zi_fe 243 275 = some (.iadd, 1, 0, 0, 0, 0, 0) := (zl243_9 (Nat.le_of_ble_eq_true rfl)).trans rfl
theorem f243_276 : zi_fe 243 276 = some (.iaload, 1, 0, 0, 0, 0, 0) := (zl243_9 (Nat.le_of_ble_eq_true rfl)).trans rfl
theorem f243_277 : zi_fe 243 277 = some ((.invokevirtual 39), 3, 202, 0, 8, 1403, 3) := (zl243_9 (Nat.le_of_ble_eq_true rfl)).trans rfl
theorem f243_280 : zi_fe 243 280 = some (.pop, 1, 0, 0, 0, 0, 0) := (zl243_9 (Nat.le_of_ble_eq_true rfl)).trans rfl
theorem f243_281 : zi_fe 243 281 = some ((.goto 676), 3, 0, 0, 0, 0, 0) := (zl243_9 (Nat.le_of_ble_eq_true rfl)).trans rfl
theorem f243_284 : zi_fe 243 284 = some ((.aload_n 1), 1, 0, 0, 0, 0, 0) := (zl243_9 (Nat.le_of_ble_eq_true rfl)).trans rfl
theorem f243_285 : zi_fe 243 285 = some ((.aload_n 0), 1, 0, 0, 0, 0, 0) := (zl243_9 (Nat.le_of_ble_eq_true rfl)).trans rfl
theorem f243_286 : zi_fe 243 286 = some ((.iload_n 3), 1, 0, 0, 0, 0, 0) := (zl243_9 (Nat.le_of_ble_eq_true rfl)).trans rfl
theorem f243_287 : zi_fe 243 287 = some ((.iconst 1), 1, 0, 0, 0, 0, 0) := (zl243_9 (Nat.le_of_ble_eq_true rfl)).trans rfl
theorem f243_288 : zi_fe 243 288 = some (.iadd, 1, 0, 0, 0, 0, 0) := (zl243_9 (Nat.le_of_ble_eq_true rfl)).trans rfl
theorem f243_289 : zi_fe 243 289 = some (.iaload, 1, 0, 0, 0, 0, 0) := (zl243_9 (Nat.le_of_ble_eq_true rfl)).trans rfl
theorem zl243_10 {pc : Nat} (h : 290 ≤ pc) : zi_fe 243 pc = zu243_10.lookup pc := (zl243_9 (Nat.le_trans (Nat.le_of_ble_eq_true rfl) h)).trans (zi_lkA (a := zi_i243_9) (c := 290) rfl h)
theorem f243_290 : zi_fe 243 290 = some ((.aload_n 0), 1, 0, 0, 0, 0, 0) := (zl243_10 (Nat.le_of_ble_eq_true rfl)).trans rfl
theorem f243_291 : zi_fe 243 291 = some ((.iload_n 3), 1, 0, 0, 0, 0, 0) := (zl243_10 (Nat.le_of_ble_eq_true rfl)).trans rfl
theorem f243_292 : zi_fe 243 292 = some ((.iconst 2), 1, 0, 0, 0, 0, 0) := (zl243_10 (Nat.le_of_ble_eq_true rfl)).trans rfl
theorem f243_293 : zi_fe 243 293 = some (.iadd, 1, 0, 0, 0, 0, 0) := (zl243_10 (Nat.le_of_ble_eq_true rfl)).trans rfl
theorem f243_294 : zi_fe 243 294 = some (.iaload, 1, 0, 0, 0, 0, 0) := (zl243_10 (Nat.le_of_ble_eq_true rfl)).trans rfl
theorem f243_295 : zi_fe 243 295 = some ((.aload_n 0), 1, 0, 0, 0, 0, 0) := (zl243_10 (Nat.le_of_ble_eq_true rfl)).trans rfl
theorem f243_296 : zi_fe 243 296 = some ((.iload_n 3), 1, 0, 0, 0, 0, 0) := (zl243_10 (Nat.le_of_ble_eq_true rfl)).trans rfl
theorem f243_297 : zi_fe 243 297 = some ((.iconst 3), 1, 0, 0, 0, 0, 0) := (zl243_10 (Nat.le_of_ble_eq_true rfl)).trans rfl
theorem f243_298 : zi_fe 243 298 = some (.iadd, 1, 0, 0, 0, 0, 0) := (zl243_10 (Nat.le_of_ble_eq_true rfl)).trans rfl
theorem f243_299 : zi_fe 243 299 = some (.iaload, 1, 0, 0, 0, 0, 0) := (zl243_10 (Nat.le_of_ble_eq_true rfl)).trans rfl
theorem f243_300 : zi_fe 243 300 = some ((.invokevirtual 40), 3, 111, 0, 7, 791, 4) := (zl243_10 (Nat.le_of_ble_eq_true rfl)).trans rfl
theorem f243_303 : zi_fe 243 303 = some (.pop, 1, 0, 0, 0, 0, 0) := (zl243_10 (Nat.le_of_ble_eq_true rfl)).trans rfl
theorem zl243_11 {pc : Nat} (h : 304 ≤ pc) : zi_fe 243 pc = zu243_11.lookup pc := (zl243_10 (Nat.le_trans (Nat.le_of_ble_eq_true rfl) h)).trans (zi_lkA (a := zi_i243_10) (c := 304) rfl h)
theorem f243_304 : zi_fe 243 304 = some ((.aload_n 2), 1, 0, 0, 0, 0, 0) := (zl243_11 (Nat.le_of_ble_eq_true rfl)).trans rfl
theorem f243_305 : zi_fe 243 305 = some ((.aload_n 0), 1, 0, 0, 0, 0, 0) := (zl243_11 (Nat.le_of_ble_eq_true rfl)).trans rfl
theorem f243_306 : zi_fe 243 306 = some ((.iload_n 3), 1, 0, 0, 0, 0, 0) := (zl243_11 (Nat.le_of_ble_eq_true rfl)).trans rfl
theorem f243_307 : zi_fe 243 307 = some ((.iconst 1), 1, 0, 0, 0, 0, 0) := (zl243_11 (Nat.le_of_ble_eq_true rfl)).trans rfl
theorem f243_308 : zi_fe 243 308 = some (.iadd, 1, 0, 0, 0, 0, 0) := (zl243_11 (Nat.le_of_ble_eq_true rfl)).trans rfl
theorem f243_309 : zi_fe 243 309 = some (.iaload, 1, 0, 0, 0, 0, 0) := (zl243_11 (Nat.le_of_ble_eq_true rfl)).trans rfl
theorem f243_310 : zi_fe 243 310 = some ((.aload_n 0), 1, 0, 0, 0, 0, 0) := (zl243_11 (Nat.le_of_ble_eq_true rfl)).trans rfl
theorem f243_311 : zi_fe 243 311 = some ((.iload_n 3), 1, 0, 0, 0, 0, 0) := (zl243_11 (Nat.le_of_ble_eq_true rfl)).trans rfl
theorem f243_312 : zi_fe 243 312 = some ((.iconst 2), 1, 0, 0, 0, 0, 0) := (zl243_11 (Nat.le_of_ble_eq_true rfl)).trans rfl
theorem f243_313 : zi_fe 243 313 = some (.iadd, 1, 0, 0, 0, 0, 0) := (zl243_11 (Nat.le_of_ble_eq_true rfl)).trans rfl
theorem f243_314 : zi_fe 243 314 = some (.iaload, 1, 0, 0, 0, 0, 0) := (zl243_11 (Nat.le_of_ble_eq_true rfl)).trans rfl
theorem f243_315 : zi_fe 243 315 = some ((.aload_n 0), 1, 0, 0, 0, 0, 0) := (zl243_11 (Nat.le_of_ble_eq_true rfl)).trans rfl
theorem zl243_12 {pc : Nat} (h : 316 ≤ pc) : zi_fe 243 pc = zu243_12.lookup pc := (zl243_11 (Nat.le_trans (Nat.le_of_ble_eq_true rfl) h)).trans (zi_lkA (a := zi_i243_11) (c := 316) rfl h)
theorem f243_316 : zi_fe 243 316 = some ((.iload_n 3), 1, 0, 0, 0, 0, 0) := (zl243_12 (Nat.le_of_ble_eq_true rfl)).trans rfl
theorem f243_317 : zi_fe 243 317 = some ((.iconst 3), 1, 0, 0, 0, 0, 0) := (zl243_12 (Nat.le_of_ble_eq_true rfl)).trans rfl
theorem f243_318 : zi_fe 243 318 = some (.iadd, 1, 0, 0, 0, 0, 0) := (zl243_12 (Nat.le_of_ble_eq_true rfl)).trans rfl
theorem f243_319 : zi_fe 243 319 = some (.iaload, 1, 0, 0, 0, 0, 0) := (zl243_12 (Nat.le_of_ble_eq_true rfl)).trans rfl
theorem f243_320 : zi_fe 243 320 = some ((.invokevirtual 44), 3, 203, 0, 8, 1412, 4) := (zl243_12 (Nat.le_of_ble_eq_true rfl)).trans rfl
theorem f243_323 : zi_fe 243 323 = some (.pop, 1, 0, 0, 0, 0, 0) := (zl243_12 (Nat.le_of_ble_eq_true rfl)).trans rfl
theorem f243_324 : zi_fe 243 324 = some ((.goto 633), 3, 0, 0, 0, 0, 0) := (zl243_12 (Nat.le_of_ble_eq_true rfl)).trans rfl
theorem f243_327 : zi_fe 243 327 = some ((.aload_n 1), 1, 0, 0, 0, 0, 0) := (zl243_12 (Nat.le_of_ble_eq_true rfl)).trans rfl
theorem f243_328 : zi_fe 243 328 = some ((.aload_n 0), 1, 0, 0, 0, 0, 0) := (zl243_12 (Nat.le_of_ble_eq_true rfl)).trans rfl
theorem f243_329 : zi_fe 243 329 = some ((.iload_n 3), 1, 0, 0, 0, 0, 0) := (zl243_12 (Nat.le_of_ble_eq_true rfl)).trans rfl
theorem f243_330 : zi_fe 243 330 = some ((.iconst 1), 1, 0, 0, 0, 0, 0) := (zl243_12 (Nat.le_of_ble_eq_true rfl)).trans rfl
theorem f243_331 : zi_fe 243 331 = some (.iadd, 1, 0, 0, 0, 0, 0) := (zl243_12 (Nat.le_of_ble_eq_true rfl)).trans rfl
theorem zl243_13 {pc : Nat} (h : 332 ≤ pc) : zi_fe 243 pc = zu243_13.lookup pc := (zl243_12 (Nat.le_trans (Nat.le_of_ble_eq_true rfl) h)).trans (zi_lkA (a := zi_i243_12) (c := 332) rfl h)
theorem f243_332 : zi_fe 243 332 = some (.iaload, 1, 0, 0, 0, 0, 0) := (zl243_13 (Nat.le_of_ble_eq_true rfl)).trans rfl
theorem f243_333 : zi_fe 243 333 = some ((.aload_n 0), 1, 0, 0, 0, 0, 0) := (zl243_13 (Nat.le_of_ble_eq_true rfl)).trans rfl
theorem f243_334 : zi_fe 243 334 = some ((.iload_n 3), 1, 0, 0, 0, 0, 0) := (zl243_13 (Nat.le_of_ble_eq_true rfl)).trans rfl
theorem f243_335 : zi_fe 243 335 = some ((.iconst 2), 1, 0, 0, 0, 0, 0) := (zl243_13 (Nat.le_of_ble_eq_true rfl)).trans rfl
theorem f243_336 : zi_fe 243 336 = some (.iadd, 1, 0, 0, 0, 0, 0) := (zl243_13 (Nat.le_of_ble_eq_true rfl)).trans rfl
theorem f243_337 : zi_fe 243 337 = some (.iaload, 1, 0, 0, 0, 0, 0) := (zl243_13 (Nat.le_of_ble_eq_true rfl)).trans rfl
theorem f243_338 : zi_fe 243 338 = some ((.invokevirtual 45), 3, 112, 0, 7, 797, 3) := (zl243_13 (Nat.le_of_ble_eq_true rfl)).trans rfl
theorem f243_341 : zi_fe 243 341 = some (.pop, 1, 0, 0, 0, 0, 0) := (zl243_13 (Nat.le_of_ble_eq_true rfl)).trans rfl
theorem f243_342 : zi_fe 243 342 = some ((.aload_n 2), 1, 0, 0, 0, 0, 0) := (zl243_13 (Nat.le_of_ble_eq_true rfl)).trans rfl
theorem f243_343 : zi_fe 243 343 = some ((.aload_n 0), 1, 0, 0, 0, 0, 0) := (zl243_13 (Nat.le_of_ble_eq_true rfl)).trans rfl
theorem f243_344 : zi_fe 243 344 = some ((.iload_n 3), 1, 0, 0, 0, 0, 0) := (zl243_13 (Nat.le_of_ble_eq_true rfl)).trans rfl
theorem f243_345 : zi_fe 243 345 = some ((.iconst 1), 1, 0, 0, 0, 0, 0) := (zl243_13 (Nat.le_of_ble_eq_true rfl)).trans rfl
theorem zl243_14 {pc : Nat} (h : 346 ≤ pc) : zi_fe 243 pc = zu243_14.lookup pc := (zl243_13 (Nat.le_trans (Nat.le_of_ble_eq_true rfl) h)).trans (zi_lkA (a := zi_i243_13) (c := 346) rfl h)
theorem f243_346 : zi_fe 243 346 = some (.iadd, 1, 0, 0, 0, 0, 0) := (zl243_14 (Nat.le_of_ble_eq_true rfl)).trans rfl
theorem f243_347 : zi_fe 243 347 = some (.iaload, 1, 0, 0, 0, 0, 0) := (zl243_14 (Nat.le_of_ble_eq_true rfl)).trans rfl
theorem f243_348 : zi_fe 243 348 = some ((.aload_n 0), 1, 0, 0, 0, 0, 0) := (zl243_14 (Nat.le_of_ble_eq_true rfl)).trans rfl
theorem f243_349 : zi_fe 243 349 = some ((.iload_n 3), 1, 0, 0, 0, 0, 0) := (zl243_14 (Nat.le_of_ble_eq_true rfl)).trans rfl
theorem f243_350 : zi_fe 243 350 = some ((.iconst 2), 1, 0, 0, 0, 0, 0) := (zl243_14 (Nat.le_of_ble_eq_true rfl)).trans rfl
theorem f243_351 : zi_fe 243 351 = some (.iadd, 1, 0, 0, 0, 0, 0) := (zl243_14 (Nat.le_of_ble_eq_true rfl)).trans rfl
theorem f243_352 : zi_fe 243 352 = some (.iaload, 1, 0, 0, 0, 0, 0) := (zl243_14 (Nat.le_of_ble_eq_true rfl)).trans rfl
theorem f243_353 : zi_fe 243 353 = some ((.invokevirtual 48), 3, 204, 0, 8, 1419, 3) := (zl243_14 (Nat.le_of_ble_eq_true rfl)).trans rfl
theorem f243_356 : zi_fe 243 356 = some (.pop, 1, 0, 0, 0, 0, 0) := (zl243_14 (Nat.le_of_ble_eq_true rfl)).trans rfl
theorem f243_357 : zi_fe 243 357 = some ((.goto 600), 3, 0, 0, 0, 0, 0) := (zl243_14 (Nat.le_of_ble_eq_true rfl)).trans rfl
theorem f243_360 : zi_fe 243 360 = some ((.aload_n 1), 1, 0, 0, 0, 0, 0) := (zl243_14 (Nat.le_of_ble_eq_true rfl)).trans rfl
theorem f243_361 : zi_fe 243 361 = some ((.aload_n 0), 1, 0, 0, 0, 0, 0) := (zl243_14 (Nat.le_of_ble_eq_true rfl)).trans rfl
theorem zl243_15 {pc : Nat} (h : 362 ≤ pc) : zi_fe 243 pc = zu243_15.lookup pc := (zl243_14 (Nat.le_trans (Nat.le_of_ble_eq_true rfl) h)).trans (zi_lkA (a := zi_i243_14) (c := 362) rfl h)
theorem f243_362 : zi_fe 243 362 = some ((.iload_n 3), 1, 0, 0, 0, 0, 0) := (zl243_15 (Nat.le_of_ble_eq_true rfl)).trans rfl
theorem f243_363 : zi_fe 243 363 = some ((.iconst 1), 1, 0, 0, 0, 0, 0) := (zl243_15 (Nat.le_of_ble_eq_true rfl)).trans rfl
theorem f243_364 : zi_fe 243 364 = some (.iadd, 1, 0, 0, 0, 0, 0) := (zl243_15 (Nat.le_of_ble_eq_true rfl)).trans rfl
theorem f243_365 : zi_fe 243 365 = some (.iaload, 1, 0, 0, 0, 0, 0) := (zl243_15 (Nat.le_of_ble_eq_true rfl)).trans rfl
theorem f243_366 : zi_fe 243 366 = some ((.invokevirtual 49), 3, 113, 0, 7, 806, 2) := (zl243_15 (Nat.le_of_ble_eq_true rfl)).trans rfl
theorem f243_369 : zi_fe 243 369 = some (.pop, 1, 0, 0, 0, 0, 0) := (zl243_15 (Nat.le_of_ble_eq_true rfl)).trans rfl
theorem f243_370 : zi_fe 243 370 = some ((.aload_n 2), 1, 0, 0, 0, 0, 0) := (zl243_15 (Nat.le_of_ble_eq_true rfl)).trans rfl
theorem f243_371 : zi_fe 243 371 = some ((.aload_n 0), 1, 0, 0, 0, 0, 0) := (zl243_15 (Nat.le_of_ble_eq_true rfl)).trans rfl
theorem f243_372 : zi_fe 243 372 = some ((.iload_n 3), 1, 0, 0, 0, 0, 0) := (zl243_15 (Nat.le_of_ble_eq_true rfl)).trans rfl
theorem f243_373 : zi_fe 243 373 = some ((.iconst 1), 1, 0, 0, 0, 0, 0) := (zl243_15 (Nat.le_of_ble_eq_true rfl)).trans rfl
theorem f243_374 : zi_fe 243 374 = some (.iadd, 1, 0, 0, 0, 0, 0) := (zl243_15 (Nat.le_of_ble_eq_true rfl)).trans rfl
theorem f243_375 : zi_fe 243 375 = some (.iaload, 1, 0, 0, 0, 0, 0) := (zl243_15 (Nat.le_of_ble_eq_true rfl)).trans rfl
theorem zl243_16 {pc : Nat} (h : 376 ≤ pc) : zi_fe 243 pc = zu243_16.lookup pc := (zl243_15 (Nat.le_trans (Nat.le_of_ble_eq_true rfl) h)).trans (zi_lkA (a := zi_i243_15) (c := 376) rfl h)
theorem f243_376 : zi_fe 243 376 = some ((.invokevirtual 52), 3, 205, 0, 8, 1427, 2) := (zl243_16 (Nat.le_of_ble_eq_true rfl)).trans rfl
theorem f243_379 : zi_fe 243 379 = some (.pop, 1, 0, 0, 0, 0, 0) := (zl243_16 (Nat.le_of_ble_eq_true rfl)).trans rfl
theorem f243_380 : zi_fe 243 380 = some ((.goto 577), 3, 0, 0, 0, 0, 0) := (zl243_16 (Nat.le_of_ble_eq_true rfl)).trans rfl
theorem f243_383 : zi_fe 243 383 = some ((.aload_n 1), 1, 0, 0, 0, 0, 0) := (zl243_16 (Nat.le_of_ble_eq_true rfl)).trans rfl
theorem f243_384 : zi_fe 243 384 = some ((.aload_n 0), 1, 0, 0, 0, 0, 0) := (zl243_16 (Nat.le_of_ble_eq_true rfl)).trans rfl
theorem f243_385 : zi_fe 243 385 = some ((.iload_n 3), 1, 0, 0, 0, 0, 0) := (zl243_16 (Nat.le_of_ble_eq_true rfl)).trans rfl
theorem f243_386 : zi_fe 243 386 = some ((.iconst 1), 1, 0, 0, 0, 0, 0) := (zl243_16 (Nat.le_of_ble_eq_true rfl)).trans rfl
theorem f243_387 : zi_fe 243 387 = some (.iadd, 1, 0, 0, 0, 0, 0) := (zl243_16 (Nat.le_of_ble_eq_true rfl)).trans rfl
theorem f243_388 : zi_fe 243 388 = some (.iaload, 1, 0, 0, 0, 0, 0) := (zl243_16 (Nat.le_of_ble_eq_true rfl)).trans rfl
theorem f243_389 : zi_fe 243 389 = some ((.aload_n 0), 1, 0, 0, 0, 0, 0) := (zl243_16 (Nat.le_of_ble_eq_true rfl)).trans rfl
theorem f243_390 : zi_fe 243 390 = some ((.iload_n 3), 1, 0, 0, 0, 0, 0) := (zl243_16 (Nat.le_of_ble_eq_true rfl)).trans rfl
theorem f243_391 : zi_fe 243 391 = some ((.iconst 2), 1, 0, 0, 0, 0, 0) := (zl243_16 (Nat.le_of_ble_eq_true rfl)).trans rfl
theorem zl243_17 {pc : Nat} (h : 392 ≤ pc) : zi_fe 243 pc = zu243_17.lookup pc := (zl243_16 (Nat.le_trans (Nat.le_of_ble_eq_true rfl) h)).trans (zi_lkA (a := zi_i243_16) (c := 392) rfl h)
theorem f243_392 : zi_fe 243 392 = some (.iadd, 1, 0, 0, 0, 0, 0) := (zl243_17 (Nat.le_of_ble_eq_true rfl)).trans rfl
theorem f243_393 : zi_fe 243 393 = some (.iaload, 1, 0, 0, 0, 0, 0) := (zl243_17 (Nat.le_of_ble_eq_true rfl)).trans rfl
theorem f243_394 : zi_fe 243 394 = some ((.aload_n 0), 1, 0, 0, 0, 0, 0) := (zl243_17 (Nat.le_of_ble_eq_true rfl)).trans rfl
theorem f243_395 : zi_fe 243 395 = some ((.iload_n 3), 1, 0, 0, 0, 0, 0) := (zl243_17 (Nat.le_of_ble_eq_true rfl)).trans rfl
theorem f243_396 : zi_fe 243 396 = some ((.iconst 3), 1, 0, 0, 0, 0, 0) := (zl243_17 (Nat.le_of_ble_eq_true rfl)).trans rfl
theorem f243_397 : zi_fe 243 397 = some (.iadd, 1, 0, 0, 0, 0, 0) := (zl243_17 (Nat.le_of_ble_eq_true rfl)).trans rfl
theorem f243_398 : zi_fe 243 398 = some (.iaload, 1, 0, 0, 0, 0, 0) := (zl243_17 (Nat.le_of_ble_eq_true rfl)).trans rfl
theorem f243_399 : zi_fe 243 399 = some ((.invokevirtual 53), 3, 114, 0, 7, 814, 4) := (zl243_17 (Nat.le_of_ble_eq_true rfl)).trans rfl
theorem f243_402 : zi_fe 243 402 = some (.pop, 1, 0, 0, 0, 0, 0) := (zl243_17 (Nat.le_of_ble_eq_true rfl)).trans rfl
theorem f243_403 : zi_fe 243 403 = some ((.aload_n 2), 1, 0, 0, 0, 0, 0) := (zl243_17 (Nat.le_of_ble_eq_true rfl)).trans rfl
theorem f243_404 : zi_fe 243 404 = some ((.aload_n 0), 1, 0, 0, 0, 0, 0) := (zl243_17 (Nat.le_of_ble_eq_true rfl)).trans rfl
theorem f243_405 : zi_fe 243 405 = some ((.iload_n 3), 1, 0, 0, 0, 0, 0) := (zl243_17 (Nat.le_of_ble_eq_true rfl)).trans rfl
theorem zl243_18 {pc : Nat} (h : 406 ≤ pc) : zi_fe 243 pc = zu243_18.lookup pc := (zl243_17 (Nat.le_trans (Nat.le_of_ble_eq_true rfl) h)).trans (zi_lkA (a := zi_i243_17) (c := 406) rfl h)
theorem f243_406 : zi_fe 243 406 = some ((.iconst 1), 1, 0, 0, 0, 0, 0) := (zl243_18 (Nat.le_of_ble_eq_true rfl)).trans rfl
theorem f243_407 : zi_fe 243 407 = some (.iadd, 1, 0, 0, 0, 0, 0) := (zl243_18 (Nat.le_of_ble_eq_true rfl)).trans rfl
theorem f243_408 : zi_fe 243 408 = some (.iaload, 1, 0, 0, 0, 0, 0) := (zl243_18 (Nat.le_of_ble_eq_true rfl)).trans rfl
theorem f243_409 : zi_fe 243 409 = some ((.aload_n 0), 1, 0, 0, 0, 0, 0) := (zl243_18 (Nat.le_of_ble_eq_true rfl)).trans rfl
theorem f243_410 : zi_fe 243 410 = some ((.iload_n 3), 1, 0, 0, 0, 0, 0) := (zl243_18 (Nat.le_of_ble_eq_true rfl)).trans rfl
theorem f243_411 : zi_fe 243 411 = some ((.iconst 2), 1, 0, 0, 0, 0, 0) := (zl243_18 (Nat.le_of_ble_eq_true rfl)).trans rfl
theorem f243_412 : zi_fe 243 412 = some (.iadd, 1, 0, 0, 0, 0, 0) := (zl243_18 (Nat.le_of_ble_eq_true rfl)).trans rfl
theorem f243_413 : zi_fe 243 413 = some (.iaload, 1, 0, 0, 0, 0, 0) := (zl243_18 (Nat.le_of_ble_eq_true rfl)).trans rfl
theorem f243_414 : zi_fe 243 414 = some ((.aload_n 0), 1, 0, 0, 0, 0, 0) := (zl243_18 (Nat.le_of_ble_eq_true rfl)).trans rfl
theorem f243_415 : zi_fe 243 415 = some ((.iload_n 3), 1, 0, 0, 0, 0, 0) := (zl243_18 (Nat.le_of_ble_eq_true rfl)).trans rfl
theorem f243_416 : zi_fe 243 416 = some ((.iconst 3), 1, 0, 0, 0, 0, 0) := (zl243_18 (Nat.le_of_ble_eq_true rfl)).trans rfl
theorem f243_417 : zi_fe 243 417 = some (.iadd, 1, 0, 0, 0, 0, 0) := (zl243_18 (Nat.le_of_ble_eq_true rfl)).trans rfl
theorem zl243_19 {pc : Nat} (h : 418 ≤ pc) : zi_fe 243 pc = zu243_19.lookup pc := (zl243_18 (Nat.le_trans (Nat.le_of_ble_eq_true rfl) h)).trans (zi_lkA (a := zi_i243_18) (c := 418) rfl h)
theorem f243_418 : zi_fe 243 418 = some (.iaload, 1, 0, 0, 0, 0, 0) := (zl243_19 (Nat.le_of_ble_eq_true rfl)).trans rfl
theorem f243_419 : zi_fe 243 419 = some ((.invokevirtual 56), 3, 206, 0, 8, 1432, 4) := (zl243_19 (Nat.le_of_ble_eq_true rfl)).trans rfl
theorem f243_422 : zi_fe 243 422 = some (.pop, 1, 0, 0, 0, 0, 0) := (zl243_19 (Nat.le_of_ble_eq_true rfl)).trans rfl
theorem f243_423 : zi_fe 243 423 = some ((.goto 534), 3, 0, 0, 0, 0, 0) := (zl243_19 (Nat.le_of_ble_eq_true rfl)).trans rfl
theorem f243_426 : zi_fe 243 426 = some ((.aload_n 1), 1, 0, 0, 0, 0, 0) := (zl243_19 (Nat.le_of_ble_eq_true rfl)).trans rfl
theorem f243_427 : zi_fe 243 427 = some ((.aload_n 0), 1, 0, 0, 0, 0, 0) := (zl243_19 (Nat.le_of_ble_eq_true rfl)).trans rfl
theorem f243_428 : zi_fe 243 428 = some ((.iload_n 3), 1, 0, 0, 0, 0, 0) := (zl243_19 (Nat.le_of_ble_eq_true rfl)).trans rfl
theorem f243_429 : zi_fe 243 429 = some ((.iconst 1), 1, 0, 0, 0, 0, 0) := (zl243_19 (Nat.le_of_ble_eq_true rfl)).trans rfl
theorem f243_430 : zi_fe 243 430 = some (.iadd, 1, 0, 0, 0, 0, 0) := (zl243_19 (Nat.le_of_ble_eq_true rfl)).trans rfl
theorem f243_431 : zi_fe 243 431 = some (.iaload, 1, 0, 0, 0, 0, 0) := (zl243_19 (Nat.le_of_ble_eq_true rfl)).trans rfl
theorem f243_432 : zi_fe 243 432 = some ((.invokevirtual 57), 3, 115, 0, 7, 819, 2) := (zl243_19 (Nat.le_of_ble_eq_true rfl)).trans rfl
theorem f243_435 : zi_fe 243 435 = some (.pop, 1, 0, 0, 0, 0, 0) := (zl243_19 (Nat.le_of_ble_eq_true rfl)).trans rfl
theorem zl243_20 {pc : Nat} (h : 436 ≤ pc) : zi_fe 243 pc = zu243_20.lookup pc := (zl243_19 (Nat.le_trans (Nat.le_of_ble_eq_true rfl) h)).trans (zi_lkA (a := zi_i243_19) (c := 436) rfl h)
theorem f243_436 : zi_fe 243 436 = some ((.aload_n 2), 1, 0, 0, 0, 0, 0) := (zl243_20 (Nat.le_of_ble_eq_true rfl)).trans rfl
theorem f243_437 : zi_fe 243 437 = some ((.aload_n 0), 1, 0, 0, 0, 0, 0) := (zl243_20 (Nat.le_of_ble_eq_true rfl)).trans rfl
theorem f243_438 : zi_fe 243 438 = some ((.iload_n 3), 1, 0, 0, 0, 0, 0) := (zl243_20 (Nat.le_of_ble_eq_true rfl)).trans rfl
theorem f243_439 : zi_fe 243 439 = some ((.iconst 1), 1, 0, 0, 0, 0, 0) := (zl243_20 (Nat.le_of_ble_eq_true rfl)).trans rfl
theorem f243_440 : zi_fe 243 440 = some (.iadd, 1, 0, 0, 0, 0, 0) := (zl243_20 (Nat.le_of_ble_eq_true rfl)).trans rfl
theorem f243_441 : zi_fe 243 441 = some (.iaload, 1, 0, 0, 0, 0, 0) := (zl243_20 (Nat.le_of_ble_eq_true rfl)).trans rfl
theorem f243_442 : zi_fe 243 442 = some ((.invokevirtual 60), 3, 207, 0, 8, 1436, 2) := (zl243_20 (Nat.le_of_ble_eq_true rfl)).trans rfl
theorem f243_445 : zi_fe 243 445 = some (.pop, 1, 0, 0, 0, 0, 0) := (zl243_20 (Nat.le_of_ble_eq_true rfl)).trans rfl
theorem f243_446 : zi_fe 243 446 = some ((.goto 511), 3, 0, 0, 0, 0, 0) := (zl243_20 (Nat.le_of_ble_eq_true rfl)).trans rfl
theorem f243_449 : zi_fe 243 449 = some ((.aload_n 1), 1, 0, 0, 0, 0, 0) := (zl243_20 (Nat.le_of_ble_eq_true rfl)).trans rfl
theorem f243_450 : zi_fe 243 450 = some ((.aload_n 0), 1, 0, 0, 0, 0, 0) := (zl243_20 (Nat.le_of_ble_eq_true rfl)).trans rfl
theorem f243_451 : zi_fe 243 451 = some ((.iload_n 3), 1, 0, 0, 0, 0, 0) := (zl243_20 (Nat.le_of_ble_eq_true rfl)).trans rfl
theorem zl243_21 {pc : Nat} (h : 452 ≤ pc) : zi_fe 243 pc = zu243_21.lookup pc := (zl243_20 (Nat.le_trans (Nat.le_of_ble_eq_true rfl) h)).trans (zi_lkA (a := zi_i243_20) (c := 452) rfl h)
theorem f243_452 : zi_fe 243 452 = some ((.iconst 1), 1, 0, 0, 0, 0, 0) := (zl243_21 (Nat.le_of_ble_eq_true rfl)).trans rfl
theorem f243_453 : zi_fe 243 453 = some (.iadd, 1, 0, 0, 0, 0, 0) := (zl243_21 (Nat.le_of_ble_eq_true rfl)).trans rfl
theorem f243_454 : zi_fe 243 454 = some (.iaload, 1, 0, 0, 0, 0, 0) := (zl243_21 (Nat.le_of_ble_eq_true rfl)).trans rfl
theorem f243_455 : zi_fe 243 455 = some ((.aload_n 0), 1, 0, 0, 0, 0, 0) := (zl243_21 (Nat.le_of_ble_eq_true rfl)).trans rfl
theorem f243_456 : zi_fe 243 456 = some ((.iload_n 3), 1, 0, 0, 0, 0, 0) := (zl243_21 (Nat.le_of_ble_eq_true rfl)).trans rfl
theorem f243_457 : zi_fe 243 457 = some ((.iconst 2), 1, 0, 0, 0, 0, 0) := (zl243_21 (Nat.le_of_ble_eq_true rfl)).trans rfl
theorem f243_458 : zi_fe 243 458 = some (.iadd, 1, 0, 0, 0, 0, 0) := (zl243_21 (Nat.le_of_ble_eq_true rfl)).trans rfl
theorem f243_459 : zi_fe 243 459 = some (.iaload, 1, 0, 0, 0, 0, 0) := (zl243_21 (Nat.le_of_ble_eq_true rfl)).trans rfl
theorem f243_460 : zi_fe 243 460 = some ((.invokevirtual 61), 3, 116, 0, 7, 824, 3) := (zl243_21 (Nat.le_of_ble_eq_true rfl)).trans rfl
theorem f243_463 : zi_fe 243 463 = some (.pop, 1, 0, 0, 0, 0, 0) := (zl243_21 (Nat.le_of_ble_eq_true rfl)).trans rfl
theorem f243_464 : zi_fe 243 464 = some ((.aload_n 2), 1, 0, 0, 0, 0, 0) := (zl243_21 (Nat.le_of_ble_eq_true rfl)).trans rfl
theorem f243_465 : zi_fe 243 465 = some ((.aload_n 0), 1, 0, 0, 0, 0, 0) := (zl243_21 (Nat.le_of_ble_eq_true rfl)).trans rfl
theorem zl243_22 {pc : Nat} (h : 466 ≤ pc) : zi_fe 243 pc = zu243_22.lookup pc := (zl243_21 (Nat.le_trans (Nat.le_of_ble_eq_true rfl) h)).trans (zi_lkA (a := zi_i243_21) (c := 466) rfl h)
theorem f243_466 : zi_fe 243 466 = some ((.iload_n 3), 1, 0, 0, 0, 0, 0) := (zl243_22 (Nat.le_of_ble_eq_true rfl)).trans rfl
theorem f243_467 : zi_fe 243 467 = some ((.iconst 1), 1, 0, 0, 0, 0, 0) := (zl243_22 (Nat.le_of_ble_eq_true rfl)).trans rfl
theorem f243_468 : zi_fe 243 468 = some (.iadd, 1, 0, 0, 0, 0, 0) := (zl243_22 (Nat.le_of_ble_eq_true rfl)).trans rfl
theorem f243_469 : zi_fe 243 469 = some (.iaload, 1, 0, 0, 0, 0, 0) := (zl243_22 (Nat.le_of_ble_eq_true rfl)).trans rfl
theorem f243_470 : zi_fe 243 470 = some ((.aload_n 0), 1, 0, 0, 0, 0, 0) := (zl243_22 (Nat.le_of_ble_eq_true rfl)).trans rfl
theorem f243_471 : zi_fe 243 471 = some ((.iload_n 3), 1, 0, 0, 0, 0, 0) := (zl243_22 (Nat.le_of_ble_eq_true rfl)).trans rfl
theorem f243_472 : zi_fe 243 472 = some ((.iconst 2), 1, 0, 0, 0, 0, 0) := (zl243_22 (Nat.le_of_ble_eq_true rfl)).trans rfl
theorem f243_473 : zi_fe 243 473 = some (.iadd, 1, 0, 0, 0, 0, 0) := (zl243_22 (Nat.le_of_ble_eq_true rfl)).trans rfl
theorem f243_474 : zi_fe 243 474 = some (.iaload, 1, 0, 0, 0, 0, 0) := (zl243_22 (Nat.le_of_ble_eq_true rfl)).trans rfl
theorem f243_475 : zi_fe 243 475 = some ((.invokevirtual 64), 3, 208, 0, 8, 1440, 3) := (zl243_22 (Nat.le_of_ble_eq_true rfl)).trans rfl
theorem f243_478 : zi_fe 243 478 = some (.pop, 1, 0, 0, 0, 0, 0) := (zl243_22 (Nat.le_of_ble_eq_true rfl)).trans rfl
theorem f243_479 : zi_fe 243 479 = some ((.goto 478), 3, 0, 0, 0, 0, 0) := (zl243_22 (Nat.le_of_ble_eq_true rfl)).trans rfl
theorem zl243_23 {pc : Nat} (h : 482 ≤ pc) : zi_fe 243 pc = zu243_23.lookup pc := (zl243_22 (Nat.le_trans (Nat.le_of_ble_eq_true rfl) h)).trans (zi_lkA (a := zi_i243_22) (c := 482) rfl h)
theorem f243_482 : zi_fe 243 482 = some ((.aload_n 1), 1, 0, 0, 0, 0, 0) := (zl243_23 (Nat.le_of_ble_eq_true rfl)).trans rfl
theorem f243_483 : zi_fe 243 483 = some ((.aload_n 0), 1, 0, 0, 0, 0, 0) := (zl243_23 (Nat.le_of_ble_eq_true rfl)).trans rfl
theorem f243_484 : zi_fe 243 484 = some ((.iload_n 3), 1, 0, 0, 0, 0, 0) := (zl243_23 (Nat.le_of_ble_eq_true rfl)).trans rfl
theorem f243_485 : zi_fe 243 485 = some ((.iconst 1), 1, 0, 0, 0, 0, 0) := (zl243_23 (Nat.le_of_ble_eq_true rfl)).trans rfl
theorem f243_486 : zi_fe 243 486 = some (.iadd, 1, 0, 0, 0, 0, 0) := (zl243_23 (Nat.le_of_ble_eq_true rfl)).trans rfl
theorem f243_487 : zi_fe 243 487 = some (.iaload, 1, 0, 0, 0, 0, 0) := (zl243_23 (Nat.le_of_ble_eq_true rfl)).trans rfl
theorem f243_488 : zi_fe 243 488 = some ((.invokevirtual 65), 3, 117, 0, 7, 832, 2) := (zl243_23 (Nat.le_of_ble_eq_true rfl)).trans rfl
theorem f243_491 : zi_fe 243 491 = some (.pop, 1, 0, 0, 0, 0, 0) := (zl243_23 (Nat.le_of_ble_eq_true rfl)).trans rfl
theorem f243_492 : zi_fe 243 492 = some ((.aload_n 2), 1, 0, 0, 0, 0, 0) := (zl243_23 (Nat.le_of_ble_eq_true rfl)).trans rfl
theorem f243_493 : zi_fe 243 493 = some ((.aload_n 0), 1, 0, 0, 0, 0, 0) := (zl243_23 (Nat.le_of_ble_eq_true rfl)).trans rfl
theorem f243_494 : zi_fe 243 494 = some ((.iload_n 3), 1, 0, 0, 0, 0, 0) := (zl243_23 (Nat.le_of_ble_eq_true rfl)).trans rfl
theorem f243_495 : zi_fe 243 495 = some ((.iconst 1), 1, 0, 0, 0, 0, 0) := (zl243_23 (Nat.le_of_ble_eq_true rfl)).trans rfl
theorem zl243_24 {pc : Nat} (h : 496 ≤ pc) : zi_fe 243 pc = zu243_24.lookup pc := (zl243_23 (Nat.le_trans (Nat.le_of_ble_eq_true rfl) h)).trans (zi_lkA (a := zi_i243_23) (c := 496) rfl h)
theorem f243_496 : zi_fe 243 496 = some (.iadd, 1, 0, 0, 0, 0, 0) := (zl243_24 (Nat.le_of_ble_eq_true rfl)).trans rfl
theorem f243_497 : zi_fe 243 497 = some (.iaload, 1, 0, 0, 0, 0, 0) := (zl243_24 (Nat.le_of_ble_eq_true rfl)).trans rfl
theorem f243_498 : zi_fe 243 498 = some ((.invokevirtual 68), 3, 209, 0, 8, 1449, 2) := (zl243_24 (Nat.le_of_ble_eq_true rfl)).trans rfl
theorem f243_501 : zi_fe 243 501 = some (.pop, 1, 0, 0, 0, 0, 0) := (zl243_24 (Nat.le_of_ble_eq_true rfl)).trans rfl
theorem f243_502 : zi_fe 243 502 = some ((.goto 455), 3, 0, 0, 0, 0, 0) := (zl243_24 (Nat.le_of_ble_eq_true rfl)).trans rfl
theorem f243_505 : zi_fe 243 505 = some ((.aload_n 1), 1, 0, 0, 0, 0, 0) := (zl243_24 (Nat.le_of_ble_eq_true rfl)).trans rfl
theorem f243_506 : zi_fe 243 506 = some ((.aload_n 0), 1, 0, 0, 0, 0, 0) := (zl243_24 (Nat.le_of_ble_eq_true rfl)).trans rfl
theorem f243_507 : zi_fe 243 507 = some ((.iload_n 3), 1, 0, 0, 0, 0, 0) := (zl243_24 (Nat.le_of_ble_eq_true rfl)).trans rfl
theorem f243_508 : zi_fe 243 508 = some ((.iconst 1), 1, 0, 0, 0, 0, 0) := (zl243_24 (Nat.le_of_ble_eq_true rfl)).trans rfl
theorem f243_509 : zi_fe 243 509 = some (.iadd, 1, 0, 0, 0, 0, 0) := (zl243_24 (Nat.le_of_ble_eq_true rfl)).trans rfl
theorem f243_510 : zi_fe 243 510 = some (.iaload, 1, 0, 0, 0, 0, 0) := (zl243_24 (Nat.le_of_ble_eq_true rfl)).trans rfl
theorem f243_511 : zi_fe 243 511 = some ((.invokevirtual 69), 3, 118, 0, 7, 836, 2) := (zl243_24 (Nat.le_of_ble_eq_true rfl)).trans rfl
theorem zl243_25 {pc : Nat} (h : 514 ≤ pc) : zi_fe 243 pc = zu243_25.lookup pc := (zl243_24 (Nat.le_trans (Nat.le_of_ble_eq_true rfl) h)).trans (zi_lkA (a := zi_i243_24) (c := 514) rfl h)
theorem f243_514 : zi_fe 243 514 = some (.pop, 1, 0, 0, 0, 0, 0) := (zl243_25 (Nat.le_of_ble_eq_true rfl)).trans rfl
theorem f243_515 : zi_fe 243 515 = some ((.aload_n 2), 1, 0, 0, 0, 0, 0) := (zl243_25 (Nat.le_of_ble_eq_true rfl)).trans rfl
theorem f243_516 : zi_fe 243 516 = some ((.aload_n 0), 1, 0, 0, 0, 0, 0) := (zl243_25 (Nat.le_of_ble_eq_true rfl)).trans rfl
theorem f243_517 : zi_fe 243 517 = some ((.iload_n 3), 1, 0, 0, 0, 0, 0) := (zl243_25 (Nat.le_of_ble_eq_true rfl)).trans rfl
theorem f243_518 : zi_fe 243 518 = some ((.iconst 1), 1, 0, 0, 0, 0, 0) := (zl243_25 (Nat.le_of_ble_eq_true rfl)).trans rfl
theorem f243_519 : zi_fe 243 519 = some (.iadd, 1, 0, 0, 0, 0, 0) := (zl243_25 (Nat.le_of_ble_eq_true rfl)).trans rfl
theorem f243_520 : zi_fe 243 520 = some (.iaload, 1, 0, 0, 0, 0, 0) := (zl243_25 (Nat.le_of_ble_eq_true rfl)).trans rfl
theorem f243_521 : zi_fe 243 521 = some ((.invokevirtual 72), 3, 210, 0, 8, 1453, 2) := (zl243_25 (Nat.le_of_ble_eq_true rfl)).trans rfl
theorem f243_524 : zi_fe 243 524 = some (.pop, 1, 0, 0, 0, 0, 0) := (zl243_25 (Nat.le_of_ble_eq_true rfl)).trans rfl
theorem f243_525 : zi_fe 243 525 = some ((.goto 432), 3, 0, 0, 0, 0, 0) := (zl243_25 (Nat.le_of_ble_eq_true rfl)).trans rfl
theorem f243_528 : zi_fe 243 528 = some ((.aload_n 1), 1, 0, 0, 0, 0, 0) := (zl243_25 (Nat.le_of_ble_eq_true rfl)).trans rfl
theorem f243_529 : zi_fe 243 529 = some ((.aload_n 0), 1, 0, 0, 0, 0, 0) := (zl243_25 (Nat.le_of_ble_eq_true rfl)).trans rfl
theorem zl243_26 {pc : Nat} (h : 530 ≤ pc) : zi_fe 243 pc = zu243_26.lookup pc := (zl243_25 (Nat.le_trans (Nat.le_of_ble_eq_true rfl) h)).trans (zi_lkA (a := zi_i243_25) (c := 530) rfl h)
theorem f243_530 : zi_fe 243 530 = some ((.iload_n 3), 1, 0, 0, 0, 0, 0) := (zl243_26 (Nat.le_of_ble_eq_true rfl)).trans rfl
theorem f243_531 : zi_fe 243 531 = some ((.iconst 1), 1, 0, 0, 0, 0, 0) := (zl243_26 (Nat.le_of_ble_eq_true rfl)).trans rfl
theorem f243_532 : zi_fe 243 532 = some (.iadd, 1, 0, 0, 0, 0, 0) := (zl243_26 (Nat.le_of_ble_eq_true rfl)).trans rfl
theorem f243_533 : zi_fe 243 533 = some (.iaload, 1, 0, 0, 0, 0, 0) := (zl243_26 (Nat.le_of_ble_eq_true rfl)).trans rfl
theorem f243_534 : zi_fe 243 534 = some ((.aload_n 0), 1, 0, 0, 0, 0, 0) := (zl243_26 (Nat.le_of_ble_eq_true rfl)).trans rfl
theorem f243_535 : zi_fe 243 535 = some ((.iload_n 3), 1, 0, 0, 0, 0, 0) := (zl243_26 (Nat.le_of_ble_eq_true rfl)).trans rfl
theorem f243_536 : zi_fe 243 536 = some ((.iconst 2), 1, 0, 0, 0, 0, 0) := (zl243_26 (Nat.le_of_ble_eq_true rfl)).trans rfl
theorem f243_537 : zi_fe 243 537 = some (.iadd, 1, 0, 0, 0, 0, 0) := (zl243_26 (Nat.le_of_ble_eq_true rfl)).trans rfl
theorem f243_538 : zi_fe 243 538 = some (.iaload, 1, 0, 0, 0, 0, 0) := (zl243_26 (Nat.le_of_ble_eq_true rfl)).trans rfl
theorem f243_539 : zi_fe 243 539 = some ((.invokevirtual 73), 3, 119, 0, 7, 847, 3) := (zl243_26 (Nat.le_of_ble_eq_true rfl)).trans rfl
theorem f243_542 : zi_fe 243 542 = some ((.aload_n 2), 1, 0, 0, 0, 0, 0) := (zl243_26 (Nat.le_of_ble_eq_true rfl)).trans rfl
theorem f243_543 : zi_fe 243 543 = some ((.aload_n 0), 1, 0, 0, 0, 0, 0) := (zl243_26 (Nat.le_of_ble_eq_true rfl)).trans rfl
theorem zl243_27 {pc : Nat} (h : 544 ≤ pc) : zi_fe 243 pc = zu243_27.lookup pc := (zl243_26 (Nat.le_trans (Nat.le_of_ble_eq_true rfl) h)).trans (zi_lkA (a := zi_i243_26) (c := 544) rfl h)
theorem f243_544 : zi_fe 243 544 = some ((.iload_n 3), 1, 0, 0, 0, 0, 0) := (zl243_27 (Nat.le_of_ble_eq_true rfl)).trans rfl
theorem f243_545 : zi_fe 243 545 = some ((.iconst 1), 1, 0, 0, 0, 0, 0) := (zl243_27 (Nat.le_of_ble_eq_true rfl)).trans rfl
theorem f243_546 : zi_fe 243 546 = some (.iadd, 1, 0, 0, 0, 0, 0) := (zl243_27 (Nat.le_of_ble_eq_true rfl)).trans rfl
theorem f243_547 : zi_fe 243 547 = some (.iaload, 1, 0, 0, 0, 0, 0) := (zl243_27 (Nat.le_of_ble_eq_true rfl)).trans rfl
theorem f243_548 : zi_fe 243 548 = some ((.aload_n 0), 1, 0, 0, 0, 0, 0) := (zl243_27 (Nat.le_of_ble_eq_true rfl)).trans rfl
theorem f243_549 : zi_fe 243 549 = some ((.iload_n 3), 1, 0, 0, 0, 0, 0) := (zl243_27 (Nat.le_of_ble_eq_true rfl)).trans rfl
theorem f243_550 : zi_fe 243 550 = some ((.iconst 2), 1, 0, 0, 0, 0, 0) := (zl243_27 (Nat.le_of_ble_eq_true rfl)).trans rfl
theorem f243_551 : zi_fe 243 551 = some (.iadd, 1, 0, 0, 0, 0, 0) := (zl243_27 (Nat.le_of_ble_eq_true rfl)).trans rfl
theorem f243_552 : zi_fe 243 552 = some (.iaload, 1, 0, 0, 0, 0, 0) := (zl243_27 (Nat.le_of_ble_eq_true rfl)).trans rfl
theorem f243_553 : zi_fe 243 553 = some ((.invokevirtual 76), 3, 218, 0, 8, 1458, 3) := (zl243_27 (Nat.le_of_ble_eq_true rfl)).trans rfl
theorem f243_556 : zi_fe 243 556 = some ((.if_icmp .eq 401), 3, 0, 0, 0, 0, 0) := (zl243_27 (Nat.le_of_ble_eq_true rfl)).trans rfl
theorem f243_559 : zi_fe 243 559 = some ((.iconst 0), 1, 0, 0, 0, 0, 0) := (zl243_27 (Nat.le_of_ble_eq_true rfl)).trans rfl
theorem zl243_28 {pc : Nat} (h : 560 ≤ pc) : zi_fe 243 pc = zu243_28.lookup pc := (zl243_27 (Nat.le_trans (Nat.le_of_ble_eq_true rfl) h)).trans (zi_lkA (a := zi_i243_27) (c := 560) rfl h)
theorem f243_560 : zi_fe 243 560 = some (.ireturn, 1, 1, 0, 0, 0, 0) := (zl243_28 (Nat.le_of_ble_eq_true rfl)).trans rfl
theorem f243_561 : zi_fe 243 561 = some ((.aload_n 1), 1, 0, 0, 0, 0, 0) := (zl243_28 (Nat.le_of_ble_eq_true rfl)).trans rfl
theorem f243_562 : zi_fe 243 562 = some ((.aload_n 0), 1, 0, 0, 0, 0, 0) := (zl243_28 (Nat.le_of_ble_eq_true rfl)).trans rfl
theorem f243_563 : zi_fe 243 563 = some ((.iload_n 3), 1, 0, 0, 0, 0, 0) := (zl243_28 (Nat.le_of_ble_eq_true rfl)).trans rfl
theorem f243_564 : zi_fe 243 564 = some ((.iconst 1), 1, 0, 0, 0, 0, 0) := (zl243_28 (Nat.le_of_ble_eq_true rfl)).trans rfl
theorem f243_565 : zi_fe 243 565 = some (.iadd, 1, 0, 0, 0, 0, 0) := (zl243_28 (Nat.le_of_ble_eq_true rfl)).trans rfl
theorem f243_566 : zi_fe 243 566 = some (.iaload, 1, 0, 0, 0, 0, 0) := (zl243_28 (Nat.le_of_ble_eq_true rfl)).trans rfl
theorem f243_567 : zi_fe 243 567 = some ((.aload_n 0), 1, 0, 0, 0, 0, 0) := (zl243_28 (Nat.le_of_ble_eq_true rfl)).trans rfl
theorem f243_568 : zi_fe 243 568 = some ((.iload_n 3), 1, 0, 0, 0, 0, 0) := (zl243_28 (Nat.le_of_ble_eq_true rfl)).trans rfl
theorem f243_569 : zi_fe 243 569 = some ((.iconst 2), 1, 0, 0, 0, 0, 0) := (zl243_28 (Nat.le_of_ble_eq_true rfl)).trans rfl
theorem f243_570 : zi_fe 243 570 = some (.iadd, 1, 0, 0, 0, 0, 0) := (zl243_28 (Nat.le_of_ble_eq_true rfl)).trans rfl
theorem f243_571 : zi_fe 243 571 = some (.iaload, 1, 0, 0, 0, 0, 0) := (zl243_28 (Nat.le_of_ble_eq_true rfl)).trans rfl
theorem zl243_29 {pc : Nat} (h : 572 ≤ pc) : zi_fe 243 pc = zu243_29.lookup pc := (zl243_28 (Nat.le_trans (Nat.le_of_ble_eq_true rfl) h)).trans (zi_lkA (a := zi_i243_28) (c := 572) rfl h)
theorem f243_572 : zi_fe 243 572 = some ((.aload_n 0), 1, 0, 0, 0, 0, 0) := (zl243_29 (Nat.le_of_ble_eq_true rfl)).trans rfl
theorem f243_573 : zi_fe 243 573 = some ((.iload_n 3), 1, 0, 0, 0, 0, 0) := (zl243_29 (Nat.le_of_ble_eq_true rfl)).trans rfl
theorem f243_574 : zi_fe 243 574 = some ((.iconst 3), 1, 0, 0, 0, 0, 0) := (zl243_29 (Nat.le_of_ble_eq_true rfl)).trans rfl
theorem f243_575 : zi_fe 243 575 = some (.iadd, 1, 0, 0, 0, 0, 0) := (zl243_29 (Nat.le_of_ble_eq_true rfl)).trans rfl
theorem f243_576 : zi_fe 243 576 = some (.iaload, 1, 0, 0, 0, 0, 0) := (zl243_29 (Nat.le_of_ble_eq_true rfl)).trans rfl
theorem f243_577 : zi_fe 243 577 = some ((.invokevirtual 77), 3, 120, 0, 7, 912, 4) := (zl243_29 (Nat.le_of_ble_eq_true rfl)).trans rfl
theorem f243_580 : zi_fe 243 580 = some (.pop, 1, 0, 0, 0, 0, 0) := (zl243_29 (Nat.le_of_ble_eq_true rfl)).trans rfl
theorem f243_581 : zi_fe 243 581 = some ((.aload_n 2), 1, 0, 0, 0, 0, 0) := (zl243_29 (Nat.le_of_ble_eq_true rfl)).trans rfl
theorem f243_582 : zi_fe 243 582 = some ((.aload_n 0), 1, 0, 0, 0, 0, 0) := (zl243_29 (Nat.le_of_ble_eq_true rfl)).trans rfl
theorem f243_583 : zi_fe 243 583 = some ((.iload_n 3), 1, 0, 0, 0, 0, 0) := (zl243_29 (Nat.le_of_ble_eq_true rfl)).trans rfl
theorem f243_584 : zi_fe 243 584 = some ((.iconst 1), 1, 0, 0, 0, 0, 0) := (zl243_29 (Nat.le_of_ble_eq_true rfl)).trans rfl
theorem f243_585 : zi_fe 243 585 = some (.iadd, 1, 0, 0, 0, 0, 0) := (zl243_29 (Nat.le_of_ble_eq_true rfl)).trans rfl
theorem zl243_30 {pc : Nat} (h : 586 ≤ pc) : zi_fe 243 pc = zu243_30.lookup pc := (zl243_29 (Nat.le_trans (Nat.le_of_ble_eq_true rfl) h)).trans (zi_lkA (a := zi_i243_29) (c := 586) rfl h)
theorem f243_586 : zi_fe 243 586 = some (.iaload, 1, 0, 0, 0, 0, 0) := (zl243_30 (Nat.le_of_ble_eq_true rfl)).trans rfl
theorem f243_587 : zi_fe 243 587 = some ((.aload_n 0), 1, 0, 0, 0, 0, 0) := (zl243_30 (Nat.le_of_ble_eq_true rfl)).trans rfl
theorem f243_588 : zi_fe 243 588 = some ((.iload_n 3), 1, 0, 0, 0, 0, 0) := (zl243_30 (Nat.le_of_ble_eq_true rfl)).trans rfl
theorem f243_589 : zi_fe 243 589 = some ((.iconst 2), 1, 0, 0, 0, 0, 0) := (zl243_30 (Nat.le_of_ble_eq_true rfl)).trans rfl
theorem f243_590 : zi_fe 243 590 = some (.iadd, 1, 0, 0, 0, 0, 0) := (zl243_30 (Nat.le_of_ble_eq_true rfl)).trans rfl
theorem f243_591 : zi_fe 243 591 = some (.iaload, 1, 0, 0, 0, 0, 0) := (zl243_30 (Nat.le_of_ble_eq_true rfl)).trans rfl
theorem f243_592 : zi_fe 243 592 = some ((.aload_n 0), 1, 0, 0, 0, 0, 0) := (zl243_30 (Nat.le_of_ble_eq_true rfl)).trans rfl
theorem f243_593 : zi_fe 243 593 = some ((.iload_n 3), 1, 0, 0, 0, 0, 0) := (zl243_30 (Nat.le_of_ble_eq_true rfl)).trans rfl
theorem f243_594 : zi_fe 243 594 = some ((.iconst 3), 1, 0, 0, 0, 0, 0) := (zl243_30 (Nat.le_of_ble_eq_true rfl)).trans rfl
theorem f243_595 : zi_fe 243 595 = some (.iadd, 1, 0, 0, 0, 0, 0) := (zl243_30 (Nat.le_of_ble_eq_true rfl)).trans rfl
theorem f243_596 : zi_fe 243 596 = some (.iaload, 1, 0, 0, 0, 0, 0) := (zl243_30 (Nat.le_of_ble_eq_true rfl)).trans rfl
theorem f243_597 : zi_fe 243 597 = some ((.invokevirtual 80), 3, 220, 0, 8, 1490, 4) := (zl243_30 (Nat.le_of_ble_eq_true rfl)).trans rfl
theorem zl243_31 {pc : Nat} (h : 600 ≤ pc) : zi_fe 243 pc = zu243_31.lookup pc := (zl243_30 (Nat.le_trans (Nat.le_of_ble_eq_true rfl) h)).trans (zi_lkA (a := zi_i243_30) (c := 600) rfl h)
theorem f243_600 : zi_fe 243 600 = some (.pop, 1, 0, 0, 0, 0, 0) := (zl243_31 (Nat.le_of_ble_eq_true rfl)).trans rfl
theorem f243_601 : zi_fe 243 601 = some ((.goto 356), 3, 0, 0, 0, 0, 0) := (zl243_31 (Nat.le_of_ble_eq_true rfl)).trans rfl
theorem f243_604 : zi_fe 243 604 = some ((.aload_n 1), 1, 0, 0, 0, 0, 0) := (zl243_31 (Nat.le_of_ble_eq_true rfl)).trans rfl
theorem f243_605 : zi_fe 243 605 = some ((.aload_n 0), 1, 0, 0, 0, 0, 0) := (zl243_31 (Nat.le_of_ble_eq_true rfl)).trans rfl
theorem f243_606 : zi_fe 243 606 = some ((.iload_n 3), 1, 0, 0, 0, 0, 0) := (zl243_31 (Nat.le_of_ble_eq_true rfl)).trans rfl
theorem f243_607 : zi_fe 243 607 = some ((.iconst 1), 1, 0, 0, 0, 0, 0) := (zl243_31 (Nat.le_of_ble_eq_true rfl)).trans rfl
theorem f243_608 : zi_fe 243 608 = some (.iadd, 1, 0, 0, 0, 0, 0) := (zl243_31 (Nat.le_of_ble_eq_true rfl)).trans rfl
theorem f243_609 : zi_fe 243 609 = some (.iaload, 1, 0, 0, 0, 0, 0) := (zl243_31 (Nat.le_of_ble_eq_true rfl)).trans rfl
theorem f243_610 : zi_fe 243 610 = some ((.aload_n 0), 1, 0, 0, 0, 0, 0) := (zl243_31 (Nat.le_of_ble_eq_true rfl)).trans rfl
theorem f243_611 : zi_fe 243 611 = some ((.iload_n 3), 1, 0, 0, 0, 0, 0) := (zl243_31 (Nat.le_of_ble_eq_true rfl)).trans rfl
theorem f243_612 : zi_fe 243 612 = some ((.iconst 2), 1, 0, 0, 0, 0, 0) := (zl243_31 (Nat.le_of_ble_eq_true rfl)).trans rfl
theorem f243_613 : zi_fe 243 613 = some (.iadd, 1, 0, 0, 0, 0, 0) := (zl243_31 (Nat.le_of_ble_eq_true rfl)).trans rfl
theorem zl243_32 {pc : Nat} (h : 614 ≤ pc) : zi_fe 243 pc = zu243_32.lookup pc := (zl243_31 (Nat.le_trans (Nat.le_of_ble_eq_true rfl) h)).trans (zi_lkA (a := zi_i243_31) (c := 614) rfl h)
theorem f243_614 : zi_fe 243 614 = some (.iaload, 1, 0, 0, 0, 0, 0) := (zl243_32 (Nat.le_of_ble_eq_true rfl)).trans rfl
theorem f243_615 : zi_fe 243 615 = some ((.aload_n 0), 1, 0, 0, 0, 0, 0) := (zl243_32 (Nat.le_of_ble_eq_true rfl)).trans rfl
theorem f243_616 : zi_fe 243 616 = some ((.iload_n 3), 1, 0, 0, 0, 0, 0) := (zl243_32 (Nat.le_of_ble_eq_true rfl)).trans rfl
theorem f243_617 : zi_fe 243 617 = some ((.iconst 3), 1, 0, 0, 0, 0, 0) := (zl243_32 (Nat.le_of_ble_eq_true rfl)).trans rfl
theorem f243_618 : zi_fe 243 618 = some (.iadd, 1, 0, 0, 0, 0, 0) := (zl243_32 (Nat.le_of_ble_eq_true rfl)).trans rfl
theorem f243_619 : zi_fe 243 619 = some (.iaload, 1, 0, 0, 0, 0, 0) := (zl243_32 (Nat.le_of_ble_eq_true rfl)).trans rfl
theorem f243_620 : zi_fe 243 620 = some ((.invokevirtual 81), 3, 121, 0, 7, 919, 4) := (zl243_32 (Nat.le_of_ble_eq_true rfl)).trans rfl
theorem f243_623 : zi_fe 243 623 = some (.pop, 1, 0, 0, 0, 0, 0) := (zl243_32 (Nat.le_of_ble_eq_true rfl)).trans rfl
theorem f243_624 : zi_fe 243 624 = some ((.aload_n 2), 1, 0, 0, 0, 0, 0) := (zl243_32 (Nat.le_of_ble_eq_true rfl)).trans rfl
theorem f243_625 : zi_fe 243 625 = some ((.aload_n 0), 1, 0, 0, 0, 0, 0) := (zl243_32 (Nat.le_of_ble_eq_true rfl)).trans rfl
theorem f243_626 : zi_fe 243 626 = some ((.iload_n 3), 1, 0, 0, 0, 0, 0) := (zl243_32 (Nat.le_of_ble_eq_true rfl)).trans rfl
theorem f243_627 : zi_fe 243 627 = some ((.iconst 1), 1, 0, 0, 0, 0, 0) := (zl243_32 (Nat.le_of_ble_eq_true rfl)).trans rfl
theorem zl243_33 {pc : Nat} (h : 628 ≤ pc) : zi_fe 243 pc = zu243_33.lookup pc := (zl243_32 (Nat.le_trans (Nat.le_of_ble_eq_true rfl) h)).trans (zi_lkA (a := zi_i243_32) (c := 628) rfl h)
theorem f243_628 : zi_fe 243 628 = some (.iadd, 1, 0, 0, 0, 0, 0) := (zl243_33 (Nat.le_of_ble_eq_true rfl)).trans rfl
theorem f243_629 : zi_fe 243 629 = some (.iaload, 1, 0, 0, 0, 0, 0) := (zl243_33 (Nat.le_of_ble_eq_true rfl)).trans rfl
theorem f243_630 : zi_fe 243 630 = some ((.aload_n 0), 1, 0, 0, 0, 0, 0) := (zl243_33 (Nat.le_of_ble_eq_true rfl)).trans rfl
theorem f243_631 : zi_fe 243 631 = some ((.iload_n 3), 1, 0, 0, 0, 0, 0) := (zl243_33 (Nat.le_of_ble_eq_true rfl)).trans rfl
theorem f243_632 : zi_fe 243 632 = some ((.iconst 2), 1, 0, 0, 0, 0, 0) := (zl243_33 (Nat.le_of_ble_eq_true rfl)).trans rfl
theorem f243_633 : zi_fe 243 633 = some (.iadd, 1, 0, 0, 0, 0, 0) := (zl243_33 (Nat.le_of_ble_eq_true rfl)).trans rfl
theorem f243_634 : zi_fe 243 634 = some (.iaload, 1, 0, 0, 0, 0, 0) := (zl243_33 (Nat.le_of_ble_eq_true rfl)).trans rfl
theorem f243_635 : zi_fe 243 635 = some ((.aload_n 0), 1, 0, 0, 0, 0, 0) := (zl243_33 (Nat.le_of_ble_eq_true rfl)).trans rfl
theorem f243_636 : zi_fe 243 636 = some ((.iload_n 3), 1, 0, 0, 0, 0, 0) := (zl243_33 (Nat.le_of_ble_eq_true rfl)).trans rfl
theorem f243_637 : zi_fe 243 637 = some ((.iconst 3), 1, 0, 0, 0, 0, 0) := (zl243_33 (Nat.le_of_ble_eq_true rfl)).trans rfl
theorem f243_638 : zi_fe 243 638 = some (.iadd, 1, 0, 0, 0, 0, 0) := (zl243_33 (Nat.le_of_ble_eq_true rfl)).trans rfl
theorem f243_639 : zi_fe 243 639 = some (.iaload, 1, 0, 0, 0, 0, 0) := (zl243_33 (Nat.le_of_ble_eq_true rfl)).trans rfl
theorem zl243_34 {pc : Nat} (h : 640 ≤ pc) : zi_fe 243 pc = zu243_34.lookup pc := (zl243_33 (Nat.le_trans (Nat.le_of_ble_eq_true rfl) h)).trans (zi_lkA (a := zi_i243_33) (c := 640) rfl h)
theorem f243_640 : zi_fe 243 640 = some ((.invokevirtual 84), 3, 221, 0, 8, 1497, 4) := (zl243_34 (Nat.le_of_ble_eq_true rfl)).trans rfl
theorem f243_643 : zi_fe 243 643 = some (.pop, 1, 0, 0, 0, 0, 0) := (zl243_34 (Nat.le_of_ble_eq_true rfl)).trans rfl
theorem f243_644 : zi_fe 243 644 = some ((.goto 313), 3, 0, 0, 0, 0, 0) := (zl243_34 (Nat.le_of_ble_eq_true rfl)).trans rfl
theorem f243_647 : zi_fe 243 647 = some ((.aload_n 1), 1, 0, 0, 0, 0, 0) := (zl243_34 (Nat.le_of_ble_eq_true rfl)).trans rfl
theorem f243_648 : zi_fe 243 648 = some ((.aload_n 0), 1, 0, 0, 0, 0, 0) := (zl243_34 (Nat.le_of_ble_eq_true rfl)).trans rfl
theorem f243_649 : zi_fe 243 649 = some ((.iload_n 3), 1, 0, 0, 0, 0, 0) := (zl243_34 (Nat.le_of_ble_eq_true rfl)).trans rfl
theorem f243_650 : zi_fe 243 650 = some ((.iconst 1), 1, 0, 0, 0, 0, 0) := (zl243_34 (Nat.le_of_ble_eq_true rfl)).trans rfl
theorem f243_651 : zi_fe 243 651 = some (.iadd, 1, 0, 0, 0, 0, 0) := (zl243_34 (Nat.le_of_ble_eq_true rfl)).trans rfl
theorem f243_652 : zi_fe 243 652 = some (.iaload, 1, 0, 0, 0, 0, 0) := (zl243_34 (Nat.le_of_ble_eq_true rfl)).trans rfl
theorem f243_653 : zi_fe 243 653 = some ((.aload_n 0), 1, 0, 0, 0, 0, 0) := (zl243_34 (Nat.le_of_ble_eq_true rfl)).trans rfl
theorem f243_654 : zi_fe 243 654 = some ((.iload_n 3), 1, 0, 0, 0, 0, 0) := (zl243_34 (Nat.le_of_ble_eq_true rfl)).trans rfl
theorem f243_655 : zi_fe 243 655 = some ((.iconst 2), 1, 0, 0, 0, 0, 0) := (zl243_34 (Nat.le_of_ble_eq_true rfl)).trans rfl
theorem zl243_35 {pc : Nat} (h : 656 ≤ pc) : zi_fe 243 pc = zu243_35.lookup pc := (zl243_34 (Nat.le_trans (Nat.le_of_ble_eq_true rfl) h)).trans (zi_lkA (a := zi_i243_34) (c := 656) rfl h)
theorem f243_656 : zi_fe 243 656 = some (.iadd, 1, 0, 0, 0, 0, 0) := (zl243_35 (Nat.le_of_ble_eq_true rfl)).trans rfl
theorem f243_657 : zi_fe 243 657 = some (.iaload, 1, 0, 0, 0, 0, 0) := (zl243_35 (Nat.le_of_ble_eq_true rfl)).trans rfl
theorem f243_658 : zi_fe 243 658 = some ((.aload_n 0), 1, 0, 0, 0, 0, 0) := (zl243_35 (Nat.le_of_ble_eq_true rfl)).trans rfl
theorem f243_659 : zi_fe 243 659 = some ((.iload_n 3), 1, 0, 0, 0, 0, 0) := (zl243_35 (Nat.le_of_ble_eq_true rfl)).trans rfl
theorem f243_660 : zi_fe 243 660 = some ((.iconst 3), 1, 0, 0, 0, 0, 0) := (zl243_35 (Nat.le_of_ble_eq_true rfl)).trans rfl
theorem f243_661 : zi_fe 243 661 = some (.iadd, 1, 0, 0, 0, 0, 0) := (zl243_35 (Nat.le_of_ble_eq_true rfl)).trans rfl
theorem f243_662 : zi_fe 243 662 = some (.iaload, 1, 0, 0, 0, 0, 0) := (zl243_35 (Nat.le_of_ble_eq_true rfl)).trans rfl
theorem f243_663 : zi_fe 243 663 = some ((.aload_n 0), 1, 0, 0, 0, 0, 0) := (zl243_35 (Nat.le_of_ble_eq_true rfl)).trans rfl
theorem f243_664 : zi_fe 243 664 = some ((.iload_n 3), 1, 0, 0, 0, 0, 0) := (zl243_35 (Nat.le_of_ble_eq_true rfl)).trans rfl
theorem f243_665 : zi_fe 243 665 = some ((.iconst 4), 1, 0, 0, 0, 0, 0) := (zl243_35 (Nat.le_of_ble_eq_true rfl)).trans rfl
theorem f243_666 : zi_fe 243 666 = some (.iadd, 1, 0, 0, 0, 0, 0) := (zl243_35 (Nat.le_of_ble_eq_true rfl)).trans rfl
theorem f243_667 : zi_fe 243 667 = some (.iaload, 1, 0, 0, 0, 0, 0) := (zl243_35 (Nat.le_of_ble_eq_true rfl)).trans rfl
theorem zl243_36 {pc : Nat} (h : 668 ≤ pc) : zi_fe 243 pc = zu243_36.lookup pc := (zl243_35 (Nat.le_trans (Nat.le_of_ble_eq_true rfl) h)).trans (zi_lkA (a := zi_i243_35) (c := 668) rfl h)
theorem f243_668 : zi_fe 243 668 = some ((.invokevirtual 85), 3, 122, 0, 7, 923, 5) := (zl243_36 (Nat.le_of_ble_eq_true rfl)).trans rfl
theorem f243_671 : zi_fe 243 671 = some (.pop2, 1, 0, 0, 0, 0, 0) := (zl243_36 (Nat.le_of_ble_eq_true rfl)).trans rfl
theorem f243_672 : zi_fe 243 672 = some ((.aload_n 2), 1, 0, 0, 0, 0, 0) := (zl243_36 (Nat.le_of_ble_eq_true rfl)).trans rfl
theorem f243_673 : zi_fe 243 673 = some ((.aload_n 0), 1, 0, 0, 0, 0, 0) := (zl243_36 (Nat.le_of_ble_eq_true rfl)).trans rfl
theorem f243_674 : zi_fe 243 674 = some ((.iload_n 3), 1, 0, 0, 0, 0, 0) := (zl243_36 (Nat.le_of_ble_eq_true rfl)).trans rfl
theorem f243_675 : zi_fe 243 675 = some ((.iconst 1), 1, 0, 0, 0, 0, 0) := (zl243_36 (Nat.le_of_ble_eq_true rfl)).trans rfl
theorem f243_676 : zi_fe 243 676 = some (.iadd, 1, 0, 0, 0, 0, 0) := (zl243_36 (Nat.le_of_ble_eq_true rfl)).trans rfl
theorem f243_677 : zi_fe 243 677 = some (.iaload, 1, 0, 0, 0, 0, 0) := (zl243_36 (Nat.le_of_ble_eq_true rfl)).trans rfl
theorem f243_678 : zi_fe 243 678 = some ((.aload_n 0), 1, 0, 0, 0, 0, 0) := (zl243_36 (Nat.le_of_ble_eq_true rfl)).trans rfl
theorem f243_679 : zi_fe 243 679 = some ((.iload_n 3), 1, 0, 0, 0, 0, 0) := (zl243_36 (Nat.le_of_ble_eq_true rfl)).trans rfl
theorem f243_680 : zi_fe 243 680 = some ((.iconst 2), 1, 0, 0, 0, 0, 0) := (zl243_36 (Nat.le_of_ble_eq_true rfl)).trans rfl
theorem f243_681 : zi_fe 243 681 = some (.iadd, 1, 0, 0, 0, 0, 0) := (zl243_36 (Nat.le_of_ble_eq_true rfl)).trans rfl
theorem zl243_37 {pc : Nat} (h : 682 ≤ pc) : zi_fe 243 pc = zu243_37.lookup pc := (zl243_36 (Nat.le_trans (Nat.le_of_ble_eq_true rfl) h)).trans (zi_lkA (a := zi_i243_36) (c := 682) rfl h)
theorem f243_682 : zi_fe 243 682 = some (.iaload, 1, 0, 0, 0, 0, 0) := (zl243_37 (Nat.le_of_ble_eq_true rfl)).trans rfl
theorem f243_683 : zi_fe 243 683 = some ((.aload_n 0), 1, 0, 0, 0, 0, 0) := (zl243_37 (Nat.le_of_ble_eq_true rfl)).trans rfl
theorem f243_684 : zi_fe 243 684 = some ((.iload_n 3), 1, 0, 0, 0, 0, 0) := (zl243_37 (Nat.le_of_ble_eq_true rfl)).trans rfl
theorem f243_685 : zi_fe 243 685 = some ((.iconst 3), 1, 0, 0, 0, 0, 0) := (zl243_37 (Nat.le_of_ble_eq_true rfl)).trans rfl
theorem f243_686 : zi_fe 243 686 = some (.iadd, 1, 0, 0, 0, 0, 0) := (zl243_37 (Nat.le_of_ble_eq_true rfl)).trans rfl
theorem f243_687 : zi_fe 243 687 = some (.iaload, 1, 0, 0, 0, 0, 0) := (zl243_37 (Nat.le_of_ble_eq_true rfl)).trans rfl
theorem f243_688 : zi_fe 243 688 = some ((.aload_n 0), 1, 0, 0, 0, 0, 0) := (zl243_37 (Nat.le_of_ble_eq_true rfl)).trans rfl
theorem f243_689 : zi_fe 243 689 = some ((.iload_n 3), 1, 0, 0, 0, 0, 0) := (zl243_37 (Nat.le_of_ble_eq_true rfl)).trans rfl
theorem f243_690 : zi_fe 243 690 = some ((.iconst 4), 1, 0, 0, 0, 0, 0) := (zl243_37 (Nat.le_of_ble_eq_true rfl)).trans rfl
theorem f243_691 : zi_fe 243 691 = some (.iadd, 1, 0, 0, 0, 0, 0) := (zl243_37 (Nat.le_of_ble_eq_true rfl)).trans rfl
theorem f243_692 : zi_fe 243 692 = some (.iaload, 1, 0, 0, 0, 0, 0) := (zl243_37 (Nat.le_of_ble_eq_true rfl)).trans rfl
theorem f243_693 : zi_fe 243 693 = some ((.invokevirtual 89), 3, 223, 0, 8, 1501, 5) := (zl243_37 (Nat.le_of_ble_eq_true rfl)).trans rfl
theorem zl243_38 {pc : Nat} (h : 696 ≤ pc) : zi_fe 243 pc = zu243_38.lookup pc := (zl243_37 (Nat.le_trans (Nat.le_of_ble_eq_true rfl) h)).trans (zi_lkA (a := zi_i243_37) (c := 696) rfl h)
theorem f243_696 : zi_fe 243 696 = some (.pop2, 1, 0, 0, 0, 0, 0) := (zl243_38 (Nat.le_of_ble_eq_true rfl)).trans rfl
theorem f243_697 : zi_fe 243 697 = some ((.goto 260), 3, 0, 0, 0, 0, 0) := (zl243_38 (Nat.le_of_ble_eq_true rfl)).trans rfl
theorem f243_700 : zi_fe 243 700 = some ((.aload_n 1), 1, 0, 0, 0, 0, 0) := (zl243_38 (Nat.le_of_ble_eq_true rfl)).trans rfl
theorem f243_701 : zi_fe 243 701 = some ((.invokevirtual 90), 3, 123, 0, 7, 932, 1) := (zl243_38 (Nat.le_of_ble_eq_true rfl)).trans rfl
theorem f243_704 : zi_fe 243 704 = some (.pop, 1, 0, 0, 0, 0, 0) := (zl243_38 (Nat.le_of_ble_eq_true rfl)).trans rfl
theorem f243_705 : zi_fe 243 705 = some ((.aload_n 2), 1, 0, 0, 0, 0, 0) := (zl243_38 (Nat.le_of_ble_eq_true rfl)).trans rfl
theorem f243_706 : zi_fe 243 706 = some ((.invokevirtual 93), 3, 230, 0, 8, 1509, 1) := (zl243_38 (Nat.le_of_ble_eq_true rfl)).trans rfl
theorem f243_709 : zi_fe 243 709 = some (.pop, 1, 0, 0, 0, 0, 0) := (zl243_38 (Nat.le_of_ble_eq_true rfl)).trans rfl
theorem f243_710 : zi_fe 243 710 = some ((.goto 247), 3, 0, 0, 0, 0, 0) := (zl243_38 (Nat.le_of_ble_eq_true rfl)).trans rfl
theorem f243_713 : zi_fe 243 713 = some ((.aload_n 1), 1, 0, 0, 0, 0, 0) := (zl243_38 (Nat.le_of_ble_eq_true rfl)).trans rfl
theorem f243_714 : zi_fe 243 714 = some ((.aload_n 0), 1, 0, 0, 0, 0, 0) := (zl243_38 (Nat.le_of_ble_eq_true rfl)).trans rfl
theorem f243_715 : zi_fe 243 715 = some ((.iload_n 3), 1, 0, 0, 0, 0, 0) := (zl243_38 (Nat.le_of_ble_eq_true rfl)).trans rfl
theorem zl243_39 {pc : Nat} (h : 716 ≤ pc) : zi_fe 243 pc = zu243_39.lookup pc := (zl243_38 (Nat.le_trans (Nat.le_of_ble_eq_true rfl) h)).trans (zi_lkA (a := zi_i243_38) (c := 716) rfl h)
theorem f243_716 : zi_fe 243 716 = some ((.iconst 1), 1, 0, 0, 0, 0, 0) := (zl243_39 (Nat.le_of_ble_eq_true rfl)).trans rfl
theorem f243_717 : zi_fe 243 717 = some (.iadd, 1, 0, 0, 0, 0, 0) := (zl243_39 (Nat.le_of_ble_eq_true rfl)).trans rfl
theorem f243_718 : zi_fe 243 718 = some (.iaload, 1, 0, 0, 0, 0, 0) := (zl243_39 (Nat.le_of_ble_eq_true rfl)).trans rfl
theorem f243_719 : zi_fe 243 719 = some ((.invokevirtual 94), 3, 124, 0, 7, 970, 2) := (zl243_39 (Nat.le_of_ble_eq_true rfl)).trans rfl
theorem f243_722 : zi_fe 243 722 = some (.pop, 1, 0, 0, 0, 0, 0) := (zl243_39 (Nat.le_of_ble_eq_true rfl)).trans rfl
theorem f243_723 : zi_fe 243 723 = some ((.aload_n 2), 1, 0, 0, 0, 0, 0) := (zl243_39 (Nat.le_of_ble_eq_true rfl)).trans rfl
theorem f243_724 : zi_fe 243 724 = some ((.aload_n 0), 1, 0, 0, 0, 0, 0) := (zl243_39 (Nat.le_of_ble_eq_true rfl)).trans rfl
theorem f243_725 : zi_fe 243 725 = some ((.iload_n 3), 1, 0, 0, 0, 0, 0) := (zl243_39 (Nat.le_of_ble_eq_true rfl)).trans rfl
theorem f243_726 : zi_fe 243 726 = some ((.iconst 1), 1, 0, 0, 0, 0, 0) := (zl243_39 (Nat.le_of_ble_eq_true rfl)).trans rfl
theorem f243_727 : zi_fe 243 727 = some (.iadd, 1, 0, 0, 0, 0, 0) := (zl243_39 (Nat.le_of_ble_eq_true rfl)).trans rfl
theorem f243_728 : zi_fe 243 728 = some (.iaload, 1, 0, 0, 0, 0, 0) := (zl243_39 (Nat.le_of_ble_eq_true rfl)).trans rfl
theorem f243_729 : zi_fe 243 729 = some ((.invokevirtual 97), 3, 231, 0, 8, 1537, 2) := (zl243_39 (Nat.le_of_ble_eq_true rfl)).trans rfl
theorem zl243_40 {pc : Nat} (h : 732 ≤ pc) : zi_fe 243 pc = zu243_40.lookup pc := (zl243_39 (Nat.le_trans (Nat.le_of_ble_eq_true rfl) h)).trans (zi_lkA (a := zi_i243_39) (c := 732) rfl h)
theorem f243_732 : zi_fe 243 732 = some (.pop, 1, 0, 0, 0, 0, 0) := (zl243_40 (Nat.le_of_ble_eq_true rfl)).trans rfl
theorem f243_733 : zi_fe 243 733 = some ((.goto 224), 3, 0, 0, 0, 0, 0) := (zl243_40 (Nat.le_of_ble_eq_true rfl)).trans rfl
theorem f243_736 : zi_fe 243 736 = some ((.aload_n 1), 1, 0, 0, 0, 0, 0) := (zl243_40 (Nat.le_of_ble_eq_true rfl)).trans rfl
theorem f243_737 : zi_fe 243 737 = some ((.aload_n 0), 1, 0, 0, 0, 0, 0) := (zl243_40 (Nat.le_of_ble_eq_true rfl)).trans rfl
theorem f243_738 : zi_fe 243 738 = some ((.iload_n 3), 1, 0, 0, 0, 0, 0) := (zl243_40 (Nat.le_of_ble_eq_true rfl)).trans rfl
theorem f243_739 : zi_fe 243 739 = some ((.iconst 1), 1, 0, 0, 0, 0, 0) := (zl243_40 (Nat.le_of_ble_eq_true rfl)).trans rfl
theorem f243_740 : zi_fe 243 740 = some (.iadd, 1, 0, 0, 0, 0, 0) := (zl243_40 (Nat.le_of_ble_eq_true rfl)).trans rfl
theorem f243_741 : zi_fe 243 741 = some (.iaload, 1, 0, 0, 0, 0, 0) := (zl243_40 (Nat.le_of_ble_eq_true rfl)).trans rfl
theorem f243_742 : zi_fe 243 742 = some ((.invokevirtual 98), 3, 125, 0, 7, 978, 2) := (zl243_40 (Nat.le_of_ble_eq_true rfl)).trans rfl
theorem f243_745 : zi_fe 243 745 = some (.pop, 1, 0, 0, 0, 0, 0) := (zl243_40 (Nat.le_of_ble_eq_true rfl)).trans rfl
theorem f243_746 : zi_fe 243 746 = some ((.aload_n 2), 1, 0, 0, 0, 0, 0) := (zl243_40 (Nat.le_of_ble_eq_true rfl)).trans rfl
theorem f243_747 : zi_fe 243 747 = some ((.aload_n 0), 1, 0, 0, 0, 0, 0) := (zl243_40 (Nat.le_of_ble_eq_true rfl)).trans rfl
theorem zl243_41 {pc : Nat} (h : 748 ≤ pc) : zi_fe 243 pc = zu243_41.lookup pc := (zl243_40 (Nat.le_trans (Nat.le_of_ble_eq_true rfl) h)).trans (zi_lkA (a := zi_i243_40) (c := 748) rfl h)
theorem f243_748 : zi_fe 243 748 = some ((.iload_n 3), 1, 0, 0, 0, 0, 0) := (zl243_41 (Nat.le_of_ble_eq_true rfl)).trans rfl
theorem f243_749 : zi_fe 243 749 = some ((.iconst 1), 1, 0, 0, 0, 0, 0) := (zl243_41 (Nat.le_of_ble_eq_true rfl)).trans rfl
theorem f243_750 : zi_fe 243 750 = some (.iadd, 1, 0, 0, 0, 0, 0) := (zl243_41 (Nat.le_of_ble_eq_true rfl)).trans rfl
theorem f243_751 : zi_fe 243 751 = some (.iaload, 1, 0, 0, 0, 0, 0) := (zl243_41 (Nat.le_of_ble_eq_true rfl)).trans rfl
theorem f243_752 : zi_fe 243 752 = some ((.invokevirtual 101), 3, 232, 0, 8, 1541, 2) := (zl243_41 (Nat.le_of_ble_eq_true rfl)).trans rfl
theorem f243_755 : zi_fe 243 755 = some (.pop, 1, 0, 0, 0, 0, 0) := (zl243_41 (Nat.le_of_ble_eq_true rfl)).trans rfl
theorem f243_756 : zi_fe 243 756 = some ((.goto 201), 3, 0, 0, 0, 0, 0) := (zl243_41 (Nat.le_of_ble_eq_true rfl)).trans rfl
theorem f243_759 : zi_fe 243 759 = some ((.aload_n 1), 1, 0, 0, 0, 0, 0) := (zl243_41 (Nat.le_of_ble_eq_true rfl)).trans rfl
theorem f243_760 : zi_fe 243 760 = some ((.aload_n 0), 1, 0, 0, 0, 0, 0) := (zl243_41 (Nat.le_of_ble_eq_true rfl)).trans rfl
theorem f243_761 : zi_fe 243 761 = some ((.iload_n 3), 1, 0, 0, 0, 0, 0) := (zl243_41 (Nat.le_of_ble_eq_true rfl)).trans rfl
theorem f243_762 : zi_fe 243 762 = some ((.iconst 1), 1, 0, 0, 0, 0, 0) := (zl243_41 (Nat.le_of_ble_eq_true rfl)).trans rfl
theorem f243_763 : zi_fe 243 763 = some (.iadd, 1, 0, 0, 0, 0, 0) := (zl243_41 (Nat.le_of_ble_eq_true rfl)).trans rfl
theorem zl243_42 {pc : Nat} (h : 764 ≤ pc) : zi_fe 243 pc = zu243_42.lookup pc := (zl243_41 (Nat.le_trans (Nat.le_of_ble_eq_true rfl) h)).trans (zi_lkA (a := zi_i243_41) (c := 764) rfl h)
theorem f243_764 : zi_fe 243 764 = some (.iaload, 1, 0, 0, 0, 0, 0) := (zl243_42 (Nat.le_of_ble_eq_true rfl)).trans rfl
theorem f243_765 : zi_fe 243 765 = some ((.invokevirtual 102), 3, 126, 0, 7, 986, 2) := (zl243_42 (Nat.le_of_ble_eq_true rfl)).trans rfl
theorem f243_768 : zi_fe 243 768 = some (.pop, 1, 0, 0, 0, 0, 0) := (zl243_42 (Nat.le_of_ble_eq_true rfl)).trans rfl
theorem f243_769 : zi_fe 243 769 = some ((.aload_n 2), 1, 0, 0, 0, 0, 0) := (zl243_42 (Nat.le_of_ble_eq_true rfl)).trans rfl
theorem f243_770 : zi_fe 243 770 = some ((.aload_n 0), 1, 0, 0, 0, 0, 0) := (zl243_42 (Nat.le_of_ble_eq_true rfl)).trans rfl
theorem f243_771 : zi_fe 243 771 = some ((.iload_n 3), 1, 0, 0, 0, 0, 0) := (zl243_42 (Nat.le_of_ble_eq_true rfl)).trans rfl
theorem f243_772 : zi_fe 243 772 = some ((.iconst 1), 1, 0, 0, 0, 0, 0) := (zl243_42 (Nat.le_of_ble_eq_true rfl)).trans rfl
theorem f243_773 : zi_fe 243 773 = some (.iadd, 1, 0, 0, 0, 0, 0) := (zl243_42 (Nat.le_of_ble_eq_true rfl)).trans rfl
theorem f243_774 : zi_fe 243 774 = some (.iaload, 1, 0, 0, 0, 0, 0) := (zl243_42 (Nat.le_of_ble_eq_true rfl)).trans rfl
theorem f243_775 : zi_fe 243 775 = some ((.invokevirtual 105), 3, 233, 0, 8, 1545, 2) := (zl243_42 (Nat.le_of_ble_eq_true rfl)).trans rfl
theorem f243_778 : zi_fe 243 778 = some (.pop, 1, 0, 0, 0, 0, 0) := (zl243_42 (Nat.le_of_ble_eq_true rfl)).trans rfl
theorem f243_779 : zi_fe 243 779 = some ((.goto 178), 3, 0, 0, 0, 0, 0) := (zl243_42 (Nat.le_of_ble_eq_true rfl)).trans rfl
theorem zl243_43 {pc : Nat} (h : 782 ≤ pc) : zi_fe 243 pc = zu243_43.lookup pc := (zl243_42 (Nat.le_trans (Nat.le_of_ble_eq_true rfl) h)).trans (zi_lkA (a := zi_i243_42) (c := 782) rfl h)
theorem f243_782 : zi_fe 243 782 = some ((.aload_n 1), 1, 0, 0, 0, 0, 0) := (zl243_43 (Nat.le_of_ble_eq_true rfl)).trans rfl
theorem f243_783 : zi_fe 243 783 = some ((.aload_n 0), 1, 0, 0, 0, 0, 0) := (zl243_43 (Nat.le_of_ble_eq_true rfl)).trans rfl
theorem f243_784 : zi_fe 243 784 = some ((.iload_n 3), 1, 0, 0, 0, 0, 0) := (zl243_43 (Nat.le_of_ble_eq_true rfl)).trans rfl
theorem f243_785 : zi_fe 243 785 = some ((.iconst 1), 1, 0, 0, 0, 0, 0) := (zl243_43 (Nat.le_of_ble_eq_true rfl)).trans rfl
theorem f243_786 : zi_fe 243 786 = some (.iadd, 1, 0, 0, 0, 0, 0) := (zl243_43 (Nat.le_of_ble_eq_true rfl)).trans rfl
theorem f243_787 : zi_fe 243 787 = some (.iaload, 1, 0, 0, 0, 0, 0) := (zl243_43 (Nat.le_of_ble_eq_true rfl)).trans rfl
theorem f243_788 : zi_fe 243 788 = some ((.aload_n 0), 1, 0, 0, 0, 0, 0) := (zl243_43 (Nat.le_of_ble_eq_true rfl)).trans rfl
theorem f243_789 : zi_fe 243 789 = some ((.iload_n 3), 1, 0, 0, 0, 0, 0) := (zl243_43 (Nat.le_of_ble_eq_true rfl)).trans rfl
theorem f243_790 : zi_fe 243 790 = some ((.iconst 2), 1, 0, 0, 0, 0, 0) := (zl243_43 (Nat.le_of_ble_eq_true rfl)).trans rfl
theorem f243_791 : zi_fe 243 791 = some (.iadd, 1, 0, 0, 0, 0, 0) := (zl243_43 (Nat.le_of_ble_eq_true rfl)).trans rfl
theorem f243_792 : zi_fe 243 792 = some (.iaload, 1, 0, 0, 0, 0, 0) := (zl243_43 (Nat.le_of_ble_eq_true rfl)).trans rfl
theorem f243_793 : zi_fe 243 793 = some ((.aload_n 0), 1, 0, 0, 0, 0, 0) := (zl243_43 (Nat.le_of_ble_eq_true rfl)).trans rfl
theorem zl243_44 {pc : Nat} (h : 794 ≤ pc) : zi_fe 243 pc = zu243_44.lookup pc := (zl243_43 (Nat.le_trans (Nat.le_of_ble_eq_true rfl) h)).trans (zi_lkA (a := zi_i243_43) (c := 794) rfl h)
theorem f243_794 : zi_fe 243 794 = some ((.iload_n 3), 1, 0, 0, 0, 0, 0) := (zl243_44 (Nat.le_of_ble_eq_true rfl)).trans rfl
theorem f243_795 : zi_fe 243 795 = some ((.iconst 3), 1, 0, 0, 0, 0, 0) := (zl243_44 (Nat.le_of_ble_eq_true rfl)).trans rfl
theorem f243_796 : zi_fe 243 796 = some (.iadd, 1, 0, 0, 0, 0, 0) := (zl243_44 (Nat.le_of_ble_eq_true rfl)).trans rfl
theorem f243_797 : zi_fe 243 797 = some (.iaload, 1, 0, 0, 0, 0, 0) := (zl243_44 (Nat.le_of_ble_eq_true rfl)).trans rfl
theorem f243_798 : zi_fe 243 798 = some ((.invokevirtual 106), 3, 127, 0, 7, 990, 4) := (zl243_44 (Nat.le_of_ble_eq_true rfl)).trans rfl
theorem f243_801 : zi_fe 243 801 = some (.pop, 1, 0, 0, 0, 0, 0) := (zl243_44 (Nat.le_of_ble_eq_true rfl)).trans rfl
theorem f243_802 : zi_fe 243 802 = some ((.aload_n 2), 1, 0, 0, 0, 0, 0) := (zl243_44 (Nat.le_of_ble_eq_true rfl)).trans rfl
theorem f243_803 : zi_fe 243 803 = some ((.aload_n 0), 1, 0, 0, 0, 0, 0) := (zl243_44 (Nat.le_of_ble_eq_true rfl)).trans rfl
theorem f243_804 : zi_fe 243 804 = some ((.iload_n 3), 1, 0, 0, 0, 0, 0) := (zl243_44 (Nat.le_of_ble_eq_true rfl)).trans rfl
theorem f243_805 : zi_fe 243 805 = some ((.iconst 1), 1, 0, 0, 0, 0, 0) := (zl243_44 (Nat.le_of_ble_eq_true rfl)).trans rfl
theorem f243_806 : zi_fe 243 806 = some (.iadd, 1, 0, 0, 0, 0, 0) := (zl243_44 (Nat.le_of_ble_eq_true rfl)).trans rfl
theorem f243_807 : zi_fe 243 807 = some (.iaload, 1, 0, 0, 0, 0, 0) := (zl243_44 (Nat.le_of_ble_eq_true rfl)).trans rfl
theorem zl243_45 {pc : Nat} (h : 808 ≤ pc) : zi_fe 243 pc = zu243_45.lookup pc := (zl243_44 (Nat.le_trans (Nat.le_of_ble_eq_true rfl) h)).trans (zi_lkA (a := zi_i243_44) (c := 808) rfl h)
theorem f243_808 : zi_fe 243 808 = some ((.aload_n 0), 1, 0, 0, 0, 0, 0) := (zl243_45 (Nat.le_of_ble_eq_true rfl)).trans rfl
theorem f243_809 : zi_fe 243 809 = some ((.iload_n 3), 1, 0, 0, 0, 0, 0) := (zl243_45 (Nat.le_of_ble_eq_true rfl)).trans rfl
theorem f243_810 : zi_fe 243 810 = some ((.iconst 2), 1, 0, 0, 0, 0, 0) := (zl243_45 (Nat.le_of_ble_eq_true rfl)).trans rfl
theorem f243_811 : zi_fe 243 811 = some (.iadd, 1, 0, 0, 0, 0, 0) := (zl243_45 (Nat.le_of_ble_eq_true rfl)).trans rfl
theorem f243_812 : zi_fe 243 812 = some (.iaload, 1, 0, 0, 0, 0, 0) := (zl243_45 (Nat.le_of_ble_eq_true rfl)).trans rfl
theorem f243_813 : zi_fe 243 813 = some ((.aload_n 0), 1, 0, 0, 0, 0, 0) := (zl243_45 (Nat.le_of_ble_eq_true rfl)).trans rfl
theorem f243_814 : zi_fe 243 814 = some ((.iload_n 3), 1, 0, 0, 0, 0, 0) := (zl243_45 (Nat.le_of_ble_eq_true rfl)).trans rfl
theorem f243_815 : zi_fe 243 815 = some ((.iconst 3), 1, 0, 0, 0, 0, 0) := (zl243_45 (Nat.le_of_ble_eq_true rfl)).trans rfl
theorem f243_816 : zi_fe 243 816 = some (.iadd, 1, 0, 0, 0, 0, 0) := (zl243_45 (Nat.le_of_ble_eq_true rfl)).trans rfl
theorem f243_817 : zi_fe 243 817 = some (.iaload, 1, 0, 0, 0, 0, 0) := (zl243_45 (Nat.le_of_ble_eq_true rfl)).trans rfl
theorem f243_818 : zi_fe 243 818 = some ((.invokevirtual 109), 3, 235, 0, 8, 1549, 4) := (zl243_45 (Nat.le_of_ble_eq_true rfl)).trans rfl
theorem f243_821 : zi_fe 243 821 = some (.pop, 1, 0, 0, 0, 0, 0) := (zl243_45 (Nat.le_of_ble_eq_true rfl)).trans rfl
theorem zl243_46 {pc : Nat} (h : 822 ≤ pc) : zi_fe 243 pc = zu243_46.lookup pc := (zl243_45 (Nat.le_trans (Nat.le_of_ble_eq_true rfl) h)).trans (zi_lkA (a := zi_i243_45) (c := 822) rfl h)
theorem f243_822 : zi_fe 243 822 = some ((.goto 135), 3, 0, 0, 0, 0, 0) := (zl243_46 (Nat.le_of_ble_eq_true rfl)).trans rfl
theorem f243_825 : zi_fe 243 825 = some ((.aload_n 1), 1, 0, 0, 0, 0, 0) := (zl243_46 (Nat.le_of_ble_eq_true rfl)).trans rfl
theorem f243_826 : zi_fe 243 826 = some ((.aload_n 0), 1, 0, 0, 0, 0, 0) := (zl243_46 (Nat.le_of_ble_eq_true rfl)).trans rfl
theorem f243_827 : zi_fe 243 827 = some ((.iload_n 3), 1, 0, 0, 0, 0, 0) := (zl243_46 (Nat.le_of_ble_eq_true rfl)).trans rfl
theorem f243_828 : zi_fe 243 828 = some ((.iconst 1), 1, 0, 0, 0, 0, 0) := (zl243_46 (Nat.le_of_ble_eq_true rfl)).trans rfl
theorem f243_829 : zi_fe 243 829 = some (.iadd, 1, 0, 0, 0, 0, 0) := (zl243_46 (Nat.le_of_ble_eq_true rfl)).trans rfl
theorem f243_830 : zi_fe 243 830 = some (.iaload, 1, 0, 0, 0, 0, 0) := (zl243_46 (Nat.le_of_ble_eq_true rfl)).trans rfl
theorem f243_831 : zi_fe 243 831 = some ((.aload_n 0), 1, 0, 0, 0, 0, 0) := (zl243_46 (Nat.le_of_ble_eq_true rfl)).trans rfl
theorem f243_832 : zi_fe 243 832 = some ((.iload_n 3), 1, 0, 0, 0, 0, 0) := (zl243_46 (Nat.le_of_ble_eq_true rfl)).trans rfl
theorem f243_833 : zi_fe 243 833 = some ((.iconst 2), 1, 0, 0, 0, 0, 0) := (zl243_46 (Nat.le_of_ble_eq_true rfl)).trans rfl
theorem f243_834 : zi_fe 243 834 = some (.iadd, 1, 0, 0, 0, 0, 0) := (zl243_46 (Nat.le_of_ble_eq_true rfl)).trans rfl
theorem f243_835 : zi_fe 243 835 = some (.iaload, 1, 0, 0, 0, 0, 0) := (zl243_46 (Nat.le_of_ble_eq_true rfl)).trans rfl
theorem zl243_47 {pc : Nat} (h : 836 ≤ pc) : zi_fe 243 pc = zu243_47.lookup pc := (zl243_46 (Nat.le_trans (Nat.le_of_ble_eq_true rfl) h)).trans (zi_lkA (a := zi_i243_46) (c := 836) rfl h)
theorem f243_836 : zi_fe 243 836 = some ((.aload_n 0), 1, 0, 0, 0, 0, 0) := (zl243_47 (Nat.le_of_ble_eq_true rfl)).trans rfl
theorem f243_837 : zi_fe 243 837 = some ((.iload_n 3), 1, 0, 0, 0, 0, 0) := (zl243_47 (Nat.le_of_ble_eq_true rfl)).trans rfl
theorem f243_838 : zi_fe 243 838 = some ((.iconst 3), 1, 0, 0, 0, 0, 0) := (zl243_47 (Nat.le_of_ble_eq_true rfl)).trans rfl
theorem f243_839 : zi_fe 243 839 = some (.iadd, 1, 0, 0, 0, 0, 0) := (zl243_47 (Nat.le_of_ble_eq_true rfl)).trans rfl
theorem f243_840 : zi_fe 243 840 = some (.iaload, 1, 0, 0, 0, 0, 0) := (zl243_47 (Nat.le_of_ble_eq_true rfl)).trans rfl
theorem f243_841 : zi_fe 243 841 = some ((.invokevirtual 110), 3, 128, 0, 7, 1006, 4) := (zl243_47 (Nat.le_of_ble_eq_true rfl)).trans rfl
theorem f243_844 : zi_fe 243 844 = some (.pop, 1, 0, 0, 0, 0, 0) := (zl243_47 (Nat.le_of_ble_eq_true rfl)).trans rfl
theorem f243_845 : zi_fe 243 845 = some ((.aload_n 2), 1, 0, 0, 0, 0, 0) := (zl243_47 (Nat.le_of_ble_eq_true rfl)).trans rfl
theorem f243_846 : zi_fe 243 846 = some ((.aload_n 0), 1, 0, 0, 0, 0, 0) := (zl243_47 (Nat.le_of_ble_eq_true rfl)).trans rfl
theorem f243_847 : zi_fe 243 847 = some ((.iload_n 3), 1, 0, 0, 0, 0, 0) := (zl243_47 (Nat.le_of_ble_eq_true rfl)).trans rfl
theorem f243_848 : zi_fe 243 848 = some ((.iconst 1), 1, 0, 0, 0, 0, 0) := (zl243_47 (Nat.le_of_ble_eq_true rfl)).trans rfl
theorem f243_849 : zi_fe 243 849 = some (.iadd, 1, 0, 0, 0, 0, 0) := (zl243_47 (Nat.le_of_ble_eq_true rfl)).trans rfl
theorem zl243_48 {pc : Nat} (h : 850 ≤ pc) : zi_fe 243 pc = zu243_48.lookup pc := (zl243_47 (Nat.le_trans (Nat.le_of_ble_eq_true rfl) h)).trans (zi_lkA (a := zi_i243_47) (c := 850) rfl h)
theorem f243_850 : zi_fe 243 850 = some (.iaload, 1, 0, 0, 0, 0, 0) := (zl243_48 (Nat.le_of_ble_eq_true rfl)).trans rfl
theorem f243_851 : zi_fe 243 851 = some ((.aload_n 0), 1, 0, 0, 0, 0, 0) := (zl243_48 (Nat.le_of_ble_eq_true rfl)).trans rfl
theorem f243_852 : zi_fe 243 852 = some ((.iload_n 3), 1, 0, 0, 0, 0, 0) := (zl243_48 (Nat.le_of_ble_eq_true rfl)).trans rfl
theorem f243_853 : zi_fe 243 853 = some ((.iconst 2), 1, 0, 0, 0, 0, 0) := (zl243_48 (Nat.le_of_ble_eq_true rfl)).trans rfl
theorem f243_854 : zi_fe 243 854 = some (.iadd, 1, 0, 0, 0, 0, 0) := (zl243_48 (Nat.le_of_ble_eq_true rfl)).trans rfl
theorem f243_855 : zi_fe 243 855 = some (.iaload, 1, 0, 0, 0, 0, 0) := (zl243_48 (Nat.le_of_ble_eq_true rfl)).trans rfl
theorem f243_856 : zi_fe 243 856 = some ((.aload_n 0), 1, 0, 0, 0, 0, 0) := (zl243_48 (Nat.le_of_ble_eq_true rfl)).trans rfl
theorem f243_857 : zi_fe 243 857 = some ((.iload_n 3), 1, 0, 0, 0, 0, 0) := (zl243_48 (Nat.le_of_ble_eq_true rfl)).trans rfl
theorem f243_858 : zi_fe 243 858 = some ((.iconst 3), 1, 0, 0, 0, 0, 0) := (zl243_48 (Nat.le_of_ble_eq_true rfl)).trans rfl
theorem f243_859 : zi_fe 243 859 = some (.iadd, 1, 0, 0, 0, 0, 0) := (zl243_48 (Nat.le_of_ble_eq_true rfl)).trans rfl
theorem f243_860 : zi_fe 243 860 = some (.iaload, 1, 0, 0, 0, 0, 0) := (zl243_48 (Nat.le_of_ble_eq_true rfl)).trans rfl
theorem f243_861 : zi_fe 243 861 = some ((.invokevirtual 113), 3, 236, 0, 8, 1557, 4) := (zl243_48 (Nat.le_of_ble_eq_true rfl)).trans rfl
theorem zl243_49 {pc : Nat} (h : 864 ≤ pc) : zi_fe 243 pc = zu243_49.lookup pc := (zl243_48 (Nat.le_trans (Nat.le_of_ble_eq_true rfl) h)).trans (zi_lkA (a := zi_i243_48) (c := 864) rfl h)
theorem f243_864 : zi_fe 243 864 = some (.pop, 1, 0, 0, 0, 0, 0) := (zl243_49 (Nat.le_of_ble_eq_true rfl)).trans rfl
theorem f243_865 : zi_fe 243 865 = some ((.goto 92), 3, 0, 0, 0, 0, 0) := (zl243_49 (Nat.le_of_ble_eq_true rfl)).trans rfl
theorem f243_868 : zi_fe 243 868 = some ((.aload_n 1), 1, 0, 0, 0, 0, 0) := (zl243_49 (Nat.le_of_ble_eq_true rfl)).trans rfl
theorem f243_869 : zi_fe 243 869 = some ((.aload_n 0), 1, 0, 0, 0, 0, 0) := (zl243_49 (Nat.le_of_ble_eq_true rfl)).trans rfl
theorem f243_870 : zi_fe 243 870 = some ((.iload_n 3), 1, 0, 0, 0, 0, 0) := (zl243_49 (Nat.le_of_ble_eq_true rfl)).trans rfl
theorem f243_871 : zi_fe 243 871 = some ((.iconst 1), 1, 0, 0, 0, 0, 0) := (zl243_49 (Nat.le_of_ble_eq_true rfl)).trans rfl
theorem f243_872 : zi_fe 243 872 = some (.iadd, 1, 0, 0, 0, 0, 0) := (zl243_49 (Nat.le_of_ble_eq_true rfl)).trans rfl
theorem f243_873 : zi_fe 243 873 = some (.iaload, 1, 0, 0, 0, 0, 0) := (zl243_49 (Nat.le_of_ble_eq_true rfl)).trans rfl
theorem f243_874 : zi_fe 243 874 = some ((.aload_n 0), 1, 0, 0, 0, 0, 0) := (zl243_49 (Nat.le_of_ble_eq_true rfl)).trans rfl
theorem f243_875 : zi_fe 243 875 = some ((.iload_n 3), 1, 0, 0, 0, 0, 0) := (zl243_49 (Nat.le_of_ble_eq_true rfl)).trans rfl
theorem f243_876 : zi_fe 243 876 = some ((.iconst 2), 1, 0, 0, 0, 0, 0) := (zl243_49 (Nat.le_of_ble_eq_true rfl)).trans rfl
theorem f243_877 : zi_fe 243 877 = some (.iadd, 1, 0, 0, 0, 0, 0) := (zl243_49 (Nat.le_of_ble_eq_true rfl)).trans rfl
theorem zl243_50 {pc : Nat} (h : 878 ≤ pc) : zi_fe 243 pc = zu243_50.lookup pc := (zl243_49 (Nat.le_trans (Nat.le_of_ble_eq_true rfl) h)).trans (zi_lkA (a := zi_i243_49) (c := 878) rfl h)
theorem f243_878 : zi_fe 243 878 = some (.iaload, 1, 0, 0, 0, 0, 0) := (zl243_50 (Nat.le_of_ble_eq_true rfl)).trans rfl
theorem f243_879 : zi_fe 243 879 = some ((.aload_n 0), 1, 0, 0, 0, 0, 0) := (zl243_50 (Nat.le_of_ble_eq_true rfl)).trans rfl
theorem f243_880 : zi_fe 243 880 = some ((.iload_n 3), 1, 0, 0, 0, 0, 0) := (zl243_50 (Nat.le_of_ble_eq_true rfl)).trans rfl
theorem f243_881 : zi_fe 243 881 = some ((.iconst 3), 1, 0, 0, 0, 0, 0) := (zl243_50 (Nat.le_of_ble_eq_true rfl)).trans rfl
theorem f243_882 : zi_fe 243 882 = some (.iadd, 1, 0, 0, 0, 0, 0) := (zl243_50 (Nat.le_of_ble_eq_true rfl)).trans rfl
theorem f243_883 : zi_fe 243 883 = some (.iaload, 1, 0, 0, 0, 0, 0) := (zl243_50 (Nat.le_of_ble_eq_true rfl)).trans rfl
theorem f243_884 : zi_fe 243 884 = some ((.aload_n 0), 1, 0, 0, 0, 0, 0) := (zl243_50 (Nat.le_of_ble_eq_true rfl)).trans rfl
theorem f243_885 : zi_fe 243 885 = some ((.iload_n 3), 1, 0, 0, 0, 0, 0) := (zl243_50 (Nat.le_of_ble_eq_true rfl)).trans rfl
theorem f243_886 : zi_fe 243 886 = some ((.iconst 4), 1, 0, 0, 0, 0, 0) := (zl243_50 (Nat.le_of_ble_eq_true rfl)).trans rfl
theorem f243_887 : zi_fe 243 887 = some (.iadd, 1, 0, 0, 0, 0, 0) := (zl243_50 (Nat.le_of_ble_eq_true rfl)).trans rfl
theorem f243_888 : zi_fe 243 888 = some (.iaload, 1, 0, 0, 0, 0, 0) := (zl243_50 (Nat.le_of_ble_eq_true rfl)).trans rfl
theorem f243_889 : zi_fe 243 889 = some ((.invokevirtual 114), 3, 129, 0, 7, 1018, 5) := (zl243_50 (Nat.le_of_ble_eq_true rfl)).trans rfl
theorem zl243_51 {pc : Nat} (h : 892 ≤ pc) : zi_fe 243 pc = zu243_51.lookup pc := (zl243_50 (Nat.le_trans (Nat.le_of_ble_eq_true rfl) h)).trans (zi_lkA (a := zi_i243_50) (c := 892) rfl h)
theorem f243_892 : zi_fe 243 892 = some (.pop, 1, 0, 0, 0, 0, 0) := (zl243_51 (Nat.le_of_ble_eq_true rfl)).trans rfl
theorem f243_893 : zi_fe 243 893 = some ((.aload_n 2), 1, 0, 0, 0, 0, 0) := (zl243_51 (Nat.le_of_ble_eq_true rfl)).trans rfl
theorem f243_894 : zi_fe 243 894 = some ((.aload_n 0), 1, 0, 0, 0, 0, 0) := (zl243_51 (Nat.le_of_ble_eq_true rfl)).trans rfl
theorem f243_895 : zi_fe 243 895 = some ((.iload_n 3), 1, 0, 0, 0, 0, 0) := (zl243_51 (Nat.le_of_ble_eq_true rfl)).trans rfl
theorem f243_896 : zi_fe 243 896 = some ((.iconst 1), 1, 0, 0, 0, 0, 0) := (zl243_51 (Nat.le_of_ble_eq_true rfl)).trans rfl
theorem f243_897 : zi_fe 243 897 = some (.iadd, 1, 0, 0, 0, 0, 0) := (zl243_51 (Nat.le_of_ble_eq_true rfl)).trans rfl
theorem f243_898 : zi_fe 243 898 = some (.iaload, 1, 0, 0, 0, 0, 0) := (zl243_51 (Nat.le_of_ble_eq_true rfl)).trans rfl
theorem f243_899 : zi_fe 243 899 = some ((.aload_n 0), 1, 0, 0, 0, 0, 0) := (zl243_51 (Nat.le_of_ble_eq_true rfl)).trans rfl
theorem f243_900 : zi_fe 243 900 = some ((.iload_n 3), 1, 0, 0, 0, 0, 0) := (zl243_51 (Nat.le_of_ble_eq_true rfl)).trans rfl
theorem f243_901 : zi_fe 243 901 = some ((.iconst 2), 1, 0, 0, 0, 0, 0) := (zl243_51 (Nat.le_of_ble_eq_true rfl)).trans rfl
theorem f243_902 : zi_fe 243 902 = some (.iadd, 1, 0, 0, 0, 0, 0) := (zl243_51 (Nat.le_of_ble_eq_true rfl)).trans rfl
theorem f243_903 : zi_fe 243 903 = some (.iaload, 1, 0, 0, 0, 0, 0) := (zl243_51 (Nat.le_of_ble_eq_true rfl)).trans rfl
theorem zl243_52 {pc : Nat} (h : 904 ≤ pc) : zi_fe 243 pc = zu243_52.lookup pc := (zl243_51 (Nat.le_trans (Nat.le_of_ble_eq_true rfl) h)).trans (zi_lkA (a := zi_i243_51) (c := 904) rfl h)
theorem f243_904 : zi_fe 243 904 = some ((.aload_n 0), 1, 0, 0, 0, 0, 0) := (zl243_52 (Nat.le_of_ble_eq_true rfl)).trans rfl
theorem f243_905 : zi_fe 243 905 = some ((.iload_n 3), 1, 0, 0, 0, 0, 0) := (zl243_52 (Nat.le_of_ble_eq_true rfl)).trans rfl
theorem f243_906 : zi_fe 243 906 = some ((.iconst 3), 1, 0, 0, 0, 0, 0) := (zl243_52 (Nat.le_of_ble_eq_true rfl)).trans rfl
theorem f243_907 : zi_fe 243 907 = some (.iadd, 1, 0, 0, 0, 0, 0) := (zl243_52 (Nat.le_of_ble_eq_true rfl)).trans rfl
theorem f243_908 : zi_fe 243 908 = some (.iaload, 1, 0, 0, 0, 0, 0) := (zl243_52 (Nat.le_of_ble_eq_true rfl)).trans rfl
theorem f243_909 : zi_fe 243 909 = some ((.aload_n 0), 1, 0, 0, 0, 0, 0) := (zl243_52 (Nat.le_of_ble_eq_true rfl)).trans rfl
theorem f243_910 : zi_fe 243 910 = some ((.iload_n 3), 1, 0, 0, 0, 0, 0) := (zl243_52 (Nat.le_of_ble_eq_true rfl)).trans rfl
theorem f243_911 : zi_fe 243 911 = some ((.iconst 4), 1, 0, 0, 0, 0, 0) := (zl243_52 (Nat.le_of_ble_eq_true rfl)).trans rfl
theorem f243_912 : zi_fe 243 912 = some (.iadd, 1, 0, 0, 0, 0, 0) := (zl243_52 (Nat.le_of_ble_eq_true rfl)).trans rfl
theorem f243_913 : zi_fe 243 913 = some (.iaload, 1, 0, 0, 0, 0, 0) := (zl243_52 (Nat.le_of_ble_eq_true rfl)).trans rfl
theorem f243_914 : zi_fe 243 914 = some ((.invokevirtual 118), 3, 237, 0, 8, 1561, 5) := (zl243_52 (Nat.le_of_ble_eq_true rfl)).trans rfl
theorem f243_917 : zi_fe 243 917 = some (.pop, 1, 0, 0, 0, 0, 0) := (zl243_52 (Nat.le_of_ble_eq_true rfl)).trans rfl
theorem zl243_53 {pc : Nat} (h : 918 ≤ pc) : zi_fe 243 pc = zu243_53.lookup pc := (zl243_52 (Nat.le_trans (Nat.le_of_ble_eq_true rfl) h)).trans (zi_lkA (a := zi_i243_52) (c := 918) rfl h)
theorem f243_918 : zi_fe 243 918 = some ((.goto 39), 3, 0, 0, 0, 0, 0) := (zl243_53 (Nat.le_of_ble_eq_true rfl)).trans rfl
theorem f243_921 : zi_fe 243 921 = some ((.aload_n 1), 1, 0, 0, 0, 0, 0) := (zl243_53 (Nat.le_of_ble_eq_true rfl)).trans rfl
theorem f243_922 : zi_fe 243 922 = some ((.invokevirtual 119), 3, 130, 0, 7, 1031, 1) := (zl243_53 (Nat.le_of_ble_eq_true rfl)).trans rfl
theorem f243_925 : zi_fe 243 925 = some (.pop, 1, 0, 0, 0, 0, 0) := (zl243_53 (Nat.le_of_ble_eq_true rfl)).trans rfl
theorem f243_926 : zi_fe 243 926 = some ((.aload_n 2), 1, 0, 0, 0, 0, 0) := (zl243_53 (Nat.le_of_ble_eq_true rfl)).trans rfl
theorem f243_927 : zi_fe 243 927 = some ((.invokevirtual 122), 3, 238, 0, 8, 1566, 1) := (zl243_53 (Nat.le_of_ble_eq_true rfl)).trans rfl
theorem f243_930 : zi_fe 243 930 = some (.pop, 1, 0, 0, 0, 0, 0) := (zl243_53 (Nat.le_of_ble_eq_true rfl)).trans rfl
theorem f243_931 : zi_fe 243 931 = some ((.goto 26), 3, 0, 0, 0, 0, 0) := (zl243_53 (Nat.le_of_ble_eq_true rfl)).trans rfl
theorem f243_934 : zi_fe 243 934 = some ((.aload_n 1), 1, 0, 0, 0, 0, 0) := (zl243_53 (Nat.le_of_ble_eq_true rfl)).trans rfl
theorem f243_935 : zi_fe 243 935 = some ((.aload_n 0), 1, 0, 0, 0, 0, 0) := (zl243_53 (Nat.le_of_ble_eq_true rfl)).trans rfl
theorem f243_936 : zi_fe 243 936 = some ((.iload_n 3), 1, 0, 0, 0, 0, 0) := (zl243_53 (Nat.le_of_ble_eq_true rfl)).trans rfl
theorem f243_937 : zi_fe 243 937 = some ((.iconst 1), 1, 0, 0, 0, 0, 0) := (zl243_53 (Nat.le_of_ble_eq_true rfl)).trans rfl
theorem zl243_54 {pc : Nat} (h : 938 ≤ pc) : zi_fe 243 pc = zu243_54.lookup pc := (zl243_53 (Nat.le_trans (Nat.le_of_ble_eq_true rfl) h)).trans (zi_lkA (a := zi_i243_53) (c := 938) rfl h)
theorem f243_938 : zi_fe 243 938 = some (.iadd, 1, 0, 0, 0, 0, 0) := (zl243_54 (Nat.le_of_ble_eq_true rfl)).trans rfl
theorem f243_939 : zi_fe 243 939 = some (.iaload, 1, 0, 0, 0, 0, 0) := (zl243_54 (Nat.le_of_ble_eq_true rfl)).trans rfl
theorem f243_940 : zi_fe 243 940 = some ((.invokevirtual 123), 3, 131, 0, 7, 1035, 2) := (zl243_54 (Nat.le_of_ble_eq_true rfl)).trans rfl
theorem f243_943 : zi_fe 243 943 = some (.pop, 1, 0, 0, 0, 0, 0) := (zl243_54 (Nat.le_of_ble_eq_true rfl)).trans rfl
theorem f243_944 : zi_fe 243 944 = some ((.aload_n 2), 1, 0, 0, 0, 0, 0) := (zl243_54 (Nat.le_of_ble_eq_true rfl)).trans rfl
theorem f243_945 : zi_fe 243 945 = some ((.aload_n 0), 1, 0, 0, 0, 0, 0) := (zl243_54 (Nat.le_of_ble_eq_true rfl)).trans rfl
theorem f243_946 : zi_fe 243 946 = some ((.iload_n 3), 1, 0, 0, 0, 0, 0) := (zl243_54 (Nat.le_of_ble_eq_true rfl)).trans rfl
theorem f243_947 : zi_fe 243 947 = some ((.iconst 1), 1, 0, 0, 0, 0, 0) := (zl243_54 (Nat.le_of_ble_eq_true rfl)).trans rfl
theorem f243_948 : zi_fe 243 948 = some (.iadd, 1, 0, 0, 0, 0, 0) := (zl243_54 (Nat.le_of_ble_eq_true rfl)).trans rfl
theorem f243_949 : zi_fe 243 949 = some (.iaload, 1, 0, 0, 0, 0, 0) := (zl243_54 (Nat.le_of_ble_eq_true rfl)).trans rfl
theorem f243_950 : zi_fe 243 950 = some ((.invokevirtual 126), 3, 240, 0, 8, 1570, 2) := (zl243_54 (Nat.le_of_ble_eq_true rfl)).trans rfl
theorem f243_953 : zi_fe 243 953 = some (.pop, 1, 0, 0, 0, 0, 0) := (zl243_54 (Nat.le_of_ble_eq_true rfl)).trans rfl
theorem zl243_55 {pc : Nat} (h : 954 ≤ pc) : zi_fe 243 pc = zu243_55.lookup pc := (zl243_54 (Nat.le_trans (Nat.le_of_ble_eq_true rfl) h)).trans (zi_lkA (a := zi_i243_54) (c := 954) rfl h)
theorem f243_954 : zi_fe 243 954 = some ((.goto 3), 3, 0, 0, 0, 0, 0) := (zl243_55 (Nat.le_of_ble_eq_true rfl)).trans rfl
theorem f243_957 : zi_fe 243 957 = some ((.iinc 3 5), 3, 0, 0, 0, 0, 0) := (zl243_55 (Nat.le_of_ble_eq_true rfl)).trans rfl
theorem f243_960 : zi_fe 243 960 = some ((.goto (-942)), 3, 0, 0, 0, 0, 0) := (zl243_55 (Nat.le_of_ble_eq_true rfl)).trans rfl
theorem f243_963 : zi_fe 243 963 = some ((.iconst 1), 1, 0, 0, 0, 0, 0) := (zl243_55 (Nat.le_of_ble_eq_true rfl)).trans rfl
theorem f243_964 : zi_fe 243 964 = some (.ireturn, 1, 1, 0, 0, 0, 0) := (zl243_55 (Nat.le_of_ble_eq_true rfl)).trans rfl
theorem b243_0 {h : zi_Hp} {u1 : Value} {u2 : Value} {u3 : Value}  : zv 18 243 0 [.retAddr 0, u1, u2, u3] [] h = zv 18 243 3 [.retAddr 0, u1, u2, u3] [.ref (zh_n h)] (zh_al h 7 9) := by
  refine Eq.trans (zv_next f243_0 rfl) ?_
  rfl
theorem b243_3 {h : zi_Hp} {u1 : Value} {u2 : Value} {u3 : Value} {t0 : Nat}  : zv 18 243 3 [.retAddr 0, u1, u2, u3] [.ref t0] h = (zv 6 104 0 [.ref t0] [] h).bind fun r => zv 18 243 7 [.retAddr 0, u1, u2, u3] (r.1.toList ++ [.ref t0]) r.2 := by
  refine Eq.trans (zv_next f243_3 rfl) ?_
  exact zs_callI f243_4 (by decide) (Nat.le_of_ble_eq_true rfl) (Nat.le_of_ble_eq_true rfl) rfl me_104 (by decide) rfl
theorem b243_7 {h : zi_Hp} {u1 : Value} {u2 : Value} {u3 : Value} {t0 : Nat}  : zv 18 243 7 [.retAddr 0, u1, u2, u3] [.ref t0] h = zv 18 243 11 [.retAddr 0, .ref t0, u2, u3] [.ref (zh_n h)] (zh_al h 8 39) := by
  refine Eq.trans (zv_next f243_7 rfl) ?_
  refine Eq.trans (zv_next f243_8 rfl) ?_
  rfl
theorem b243_11 {h : zi_Hp} {a1 : Nat} {u2 : Value} {u3 : Value} {t0 : Nat}  : zv 18 243 11 [.retAddr 0, .ref a1, u2, u3] [.ref t0] h = (zv 3 141 0 [.ref t0, .double 0] [] h).bind fun r => zv 18 243 15 [.retAddr 0, .ref a1, u2, u3] (r.1.toList ++ [.ref t0]) r.2 := by
  refine Eq.trans (zv_next f243_11 rfl) ?_
  exact zs_callI f243_12 (by decide) (Nat.le_of_ble_eq_true rfl) (Nat.le_of_ble_eq_true rfl) rfl me_141 (by decide) rfl
theorem b243_15 {h : zi_Hp} {a1 : Nat} {u2 : Value} {u3 : Value} {t0 : Nat}  : zv 18 243 15 [.retAddr 0, .ref a1, u2, u3] [.ref t0] h = zv 18 243 18 [.retAddr 0, .ref a1, .ref t0, .int 0] [] h := by
  refine Eq.trans (zv_next f243_15 rfl) ?_
  refine Eq.trans (zs_ic f243_16 ic_0) ?_
  refine Eq.trans (zv_next f243_17 rfl) ?_
  rfl
theorem b243_18 {h : zi_Hp} {a1 : Nat} {a2 : Nat} {x3 : Int32}  : zv 18 243 18 [.retAddr 0, .ref a1, .ref a2, .int x3] [] h = if ((Int32.ofNat (zh_L h)) - 5) < x3 then zv 18 243 963 [.retAddr 0, .ref a1, .ref a2, .int x3] [] h else zv 18 243 26 [.retAddr 0, .ref a1, .ref a2, .int x3] [] h := by
  refine Eq.trans (zv_next f243_18 rfl) ?_
  refine Eq.trans (zv_next f243_19 rfl) ?_
  refine Eq.trans (zv_next f243_20 rfl) ?_
  refine Eq.trans (zs_ic f243_21 ic_5) ?_
  refine Eq.trans (zv_next f243_22 rfl) ?_
  exact zs_icmp f243_23 rfl
theorem b243_26_c0 {h : zi_Hp} {a1 : Nat} {a2 : Nat} {x3 : Int32} (g0 : ¬ (x3 < 0 ∨ zh_L h ≤ x3.toNatClampNeg)) (hx : ((zh_x h x3.toNatClampNeg) &&& 31) = 0) : zv 18 243 26 [.retAddr 0, .ref a1, .ref a2, .int x3] [] h = zv 18 243 156 [.retAddr 0, .ref a1, .ref a2, .int x3] [] h := by
  refine Eq.trans (zv_next f243_26 rfl) ?_
  refine Eq.trans (zv_next f243_27 rfl) ?_
  refine Eq.trans (zs_sald f243_28 g0) ?_
  refine Eq.trans (zs_bp f243_29 bp_31) ?_
  refine Eq.trans (zv_next f243_31 rfl) ?_
  exact zs_sw (off := 124) (v := 0) f243_32 (by decide) (by decide) rfl hx
theorem b243_26_c1 {h : zi_Hp} {a1 : Nat} {a2 : Nat} {x3 : Int32} (g0 : ¬ (x3 < 0 ∨ zh_L h ≤ x3.toNatClampNeg)) (hx : ((zh_x h x3.toNatClampNeg) &&& 31) = 1) : zv 18 243 26 [.retAddr 0, .ref a1, .ref a2, .int x3] [] h = zv 18 243 179 [.retAddr 0, .ref a1, .ref a2, .int x3] [] h := by
  refine Eq.trans (zv_next f243_26 rfl) ?_
  refine Eq.trans (zv_next f243_27 rfl) ?_
  refine Eq.trans (zs_sald f243_28 g0) ?_
  refine Eq.trans (zs_bp f243_29 bp_31) ?_
  refine Eq.trans (zv_next f243_31 rfl) ?_
  exact zs_sw (off := 147) (v := 1) f243_32 (by decide) (by decide) rfl hx
theorem b243_26_c2 {h : zi_Hp} {a1 : Nat} {a2 : Nat} {x3 : Int32} (g0 : ¬ (x3 < 0 ∨ zh_L h ≤ x3.toNatClampNeg)) (hx : ((zh_x h x3.toNatClampNeg) &&& 31) = 2) : zv 18 243 26 [.retAddr 0, .ref a1, .ref a2, .int x3] [] h = zv 18 243 202 [.retAddr 0, .ref a1, .ref a2, .int x3] [] h := by
  refine Eq.trans (zv_next f243_26 rfl) ?_
  refine Eq.trans (zv_next f243_27 rfl) ?_
  refine Eq.trans (zs_sald f243_28 g0) ?_
  refine Eq.trans (zs_bp f243_29 bp_31) ?_
  refine Eq.trans (zv_next f243_31 rfl) ?_
  exact zs_sw (off := 170) (v := 2) f243_32 (by decide) (by decide) rfl hx
theorem b243_26_c3 {h : zi_Hp} {a1 : Nat} {a2 : Nat} {x3 : Int32} (g0 : ¬ (x3 < 0 ∨ zh_L h ≤ x3.toNatClampNeg)) (hx : ((zh_x h x3.toNatClampNeg) &&& 31) = 3) : zv 18 243 26 [.retAddr 0, .ref a1, .ref a2, .int x3] [] h = zv 18 243 215 [.retAddr 0, .ref a1, .ref a2, .int x3] [] h := by
  refine Eq.trans (zv_next f243_26 rfl) ?_
  refine Eq.trans (zv_next f243_27 rfl) ?_
  refine Eq.trans (zs_sald f243_28 g0) ?_
  refine Eq.trans (zs_bp f243_29 bp_31) ?_
  refine Eq.trans (zv_next f243_31 rfl) ?_
  exact zs_sw (off := 183) (v := 3) f243_32 (by decide) (by decide) rfl hx
theorem b243_26_c4 {h : zi_Hp} {a1 : Nat} {a2 : Nat} {x3 : Int32} (g0 : ¬ (x3 < 0 ∨ zh_L h ≤ x3.toNatClampNeg)) (hx : ((zh_x h x3.toNatClampNeg) &&& 31) = 4) : zv 18 243 26 [.retAddr 0, .ref a1, .ref a2, .int x3] [] h = zv 18 243 228 [.retAddr 0, .ref a1, .ref a2, .int x3] [] h := by
  refine Eq.trans (zv_next f243_26 rfl) ?_
  refine Eq.trans (zv_next f243_27 rfl) ?_
  refine Eq.trans (zs_sald f243_28 g0) ?_
  refine Eq.trans (zs_bp f243_29 bp_31) ?_
  refine Eq.trans (zv_next f243_31 rfl) ?_
  exact zs_sw (off := 196) (v := 4) f243_32 (by decide) (by decide) rfl hx
theorem b243_26_c5 {h : zi_Hp} {a1 : Nat} {a2 : Nat} {x3 : Int32} (g0 : ¬ (x3 < 0 ∨ zh_L h ≤ x3.toNatClampNeg)) (hx : ((zh_x h x3.toNatClampNeg) &&& 31) = 5) : zv 18 243 26 [.retAddr 0, .ref a1, .ref a2, .int x3] [] h = zv 18 243 251 [.retAddr 0, .ref a1, .ref a2, .int x3] [] h := by
  refine Eq.trans (zv_next f243_26 rfl) ?_
  refine Eq.trans (zv_next f243_27 rfl) ?_
  refine Eq.trans (zs_sald f243_28 g0) ?_
  refine Eq.trans (zs_bp f243_29 bp_31) ?_
  refine Eq.trans (zv_next f243_31 rfl) ?_
  exact zs_sw (off := 219) (v := 5) f243_32 (by decide) (by decide) rfl hx
theorem b243_26_c6 {h : zi_Hp} {a1 : Nat} {a2 : Nat} {x3 : Int32} (g0 : ¬ (x3 < 0 ∨ zh_L h ≤ x3.toNatClampNeg)) (hx : ((zh_x h x3.toNatClampNeg) &&& 31) = 6) : zv 18 243 26 [.retAddr 0, .ref a1, .ref a2, .int x3] [] h = zv 18 243 284 [.retAddr 0, .ref a1, .ref a2, .int x3] [] h := by
  refine Eq.trans (zv_next f243_26 rfl) ?_
  refine Eq.trans (zv_next f243_27 rfl) ?_
  refine Eq.trans (zs_sald f243_28 g0) ?_
  refine Eq.trans (zs_bp f243_29 bp_31) ?_
  refine Eq.trans (zv_next f243_31 rfl) ?_
  exact zs_sw (off := 252) (v := 6) f243_32 (by decide) (by decide) rfl hx
theorem b243_26_c7 {h : zi_Hp} {a1 : Nat} {a2 : Nat} {x3 : Int32} (g0 : ¬ (x3 < 0 ∨ zh_L h ≤ x3.toNatClampNeg)) (hx : ((zh_x h x3.toNatClampNeg) &&& 31) = 7) : zv 18 243 26 [.retAddr 0, .ref a1, .ref a2, .int x3] [] h = zv 18 243 327 [.retAddr 0, .ref a1, .ref a2, .int x3] [] h := by
  refine Eq.trans (zv_next f243_26 rfl) ?_
  refine Eq.trans (zv_next f243_27 rfl) ?_
  refine Eq.trans (zs_sald f243_28 g0) ?_
  refine Eq.trans (zs_bp f243_29 bp_31) ?_
  refine Eq.trans (zv_next f243_31 rfl) ?_
  exact zs_sw (off := 295) (v := 7) f243_32 (by decide) (by decide) rfl hx
theorem b243_26_c8 {h : zi_Hp} {a1 : Nat} {a2 : Nat} {x3 : Int32} (g0 : ¬ (x3 < 0 ∨ zh_L h ≤ x3.toNatClampNeg)) (hx : ((zh_x h x3.toNatClampNeg) &&& 31) = 8) : zv 18 243 26 [.retAddr 0, .ref a1, .ref a2, .int x3] [] h = zv 18 243 360 [.retAddr 0, .ref a1, .ref a2, .int x3] [] h := by
  refine Eq.trans (zv_next f243_26 rfl) ?_
  refine Eq.trans (zv_next f243_27 rfl) ?_
  refine Eq.trans (zs_sald f243_28 g0) ?_
  refine Eq.trans (zs_bp f243_29 bp_31) ?_
  refine Eq.trans (zv_next f243_31 rfl) ?_
  exact zs_sw (off := 328) (v := 8) f243_32 (by decide) (by decide) rfl hx
theorem b243_26_c9 {h : zi_Hp} {a1 : Nat} {a2 : Nat} {x3 : Int32} (g0 : ¬ (x3 < 0 ∨ zh_L h ≤ x3.toNatClampNeg)) (hx : ((zh_x h x3.toNatClampNeg) &&& 31) = 9) : zv 18 243 26 [.retAddr 0, .ref a1, .ref a2, .int x3] [] h = zv 18 243 383 [.retAddr 0, .ref a1, .ref a2, .int x3] [] h := by
  refine Eq.trans (zv_next f243_26 rfl) ?_
  refine Eq.trans (zv_next f243_27 rfl) ?_
  refine Eq.trans (zs_sald f243_28 g0) ?_
  refine Eq.trans (zs_bp f243_29 bp_31) ?_
  refine Eq.trans (zv_next f243_31 rfl) ?_
  exact zs_sw (off := 351) (v := 9) f243_32 (by decide) (by decide) rfl hx
theorem b243_26_c10 {h : zi_Hp} {a1 : Nat} {a2 : Nat} {x3 : Int32} (g0 : ¬ (x3 < 0 ∨ zh_L h ≤ x3.toNatClampNeg)) (hx : ((zh_x h x3.toNatClampNeg) &&& 31) = 10) : zv 18 243 26 [.retAddr 0, .ref a1, .ref a2, .int x3] [] h = zv 18 243 426 [.retAddr 0, .ref a1, .ref a2, .int x3] [] h := by
  refine Eq.trans (zv_next f243_26 rfl) ?_
  refine Eq.trans (zv_next f243_27 rfl) ?_
  refine Eq.trans (zs_sald f243_28 g0) ?_
  refine Eq.trans (zs_bp f243_29 bp_31) ?_
  refine Eq.trans (zv_next f243_31 rfl) ?_
  exact zs_sw (off := 394) (v := 10) f243_32 (by decide) (by decide) rfl hx
theorem b243_26_c11 {h : zi_Hp} {a1 : Nat} {a2 : Nat} {x3 : Int32} (g0 : ¬ (x3 < 0 ∨ zh_L h ≤ x3.toNatClampNeg)) (hx : ((zh_x h x3.toNatClampNeg) &&& 31) = 11) : zv 18 243 26 [.retAddr 0, .ref a1, .ref a2, .int x3] [] h = zv 18 243 449 [.retAddr 0, .ref a1, .ref a2, .int x3] [] h := by
  refine Eq.trans (zv_next f243_26 rfl) ?_
  refine Eq.trans (zv_next f243_27 rfl) ?_
  refine Eq.trans (zs_sald f243_28 g0) ?_
  refine Eq.trans (zs_bp f243_29 bp_31) ?_
  refine Eq.trans (zv_next f243_31 rfl) ?_
  exact zs_sw (off := 417) (v := 11) f243_32 (by decide) (by decide) rfl hx
theorem b243_26_c12 {h : zi_Hp} {a1 : Nat} {a2 : Nat} {x3 : Int32} (g0 : ¬ (x3 < 0 ∨ zh_L h ≤ x3.toNatClampNeg)) (hx : ((zh_x h x3.toNatClampNeg) &&& 31) = 12) : zv 18 243 26 [.retAddr 0, .ref a1, .ref a2, .int x3] [] h = zv 18 243 482 [.retAddr 0, .ref a1, .ref a2, .int x3] [] h := by
  refine Eq.trans (zv_next f243_26 rfl) ?_
  refine Eq.trans (zv_next f243_27 rfl) ?_
  refine Eq.trans (zs_sald f243_28 g0) ?_
  refine Eq.trans (zs_bp f243_29 bp_31) ?_
  refine Eq.trans (zv_next f243_31 rfl) ?_
  exact zs_sw (off := 450) (v := 12) f243_32 (by decide) (by decide) rfl hx
theorem b243_26_c13 {h : zi_Hp} {a1 : Nat} {a2 : Nat} {x3 : Int32} (g0 : ¬ (x3 < 0 ∨ zh_L h ≤ x3.toNatClampNeg)) (hx : ((zh_x h x3.toNatClampNeg) &&& 31) = 13) : zv 18 243 26 [.retAddr 0, .ref a1, .ref a2, .int x3] [] h = zv 18 243 505 [.retAddr 0, .ref a1, .ref a2, .int x3] [] h := by
  refine Eq.trans (zv_next f243_26 rfl) ?_
  refine Eq.trans (zv_next f243_27 rfl) ?_
  refine Eq.trans (zs_sald f243_28 g0) ?_
  refine Eq.trans (zs_bp f243_29 bp_31) ?_
  refine Eq.trans (zv_next f243_31 rfl) ?_
  exact zs_sw (off := 473) (v := 13) f243_32 (by decide) (by decide) rfl hx
theorem b243_26_c14 {h : zi_Hp} {a1 : Nat} {a2 : Nat} {x3 : Int32} (g0 : ¬ (x3 < 0 ∨ zh_L h ≤ x3.toNatClampNeg)) (hx : ((zh_x h x3.toNatClampNeg) &&& 31) = 14) : zv 18 243 26 [.retAddr 0, .ref a1, .ref a2, .int x3] [] h = zv 18 243 528 [.retAddr 0, .ref a1, .ref a2, .int x3] [] h := by
  refine Eq.trans (zv_next f243_26 rfl) ?_
  refine Eq.trans (zv_next f243_27 rfl) ?_
  refine Eq.trans (zs_sald f243_28 g0) ?_
  refine Eq.trans (zs_bp f243_29 bp_31) ?_
  refine Eq.trans (zv_next f243_31 rfl) ?_
  exact zs_sw (off := 496) (v := 14) f243_32 (by decide) (by decide) rfl hx
theorem b243_26_c15 {h : zi_Hp} {a1 : Nat} {a2 : Nat} {x3 : Int32} (g0 : ¬ (x3 < 0 ∨ zh_L h ≤ x3.toNatClampNeg)) (hx : ((zh_x h x3.toNatClampNeg) &&& 31) = 15) : zv 18 243 26 [.retAddr 0, .ref a1, .ref a2, .int x3] [] h = zv 18 243 561 [.retAddr 0, .ref a1, .ref a2, .int x3] [] h := by
  refine Eq.trans (zv_next f243_26 rfl) ?_
  refine Eq.trans (zv_next f243_27 rfl) ?_
  refine Eq.trans (zs_sald f243_28 g0) ?_
  refine Eq.trans (zs_bp f243_29 bp_31) ?_
  refine Eq.trans (zv_next f243_31 rfl) ?_
  exact zs_sw (off := 529) (v := 15) f243_32 (by decide) (by decide) rfl hx
theorem b243_26_c16 {h : zi_Hp} {a1 : Nat} {a2 : Nat} {x3 : Int32} (g0 : ¬ (x3 < 0 ∨ zh_L h ≤ x3.toNatClampNeg)) (hx : ((zh_x h x3.toNatClampNeg) &&& 31) = 16) : zv 18 243 26 [.retAddr 0, .ref a1, .ref a2, .int x3] [] h = zv 18 243 604 [.retAddr 0, .ref a1, .ref a2, .int x3] [] h := by
  refine Eq.trans (zv_next f243_26 rfl) ?_
  refine Eq.trans (zv_next f243_27 rfl) ?_
  refine Eq.trans (zs_sald f243_28 g0) ?_
  refine Eq.trans (zs_bp f243_29 bp_31) ?_
  refine Eq.trans (zv_next f243_31 rfl) ?_
  exact zs_sw (off := 572) (v := 16) f243_32 (by decide) (by decide) rfl hx
theorem b243_26_c17 {h : zi_Hp} {a1 : Nat} {a2 : Nat} {x3 : Int32} (g0 : ¬ (x3 < 0 ∨ zh_L h ≤ x3.toNatClampNeg)) (hx : ((zh_x h x3.toNatClampNeg) &&& 31) = 17) : zv 18 243 26 [.retAddr 0, .ref a1, .ref a2, .int x3] [] h = zv 18 243 647 [.retAddr 0, .ref a1, .ref a2, .int x3] [] h := by
  refine Eq.trans (zv_next f243_26 rfl) ?_
  refine Eq.trans (zv_next f243_27 rfl) ?_
  refine Eq.trans (zs_sald f243_28 g0) ?_
  refine Eq.trans (zs_bp f243_29 bp_31) ?_
  refine Eq.trans (zv_next f243_31 rfl) ?_
  exact zs_sw (off := 615) (v := 17) f243_32 (by decide) (by decide) rfl hx
theorem b243_26_c18 {h : zi_Hp} {a1 : Nat} {a2 : Nat} {x3 : Int32} (g0 : ¬ (x3 < 0 ∨ zh_L h ≤ x3.toNatClampNeg)) (hx : ((zh_x h x3.toNatClampNeg) &&& 31) = 18) : zv 18 243 26 [.retAddr 0, .ref a1, .ref a2, .int x3] [] h = zv 18 243 700 [.retAddr 0, .ref a1, .ref a2, .int x3] [] h := by
  refine Eq.trans (zv_next f243_26 rfl) ?_
  refine Eq.trans (zv_next f243_27 rfl) ?_
  refine Eq.trans (zs_sald f243_28 g0) ?_
  refine Eq.trans (zs_bp f243_29 bp_31) ?_
  refine Eq.trans (zv_next f243_31 rfl) ?_
  exact zs_sw (off := 668) (v := 18) f243_32 (by decide) (by decide) rfl hx
theorem b243_26_c19 {h : zi_Hp} {a1 : Nat} {a2 : Nat} {x3 : Int32} (g0 : ¬ (x3 < 0 ∨ zh_L h ≤ x3.toNatClampNeg)) (hx : ((zh_x h x3.toNatClampNeg) &&& 31) = 19) : zv 18 243 26 [.retAddr 0, .ref a1, .ref a2, .int x3] [] h = zv 18 243 713 [.retAddr 0, .ref a1, .ref a2, .int x3] [] h := by
  refine Eq.trans (zv_next f243_26 rfl) ?_
  refine Eq.trans (zv_next f243_27 rfl) ?_
  refine Eq.trans (zs_sald f243_28 g0) ?_
  refine Eq.trans (zs_bp f243_29 bp_31) ?_
  refine Eq.trans (zv_next f243_31 rfl) ?_
  exact zs_sw (off := 681) (v := 19) f243_32 (by decide) (by decide) rfl hx
theorem b243_26_c20 {h : zi_Hp} {a1 : Nat} {a2 : Nat} {x3 : Int32} (g0 : ¬ (x3 < 0 ∨ zh_L h ≤ x3.toNatClampNeg)) (hx : ((zh_x h x3.toNatClampNeg) &&& 31) = 20) : zv 18 243 26 [.retAddr 0, .ref a1, .ref a2, .int x3] [] h = zv 18 243 736 [.retAddr 0, .ref a1, .ref a2, .int x3] [] h := by
  refine Eq.trans (zv_next f243_26 rfl) ?_
  refine Eq.trans (zv_next f243_27 rfl) ?_
  refine Eq.trans (zs_sald f243_28 g0) ?_
  refine Eq.trans (zs_bp f243_29 bp_31) ?_
  refine Eq.trans (zv_next f243_31 rfl) ?_
  exact zs_sw (off := 704) (v := 20) f243_32 (by decide) (by decide) rfl hx
theorem b243_26_c21 {h : zi_Hp} {a1 : Nat} {a2 : Nat} {x3 : Int32} (g0 : ¬ (x3 < 0 ∨ zh_L h ≤ x3.toNatClampNeg)) (hx : ((zh_x h x3.toNatClampNeg) &&& 31) = 21) : zv 18 243 26 [.retAddr 0, .ref a1, .ref a2, .int x3] [] h = zv 18 243 759 [.retAddr 0, .ref a1, .ref a2, .int x3] [] h := by
  refine Eq.trans (zv_next f243_26 rfl) ?_
  refine Eq.trans (zv_next f243_27 rfl) ?_
  refine Eq.trans (zs_sald f243_28 g0) ?_
  refine Eq.trans (zs_bp f243_29 bp_31) ?_
  refine Eq.trans (zv_next f243_31 rfl) ?_
  exact zs_sw (off := 727) (v := 21) f243_32 (by decide) (by decide) rfl hx
theorem b243_26_c22 {h : zi_Hp} {a1 : Nat} {a2 : Nat} {x3 : Int32} (g0 : ¬ (x3 < 0 ∨ zh_L h ≤ x3.toNatClampNeg)) (hx : ((zh_x h x3.toNatClampNeg) &&& 31) = 22) : zv 18 243 26 [.retAddr 0, .ref a1, .ref a2, .int x3] [] h = zv 18 243 782 [.retAddr 0, .ref a1, .ref a2, .int x3] [] h := by
  refine Eq.trans (zv_next f243_26 rfl) ?_
  refine Eq.trans (zv_next f243_27 rfl) ?_
  refine Eq.trans (zs_sald f243_28 g0) ?_
  refine Eq.trans (zs_bp f243_29 bp_31) ?_
  refine Eq.trans (zv_next f243_31 rfl) ?_
  exact zs_sw (off := 750) (v := 22) f243_32 (by decide) (by decide) rfl hx
theorem b243_26_c23 {h : zi_Hp} {a1 : Nat} {a2 : Nat} {x3 : Int32} (g0 : ¬ (x3 < 0 ∨ zh_L h ≤ x3.toNatClampNeg)) (hx : ((zh_x h x3.toNatClampNeg) &&& 31) = 23) : zv 18 243 26 [.retAddr 0, .ref a1, .ref a2, .int x3] [] h = zv 18 243 825 [.retAddr 0, .ref a1, .ref a2, .int x3] [] h := by
  refine Eq.trans (zv_next f243_26 rfl) ?_
  refine Eq.trans (zv_next f243_27 rfl) ?_
  refine Eq.trans (zs_sald f243_28 g0) ?_
  refine Eq.trans (zs_bp f243_29 bp_31) ?_
  refine Eq.trans (zv_next f243_31 rfl) ?_
  exact zs_sw (off := 793) (v := 23) f243_32 (by decide) (by decide) rfl hx
theorem b243_26_c24 {h : zi_Hp} {a1 : Nat} {a2 : Nat} {x3 : Int32} (g0 : ¬ (x3 < 0 ∨ zh_L h ≤ x3.toNatClampNeg)) (hx : ((zh_x h x3.toNatClampNeg) &&& 31) = 24) : zv 18 243 26 [.retAddr 0, .ref a1, .ref a2, .int x3] [] h = zv 18 243 868 [.retAddr 0, .ref a1, .ref a2, .int x3] [] h := by
  refine Eq.trans (zv_next f243_26 rfl) ?_
  refine Eq.trans (zv_next f243_27 rfl) ?_
  refine Eq.trans (zs_sald f243_28 g0) ?_
  refine Eq.trans (zs_bp f243_29 bp_31) ?_
  refine Eq.trans (zv_next f243_31 rfl) ?_
  exact zs_sw (off := 836) (v := 24) f243_32 (by decide) (by decide) rfl hx
theorem b243_26_c25 {h : zi_Hp} {a1 : Nat} {a2 : Nat} {x3 : Int32} (g0 : ¬ (x3 < 0 ∨ zh_L h ≤ x3.toNatClampNeg)) (hx : ((zh_x h x3.toNatClampNeg) &&& 31) = 25) : zv 18 243 26 [.retAddr 0, .ref a1, .ref a2, .int x3] [] h = zv 18 243 921 [.retAddr 0, .ref a1, .ref a2, .int x3] [] h := by
  refine Eq.trans (zv_next f243_26 rfl) ?_
  refine Eq.trans (zv_next f243_27 rfl) ?_
  refine Eq.trans (zs_sald f243_28 g0) ?_
  refine Eq.trans (zs_bp f243_29 bp_31) ?_
  refine Eq.trans (zv_next f243_31 rfl) ?_
  exact zs_sw (off := 889) (v := 25) f243_32 (by decide) (by decide) rfl hx
theorem b243_26_c26 {h : zi_Hp} {a1 : Nat} {a2 : Nat} {x3 : Int32} (g0 : ¬ (x3 < 0 ∨ zh_L h ≤ x3.toNatClampNeg)) (hx : ((zh_x h x3.toNatClampNeg) &&& 31) = 26) : zv 18 243 26 [.retAddr 0, .ref a1, .ref a2, .int x3] [] h = zv 18 243 934 [.retAddr 0, .ref a1, .ref a2, .int x3] [] h := by
  refine Eq.trans (zv_next f243_26 rfl) ?_
  refine Eq.trans (zv_next f243_27 rfl) ?_
  refine Eq.trans (zs_sald f243_28 g0) ?_
  refine Eq.trans (zs_bp f243_29 bp_31) ?_
  refine Eq.trans (zv_next f243_31 rfl) ?_
  exact zs_sw (off := 902) (v := 26) f243_32 (by decide) (by decide) rfl hx
theorem b243_26_d {h : zi_Hp} {a1 : Nat} {a2 : Nat} {x3 : Int32} (g0 : ¬ (x3 < 0 ∨ zh_L h ≤ x3.toNatClampNeg)) (hx : (((zh_x h x3.toNatClampNeg) &&& 31)).toInt < 0 ∨ 26 < (((zh_x h x3.toNatClampNeg) &&& 31)).toInt) : zv 18 243 26 [.retAddr 0, .ref a1, .ref a2, .int x3] [] h = zv 18 243 957 [.retAddr 0, .ref a1, .ref a2, .int x3] [] h := by
  refine Eq.trans (zv_next f243_26 rfl) ?_
  refine Eq.trans (zv_next f243_27 rfl) ?_
  refine Eq.trans (zs_sald f243_28 g0) ?_
  refine Eq.trans (zs_bp f243_29 bp_31) ?_
  refine Eq.trans (zv_next f243_31 rfl) ?_
  exact zs_swO f243_32 rfl hx
theorem b243_156 {h : zi_Hp} {a1 : Nat} {a2 : Nat} {x3 : Int32} (g0 : ¬ ((x3 + 1) < 0 ∨ zh_L h ≤ (x3 + 1).toNatClampNeg)) (g1 : a1 < zh_n h) (g2 : (zh_k h a1).1 = 7) : zv 18 243 156 [.retAddr 0, .ref a1, .ref a2, .int x3] [] h = (zv 2 105 0 [.ref a1, .int (zh_x h (x3 + 1).toNatClampNeg)] [] h).bind fun r => zv 18 243 165 [.retAddr 0, .ref a1, .ref a2, .int x3] (r.1.toList ++ []) r.2 := by
  refine Eq.trans (zv_next f243_156 rfl) ?_
  refine Eq.trans (zv_next f243_157 rfl) ?_
  refine Eq.trans (zv_next f243_158 rfl) ?_
  refine Eq.trans (zs_ic f243_159 ic_1) ?_
  refine Eq.trans (zv_next f243_160 rfl) ?_
  refine Eq.trans (zs_sald f243_161 g0) ?_
  exact zs_callV f243_162 (Nat.le_of_ble_eq_true rfl) (Nat.le_of_ble_eq_true rfl) rfl g1 g2 me_105 (by decide) rfl
theorem b243_165 {h : zi_Hp} {a1 : Nat} {a2 : Nat} {x3 : Int32} {s0 : Int32} (g0 : ¬ ((x3 + 1) < 0 ∨ zh_L h ≤ (x3 + 1).toNatClampNeg)) (g1 : a2 < zh_n h) (g2 : (zh_k h a2).1 = 8) : zv 18 243 165 [.retAddr 0, .ref a1, .ref a2, .int x3] [.int s0] h = (zv 2 180 0 [.ref a2, .int (zh_x h (x3 + 1).toNatClampNeg)] [] h).bind fun r => zv 18 243 175 [.retAddr 0, .ref a1, .ref a2, .int x3] (r.1.toList ++ []) r.2 := by
  refine Eq.trans (zv_next f243_165 rfl) ?_
  refine Eq.trans (zv_next f243_166 rfl) ?_
  refine Eq.trans (zv_next f243_167 rfl) ?_
  refine Eq.trans (zv_next f243_168 rfl) ?_
  refine Eq.trans (zs_ic f243_169 ic_1) ?_
  refine Eq.trans (zv_next f243_170 rfl) ?_
  refine Eq.trans (zs_sald f243_171 g0) ?_
  exact zs_callV f243_172 (Nat.le_of_ble_eq_true rfl) (Nat.le_of_ble_eq_true rfl) rfl g1 g2 me_180 (by decide) rfl
theorem b243_175 {h : zi_Hp} {a1 : Nat} {a2 : Nat} {x3 : Int32} {s0 : Int32}  : zv 18 243 175 [.retAddr 0, .ref a1, .ref a2, .int x3] [.int s0] h = zv 18 243 957 [.retAddr 0, .ref a1, .ref a2, .int x3] [] h := by
  refine Eq.trans (zv_next f243_175 rfl) ?_
  refine Eq.trans (zs_goto (tgt := 957) f243_176 rfl) ?_
  rfl
theorem b243_179 {h : zi_Hp} {a1 : Nat} {a2 : Nat} {x3 : Int32} (g0 : ¬ ((x3 + 1) < 0 ∨ zh_L h ≤ (x3 + 1).toNatClampNeg)) (g1 : a1 < zh_n h) (g2 : (zh_k h a1).1 = 7) : zv 18 243 179 [.retAddr 0, .ref a1, .ref a2, .int x3] [] h = (zv 1 106 0 [.ref a1, .int (zh_x h (x3 + 1).toNatClampNeg), .double 0] [] h).bind fun r => zv 18 243 188 [.retAddr 0, .ref a1, .ref a2, .int x3] (r.1.toList ++ []) r.2 := by
  refine Eq.trans (zv_next f243_179 rfl) ?_
  refine Eq.trans (zv_next f243_180 rfl) ?_
  refine Eq.trans (zv_next f243_181 rfl) ?_
  refine Eq.trans (zs_ic f243_182 ic_1) ?_
  refine Eq.trans (zv_next f243_183 rfl) ?_
  refine Eq.trans (zs_sald f243_184 g0) ?_
  exact zs_callV f243_185 (Nat.le_of_ble_eq_true rfl) (Nat.le_of_ble_eq_true rfl) rfl g1 g2 me_106 (by decide) rfl
theorem b243_188 {h : zi_Hp} {a1 : Nat} {a2 : Nat} {x3 : Int32} {s0 : Int32} (g0 : ¬ ((x3 + 1) < 0 ∨ zh_L h ≤ (x3 + 1).toNatClampNeg)) (g1 : a2 < zh_n h) (g2 : (zh_k h a2).1 = 8) : zv 18 243 188 [.retAddr 0, .ref a1, .ref a2, .int x3] [.int s0] h = (zv 2 181 0 [.ref a2, .int (zh_x h (x3 + 1).toNatClampNeg), .double 0] [] h).bind fun r => zv 18 243 198 [.retAddr 0, .ref a1, .ref a2, .int x3] (r.1.toList ++ []) r.2 := by
  refine Eq.trans (zv_next f243_188 rfl) ?_
  refine Eq.trans (zv_next f243_189 rfl) ?_
  refine Eq.trans (zv_next f243_190 rfl) ?_
  refine Eq.trans (zv_next f243_191 rfl) ?_
  refine Eq.trans (zs_ic f243_192 ic_1) ?_
  refine Eq.trans (zv_next f243_193 rfl) ?_
  refine Eq.trans (zs_sald f243_194 g0) ?_
  exact zs_callV f243_195 (Nat.le_of_ble_eq_true rfl) (Nat.le_of_ble_eq_true rfl) rfl g1 g2 me_181 (by decide) rfl
theorem b243_198 {h : zi_Hp} {a1 : Nat} {a2 : Nat} {x3 : Int32} {s0 : Int32}  : zv 18 243 198 [.retAddr 0, .ref a1, .ref a2, .int x3] [.int s0] h = zv 18 243 957 [.retAddr 0, .ref a1, .ref a2, .int x3] [] h := by
  refine Eq.trans (zv_next f243_198 rfl) ?_
  refine Eq.trans (zs_goto (tgt := 957) f243_199 rfl) ?_
  rfl
theorem b243_202 {h : zi_Hp} {a1 : Nat} {a2 : Nat} {x3 : Int32} (g0 : a1 < zh_n h) (g1 : (zh_k h a1).1 = 7) : zv 18 243 202 [.retAddr 0, .ref a1, .ref a2, .int x3] [] h = (zv 8 107 0 [.ref a1] [] h).bind fun r => zv 18 243 206 [.retAddr 0, .ref a1, .ref a2, .int x3] (r.1.toList ++ []) r.2 := by
  refine Eq.trans (zv_next f243_202 rfl) ?_
  exact zs_callV f243_203 (Nat.le_of_ble_eq_true rfl) (Nat.le_of_ble_eq_true rfl) rfl g0 g1 me_107 (by decide) rfl
theorem b243_206 {h : zi_Hp} {a1 : Nat} {a2 : Nat} {x3 : Int32} {s0 : Int32} (g0 : a2 < zh_n h) (g1 : (zh_k h a2).1 = 8) : zv 18 243 206 [.retAddr 0, .ref a1, .ref a2, .int x3] [.int s0] h = (zv 8 192 0 [.ref a2, .double 0, .double 0] [] h).bind fun r => zv 18 243 211 [.retAddr 0, .ref a1, .ref a2, .int x3] (r.1.toList ++ []) r.2 := by
  refine Eq.trans (zv_next f243_206 rfl) ?_
  refine Eq.trans (zv_next f243_207 rfl) ?_
  exact zs_callV f243_208 (Nat.le_of_ble_eq_true rfl) (Nat.le_of_ble_eq_true rfl) rfl g0 g1 me_192 (by decide) rfl
theorem b243_211 {h : zi_Hp} {a1 : Nat} {a2 : Nat} {x3 : Int32} {s0 : Int32}  : zv 18 243 211 [.retAddr 0, .ref a1, .ref a2, .int x3] [.int s0] h = zv 18 243 957 [.retAddr 0, .ref a1, .ref a2, .int x3] [] h := by
  refine Eq.trans (zv_next f243_211 rfl) ?_
  refine Eq.trans (zs_goto (tgt := 957) f243_212 rfl) ?_
  rfl
theorem b243_215 {h : zi_Hp} {a1 : Nat} {a2 : Nat} {x3 : Int32} (g0 : a1 < zh_n h) (g1 : (zh_k h a1).1 = 7) : zv 18 243 215 [.retAddr 0, .ref a1, .ref a2, .int x3] [] h = (zv 1 108 0 [.ref a1] [] h).bind fun r => zv 18 243 219 [.retAddr 0, .ref a1, .ref a2, .int x3] (r.1.toList ++ []) r.2 := by
  refine Eq.trans (zv_next f243_215 rfl) ?_
  exact zs_callV f243_216 (Nat.le_of_ble_eq_true rfl) (Nat.le_of_ble_eq_true rfl) rfl g0 g1 me_108 (by decide) rfl
theorem b243_219 {h : zi_Hp} {a1 : Nat} {a2 : Nat} {x3 : Int32} {s0 : Int32} (g0 : a2 < zh_n h) (g1 : (zh_k h a2).1 = 8) : zv 18 243 219 [.retAddr 0, .ref a1, .ref a2, .int x3] [.int s0] h = (zv 1 193 0 [.ref a2] [] h).bind fun r => zv 18 243 224 [.retAddr 0, .ref a1, .ref a2, .int x3] (r.1.toList ++ []) r.2 := by
  refine Eq.trans (zv_next f243_219 rfl) ?_
  refine Eq.trans (zv_next f243_220 rfl) ?_
  exact zs_callV f243_221 (Nat.le_of_ble_eq_true rfl) (Nat.le_of_ble_eq_true rfl) rfl g0 g1 me_193 (by decide) rfl
theorem b243_224 {h : zi_Hp} {a1 : Nat} {a2 : Nat} {x3 : Int32} {s0 : Int32}  : zv 18 243 224 [.retAddr 0, .ref a1, .ref a2, .int x3] [.int s0] h = zv 18 243 957 [.retAddr 0, .ref a1, .ref a2, .int x3] [] h := by
  refine Eq.trans (zv_next f243_224 rfl) ?_
  refine Eq.trans (zs_goto (tgt := 957) f243_225 rfl) ?_
  rfl
theorem b243_228 {h : zi_Hp} {a1 : Nat} {a2 : Nat} {x3 : Int32} (g0 : ¬ ((x3 + 1) < 0 ∨ zh_L h ≤ (x3 + 1).toNatClampNeg)) (g1 : a1 < zh_n h) (g2 : (zh_k h a1).1 = 7) : zv 18 243 228 [.retAddr 0, .ref a1, .ref a2, .int x3] [] h = (zv 6 109 0 [.ref a1, .int (zh_x h (x3 + 1).toNatClampNeg)] [] h).bind fun r => zv 18 243 237 [.retAddr 0, .ref a1, .ref a2, .int x3] (r.1.toList ++ []) r.2 := by
  refine Eq.trans (zv_next f243_228 rfl) ?_
  refine Eq.trans (zv_next f243_229 rfl) ?_
  refine Eq.trans (zv_next f243_230 rfl) ?_
  refine Eq.trans (zs_ic f243_231 ic_1) ?_
  refine Eq.trans (zv_next f243_232 rfl) ?_
  refine Eq.trans (zs_sald f243_233 g0) ?_
  exact zs_callV f243_234 (Nat.le_of_ble_eq_true rfl) (Nat.le_of_ble_eq_true rfl) rfl g1 g2 me_109 (by decide) rfl
theorem b243_237 {h : zi_Hp} {a1 : Nat} {a2 : Nat} {x3 : Int32} {s0 : Int32} (g0 : ¬ ((x3 + 1) < 0 ∨ zh_L h ≤ (x3 + 1).toNatClampNeg)) (g1 : a2 < zh_n h) (g2 : (zh_k h a2).1 = 8) : zv 18 243 237 [.retAddr 0, .ref a1, .ref a2, .int x3] [.int s0] h = (zv 6 201 0 [.ref a2, .int (zh_x h (x3 + 1).toNatClampNeg)] [] h).bind fun r => zv 18 243 247 [.retAddr 0, .ref a1, .ref a2, .int x3] (r.1.toList ++ []) r.2 := by
  refine Eq.trans (zv_next f243_237 rfl) ?_
  refine Eq.trans (zv_next f243_238 rfl) ?_
  refine Eq.trans (zv_next f243_239 rfl) ?_
  refine Eq.trans (zv_next f243_240 rfl) ?_
  refine Eq.trans (zs_ic f243_241 ic_1) ?_
  refine Eq.trans (zv_next f243_242 rfl) ?_
  refine Eq.trans (zs_sald f243_243 g0) ?_
  exact zs_callV f243_244 (Nat.le_of_ble_eq_true rfl) (Nat.le_of_ble_eq_true rfl) rfl g1 g2 me_201 (by decide) rfl
theorem b243_247 {h : zi_Hp} {a1 : Nat} {a2 : Nat} {x3 : Int32} {s0 : Int32}  : zv 18 243 247 [.retAddr 0, .ref a1, .ref a2, .int x3] [.int s0] h = zv 18 243 957 [.retAddr 0, .ref a1, .ref a2, .int x3] [] h := by
  refine Eq.trans (zv_next f243_247 rfl) ?_
  refine Eq.trans (zs_goto (tgt := 957) f243_248 rfl) ?_
  rfl
theorem b243_251 {h : zi_Hp} {a1 : Nat} {a2 : Nat} {x3 : Int32} (g0 : ¬ ((x3 + 1) < 0 ∨ zh_L h ≤ (x3 + 1).toNatClampNeg)) (g1 : ¬ ((x3 + 2) < 0 ∨ zh_L h ≤ (x3 + 2).toNatClampNeg)) (g2 : a1 < zh_n h) (g3 : (zh_k h a1).1 = 7) : zv 18 243 251 [.retAddr 0, .ref a1, .ref a2, .int x3] [] h = (zv 3 110 0 [.ref a1, .int (zh_x h (x3 + 1).toNatClampNeg), .int (zh_x h (x3 + 2).toNatClampNeg), .double 0] [] h).bind fun r => zv 18 243 265 [.retAddr 0, .ref a1, .ref a2, .int x3] (r.1.toList ++ []) r.2 := by
  refine Eq.trans (zv_next f243_251 rfl) ?_
  refine Eq.trans (zv_next f243_252 rfl) ?_
  refine Eq.trans (zv_next f243_253 rfl) ?_
  refine Eq.trans (zs_ic f243_254 ic_1) ?_
  refine Eq.trans (zv_next f243_255 rfl) ?_
  refine Eq.trans (zs_sald f243_256 g0) ?_
  refine Eq.trans (zv_next f243_257 rfl) ?_
  refine Eq.trans (zv_next f243_258 rfl) ?_
  refine Eq.trans (zs_ic f243_259 ic_2) ?_
  refine Eq.trans (zv_next f243_260 rfl) ?_
  refine Eq.trans (zs_sald f243_261 g1) ?_
  exact zs_callV f243_262 (Nat.le_of_ble_eq_true rfl) (Nat.le_of_ble_eq_true rfl) rfl g2 g3 me_110 (by decide) rfl
theorem b243_265 {h : zi_Hp} {a1 : Nat} {a2 : Nat} {x3 : Int32} {s0 : Int32} (g0 : ¬ ((x3 + 1) < 0 ∨ zh_L h ≤ (x3 + 1).toNatClampNeg)) (g1 : ¬ ((x3 + 2) < 0 ∨ zh_L h ≤ (x3 + 2).toNatClampNeg)) (g2 : a2 < zh_n h) (g3 : (zh_k h a2).1 = 8) : zv 18 243 265 [.retAddr 0, .ref a1, .ref a2, .int x3] [.int s0] h = (zv 3 202 0 [.ref a2, .int (zh_x h (x3 + 1).toNatClampNeg), .int (zh_x h (x3 + 2).toNatClampNeg)] [] h).bind fun r => zv 18 243 280 [.retAddr 0, .ref a1, .ref a2, .int x3] (r.1.toList ++ []) r.2 := by
  refine Eq.trans (zv_next f243_265 rfl) ?_
  refine Eq.trans (zv_next f243_266 rfl) ?_
  refine Eq.trans (zv_next f243_267 rfl) ?_
  refine Eq.trans (zv_next f243_268 rfl) ?_
  refine Eq.trans (zs_ic f243_269 ic_1) ?_
  refine Eq.trans (zv_next f243_270 rfl) ?_
  refine Eq.trans (zs_sald f243_271 g0) ?_
  refine Eq.trans (zv_next f243_272 rfl) ?_
  refine Eq.trans (zv_next f243_273 rfl) ?_
  refine Eq.trans (zs_ic f243_274 ic_2) ?_
  refine Eq.trans (zv_next f243_275 rfl) ?_
  refine Eq.trans (zs_sald f243_276 g1) ?_
  exact zs_callV f243_277 (Nat.le_of_ble_eq_true rfl) (Nat.le_of_ble_eq_true rfl) rfl g2 g3 me_202 (by decide) rfl
theorem b243_280 {h : zi_Hp} {a1 : Nat} {a2 : Nat} {x3 : Int32} {s0 : Int32}  : zv 18 243 280 [.retAddr 0, .ref a1, .ref a2, .int x3] [.int s0] h = zv 18 243 957 [.retAddr 0, .ref a1, .ref a2, .int x3] [] h := by
  refine Eq.trans (zv_next f243_280 rfl) ?_
  refine Eq.trans (zs_goto (tgt := 957) f243_281 rfl) ?_
  rfl
theorem b243_284 {h : zi_Hp} {a1 : Nat} {a2 : Nat} {x3 : Int32} (g0 : ¬ ((x3 + 1) < 0 ∨ zh_L h ≤ (x3 + 1).toNatClampNeg)) (g1 : ¬ ((x3 + 2) < 0 ∨ zh_L h ≤ (x3 + 2).toNatClampNeg)) (g2 : ¬ ((x3 + 3) < 0 ∨ zh_L h ≤ (x3 + 3).toNatClampNeg)) (g3 : a1 < zh_n h) (g4 : (zh_k h a1).1 = 7) : zv 18 243 284 [.retAddr 0, .ref a1, .ref a2, .int x3] [] h = (zv 3 111 0 [.ref a1, .int (zh_x h (x3 + 1).toNatClampNeg), .int (zh_x h (x3 + 2).toNatClampNeg), .int (zh_x h (x3 + 3).toNatClampNeg), .double 0] [] h).bind fun r => zv 18 243 303 [.retAddr 0, .ref a1, .ref a2, .int x3] (r.1.toList ++ []) r.2 := by
  refine Eq.trans (zv_next f243_284 rfl) ?_
  refine Eq.trans (zv_next f243_285 rfl) ?_
  refine Eq.trans (zv_next f243_286 rfl) ?_
  refine Eq.trans (zs_ic f243_287 ic_1) ?_
  refine Eq.trans (zv_next f243_288 rfl) ?_
  refine Eq.trans (zs_sald f243_289 g0) ?_
  refine Eq.trans (zv_next f243_290 rfl) ?_
  refine Eq.trans (zv_next f243_291 rfl) ?_
  refine Eq.trans (zs_ic f243_292 ic_2) ?_
  refine Eq.trans (zv_next f243_293 rfl) ?_
  refine Eq.trans (zs_sald f243_294 g1) ?_
  refine Eq.trans (zv_next f243_295 rfl) ?_
  refine Eq.trans (zv_next f243_296 rfl) ?_
  refine Eq.trans (zs_ic f243_297 ic_3) ?_
  refine Eq.trans (zv_next f243_298 rfl) ?_
  refine Eq.trans (zs_sald f243_299 g2) ?_
  exact zs_callV f243_300 (Nat.le_of_ble_eq_true rfl) (Nat.le_of_ble_eq_true rfl) rfl g3 g4 me_111 (by decide) rfl
theorem b243_303 {h : zi_Hp} {a1 : Nat} {a2 : Nat} {x3 : Int32} {s0 : Int32} (g0 : ¬ ((x3 + 1) < 0 ∨ zh_L h ≤ (x3 + 1).toNatClampNeg)) (g1 : ¬ ((x3 + 2) < 0 ∨ zh_L h ≤ (x3 + 2).toNatClampNeg)) (g2 : ¬ ((x3 + 3) < 0 ∨ zh_L h ≤ (x3 + 3).toNatClampNeg)) (g3 : a2 < zh_n h) (g4 : (zh_k h a2).1 = 8) : zv 18 243 303 [.retAddr 0, .ref a1, .ref a2, .int x3] [.int s0] h = (zv 3 203 0 [.ref a2, .int (zh_x h (x3 + 1).toNatClampNeg), .int (zh_x h (x3 + 2).toNatClampNeg), .int (zh_x h (x3 + 3).toNatClampNeg)] [] h).bind fun r => zv 18 243 323 [.retAddr 0, .ref a1, .ref a2, .int x3] (r.1.toList ++ []) r.2 := by
  refine Eq.trans (zv_next f243_303 rfl) ?_
  refine Eq.trans (zv_next f243_304 rfl) ?_
  refine Eq.trans (zv_next f243_305 rfl) ?_
  refine Eq.trans (zv_next f243_306 rfl) ?_
  refine Eq.trans (zs_ic f243_307 ic_1) ?_
  refine Eq.trans (zv_next f243_308 rfl) ?_
  refine Eq.trans (zs_sald f243_309 g0) ?_
  refine Eq.trans (zv_next f243_310 rfl) ?_
  refine Eq.trans (zv_next f243_311 rfl) ?_
  refine Eq.trans (zs_ic f243_312 ic_2) ?_
  refine Eq.trans (zv_next f243_313 rfl) ?_
  refine Eq.trans (zs_sald f243_314 g1) ?_
  refine Eq.trans (zv_next f243_315 rfl) ?_
  refine Eq.trans (zv_next f243_316 rfl) ?_
  refine Eq.trans (zs_ic f243_317 ic_3) ?_
  refine Eq.trans (zv_next f243_318 rfl) ?_
  refine Eq.trans (zs_sald f243_319 g2) ?_
  exact zs_callV f243_320 (Nat.le_of_ble_eq_true rfl) (Nat.le_of_ble_eq_true rfl) rfl g3 g4 me_203 (by decide) rfl
theorem b243_323 {h : zi_Hp} {a1 : Nat} {a2 : Nat} {x3 : Int32} {s0 : Int32}  : zv 18 243 323 [.retAddr 0, .ref a1, .ref a2, .int x3] [.int s0] h = zv 18 243 957 [.retAddr 0, .ref a1, .ref a2, .int x3] [] h := by
  refine Eq.trans (zv_next f243_323 rfl) ?_
  refine Eq.trans (zs_goto (tgt := 957) f243_324 rfl) ?_
  rfl
theorem b243_327 {h : zi_Hp} {a1 : Nat} {a2 : Nat} {x3 : Int32} (g0 : ¬ ((x3 + 1) < 0 ∨ zh_L h ≤ (x3 + 1).toNatClampNeg)) (g1 : ¬ ((x3 + 2) < 0 ∨ zh_L h ≤ (x3 + 2).toNatClampNeg)) (g2 : a1 < zh_n h) (g3 : (zh_k h a1).1 = 7) : zv 18 243 327 [.retAddr 0, .ref a1, .ref a2, .int x3] [] h = (zv 2 112 0 [.ref a1, .int (zh_x h (x3 + 1).toNatClampNeg), .int (zh_x h (x3 + 2).toNatClampNeg), .double 0] [] h).bind fun r => zv 18 243 341 [.retAddr 0, .ref a1, .ref a2, .int x3] (r.1.toList ++ []) r.2 := by
  refine Eq.trans (zv_next f243_327 rfl) ?_
  refine Eq.trans (zv_next f243_328 rfl) ?_
  refine Eq.trans (zv_next f243_329 rfl) ?_
  refine Eq.trans (zs_ic f243_330 ic_1) ?_
  refine Eq.trans (zv_next f243_331 rfl) ?_
  refine Eq.trans (zs_sald f243_332 g0) ?_
  refine Eq.trans (zv_next f243_333 rfl) ?_
  refine Eq.trans (zv_next f243_334 rfl) ?_
  refine Eq.trans (zs_ic f243_335 ic_2) ?_
  refine Eq.trans (zv_next f243_336 rfl) ?_
  refine Eq.trans (zs_sald f243_337 g1) ?_
  exact zs_callV f243_338 (Nat.le_of_ble_eq_true rfl) (Nat.le_of_ble_eq_true rfl) rfl g2 g3 me_112 (by decide) rfl
theorem b243_341 {h : zi_Hp} {a1 : Nat} {a2 : Nat} {x3 : Int32} {s0 : Int32} (g0 : ¬ ((x3 + 1) < 0 ∨ zh_L h ≤ (x3 + 1).toNatClampNeg)) (g1 : ¬ ((x3 + 2) < 0 ∨ zh_L h ≤ (x3 + 2).toNatClampNeg)) (g2 : a2 < zh_n h) (g3 : (zh_k h a2).1 = 8) : zv 18 243 341 [.retAddr 0, .ref a1, .ref a2, .int x3] [.int s0] h = (zv 3 204 0 [.ref a2, .int (zh_x h (x3 + 1).toNatClampNeg), .int (zh_x h (x3 + 2).toNatClampNeg)] [] h).bind fun r => zv 18 243 356 [.retAddr 0, .ref a1, .ref a2, .int x3] (r.1.toList ++ []) r.2 := by
  refine Eq.trans (zv_next f243_341 rfl) ?_
  refine Eq.trans (zv_next f243_342 rfl) ?_
  refine Eq.trans (zv_next f243_343 rfl) ?_
  refine Eq.trans (zv_next f243_344 rfl) ?_
  refine Eq.trans (zs_ic f243_345 ic_1) ?_
  refine Eq.trans (zv_next f243_346 rfl) ?_
  refine Eq.trans (zs_sald f243_347 g0) ?_
  refine Eq.trans (zv_next f243_348 rfl) ?_
  refine Eq.trans (zv_next f243_349 rfl) ?_
  refine Eq.trans (zs_ic f243_350 ic_2) ?_
  refine Eq.trans (zv_next f243_351 rfl) ?_
  refine Eq.trans (zs_sald f243_352 g1) ?_
  exact zs_callV f243_353 (Nat.le_of_ble_eq_true rfl) (Nat.le_of_ble_eq_true rfl) rfl g2 g3 me_204 (by decide) rfl
theorem b243_356 {h : zi_Hp} {a1 : Nat} {a2 : Nat} {x3 : Int32} {s0 : Int32}  : zv 18 243 356 [.retAddr 0, .ref a1, .ref a2, .int x3] [.int s0] h = zv 18 243 957 [.retAddr 0, .ref a1, .ref a2, .int x3] [] h := by
  refine Eq.trans (zv_next f243_356 rfl) ?_
  refine Eq.trans (zs_goto (tgt := 957) f243_357 rfl) ?_
  rfl
theorem b243_360 {h : zi_Hp} {a1 : Nat} {a2 : Nat} {x3 : Int32} (g0 : ¬ ((x3 + 1) < 0 ∨ zh_L h ≤ (x3 + 1).toNatClampNeg)) (g1 : a1 < zh_n h) (g2 : (zh_k h a1).1 = 7) : zv 18 243 360 [.retAddr 0, .ref a1, .ref a2, .int x3] [] h = (zv 2 113 0 [.ref a1, .int (zh_x h (x3 + 1).toNatClampNeg)] [] h).bind fun r => zv 18 243 369 [.retAddr 0, .ref a1, .ref a2, .int x3] (r.1.toList ++ []) r.2 := by
  refine Eq.trans (zv_next f243_360 rfl) ?_
  refine Eq.trans (zv_next f243_361 rfl) ?_
  refine Eq.trans (zv_next f243_362 rfl) ?_
  refine Eq.trans (zs_ic f243_363 ic_1) ?_
  refine Eq.trans (zv_next f243_364 rfl) ?_
  refine Eq.trans (zs_sald f243_365 g0) ?_
  exact zs_callV f243_366 (Nat.le_of_ble_eq_true rfl) (Nat.le_of_ble_eq_true rfl) rfl g1 g2 me_113 (by decide) rfl
theorem b243_369 {h : zi_Hp} {a1 : Nat} {a2 : Nat} {x3 : Int32} {s0 : Int32} (g0 : ¬ ((x3 + 1) < 0 ∨ zh_L h ≤ (x3 + 1).toNatClampNeg)) (g1 : a2 < zh_n h) (g2 : (zh_k h a2).1 = 8) : zv 18 243 369 [.retAddr 0, .ref a1, .ref a2, .int x3] [.int s0] h = (zv 4 205 0 [.ref a2, .int (zh_x h (x3 + 1).toNatClampNeg)] [] h).bind fun r => zv 18 243 379 [.retAddr 0, .ref a1, .ref a2, .int x3] (r.1.toList ++ []) r.2 := by
  refine Eq.trans (zv_next f243_369 rfl) ?_
  refine Eq.trans (zv_next f243_370 rfl) ?_
  refine Eq.trans (zv_next f243_371 rfl) ?_
  refine Eq.trans (zv_next f243_372 rfl) ?_
  refine Eq.trans (zs_ic f243_373 ic_1) ?_
  refine Eq.trans (zv_next f243_374 rfl) ?_
  refine Eq.trans (zs_sald f243_375 g0) ?_
  exact zs_callV f243_376 (Nat.le_of_ble_eq_true rfl) (Nat.le_of_ble_eq_true rfl) rfl g1 g2 me_205 (by decide) rfl
theorem b243_379 {h : zi_Hp} {a1 : Nat} {a2 : Nat} {x3 : Int32} {s0 : Int32}  : zv 18 243 379 [.retAddr 0, .ref a1, .ref a2, .int x3] [.int s0] h = zv 18 243 957 [.retAddr 0, .ref a1, .ref a2, .int x3] [] h := by
  refine Eq.trans (zv_next f243_379 rfl) ?_
  refine Eq.trans (zs_goto (tgt := 957) f243_380 rfl) ?_
  rfl
theorem b243_383 {h : zi_Hp} {a1 : Nat} {a2 : Nat} {x3 : Int32} (g0 : ¬ ((x3 + 1) < 0 ∨ zh_L h ≤ (x3 + 1).toNatClampNeg)) (g1 : ¬ ((x3 + 2) < 0 ∨ zh_L h ≤ (x3 + 2).toNatClampNeg)) (g2 : ¬ ((x3 + 3) < 0 ∨ zh_L h ≤ (x3 + 3).toNatClampNeg)) (g3 : a1 < zh_n h) (g4 : (zh_k h a1).1 = 7) : zv 18 243 383 [.retAddr 0, .ref a1, .ref a2, .int x3] [] h = (zv 5 114 0 [.ref a1, .int (zh_x h (x3 + 1).toNatClampNeg), .int (zh_x h (x3 + 2).toNatClampNeg), .int (zh_x h (x3 + 3).toNatClampNeg), .double 0] [] h).bind fun r => zv 18 243 402 [.retAddr 0, .ref a1, .ref a2, .int x3] (r.1.toList ++ []) r.2 := by
  refine Eq.trans (zv_next f243_383 rfl) ?_
  refine Eq.trans (zv_next f243_384 rfl) ?_
  refine Eq.trans (zv_next f243_385 rfl) ?_
  refine Eq.trans (zs_ic f243_386 ic_1) ?_
  refine Eq.trans (zv_next f243_387 rfl) ?_
  refine Eq.trans (zs_sald f243_388 g0) ?_
  refine Eq.trans (zv_next f243_389 rfl) ?_
  refine Eq.trans (zv_next f243_390 rfl) ?_
  refine Eq.trans (zs_ic f243_391 ic_2) ?_
  refine Eq.trans (zv_next f243_392 rfl) ?_
  refine Eq.trans (zs_sald f243_393 g1) ?_
  refine Eq.trans (zv_next f243_394 rfl) ?_
  refine Eq.trans (zv_next f243_395 rfl) ?_
  refine Eq.trans (zs_ic f243_396 ic_3) ?_
  refine Eq.trans (zv_next f243_397 rfl) ?_
  refine Eq.trans (zs_sald f243_398 g2) ?_
  exact zs_callV f243_399 (Nat.le_of_ble_eq_true rfl) (Nat.le_of_ble_eq_true rfl) rfl g3 g4 me_114 (by decide) rfl
theorem b243_402 {h : zi_Hp} {a1 : Nat} {a2 : Nat} {x3 : Int32} {s0 : Int32} (g0 : ¬ ((x3 + 1) < 0 ∨ zh_L h ≤ (x3 + 1).toNatClampNeg)) (g1 : ¬ ((x3 + 2) < 0 ∨ zh_L h ≤ (x3 + 2).toNatClampNeg)) (g2 : ¬ ((x3 + 3) < 0 ∨ zh_L h ≤ (x3 + 3).toNatClampNeg)) (g3 : a2 < zh_n h) (g4 : (zh_k h a2).1 = 8) : zv 18 243 402 [.retAddr 0, .ref a1, .ref a2, .int x3] [.int s0] h = (zv 5 206 0 [.ref a2, .int (zh_x h (x3 + 1).toNatClampNeg), .int (zh_x h (x3 + 2).toNatClampNeg), .int (zh_x h (x3 + 3).toNatClampNeg), .double 0] [] h).bind fun r => zv 18 243 422 [.retAddr 0, .ref a1, .ref a2, .int x3] (r.1.toList ++ []) r.2 := by
  refine Eq.trans (zv_next f243_402 rfl) ?_
  refine Eq.trans (zv_next f243_403 rfl) ?_
  refine Eq.trans (zv_next f243_404 rfl) ?_
  refine Eq.trans (zv_next f243_405 rfl) ?_
  refine Eq.trans (zs_ic f243_406 ic_1) ?_
  refine Eq.trans (zv_next f243_407 rfl) ?_
  refine Eq.trans (zs_sald f243_408 g0) ?_
  refine Eq.trans (zv_next f243_409 rfl) ?_
  refine Eq.trans (zv_next f243_410 rfl) ?_
  refine Eq.trans (zs_ic f243_411 ic_2) ?_
  refine Eq.trans (zv_next f243_412 rfl) ?_
  refine Eq.trans (zs_sald f243_413 g1) ?_
  refine Eq.trans (zv_next f243_414 rfl) ?_
  refine Eq.trans (zv_next f243_415 rfl) ?_
  refine Eq.trans (zs_ic f243_416 ic_3) ?_
  refine Eq.trans (zv_next f243_417 rfl) ?_
  refine Eq.trans (zs_sald f243_418 g2) ?_
  exact zs_callV f243_419 (Nat.le_of_ble_eq_true rfl) (Nat.le_of_ble_eq_true rfl) rfl g3 g4 me_206 (by decide) rfl
theorem b243_422 {h : zi_Hp} {a1 : Nat} {a2 : Nat} {x3 : Int32} {s0 : Int32}  : zv 18 243 422 [.retAddr 0, .ref a1, .ref a2, .int x3] [.int s0] h = zv 18 243 957 [.retAddr 0, .ref a1, .ref a2, .int x3] [] h := by
  refine Eq.trans (zv_next f243_422 rfl) ?_
  refine Eq.trans (zs_goto (tgt := 957) f243_423 rfl) ?_
  rfl
theorem b243_426 {h : zi_Hp} {a1 : Nat} {a2 : Nat} {x3 : Int32} (g0 : ¬ ((x3 + 1) < 0 ∨ zh_L h ≤ (x3 + 1).toNatClampNeg)) (g1 : a1 < zh_n h) (g2 : (zh_k h a1).1 = 7) : zv 18 243 426 [.retAddr 0, .ref a1, .ref a2, .int x3] [] h = (zv 6 115 0 [.ref a1, .int (zh_x h (x3 + 1).toNatClampNeg)] [] h).bind fun r => zv 18 243 435 [.retAddr 0, .ref a1, .ref a2, .int x3] (r.1.toList ++ []) r.2 := by
  refine Eq.trans (zv_next f243_426 rfl) ?_
  refine Eq.trans (zv_next f243_427 rfl) ?_
  refine Eq.trans (zv_next f243_428 rfl) ?_
  refine Eq.trans (zs_ic f243_429 ic_1) ?_
  refine Eq.trans (zv_next f243_430 rfl) ?_
  refine Eq.trans (zs_sald f243_431 g0) ?_
  exact zs_callV f243_432 (Nat.le_of_ble_eq_true rfl) (Nat.le_of_ble_eq_true rfl) rfl g1 g2 me_115 (by decide) rfl
theorem b243_435 {h : zi_Hp} {a1 : Nat} {a2 : Nat} {x3 : Int32} {s0 : Int32} (g0 : ¬ ((x3 + 1) < 0 ∨ zh_L h ≤ (x3 + 1).toNatClampNeg)) (g1 : a2 < zh_n h) (g2 : (zh_k h a2).1 = 8) : zv 18 243 435 [.retAddr 0, .ref a1, .ref a2, .int x3] [.int s0] h = (zv 7 207 0 [.ref a2, .int (zh_x h (x3 + 1).toNatClampNeg)] [] h).bind fun r => zv 18 243 445 [.retAddr 0, .ref a1, .ref a2, .int x3] (r.1.toList ++ []) r.2 := by
  refine Eq.trans (zv_next f243_435 rfl) ?_
  refine Eq.trans (zv_next f243_436 rfl) ?_
  refine Eq.trans (zv_next f243_437 rfl) ?_
  refine Eq.trans (zv_next f243_438 rfl) ?_
  refine Eq.trans (zs_ic f243_439 ic_1) ?_
  refine Eq.trans (zv_next f243_440 rfl) ?_
  refine Eq.trans (zs_sald f243_441 g0) ?_
  exact zs_callV f243_442 (Nat.le_of_ble_eq_true rfl) (Nat.le_of_ble_eq_true rfl) rfl g1 g2 me_207 (by decide) rfl
theorem b243_445 {h : zi_Hp} {a1 : Nat} {a2 : Nat} {x3 : Int32} {s0 : Int32}  : zv 18 243 445 [.retAddr 0, .ref a1, .ref a2, .int x3] [.int s0] h = zv 18 243 957 [.retAddr 0, .ref a1, .ref a2, .int x3] [] h := by
  refine Eq.trans (zv_next f243_445 rfl) ?_
  refine Eq.trans (zs_goto (tgt := 957) f243_446 rfl) ?_
  rfl
theorem b243_449 {h : zi_Hp} {a1 : Nat} {a2 : Nat} {x3 : Int32} (g0 : ¬ ((x3 + 1) < 0 ∨ zh_L h ≤ (x3 + 1).toNatClampNeg)) (g1 : ¬ ((x3 + 2) < 0 ∨ zh_L h ≤ (x3 + 2).toNatClampNeg)) (g2 : a1 < zh_n h) (g3 : (zh_k h a1).1 = 7) : zv 18 243 449 [.retAddr 0, .ref a1, .ref a2, .int x3] [] h = (zv 7 116 0 [.ref a1, .int (zh_x h (x3 + 1).toNatClampNeg), .int (zh_x h (x3 + 2).toNatClampNeg)] [] h).bind fun r => zv 18 243 463 [.retAddr 0, .ref a1, .ref a2, .int x3] (r.1.toList ++ []) r.2 := by
  refine Eq.trans (zv_next f243_449 rfl) ?_
  refine Eq.trans (zv_next f243_450 rfl) ?_
  refine Eq.trans (zv_next f243_451 rfl) ?_
  refine Eq.trans (zs_ic f243_452 ic_1) ?_
  refine Eq.trans (zv_next f243_453 rfl) ?_
  refine Eq.trans (zs_sald f243_454 g0) ?_
  refine Eq.trans (zv_next f243_455 rfl) ?_
  refine Eq.trans (zv_next f243_456 rfl) ?_
  refine Eq.trans (zs_ic f243_457 ic_2) ?_
  refine Eq.trans (zv_next f243_458 rfl) ?_
  refine Eq.trans (zs_sald f243_459 g1) ?_
  exact zs_callV f243_460 (Nat.le_of_ble_eq_true rfl) (Nat.le_of_ble_eq_true rfl) rfl g2 g3 me_116 (by decide) rfl
theorem b243_463 {h : zi_Hp} {a1 : Nat} {a2 : Nat} {x3 : Int32} {s0 : Int32} (g0 : ¬ ((x3 + 1) < 0 ∨ zh_L h ≤ (x3 + 1).toNatClampNeg)) (g1 : ¬ ((x3 + 2) < 0 ∨ zh_L h ≤ (x3 + 2).toNatClampNeg)) (g2 : a2 < zh_n h) (g3 : (zh_k h a2).1 = 8) : zv 18 243 463 [.retAddr 0, .ref a1, .ref a2, .int x3] [.int s0] h = (zv 8 208 0 [.ref a2, .int (zh_x h (x3 + 1).toNatClampNeg), .int (zh_x h (x3 + 2).toNatClampNeg)] [] h).bind fun r => zv 18 243 478 [.retAddr 0, .ref a1, .ref a2, .int x3] (r.1.toList ++ []) r.2 := by
  refine Eq.trans (zv_next f243_463 rfl) ?_
  refine Eq.trans (zv_next f243_464 rfl) ?_
  refine Eq.trans (zv_next f243_465 rfl) ?_
  refine Eq.trans (zv_next f243_466 rfl) ?_
  refine Eq.trans (zs_ic f243_467 ic_1) ?_
  refine Eq.trans (zv_next f243_468 rfl) ?_
  refine Eq.trans (zs_sald f243_469 g0) ?_
  refine Eq.trans (zv_next f243_470 rfl) ?_
  refine Eq.trans (zv_next f243_471 rfl) ?_
  refine Eq.trans (zs_ic f243_472 ic_2) ?_
  refine Eq.trans (zv_next f243_473 rfl) ?_
  refine Eq.trans (zs_sald f243_474 g1) ?_
  exact zs_callV f243_475 (Nat.le_of_ble_eq_true rfl) (Nat.le_of_ble_eq_true rfl) rfl g2 g3 me_208 (by decide) rfl
theorem b243_478 {h : zi_Hp} {a1 : Nat} {a2 : Nat} {x3 : Int32} {s0 : Int32}  : zv 18 243 478 [.retAddr 0, .ref a1, .ref a2, .int x3] [.int s0] h = zv 18 243 957 [.retAddr 0, .ref a1, .ref a2, .int x3] [] h := by
  refine Eq.trans (zv_next f243_478 rfl) ?_
  refine Eq.trans (zs_goto (tgt := 957) f243_479 rfl) ?_
  rfl
theorem b243_482 {h : zi_Hp} {a1 : Nat} {a2 : Nat} {x3 : Int32} (g0 : ¬ ((x3 + 1) < 0 ∨ zh_L h ≤ (x3 + 1).toNatClampNeg)) (g1 : a1 < zh_n h) (g2 : (zh_k h a1).1 = 7) : zv 18 243 482 [.retAddr 0, .ref a1, .ref a2, .int x3] [] h = (zv 2 117 0 [.ref a1, .int (zh_x h (x3 + 1).toNatClampNeg), .double 0] [] h).bind fun r => zv 18 243 491 [.retAddr 0, .ref a1, .ref a2, .int x3] (r.1.toList ++ []) r.2 := by
  refine Eq.trans (zv_next f243_482 rfl) ?_
  refine Eq.trans (zv_next f243_483 rfl) ?_
  refine Eq.trans (zv_next f243_484 rfl) ?_
  refine Eq.trans (zs_ic f243_485 ic_1) ?_
  refine Eq.trans (zv_next f243_486 rfl) ?_
  refine Eq.trans (zs_sald f243_487 g0) ?_
  exact zs_callV f243_488 (Nat.le_of_ble_eq_true rfl) (Nat.le_of_ble_eq_true rfl) rfl g1 g2 me_117 (by decide) rfl
theorem b243_491 {h : zi_Hp} {a1 : Nat} {a2 : Nat} {x3 : Int32} {s0 : Int32} (g0 : ¬ ((x3 + 1) < 0 ∨ zh_L h ≤ (x3 + 1).toNatClampNeg)) (g1 : a2 < zh_n h) (g2 : (zh_k h a2).1 = 8) : zv 18 243 491 [.retAddr 0, .ref a1, .ref a2, .int x3] [.int s0] h = (zv 3 209 0 [.ref a2, .int (zh_x h (x3 + 1).toNatClampNeg)] [] h).bind fun r => zv 18 243 501 [.retAddr 0, .ref a1, .ref a2, .int x3] (r.1.toList ++ []) r.2 := by
  refine Eq.trans (zv_next f243_491 rfl) ?_
  refine Eq.trans (zv_next f243_492 rfl) ?_
  refine Eq.trans (zv_next f243_493 rfl) ?_
  refine Eq.trans (zv_next f243_494 rfl) ?_
  refine Eq.trans (zs_ic f243_495 ic_1) ?_
  refine Eq.trans (zv_next f243_496 rfl) ?_
  refine Eq.trans (zs_sald f243_497 g0) ?_
  exact zs_callV f243_498 (Nat.le_of_ble_eq_true rfl) (Nat.le_of_ble_eq_true rfl) rfl g1 g2 me_209 (by decide) rfl
theorem b243_501 {h : zi_Hp} {a1 : Nat} {a2 : Nat} {x3 : Int32} {s0 : Int32}  : zv 18 243 501 [.retAddr 0, .ref a1, .ref a2, .int x3] [.int s0] h = zv 18 243 957 [.retAddr 0, .ref a1, .ref a2, .int x3] [] h := by
  refine Eq.trans (zv_next f243_501 rfl) ?_
  refine Eq.trans (zs_goto (tgt := 957) f243_502 rfl) ?_
  rfl
theorem b243_505 {h : zi_Hp} {a1 : Nat} {a2 : Nat} {x3 : Int32} (g0 : ¬ ((x3 + 1) < 0 ∨ zh_L h ≤ (x3 + 1).toNatClampNeg)) (g1 : a1 < zh_n h) (g2 : (zh_k h a1).1 = 7) : zv 18 243 505 [.retAddr 0, .ref a1, .ref a2, .int x3] [] h = (zv 2 118 0 [.ref a1, .int (zh_x h (x3 + 1).toNatClampNeg), .double 0] [] h).bind fun r => zv 18 243 514 [.retAddr 0, .ref a1, .ref a2, .int x3] (r.1.toList ++ []) r.2 := by
  refine Eq.trans (zv_next f243_505 rfl) ?_
  refine Eq.trans (zv_next f243_506 rfl) ?_
  refine Eq.trans (zv_next f243_507 rfl) ?_
  refine Eq.trans (zs_ic f243_508 ic_1) ?_
  refine Eq.trans (zv_next f243_509 rfl) ?_
  refine Eq.trans (zs_sald f243_510 g0) ?_
  exact zs_callV f243_511 (Nat.le_of_ble_eq_true rfl) (Nat.le_of_ble_eq_true rfl) rfl g1 g2 me_118 (by decide) rfl
theorem b243_514 {h : zi_Hp} {a1 : Nat} {a2 : Nat} {x3 : Int32} {s0 : Int32} (g0 : ¬ ((x3 + 1) < 0 ∨ zh_L h ≤ (x3 + 1).toNatClampNeg)) (g1 : a2 < zh_n h) (g2 : (zh_k h a2).1 = 8) : zv 18 243 514 [.retAddr 0, .ref a1, .ref a2, .int x3] [.int s0] h = (zv 2 210 0 [.ref a2, .int (zh_x h (x3 + 1).toNatClampNeg), .double 0] [] h).bind fun r => zv 18 243 524 [.retAddr 0, .ref a1, .ref a2, .int x3] (r.1.toList ++ []) r.2 := by
  refine Eq.trans (zv_next f243_514 rfl) ?_
  refine Eq.trans (zv_next f243_515 rfl) ?_
  refine Eq.trans (zv_next f243_516 rfl) ?_
  refine Eq.trans (zv_next f243_517 rfl) ?_
  refine Eq.trans (zs_ic f243_518 ic_1) ?_
  refine Eq.trans (zv_next f243_519 rfl) ?_
  refine Eq.trans (zs_sald f243_520 g0) ?_
  exact zs_callV f243_521 (Nat.le_of_ble_eq_true rfl) (Nat.le_of_ble_eq_true rfl) rfl g1 g2 me_210 (by decide) rfl
theorem b243_524 {h : zi_Hp} {a1 : Nat} {a2 : Nat} {x3 : Int32} {s0 : Int32}  : zv 18 243 524 [.retAddr 0, .ref a1, .ref a2, .int x3] [.int s0] h = zv 18 243 957 [.retAddr 0, .ref a1, .ref a2, .int x3] [] h := by
  refine Eq.trans (zv_next f243_524 rfl) ?_
  refine Eq.trans (zs_goto (tgt := 957) f243_525 rfl) ?_
  rfl
theorem b243_528 {h : zi_Hp} {a1 : Nat} {a2 : Nat} {x3 : Int32} (g0 : ¬ ((x3 + 1) < 0 ∨ zh_L h ≤ (x3 + 1).toNatClampNeg)) (g1 : ¬ ((x3 + 2) < 0 ∨ zh_L h ≤ (x3 + 2).toNatClampNeg)) (g2 : a1 < zh_n h) (g3 : (zh_k h a1).1 = 7) : zv 18 243 528 [.retAddr 0, .ref a1, .ref a2, .int x3] [] h = (zv 17 119 0 [.ref a1, .int (zh_x h (x3 + 1).toNatClampNeg), .int (zh_x h (x3 + 2).toNatClampNeg)] [] h).bind fun r => zv 18 243 542 [.retAddr 0, .ref a1, .ref a2, .int x3] (r.1.toList ++ []) r.2 := by
  refine Eq.trans (zv_next f243_528 rfl) ?_
  refine Eq.trans (zv_next f243_529 rfl) ?_
  refine Eq.trans (zv_next f243_530 rfl) ?_
  refine Eq.trans (zs_ic f243_531 ic_1) ?_
  refine Eq.trans (zv_next f243_532 rfl) ?_
  refine Eq.trans (zs_sald f243_533 g0) ?_
  refine Eq.trans (zv_next f243_534 rfl) ?_
  refine Eq.trans (zv_next f243_535 rfl) ?_
  refine Eq.trans (zs_ic f243_536 ic_2) ?_
  refine Eq.trans (zv_next f243_537 rfl) ?_
  refine Eq.trans (zs_sald f243_538 g1) ?_
  exact zs_callV f243_539 (Nat.le_of_ble_eq_true rfl) (Nat.le_of_ble_eq_true rfl) rfl g2 g3 me_119 (by decide) rfl
theorem b243_542 {h : zi_Hp} {a1 : Nat} {a2 : Nat} {x3 : Int32} {s0 : Int32} (g0 : ¬ ((x3 + 1) < 0 ∨ zh_L h ≤ (x3 + 1).toNatClampNeg)) (g1 : ¬ ((x3 + 2) < 0 ∨ zh_L h ≤ (x3 + 2).toNatClampNeg)) (g2 : a2 < zh_n h) (g3 : (zh_k h a2).1 = 8) : zv 18 243 542 [.retAddr 0, .ref a1, .ref a2, .int x3] [.int s0] h = (zv 8 218 0 [.ref a2, .int (zh_x h (x3 + 1).toNatClampNeg), .int (zh_x h (x3 + 2).toNatClampNeg)] [] h).bind fun r => zv 18 243 556 [.retAddr 0, .ref a1, .ref a2, .int x3] (r.1.toList ++ [.int s0]) r.2 := by
  refine Eq.trans (zv_next f243_542 rfl) ?_
  refine Eq.trans (zv_next f243_543 rfl) ?_
  refine Eq.trans (zv_next f243_544 rfl) ?_
  refine Eq.trans (zs_ic f243_545 ic_1) ?_
  refine Eq.trans (zv_next f243_546 rfl) ?_
  refine Eq.trans (zs_sald f243_547 g0) ?_
  refine Eq.trans (zv_next f243_548 rfl) ?_
  refine Eq.trans (zv_next f243_549 rfl) ?_
  refine Eq.trans (zs_ic f243_550 ic_2) ?_
  refine Eq.trans (zv_next f243_551 rfl) ?_
  refine Eq.trans (zs_sald f243_552 g1) ?_
  exact zs_callV f243_553 (Nat.le_of_ble_eq_true rfl) (Nat.le_of_ble_eq_true rfl) rfl g2 g3 me_218 (by decide) rfl
theorem b243_556 {h : zi_Hp} {a1 : Nat} {a2 : Nat} {x3 : Int32} {s0 : Int32} {s1 : Int32}  : zv 18 243 556 [.retAddr 0, .ref a1, .ref a2, .int x3] [.int s1, .int s0] h = if s0 = s1 then zv 18 243 957 [.retAddr 0, .ref a1, .ref a2, .int x3] [] h else zv 18 243 559 [.retAddr 0, .ref a1, .ref a2, .int x3] [] h := by
  exact zs_icmp f243_556 rfl
theorem b243_559 {h : zi_Hp} {a1 : Nat} {a2 : Nat} {x3 : Int32}  : zv 18 243 559 [.retAddr 0, .ref a1, .ref a2, .int x3] [] h = some (some (.int 0), h) := by
  refine Eq.trans (zs_ic f243_559 ic_0) ?_
  exact zs_ret1 f243_560 (by decide)
theorem b243_561 {h : zi_Hp} {a1 : Nat} {a2 : Nat} {x3 : Int32} (g0 : ¬ ((x3 + 1) < 0 ∨ zh_L h ≤ (x3 + 1).toNatClampNeg)) (g1 : ¬ ((x3 + 2) < 0 ∨ zh_L h ≤ (x3 + 2).toNatClampNeg)) (g2 : ¬ ((x3 + 3) < 0 ∨ zh_L h ≤ (x3 + 3).toNatClampNeg)) (g3 : a1 < zh_n h) (g4 : (zh_k h a1).1 = 7) : zv 18 243 561 [.retAddr 0, .ref a1, .ref a2, .int x3] [] h = (zv 17 120 0 [.ref a1, .int (zh_x h (x3 + 1).toNatClampNeg), .int (zh_x h (x3 + 2).toNatClampNeg), .int (zh_x h (x3 + 3).toNatClampNeg)] [] h).bind fun r => zv 18 243 580 [.retAddr 0, .ref a1, .ref a2, .int x3] (r.1.toList ++ []) r.2 := by
  refine Eq.trans (zv_next f243_561 rfl) ?_
  refine Eq.trans (zv_next f243_562 rfl) ?_
  refine Eq.trans (zv_next f243_563 rfl) ?_
  refine Eq.trans (zs_ic f243_564 ic_1) ?_
  refine Eq.trans (zv_next f243_565 rfl) ?_
  refine Eq.trans (zs_sald f243_566 g0) ?_
  refine Eq.trans (zv_next f243_567 rfl) ?_
  refine Eq.trans (zv_next f243_568 rfl) ?_
  refine Eq.trans (zs_ic f243_569 ic_2) ?_
  refine Eq.trans (zv_next f243_570 rfl) ?_
  refine Eq.trans (zs_sald f243_571 g1) ?_
  refine Eq.trans (zv_next f243_572 rfl) ?_
  refine Eq.trans (zv_next f243_573 rfl) ?_
  refine Eq.trans (zs_ic f243_574 ic_3) ?_
  refine Eq.trans (zv_next f243_575 rfl) ?_
  refine Eq.trans (zs_sald f243_576 g2) ?_
  exact zs_callV f243_577 (Nat.le_of_ble_eq_true rfl) (Nat.le_of_ble_eq_true rfl) rfl g3 g4 me_120 (by decide) rfl
theorem b243_580 {h : zi_Hp} {a1 : Nat} {a2 : Nat} {x3 : Int32} {s0 : Int32} (g0 : ¬ ((x3 + 1) < 0 ∨ zh_L h ≤ (x3 + 1).toNatClampNeg)) (g1 : ¬ ((x3 + 2) < 0 ∨ zh_L h ≤ (x3 + 2).toNatClampNeg)) (g2 : ¬ ((x3 + 3) < 0 ∨ zh_L h ≤ (x3 + 3).toNatClampNeg)) (g3 : a2 < zh_n h) (g4 : (zh_k h a2).1 = 8) : zv 18 243 580 [.retAddr 0, .ref a1, .ref a2, .int x3] [.int s0] h = (zv 8 220 0 [.ref a2, .int (zh_x h (x3 + 1).toNatClampNeg), .int (zh_x h (x3 + 2).toNatClampNeg), .int (zh_x h (x3 + 3).toNatClampNeg)] [] h).bind fun r => zv 18 243 600 [.retAddr 0, .ref a1, .ref a2, .int x3] (r.1.toList ++ []) r.2 := by
  refine Eq.trans (zv_next f243_580 rfl) ?_
  refine Eq.trans (zv_next f243_581 rfl) ?_
  refine Eq.trans (zv_next f243_582 rfl) ?_
  refine Eq.trans (zv_next f243_583 rfl) ?_
  refine Eq.trans (zs_ic f243_584 ic_1) ?_
  refine Eq.trans (zv_next f243_585 rfl) ?_
  refine Eq.trans (zs_sald f243_586 g0) ?_
  refine Eq.trans (zv_next f243_587 rfl) ?_
  refine Eq.trans (zv_next f243_588 rfl) ?_
  refine Eq.trans (zs_ic f243_589 ic_2) ?_
  refine Eq.trans (zv_next f243_590 rfl) ?_
  refine Eq.trans (zs_sald f243_591 g1) ?_
  refine Eq.trans (zv_next f243_592 rfl) ?_
  refine Eq.trans (zv_next f243_593 rfl) ?_
  refine Eq.trans (zs_ic f243_594 ic_3) ?_
  refine Eq.trans (zv_next f243_595 rfl) ?_
  refine Eq.trans (zs_sald f243_596 g2) ?_
  exact zs_callV f243_597 (Nat.le_of_ble_eq_true rfl) (Nat.le_of_ble_eq_true rfl) rfl g3 g4 me_220 (by decide) rfl
theorem b243_600 {h : zi_Hp} {a1 : Nat} {a2 : Nat} {x3 : Int32} {s0 : Int32}  : zv 18 243 600 [.retAddr 0, .ref a1, .ref a2, .int x3] [.int s0] h = zv 18 243 957 [.retAddr 0, .ref a1, .ref a2, .int x3] [] h := by
  refine Eq.trans (zv_next f243_600 rfl) ?_
  refine Eq.trans (zs_goto (tgt := 957) f243_601 rfl) ?_
  rfl
theorem b243_604 {h : zi_Hp} {a1 : Nat} {a2 : Nat} {x3 : Int32} (g0 : ¬ ((x3 + 1) < 0 ∨ zh_L h ≤ (x3 + 1).toNatClampNeg)) (g1 : ¬ ((x3 + 2) < 0 ∨ zh_L h ≤ (x3 + 2).toNatClampNeg)) (g2 : ¬ ((x3 + 3) < 0 ∨ zh_L h ≤ (x3 + 3).toNatClampNeg)) (g3 : a1 < zh_n h) (g4 : (zh_k h a1).1 = 7) : zv 18 243 604 [.retAddr 0, .ref a1, .ref a2, .int x3] [] h = (zv 17 121 0 [.ref a1, .int (zh_x h (x3 + 1).toNatClampNeg), .int (zh_x h (x3 + 2).toNatClampNeg), .int (zh_x h (x3 + 3).toNatClampNeg)] [] h).bind fun r => zv 18 243 623 [.retAddr 0, .ref a1, .ref a2, .int x3] (r.1.toList ++ []) r.2 := by
  refine Eq.trans (zv_next f243_604 rfl) ?_
  refine Eq.trans (zv_next f243_605 rfl) ?_
  refine Eq.trans (zv_next f243_606 rfl) ?_
  refine Eq.trans (zs_ic f243_607 ic_1) ?_
  refine Eq.trans (zv_next f243_608 rfl) ?_
  refine Eq.trans (zs_sald f243_609 g0) ?_
  refine Eq.trans (zv_next f243_610 rfl) ?_
  refine Eq.trans (zv_next f243_611 rfl) ?_
  refine Eq.trans (zs_ic f243_612 ic_2) ?_
  refine Eq.trans (zv_next f243_613 rfl) ?_
  refine Eq.trans (zs_sald f243_614 g1) ?_
  refine Eq.trans (zv_next f243_615 rfl) ?_
  refine Eq.trans (zv_next f243_616 rfl) ?_
  refine Eq.trans (zs_ic f243_617 ic_3) ?_
  refine Eq.trans (zv_next f243_618 rfl) ?_
  refine Eq.trans (zs_sald f243_619 g2) ?_
  exact zs_callV f243_620 (Nat.le_of_ble_eq_true rfl) (Nat.le_of_ble_eq_true rfl) rfl g3 g4 me_121 (by decide) rfl
theorem b243_623 {h : zi_Hp} {a1 : Nat} {a2 : Nat} {x3 : Int32} {s0 : Int32} (g0 : ¬ ((x3 + 1) < 0 ∨ zh_L h ≤ (x3 + 1).toNatClampNeg)) (g1 : ¬ ((x3 + 2) < 0 ∨ zh_L h ≤ (x3 + 2).toNatClampNeg)) (g2 : ¬ ((x3 + 3) < 0 ∨ zh_L h ≤ (x3 + 3).toNatClampNeg)) (g3 : a2 < zh_n h) (g4 : (zh_k h a2).1 = 8) : zv 18 243 623 [.retAddr 0, .ref a1, .ref a2, .int x3] [.int s0] h = (zv 8 221 0 [.ref a2, .int (zh_x h (x3 + 1).toNatClampNeg), .int (zh_x h (x3 + 2).toNatClampNeg), .int (zh_x h (x3 + 3).toNatClampNeg)] [] h).bind fun r => zv 18 243 643 [.retAddr 0, .ref a1, .ref a2, .int x3] (r.1.toList ++ []) r.2 := by
  refine Eq.trans (zv_next f243_623 rfl) ?_
  refine Eq.trans (zv_next f243_624 rfl) ?_
  refine Eq.trans (zv_next f243_625 rfl) ?_
  refine Eq.trans (zv_next f243_626 rfl) ?_
  refine Eq.trans (zs_ic f243_627 ic_1) ?_
  refine Eq.trans (zv_next f243_628 rfl) ?_
  refine Eq.trans (zs_sald f243_629 g0) ?_
  refine Eq.trans (zv_next f243_630 rfl) ?_
  refine Eq.trans (zv_next f243_631 rfl) ?_
  refine Eq.trans (zs_ic f243_632 ic_2) ?_
  refine Eq.trans (zv_next f243_633 rfl) ?_
  refine Eq.trans (zs_sald f243_634 g1) ?_
  refine Eq.trans (zv_next f243_635 rfl) ?_
  refine Eq.trans (zv_next f243_636 rfl) ?_
  refine Eq.trans (zs_ic f243_637 ic_3) ?_
  refine Eq.trans (zv_next f243_638 rfl) ?_
  refine Eq.trans (zs_sald f243_639 g2) ?_
  exact zs_callV f243_640 (Nat.le_of_ble_eq_true rfl) (Nat.le_of_ble_eq_true rfl) rfl g3 g4 me_221 (by decide) rfl
theorem b243_643 {h : zi_Hp} {a1 : Nat} {a2 : Nat} {x3 : Int32} {s0 : Int32}  : zv 18 243 643 [.retAddr 0, .ref a1, .ref a2, .int x3] [.int s0] h = zv 18 243 957 [.retAddr 0, .ref a1, .ref a2, .int x3] [] h := by
  refine Eq.trans (zv_next f243_643 rfl) ?_
  refine Eq.trans (zs_goto (tgt := 957) f243_644 rfl) ?_
  rfl
theorem b243_647 {h : zi_Hp} {a1 : Nat} {a2 : Nat} {x3 : Int32} (g0 : ¬ ((x3 + 1) < 0 ∨ zh_L h ≤ (x3 + 1).toNatClampNeg)) (g1 : ¬ ((x3 + 2) < 0 ∨ zh_L h ≤ (x3 + 2).toNatClampNeg)) (g2 : ¬ ((x3 + 3) < 0 ∨ zh_L h ≤ (x3 + 3).toNatClampNeg)) (g3 : ¬ ((x3 + 4) < 0 ∨ zh_L h ≤ (x3 + 4).toNatClampNeg)) (g4 : a1 < zh_n h) (g5 : (zh_k h a1).1 = 7) : zv 18 243 647 [.retAddr 0, .ref a1, .ref a2, .int x3] [] h = (zv 17 122 0 [.ref a1, .int (zh_x h (x3 + 1).toNatClampNeg), .int (zh_x h (x3 + 2).toNatClampNeg), .int (zh_x h (x3 + 3).toNatClampNeg), .int (zh_x h (x3 + 4).toNatClampNeg), .double 0, .double 0] [] h).bind fun r => zv 18 243 671 [.retAddr 0, .ref a1, .ref a2, .int x3] (r.1.toList ++ []) r.2 := by
  refine Eq.trans (zv_next f243_647 rfl) ?_
  refine Eq.trans (zv_next f243_648 rfl) ?_
  refine Eq.trans (zv_next f243_649 rfl) ?_
  refine Eq.trans (zs_ic f243_650 ic_1) ?_
  refine Eq.trans (zv_next f243_651 rfl) ?_
  refine Eq.trans (zs_sald f243_652 g0) ?_
  refine Eq.trans (zv_next f243_653 rfl) ?_
  refine Eq.trans (zv_next f243_654 rfl) ?_
  refine Eq.trans (zs_ic f243_655 ic_2) ?_
  refine Eq.trans (zv_next f243_656 rfl) ?_
  refine Eq.trans (zs_sald f243_657 g1) ?_
  refine Eq.trans (zv_next f243_658 rfl) ?_
  refine Eq.trans (zv_next f243_659 rfl) ?_
  refine Eq.trans (zs_ic f243_660 ic_3) ?_
  refine Eq.trans (zv_next f243_661 rfl) ?_
  refine Eq.trans (zs_sald f243_662 g2) ?_
  refine Eq.trans (zv_next f243_663 rfl) ?_
  refine Eq.trans (zv_next f243_664 rfl) ?_
  refine Eq.trans (zs_ic f243_665 ic_4) ?_
  refine Eq.trans (zv_next f243_666 rfl) ?_
  refine Eq.trans (zs_sald f243_667 g3) ?_
  exact zs_callV f243_668 (Nat.le_of_ble_eq_true rfl) (Nat.le_of_ble_eq_true rfl) rfl g4 g5 me_122 (by decide) rfl
theorem b243_671 {h : zi_Hp} {a1 : Nat} {a2 : Nat} {x3 : Int32} {w0 : Int64} (g0 : ¬ ((x3 + 1) < 0 ∨ zh_L h ≤ (x3 + 1).toNatClampNeg)) (g1 : ¬ ((x3 + 2) < 0 ∨ zh_L h ≤ (x3 + 2).toNatClampNeg)) (g2 : ¬ ((x3 + 3) < 0 ∨ zh_L h ≤ (x3 + 3).toNatClampNeg)) (g3 : ¬ ((x3 + 4) < 0 ∨ zh_L h ≤ (x3 + 4).toNatClampNeg)) (g4 : a2 < zh_n h) (g5 : (zh_k h a2).1 = 8) : zv 18 243 671 [.retAddr 0, .ref a1, .ref a2, .int x3] [.long w0] h = (zv 8 223 0 [.ref a2, .int (zh_x h (x3 + 1).toNatClampNeg), .int (zh_x h (x3 + 2).toNatClampNeg), .int (zh_x h (x3 + 3).toNatClampNeg), .int (zh_x h (x3 + 4).toNatClampNeg), .double 0, .double 0] [] h).bind fun r => zv 18 243 696 [.retAddr 0, .ref a1, .ref a2, .int x3] (r.1.toList ++ []) r.2 := by
  refine Eq.trans (zv_next f243_671 rfl) ?_
  refine Eq.trans (zv_next f243_672 rfl) ?_
  refine Eq.trans (zv_next f243_673 rfl) ?_
  refine Eq.trans (zv_next f243_674 rfl) ?_
  refine Eq.trans (zs_ic f243_675 ic_1) ?_
  refine Eq.trans (zv_next f243_676 rfl) ?_
  refine Eq.trans (zs_sald f243_677 g0) ?_
  refine Eq.trans (zv_next f243_678 rfl) ?_
  refine Eq.trans (zv_next f243_679 rfl) ?_
  refine Eq.trans (zs_ic f243_680 ic_2) ?_
  refine Eq.trans (zv_next f243_681 rfl) ?_
  refine Eq.trans (zs_sald f243_682 g1) ?_
  refine Eq.trans (zv_next f243_683 rfl) ?_
  refine Eq.trans (zv_next f243_684 rfl) ?_
  refine Eq.trans (zs_ic f243_685 ic_3) ?_
  refine Eq.trans (zv_next f243_686 rfl) ?_
  refine Eq.trans (zs_sald f243_687 g2) ?_
  refine Eq.trans (zv_next f243_688 rfl) ?_
  refine Eq.trans (zv_next f243_689 rfl) ?_
  refine Eq.trans (zs_ic f243_690 ic_4) ?_
  refine Eq.trans (zv_next f243_691 rfl) ?_
  refine Eq.trans (zs_sald f243_692 g3) ?_
  exact zs_callV f243_693 (Nat.le_of_ble_eq_true rfl) (Nat.le_of_ble_eq_true rfl) rfl g4 g5 me_223 (by decide) rfl
theorem b243_696 {h : zi_Hp} {a1 : Nat} {a2 : Nat} {x3 : Int32} {w0 : Int64}  : zv 18 243 696 [.retAddr 0, .ref a1, .ref a2, .int x3] [.long w0] h = zv 18 243 957 [.retAddr 0, .ref a1, .ref a2, .int x3] [] h := by
  refine Eq.trans (zv_next f243_696 rfl) ?_
  refine Eq.trans (zs_goto (tgt := 957) f243_697 rfl) ?_
  rfl
theorem b243_700 {h : zi_Hp} {a1 : Nat} {a2 : Nat} {x3 : Int32} (g0 : a1 < zh_n h) (g1 : (zh_k h a1).1 = 7) : zv 18 243 700 [.retAddr 0, .ref a1, .ref a2, .int x3] [] h = (zv 6 123 0 [.ref a1, .double 0] [] h).bind fun r => zv 18 243 704 [.retAddr 0, .ref a1, .ref a2, .int x3] (r.1.toList ++ []) r.2 := by
  refine Eq.trans (zv_next f243_700 rfl) ?_
  exact zs_callV f243_701 (Nat.le_of_ble_eq_true rfl) (Nat.le_of_ble_eq_true rfl) rfl g0 g1 me_123 (by decide) rfl
theorem b243_704 {h : zi_Hp} {a1 : Nat} {a2 : Nat} {x3 : Int32} {s0 : Int32} (g0 : a2 < zh_n h) (g1 : (zh_k h a2).1 = 8) : zv 18 243 704 [.retAddr 0, .ref a1, .ref a2, .int x3] [.int s0] h = (zv 5 230 0 [.ref a2] [] h).bind fun r => zv 18 243 709 [.retAddr 0, .ref a1, .ref a2, .int x3] (r.1.toList ++ []) r.2 := by
  refine Eq.trans (zv_next f243_704 rfl) ?_
  refine Eq.trans (zv_next f243_705 rfl) ?_
  exact zs_callV f243_706 (Nat.le_of_ble_eq_true rfl) (Nat.le_of_ble_eq_true rfl) rfl g0 g1 me_230 (by decide) rfl
theorem b243_709 {h : zi_Hp} {a1 : Nat} {a2 : Nat} {x3 : Int32} {s0 : Int32}  : zv 18 243 709 [.retAddr 0, .ref a1, .ref a2, .int x3] [.int s0] h = zv 18 243 957 [.retAddr 0, .ref a1, .ref a2, .int x3] [] h := by
  refine Eq.trans (zv_next f243_709 rfl) ?_
  refine Eq.trans (zs_goto (tgt := 957) f243_710 rfl) ?_
  rfl
theorem b243_713 {h : zi_Hp} {a1 : Nat} {a2 : Nat} {x3 : Int32} (g0 : ¬ ((x3 + 1) < 0 ∨ zh_L h ≤ (x3 + 1).toNatClampNeg)) (g1 : a1 < zh_n h) (g2 : (zh_k h a1).1 = 7) : zv 18 243 713 [.retAddr 0, .ref a1, .ref a2, .int x3] [] h = (zv 4 124 0 [.ref a1, .int (zh_x h (x3 + 1).toNatClampNeg)] [] h).bind fun r => zv 18 243 722 [.retAddr 0, .ref a1, .ref a2, .int x3] (r.1.toList ++ []) r.2 := by
  refine Eq.trans (zv_next f243_713 rfl) ?_
  refine Eq.trans (zv_next f243_714 rfl) ?_
  refine Eq.trans (zv_next f243_715 rfl) ?_
  refine Eq.trans (zs_ic f243_716 ic_1) ?_
  refine Eq.trans (zv_next f243_717 rfl) ?_
  refine Eq.trans (zs_sald f243_718 g0) ?_
  exact zs_callV f243_719 (Nat.le_of_ble_eq_true rfl) (Nat.le_of_ble_eq_true rfl) rfl g1 g2 me_124 (by decide) rfl
theorem b243_722 {h : zi_Hp} {a1 : Nat} {a2 : Nat} {x3 : Int32} {s0 : Int32} (g0 : ¬ ((x3 + 1) < 0 ∨ zh_L h ≤ (x3 + 1).toNatClampNeg)) (g1 : a2 < zh_n h) (g2 : (zh_k h a2).1 = 8) : zv 18 243 722 [.retAddr 0, .ref a1, .ref a2, .int x3] [.int s0] h = (zv 2 231 0 [.ref a2, .int (zh_x h (x3 + 1).toNatClampNeg), .double 0, .double 0] [] h).bind fun r => zv 18 243 732 [.retAddr 0, .ref a1, .ref a2, .int x3] (r.1.toList ++ []) r.2 := by
  refine Eq.trans (zv_next f243_722 rfl) ?_
  refine Eq.trans (zv_next f243_723 rfl) ?_
  refine Eq.trans (zv_next f243_724 rfl) ?_
  refine Eq.trans (zv_next f243_725 rfl) ?_
  refine Eq.trans (zs_ic f243_726 ic_1) ?_
  refine Eq.trans (zv_next f243_727 rfl) ?_
  refine Eq.trans (zs_sald f243_728 g0) ?_
  exact zs_callV f243_729 (Nat.le_of_ble_eq_true rfl) (Nat.le_of_ble_eq_true rfl) rfl g1 g2 me_231 (by decide) rfl
theorem b243_732 {h : zi_Hp} {a1 : Nat} {a2 : Nat} {x3 : Int32} {s0 : Int32}  : zv 18 243 732 [.retAddr 0, .ref a1, .ref a2, .int x3] [.int s0] h = zv 18 243 957 [.retAddr 0, .ref a1, .ref a2, .int x3] [] h := by
  refine Eq.trans (zv_next f243_732 rfl) ?_
  refine Eq.trans (zs_goto (tgt := 957) f243_733 rfl) ?_
  rfl
theorem b243_736 {h : zi_Hp} {a1 : Nat} {a2 : Nat} {x3 : Int32} (g0 : ¬ ((x3 + 1) < 0 ∨ zh_L h ≤ (x3 + 1).toNatClampNeg)) (g1 : a1 < zh_n h) (g2 : (zh_k h a1).1 = 7) : zv 18 243 736 [.retAddr 0, .ref a1, .ref a2, .int x3] [] h = (zv 3 125 0 [.ref a1, .int (zh_x h (x3 + 1).toNatClampNeg), .double 0] [] h).bind fun r => zv 18 243 745 [.retAddr 0, .ref a1, .ref a2, .int x3] (r.1.toList ++ []) r.2 := by
  refine Eq.trans (zv_next f243_736 rfl) ?_
  refine Eq.trans (zv_next f243_737 rfl) ?_
  refine Eq.trans (zv_next f243_738 rfl) ?_
  refine Eq.trans (zs_ic f243_739 ic_1) ?_
  refine Eq.trans (zv_next f243_740 rfl) ?_
  refine Eq.trans (zs_sald f243_741 g0) ?_
  exact zs_callV f243_742 (Nat.le_of_ble_eq_true rfl) (Nat.le_of_ble_eq_true rfl) rfl g1 g2 me_125 (by decide) rfl
theorem b243_745 {h : zi_Hp} {a1 : Nat} {a2 : Nat} {x3 : Int32} {s0 : Int32} (g0 : ¬ ((x3 + 1) < 0 ∨ zh_L h ≤ (x3 + 1).toNatClampNeg)) (g1 : a2 < zh_n h) (g2 : (zh_k h a2).1 = 8) : zv 18 243 745 [.retAddr 0, .ref a1, .ref a2, .int x3] [.int s0] h = (zv 2 232 0 [.ref a2, .int (zh_x h (x3 + 1).toNatClampNeg), .double 0, .double 0] [] h).bind fun r => zv 18 243 755 [.retAddr 0, .ref a1, .ref a2, .int x3] (r.1.toList ++ []) r.2 := by
  refine Eq.trans (zv_next f243_745 rfl) ?_
  refine Eq.trans (zv_next f243_746 rfl) ?_
  refine Eq.trans (zv_next f243_747 rfl) ?_
  refine Eq.trans (zv_next f243_748 rfl) ?_
  refine Eq.trans (zs_ic f243_749 ic_1) ?_
  refine Eq.trans (zv_next f243_750 rfl) ?_
  refine Eq.trans (zs_sald f243_751 g0) ?_
  exact zs_callV f243_752 (Nat.le_of_ble_eq_true rfl) (Nat.le_of_ble_eq_true rfl) rfl g1 g2 me_232 (by decide) rfl
theorem b243_755 {h : zi_Hp} {a1 : Nat} {a2 : Nat} {x3 : Int32} {s0 : Int32}  : zv 18 243 755 [.retAddr 0, .ref a1, .ref a2, .int x3] [.int s0] h = zv 18 243 957 [.retAddr 0, .ref a1, .ref a2, .int x3] [] h := by
  refine Eq.trans (zv_next f243_755 rfl) ?_
  refine Eq.trans (zs_goto (tgt := 957) f243_756 rfl) ?_
  rfl
theorem b243_759 {h : zi_Hp} {a1 : Nat} {a2 : Nat} {x3 : Int32} (g0 : ¬ ((x3 + 1) < 0 ∨ zh_L h ≤ (x3 + 1).toNatClampNeg)) (g1 : a1 < zh_n h) (g2 : (zh_k h a1).1 = 7) : zv 18 243 759 [.retAddr 0, .ref a1, .ref a2, .int x3] [] h = (zv 3 126 0 [.ref a1, .int (zh_x h (x3 + 1).toNatClampNeg)] [] h).bind fun r => zv 18 243 768 [.retAddr 0, .ref a1, .ref a2, .int x3] (r.1.toList ++ []) r.2 := by
  refine Eq.trans (zv_next f243_759 rfl) ?_
  refine Eq.trans (zv_next f243_760 rfl) ?_
  refine Eq.trans (zv_next f243_761 rfl) ?_
  refine Eq.trans (zs_ic f243_762 ic_1) ?_
  refine Eq.trans (zv_next f243_763 rfl) ?_
  refine Eq.trans (zs_sald f243_764 g0) ?_
  exact zs_callV f243_765 (Nat.le_of_ble_eq_true rfl) (Nat.le_of_ble_eq_true rfl) rfl g1 g2 me_126 (by decide) rfl
theorem b243_768 {h : zi_Hp} {a1 : Nat} {a2 : Nat} {x3 : Int32} {s0 : Int32} (g0 : ¬ ((x3 + 1) < 0 ∨ zh_L h ≤ (x3 + 1).toNatClampNeg)) (g1 : a2 < zh_n h) (g2 : (zh_k h a2).1 = 8) : zv 18 243 768 [.retAddr 0, .ref a1, .ref a2, .int x3] [.int s0] h = (zv 2 233 0 [.ref a2, .int (zh_x h (x3 + 1).toNatClampNeg), .double 0] [] h).bind fun r => zv 18 243 778 [.retAddr 0, .ref a1, .ref a2, .int x3] (r.1.toList ++ []) r.2 := by
  refine Eq.trans (zv_next f243_768 rfl) ?_
  refine Eq.trans (zv_next f243_769 rfl) ?_
  refine Eq.trans (zv_next f243_770 rfl) ?_
  refine Eq.trans (zv_next f243_771 rfl) ?_
  refine Eq.trans (zs_ic f243_772 ic_1) ?_
  refine Eq.trans (zv_next f243_773 rfl) ?_
  refine Eq.trans (zs_sald f243_774 g0) ?_
  exact zs_callV f243_775 (Nat.le_of_ble_eq_true rfl) (Nat.le_of_ble_eq_true rfl) rfl g1 g2 me_233 (by decide) rfl
theorem b243_778 {h : zi_Hp} {a1 : Nat} {a2 : Nat} {x3 : Int32} {s0 : Int32}  : zv 18 243 778 [.retAddr 0, .ref a1, .ref a2, .int x3] [.int s0] h = zv 18 243 957 [.retAddr 0, .ref a1, .ref a2, .int x3] [] h := by
  refine Eq.trans (zv_next f243_778 rfl) ?_
  refine Eq.trans (zs_goto (tgt := 957) f243_779 rfl) ?_
  rfl
theorem b243_782 {h : zi_Hp} {a1 : Nat} {a2 : Nat} {x3 : Int32} (g0 : ¬ ((x3 + 1) < 0 ∨ zh_L h ≤ (x3 + 1).toNatClampNeg)) (g1 : ¬ ((x3 + 2) < 0 ∨ zh_L h ≤ (x3 + 2).toNatClampNeg)) (g2 : ¬ ((x3 + 3) < 0 ∨ zh_L h ≤ (x3 + 3).toNatClampNeg)) (g3 : a1 < zh_n h) (g4 : (zh_k h a1).1 = 7) : zv 18 243 782 [.retAddr 0, .ref a1, .ref a2, .int x3] [] h = (zv 3 127 0 [.ref a1, .int (zh_x h (x3 + 1).toNatClampNeg), .int (zh_x h (x3 + 2).toNatClampNeg), .int (zh_x h (x3 + 3).toNatClampNeg)] [] h).bind fun r => zv 18 243 801 [.retAddr 0, .ref a1, .ref a2, .int x3] (r.1.toList ++ []) r.2 := by
  refine Eq.trans (zv_next f243_782 rfl) ?_
  refine Eq.trans (zv_next f243_783 rfl) ?_
  refine Eq.trans (zv_next f243_784 rfl) ?_
  refine Eq.trans (zs_ic f243_785 ic_1) ?_
  refine Eq.trans (zv_next f243_786 rfl) ?_
  refine Eq.trans (zs_sald f243_787 g0) ?_
  refine Eq.trans (zv_next f243_788 rfl) ?_
  refine Eq.trans (zv_next f243_789 rfl) ?_
  refine Eq.trans (zs_ic f243_790 ic_2) ?_
  refine Eq.trans (zv_next f243_791 rfl) ?_
  refine Eq.trans (zs_sald f243_792 g1) ?_
  refine Eq.trans (zv_next f243_793 rfl) ?_
  refine Eq.trans (zv_next f243_794 rfl) ?_
  refine Eq.trans (zs_ic f243_795 ic_3) ?_
  refine Eq.trans (zv_next f243_796 rfl) ?_
  refine Eq.trans (zs_sald f243_797 g2) ?_
  exact zs_callV f243_798 (Nat.le_of_ble_eq_true rfl) (Nat.le_of_ble_eq_true rfl) rfl g3 g4 me_127 (by decide) rfl
theorem b243_801 {h : zi_Hp} {a1 : Nat} {a2 : Nat} {x3 : Int32} {s0 : Int32} (g0 : ¬ ((x3 + 1) < 0 ∨ zh_L h ≤ (x3 + 1).toNatClampNeg)) (g1 : ¬ ((x3 + 2) < 0 ∨ zh_L h ≤ (x3 + 2).toNatClampNeg)) (g2 : ¬ ((x3 + 3) < 0 ∨ zh_L h ≤ (x3 + 3).toNatClampNeg)) (g3 : a2 < zh_n h) (g4 : (zh_k h a2).1 = 8) : zv 18 243 801 [.retAddr 0, .ref a1, .ref a2, .int x3] [.int s0] h = (zv 3 235 0 [.ref a2, .int (zh_x h (x3 + 1).toNatClampNeg), .int (zh_x h (x3 + 2).toNatClampNeg), .int (zh_x h (x3 + 3).toNatClampNeg), .double 0] [] h).bind fun r => zv 18 243 821 [.retAddr 0, .ref a1, .ref a2, .int x3] (r.1.toList ++ []) r.2 := by
  refine Eq.trans (zv_next f243_801 rfl) ?_
  refine Eq.trans (zv_next f243_802 rfl) ?_
  refine Eq.trans (zv_next f243_803 rfl) ?_
  refine Eq.trans (zv_next f243_804 rfl) ?_
  refine Eq.trans (zs_ic f243_805 ic_1) ?_
  refine Eq.trans (zv_next f243_806 rfl) ?_
  refine Eq.trans (zs_sald f243_807 g0) ?_
  refine Eq.trans (zv_next f243_808 rfl) ?_
  refine Eq.trans (zv_next f243_809 rfl) ?_
  refine Eq.trans (zs_ic f243_810 ic_2) ?_
  refine Eq.trans (zv_next f243_811 rfl) ?_
  refine Eq.trans (zs_sald f243_812 g1) ?_
  refine Eq.trans (zv_next f243_813 rfl) ?_
  refine Eq.trans (zv_next f243_814 rfl) ?_
  refine Eq.trans (zs_ic f243_815 ic_3) ?_
  refine Eq.trans (zv_next f243_816 rfl) ?_
  refine Eq.trans (zs_sald f243_817 g2) ?_
  exact zs_callV f243_818 (Nat.le_of_ble_eq_true rfl) (Nat.le_of_ble_eq_true rfl) rfl g3 g4 me_235 (by decide) rfl
theorem b243_821 {h : zi_Hp} {a1 : Nat} {a2 : Nat} {x3 : Int32} {s0 : Int32}  : zv 18 243 821 [.retAddr 0, .ref a1, .ref a2, .int x3] [.int s0] h = zv 18 243 957 [.retAddr 0, .ref a1, .ref a2, .int x3] [] h := by
  refine Eq.trans (zv_next f243_821 rfl) ?_
  refine Eq.trans (zs_goto (tgt := 957) f243_822 rfl) ?_
  rfl
theorem b243_825 {h : zi_Hp} {a1 : Nat} {a2 : Nat} {x3 : Int32} (g0 : ¬ ((x3 + 1) < 0 ∨ zh_L h ≤ (x3 + 1).toNatClampNeg)) (g1 : ¬ ((x3 + 2) < 0 ∨ zh_L h ≤ (x3 + 2).toNatClampNeg)) (g2 : ¬ ((x3 + 3) < 0 ∨ zh_L h ≤ (x3 + 3).toNatClampNeg)) (g3 : a1 < zh_n h) (g4 : (zh_k h a1).1 = 7) : zv 18 243 825 [.retAddr 0, .ref a1, .ref a2, .int x3] [] h = (zv 3 128 0 [.ref a1, .int (zh_x h (x3 + 1).toNatClampNeg), .int (zh_x h (x3 + 2).toNatClampNeg), .int (zh_x h (x3 + 3).toNatClampNeg), .double 0] [] h).bind fun r => zv 18 243 844 [.retAddr 0, .ref a1, .ref a2, .int x3] (r.1.toList ++ []) r.2 := by
  refine Eq.trans (zv_next f243_825 rfl) ?_
  refine Eq.trans (zv_next f243_826 rfl) ?_
  refine Eq.trans (zv_next f243_827 rfl) ?_
  refine Eq.trans (zs_ic f243_828 ic_1) ?_
  refine Eq.trans (zv_next f243_829 rfl) ?_
  refine Eq.trans (zs_sald f243_830 g0) ?_
  refine Eq.trans (zv_next f243_831 rfl) ?_
  refine Eq.trans (zv_next f243_832 rfl) ?_
  refine Eq.trans (zs_ic f243_833 ic_2) ?_
  refine Eq.trans (zv_next f243_834 rfl) ?_
  refine Eq.trans (zs_sald f243_835 g1) ?_
  refine Eq.trans (zv_next f243_836 rfl) ?_
  refine Eq.trans (zv_next f243_837 rfl) ?_
  refine Eq.trans (zs_ic f243_838 ic_3) ?_
  refine Eq.trans (zv_next f243_839 rfl) ?_
  refine Eq.trans (zs_sald f243_840 g2) ?_
  exact zs_callV f243_841 (Nat.le_of_ble_eq_true rfl) (Nat.le_of_ble_eq_true rfl) rfl g3 g4 me_128 (by decide) rfl
theorem b243_844 {h : zi_Hp} {a1 : Nat} {a2 : Nat} {x3 : Int32} {s0 : Int32} (g0 : ¬ ((x3 + 1) < 0 ∨ zh_L h ≤ (x3 + 1).toNatClampNeg)) (g1 : ¬ ((x3 + 2) < 0 ∨ zh_L h ≤ (x3 + 2).toNatClampNeg)) (g2 : ¬ ((x3 + 3) < 0 ∨ zh_L h ≤ (x3 + 3).toNatClampNeg)) (g3 : a2 < zh_n h) (g4 : (zh_k h a2).1 = 8) : zv 18 243 844 [.retAddr 0, .ref a1, .ref a2, .int x3] [.int s0] h = (zv 3 236 0 [.ref a2, .int (zh_x h (x3 + 1).toNatClampNeg), .int (zh_x h (x3 + 2).toNatClampNeg), .int (zh_x h (x3 + 3).toNatClampNeg)] [] h).bind fun r => zv 18 243 864 [.retAddr 0, .ref a1, .ref a2, .int x3] (r.1.toList ++ []) r.2 := by
  refine Eq.trans (zv_next f243_844 rfl) ?_
  refine Eq.trans (zv_next f243_845 rfl) ?_
  refine Eq.trans (zv_next f243_846 rfl) ?_
  refine Eq.trans (zv_next f243_847 rfl) ?_
  refine Eq.trans (zs_ic f243_848 ic_1) ?_
  refine Eq.trans (zv_next f243_849 rfl) ?_
  refine Eq.trans (zs_sald f243_850 g0) ?_
  refine Eq.trans (zv_next f243_851 rfl) ?_
  refine Eq.trans (zv_next f243_852 rfl) ?_
  refine Eq.trans (zs_ic f243_853 ic_2) ?_
  refine Eq.trans (zv_next f243_854 rfl) ?_
  refine Eq.trans (zs_sald f243_855 g1) ?_
  refine Eq.trans (zv_next f243_856 rfl) ?_
  refine Eq.trans (zv_next f243_857 rfl) ?_
  refine Eq.trans (zs_ic f243_858 ic_3) ?_
  refine Eq.trans (zv_next f243_859 rfl) ?_
  refine Eq.trans (zs_sald f243_860 g2) ?_
  exact zs_callV f243_861 (Nat.le_of_ble_eq_true rfl) (Nat.le_of_ble_eq_true rfl) rfl g3 g4 me_236 (by decide) rfl
theorem b243_864 {h : zi_Hp} {a1 : Nat} {a2 : Nat} {x3 : Int32} {s0 : Int32}  : zv 18 243 864 [.retAddr 0, .ref a1, .ref a2, .int x3] [.int s0] h = zv 18 243 957 [.retAddr 0, .ref a1, .ref a2, .int x3] [] h := by
  refine Eq.trans (zv_next f243_864 rfl) ?_
  refine Eq.trans (zs_goto (tgt := 957) f243_865 rfl) ?_
  rfl
theorem b243_868 {h : zi_Hp} {a1 : Nat} {a2 : Nat} {x3 : Int32} (g0 : ¬ ((x3 + 1) < 0 ∨ zh_L h ≤ (x3 + 1).toNatClampNeg)) (g1 : ¬ ((x3 + 2) < 0 ∨ zh_L h ≤ (x3 + 2).toNatClampNeg)) (g2 : ¬ ((x3 + 3) < 0 ∨ zh_L h ≤ (x3 + 3).toNatClampNeg)) (g3 : ¬ ((x3 + 4) < 0 ∨ zh_L h ≤ (x3 + 4).toNatClampNeg)) (g4 : a1 < zh_n h) (g5 : (zh_k h a1).1 = 7) : zv 18 243 868 [.retAddr 0, .ref a1, .ref a2, .int x3] [] h = (zv 8 129 0 [.ref a1, .int (zh_x h (x3 + 1).toNatClampNeg), .int (zh_x h (x3 + 2).toNatClampNeg), .int (zh_x h (x3 + 3).toNatClampNeg), .int (zh_x h (x3 + 4).toNatClampNeg), .double 0, .double 0] [] h).bind fun r => zv 18 243 892 [.retAddr 0, .ref a1, .ref a2, .int x3] (r.1.toList ++ []) r.2 := by
  refine Eq.trans (zv_next f243_868 rfl) ?_
  refine Eq.trans (zv_next f243_869 rfl) ?_
  refine Eq.trans (zv_next f243_870 rfl) ?_
  refine Eq.trans (zs_ic f243_871 ic_1) ?_
  refine Eq.trans (zv_next f243_872 rfl) ?_
  refine Eq.trans (zs_sald f243_873 g0) ?_
  refine Eq.trans (zv_next f243_874 rfl) ?_
  refine Eq.trans (zv_next f243_875 rfl) ?_
  refine Eq.trans (zs_ic f243_876 ic_2) ?_
  refine Eq.trans (zv_next f243_877 rfl) ?_
  refine Eq.trans (zs_sald f243_878 g1) ?_
  refine Eq.trans (zv_next f243_879 rfl) ?_
  refine Eq.trans (zv_next f243_880 rfl) ?_
  refine Eq.trans (zs_ic f243_881 ic_3) ?_
  refine Eq.trans (zv_next f243_882 rfl) ?_
  refine Eq.trans (zs_sald f243_883 g2) ?_
  refine Eq.trans (zv_next f243_884 rfl) ?_
  refine Eq.trans (zv_next f243_885 rfl) ?_
  refine Eq.trans (zs_ic f243_886 ic_4) ?_
  refine Eq.trans (zv_next f243_887 rfl) ?_
  refine Eq.trans (zs_sald f243_888 g3) ?_
  exact zs_callV f243_889 (Nat.le_of_ble_eq_true rfl) (Nat.le_of_ble_eq_true rfl) rfl g4 g5 me_129 (by decide) rfl
theorem b243_892 {h : zi_Hp} {a1 : Nat} {a2 : Nat} {x3 : Int32} {s0 : Int32} (g0 : ¬ ((x3 + 1) < 0 ∨ zh_L h ≤ (x3 + 1).toNatClampNeg)) (g1 : ¬ ((x3 + 2) < 0 ∨ zh_L h ≤ (x3 + 2).toNatClampNeg)) (g2 : ¬ ((x3 + 3) < 0 ∨ zh_L h ≤ (x3 + 3).toNatClampNeg)) (g3 : ¬ ((x3 + 4) < 0 ∨ zh_L h ≤ (x3 + 4).toNatClampNeg)) (g4 : a2 < zh_n h) (g5 : (zh_k h a2).1 = 8) : zv 18 243 892 [.retAddr 0, .ref a1, .ref a2, .int x3] [.int s0] h = (zv 8 237 0 [.ref a2, .int (zh_x h (x3 + 1).toNatClampNeg), .int (zh_x h (x3 + 2).toNatClampNeg), .int (zh_x h (x3 + 3).toNatClampNeg), .int (zh_x h (x3 + 4).toNatClampNeg), .double 0, .double 0, .double 0, .double 0, .double 0, .double 0] [] h).bind fun r => zv 18 243 917 [.retAddr 0, .ref a1, .ref a2, .int x3] (r.1.toList ++ []) r.2 := by
  refine Eq.trans (zv_next f243_892 rfl) ?_
  refine Eq.trans (zv_next f243_893 rfl) ?_
  refine Eq.trans (zv_next f243_894 rfl) ?_
  refine Eq.trans (zv_next f243_895 rfl) ?_
  refine Eq.trans (zs_ic f243_896 ic_1) ?_
  refine Eq.trans (zv_next f243_897 rfl) ?_
  refine Eq.trans (zs_sald f243_898 g0) ?_
  refine Eq.trans (zv_next f243_899 rfl) ?_
  refine Eq.trans (zv_next f243_900 rfl) ?_
  refine Eq.trans (zs_ic f243_901 ic_2) ?_
  refine Eq.trans (zv_next f243_902 rfl) ?_
  refine Eq.trans (zs_sald f243_903 g1) ?_
  refine Eq.trans (zv_next f243_904 rfl) ?_
  refine Eq.trans (zv_next f243_905 rfl) ?_
  refine Eq.trans (zs_ic f243_906 ic_3) ?_
  refine Eq.trans (zv_next f243_907 rfl) ?_
  refine Eq.trans (zs_sald f243_908 g2) ?_
  refine Eq.trans (zv_next f243_909 rfl) ?_
  refine Eq.trans (zv_next f243_910 rfl) ?_
  refine Eq.trans (zs_ic f243_911 ic_4) ?_
  refine Eq.trans (zv_next f243_912 rfl) ?_
  refine Eq.trans (zs_sald f243_913 g3) ?_
  exact zs_callV f243_914 (Nat.le_of_ble_eq_true rfl) (Nat.le_of_ble_eq_true rfl) rfl g4 g5 me_237 (by decide) rfl
theorem b243_917 {h : zi_Hp} {a1 : Nat} {a2 : Nat} {x3 : Int32} {s0 : Int32}  : zv 18 243 917 [.retAddr 0, .ref a1, .ref a2, .int x3] [.int s0] h = zv 18 243 957 [.retAddr 0, .ref a1, .ref a2, .int x3] [] h := by
  refine Eq.trans (zv_next f243_917 rfl) ?_
  refine Eq.trans (zs_goto (tgt := 957) f243_918 rfl) ?_
  rfl
theorem b243_921 {h : zi_Hp} {a1 : Nat} {a2 : Nat} {x3 : Int32} (g0 : a1 < zh_n h) (g1 : (zh_k h a1).1 = 7) : zv 18 243 921 [.retAddr 0, .ref a1, .ref a2, .int x3] [] h = (zv 1 130 0 [.ref a1] [] h).bind fun r => zv 18 243 925 [.retAddr 0, .ref a1, .ref a2, .int x3] (r.1.toList ++ []) r.2 := by
  refine Eq.trans (zv_next f243_921 rfl) ?_
  exact zs_callV f243_922 (Nat.le_of_ble_eq_true rfl) (Nat.le_of_ble_eq_true rfl) rfl g0 g1 me_130 (by decide) rfl
theorem b243_925 {h : zi_Hp} {a1 : Nat} {a2 : Nat} {x3 : Int32} {s0 : Int32} (g0 : a2 < zh_n h) (g1 : (zh_k h a2).1 = 8) : zv 18 243 925 [.retAddr 0, .ref a1, .ref a2, .int x3] [.int s0] h = (zv 1 238 0 [.ref a2] [] h).bind fun r => zv 18 243 930 [.retAddr 0, .ref a1, .ref a2, .int x3] (r.1.toList ++ []) r.2 := by
  refine Eq.trans (zv_next f243_925 rfl) ?_
  refine Eq.trans (zv_next f243_926 rfl) ?_
  exact zs_callV f243_927 (Nat.le_of_ble_eq_true rfl) (Nat.le_of_ble_eq_true rfl) rfl g0 g1 me_238 (by decide) rfl
theorem b243_930 {h : zi_Hp} {a1 : Nat} {a2 : Nat} {x3 : Int32} {s0 : Int32}  : zv 18 243 930 [.retAddr 0, .ref a1, .ref a2, .int x3] [.int s0] h = zv 18 243 957 [.retAddr 0, .ref a1, .ref a2, .int x3] [] h := by
  refine Eq.trans (zv_next f243_930 rfl) ?_
  refine Eq.trans (zs_goto (tgt := 957) f243_931 rfl) ?_
  rfl
theorem b243_934 {h : zi_Hp} {a1 : Nat} {a2 : Nat} {x3 : Int32} (g0 : ¬ ((x3 + 1) < 0 ∨ zh_L h ≤ (x3 + 1).toNatClampNeg)) (g1 : a1 < zh_n h) (g2 : (zh_k h a1).1 = 7) : zv 18 243 934 [.retAddr 0, .ref a1, .ref a2, .int x3] [] h = (zv 4 131 0 [.ref a1, .int (zh_x h (x3 + 1).toNatClampNeg)] [] h).bind fun r => zv 18 243 943 [.retAddr 0, .ref a1, .ref a2, .int x3] (r.1.toList ++ []) r.2 := by
  refine Eq.trans (zv_next f243_934 rfl) ?_
  refine Eq.trans (zv_next f243_935 rfl) ?_
  refine Eq.trans (zv_next f243_936 rfl) ?_
  refine Eq.trans (zs_ic f243_937 ic_1) ?_
  refine Eq.trans (zv_next f243_938 rfl) ?_
  refine Eq.trans (zs_sald f243_939 g0) ?_
  exact zs_callV f243_940 (Nat.le_of_ble_eq_true rfl) (Nat.le_of_ble_eq_true rfl) rfl g1 g2 me_131 (by decide) rfl
theorem b243_943 {h : zi_Hp} {a1 : Nat} {a2 : Nat} {x3 : Int32} {s0 : Int32} (g0 : ¬ ((x3 + 1) < 0 ∨ zh_L h ≤ (x3 + 1).toNatClampNeg)) (g1 : a2 < zh_n h) (g2 : (zh_k h a2).1 = 8) : zv 18 243 943 [.retAddr 0, .ref a1, .ref a2, .int x3] [.int s0] h = (zv 3 240 0 [.ref a2, .int (zh_x h (x3 + 1).toNatClampNeg)] [] h).bind fun r => zv 18 243 953 [.retAddr 0, .ref a1, .ref a2, .int x3] (r.1.toList ++ []) r.2 := by
  refine Eq.trans (zv_next f243_943 rfl) ?_
  refine Eq.trans (zv_next f243_944 rfl) ?_
  refine Eq.trans (zv_next f243_945 rfl) ?_
  refine Eq.trans (zv_next f243_946 rfl) ?_
  refine Eq.trans (zs_ic f243_947 ic_1) ?_
  refine Eq.trans (zv_next f243_948 rfl) ?_
  refine Eq.trans (zs_sald f243_949 g0) ?_
  exact zs_callV f243_950 (Nat.le_of_ble_eq_true rfl) (Nat.le_of_ble_eq_true rfl) rfl g1 g2 me_240 (by decide) rfl
theorem b243_953 {h : zi_Hp} {a1 : Nat} {a2 : Nat} {x3 : Int32} {s0 : Int32}  : zv 18 243 953 [.retAddr 0, .ref a1, .ref a2, .int x3] [.int s0] h = zv 18 243 957 [.retAddr 0, .ref a1, .ref a2, .int x3] [] h := by
  refine Eq.trans (zv_next f243_953 rfl) ?_
  refine Eq.trans (zs_goto (tgt := 957) f243_954 rfl) ?_
  rfl
theorem b243_957 {h : zi_Hp} {a1 : Nat} {a2 : Nat} {x3 : Int32}  : zv 18 243 957 [.retAddr 0, .ref a1, .ref a2, .int x3] [] h = zv 18 243 18 [.retAddr 0, .ref a1, .ref a2, .int (x3 + 5)] [] h := by
  refine Eq.trans (zs_inc f243_957 rfl ic_5 rfl) ?_
  refine Eq.trans (zs_goto (tgt := 18) f243_960 rfl) ?_
  rfl
theorem b243_963 {h : zi_Hp} {a1 : Nat} {a2 : Nat} {x3 : Int32}  : zv 18 243 963 [.retAddr 0, .ref a1, .ref a2, .int x3] [] h = some (some (.int 1), h) := by
  refine Eq.trans (zs_ic f243_963 ic_1) ?_
  exact zs_ret1 f243_964 (by decide)
