/-! THE CLASS: a World at an address, its memory -/
/-- the addresses of the worlds -/
def Wa (W : Nat) : Prop := W = 1 ∨ W = 17 ∨ W = 34 ∨ W = 50 ∨ W = 69 ∨ W = 85 ∨ W = 101 ∨ W = 117 ∨ W = 133 ∨ W = 149 ∨ W = 165 ∨ W = 181
/-- its cells: ints x, booleans y, by the distance from its address -/
def zC (h : zi_Hp) (W : Nat) (x : Nat → Nat → Int32) (y : Nat → Nat → Bool) : zi_Hp := (zh_n h, zh_s h, zh_k h, fun a j => if W ≤ a ∧ a < W + 16 then x (a - W) j else zh_i h a j, fun a j => if W ≤ a ∧ a < W + 16 then y (a - W) j else zh_b h a j, zh_l h, zh_r h, zh_L h, zh_x h)
/-- another number -/
def u2 {α : Type} (x : Nat → Nat → α) (o k : Nat) (v : α) : Nat → Nat → α := fun a j => if a = o ∧ j = k then v else x a j
section R30A
variable {h : zi_Hp} {W : Nat} {x : Nat → Nat → Int32} {y : Nat → Nat → Bool}
theorem u2_s {α : Type} (x : Nat → Nat → α) (o k : Nat) (v : α) : u2 x o k v o k = v := if_pos ⟨rfl, rfl⟩
theorem u2_n {α : Type} (x : Nat → Nat → α) {o k a j : Nat} (v : α) (hj : a ≠ o ∨ j ≠ k) : u2 x o k v a j = x a j := if_neg (fun q => by rcases hj with e | e; exact e q.1; exact e q.2)
theorem zC_n : zh_n (zC h W x y) = zh_n h := Eq.trans rfl rfl
theorem zC_k (a : Nat) : zh_k (zC h W x y) a = zh_k h a := Eq.trans rfl rfl
theorem zC_r (a j : Nat) : zh_r (zC h W x y) a j = zh_r h a j := Eq.trans rfl rfl
theorem zC_S (S : Sh h) : Sh (zC h W x y) := S
theorem zC_i {o : Nat} (ho : o < 16) (j : Nat) : zh_i (zC h W x y) (W + o) j = x o j := by
  show (if W ≤ W + o ∧ W + o < W + 16 then x (W + o - W) j else zh_i h (W + o) j) = _
  rw [if_pos ⟨by omega, by omega⟩, Nat.add_sub_cancel_left]
theorem zC_b {o : Nat} (ho : o < 16) (j : Nat) : zh_b (zC h W x y) (W + o) j = y o j := by
  show (if W ≤ W + o ∧ W + o < W + 16 then y (W + o - W) j else zh_b h (W + o) j) = _
  rw [if_pos ⟨by omega, by omega⟩, Nat.add_sub_cancel_left]
theorem zC_io {a : Nat} (j : Nat) (ha : a < W ∨ W + 16 ≤ a) : zh_i (zC h W x y) a j = zh_i h a j := by
  show (if W ≤ a ∧ a < W + 16 then x (a - W) j else zh_i h a j) = _
  rw [if_neg (by omega)]
theorem zC_bo {a : Nat} (j : Nat) (ha : a < W ∨ W + 16 ≤ a) : zh_b (zC h W x y) a j = zh_b h a j := by
  show (if W ≤ a ∧ a < W + 16 then y (a - W) j else zh_b h a j) = _
  rw [if_neg (by omega)]
theorem zC_id : zC h W (fun o j => zh_i h (W + o) j) (fun o j => zh_b h (W + o) j) = h := by
  refine zh_ext rfl rfl (fun _ => rfl) (fun a j => ?_) (fun a j => ?_) (fun _ _ => rfl) (fun _ _ => rfl) rfl rfl
  · show (if W ≤ a ∧ a < W + 16 then zh_i h (W + (a - W)) j else zh_i h a j) = zh_i h a j
    by_cases e : W ≤ a ∧ a < W + 16
    · rw [if_pos e, show W + (a - W) = a by omega]
    · rw [if_neg e]
  · show (if W ≤ a ∧ a < W + 16 then zh_b h (W + (a - W)) j else zh_b h a j) = zh_b h a j
    by_cases e : W ≤ a ∧ a < W + 16
    · rw [if_pos e, show W + (a - W) = a by omega]
    · rw [if_neg e]
theorem zC_wi {o : Nat} (ho : o < 16) (k : Nat) (v : Int32) : zh_wi (zC h W x y) (W + o) k v = zC h W (u2 x o k v) y := by
  refine zh_ext rfl rfl (fun _ => rfl) (fun a j => ?_) (fun a j => rfl) (fun _ _ => rfl) (fun _ _ => rfl) rfl rfl
  rw [hp_i_wi]
  show (if a = W + o ∧ j = k then v else if W ≤ a ∧ a < W + 16 then x (a - W) j else zh_i h a j) = if W ≤ a ∧ a < W + 16 then (if a - W = o ∧ j = k then v else x (a - W) j) else zh_i h a j
  by_cases e : W ≤ a ∧ a < W + 16
  · rw [if_pos e, if_pos e]
    by_cases e2 : a - W = o ∧ j = k
    · rw [if_pos e2, if_pos ⟨by omega, e2.2⟩]
    · rw [if_neg e2, if_neg (fun q => e2 ⟨by omega, q.2⟩)]
  · rw [if_neg e, if_neg e, if_neg (fun q => e (by omega))]
theorem zC_wb {o : Nat} (ho : o < 16) (k : Nat) (v : Bool) : zh_wb (zC h W x y) (W + o) k v = zC h W x (u2 y o k v) := by
  refine zh_ext rfl rfl (fun _ => rfl) (fun a j => rfl) (fun a j => ?_) (fun _ _ => rfl) (fun _ _ => rfl) rfl rfl
  rw [hp_b_wb]
  show (if a = W + o ∧ j = k then v else if W ≤ a ∧ a < W + 16 then y (a - W) j else zh_b h a j) = if W ≤ a ∧ a < W + 16 then (if a - W = o ∧ j = k then v else y (a - W) j) else zh_b h a j
  by_cases e : W ≤ a ∧ a < W + 16
  · rw [if_pos e, if_pos e]
    by_cases e2 : a - W = o ∧ j = k
    · rw [if_pos e2, if_pos ⟨by omega, e2.2⟩]
    · rw [if_neg e2, if_neg (fun q => e2 ⟨by omega, q.2⟩)]
  · rw [if_neg e, if_neg e, if_neg (fun q => e (by omega))]
theorem Wa.lt (V : Wa W) : W + 16 ≤ 211 := by unfold Wa at V; omega
theorem wk_0 (S : Sh h) (V : Wa W) : zh_k h W = (6, 2) := by
  rw [S.k]
  rcases V with rfl | rfl | rfl | rfl | rfl | rfl | rfl | rfl | rfl | rfl | rfl | rfl
  · exact kx_1
  · exact kx_17
  · exact kx_34
  · exact kx_50
  · exact kx_69
  · exact kx_85
  · exact kx_101
  · exact kx_117
  · exact kx_133
  · exact kx_149
  · exact kx_165
  · exact kx_181
theorem wk_1 (S : Sh h) (V : Wa W) : zh_k h (W + 1) = (4, 10) := by
  rw [S.k]
  rcases V with rfl | rfl | rfl | rfl | rfl | rfl | rfl | rfl | rfl | rfl | rfl | rfl
  · exact kx_2
  · exact kx_18
  · exact kx_35
  · exact kx_51
  · exact kx_70
  · exact kx_86
  · exact kx_102
  · exact kx_118
  · exact kx_134
  · exact kx_150
  · exact kx_166
  · exact kx_182
theorem wk_2 (S : Sh h) (V : Wa W) : zh_k h (W + 2) = (100, 24) := by
  rw [S.k]
  rcases V with rfl | rfl | rfl | rfl | rfl | rfl | rfl | rfl | rfl | rfl | rfl | rfl
  · exact kx_3
  · exact kx_19
  · exact kx_36
  · exact kx_52
  · exact kx_71
  · exact kx_87
  · exact kx_103
  · exact kx_119
  · exact kx_135
  · exact kx_151
  · exact kx_167
  · exact kx_183
theorem wk_3 (S : Sh h) (V : Wa W) : zh_k h (W + 3) = (100, 24) := by
  rw [S.k]
  rcases V with rfl | rfl | rfl | rfl | rfl | rfl | rfl | rfl | rfl | rfl | rfl | rfl
  · exact kx_4
  · exact kx_20
  · exact kx_37
  · exact kx_53
  · exact kx_72
  · exact kx_88
  · exact kx_104
  · exact kx_120
  · exact kx_136
  · exact kx_152
  · exact kx_168
  · exact kx_184
theorem wk_4 (S : Sh h) (V : Wa W) : zh_k h (W + 4) = (100, 24) := by
  rw [S.k]
  rcases V with rfl | rfl | rfl | rfl | rfl | rfl | rfl | rfl | rfl | rfl | rfl | rfl
  · exact kx_5
  · exact kx_21
  · exact kx_38
  · exact kx_54
  · exact kx_73
  · exact kx_89
  · exact kx_105
  · exact kx_121
  · exact kx_137
  · exact kx_153
  · exact kx_169
  · exact kx_185
theorem wk_5 (S : Sh h) (V : Wa W) : zh_k h (W + 5) = (100, 24) := by
  rw [S.k]
  rcases V with rfl | rfl | rfl | rfl | rfl | rfl | rfl | rfl | rfl | rfl | rfl | rfl
  · exact kx_6
  · exact kx_22
  · exact kx_39
  · exact kx_55
  · exact kx_74
  · exact kx_90
  · exact kx_106
  · exact kx_122
  · exact kx_138
  · exact kx_154
  · exact kx_170
  · exact kx_186
theorem wk_6 (S : Sh h) (V : Wa W) : zh_k h (W + 6) = (101, 24) := by
  rw [S.k]
  rcases V with rfl | rfl | rfl | rfl | rfl | rfl | rfl | rfl | rfl | rfl | rfl | rfl
  · exact kx_7
  · exact kx_23
  · exact kx_40
  · exact kx_56
  · exact kx_75
  · exact kx_91
  · exact kx_107
  · exact kx_123
  · exact kx_139
  · exact kx_155
  · exact kx_171
  · exact kx_187
theorem wk_7 (S : Sh h) (V : Wa W) : zh_k h (W + 7) = (100, 120) := by
  rw [S.k]
  rcases V with rfl | rfl | rfl | rfl | rfl | rfl | rfl | rfl | rfl | rfl | rfl | rfl
  · exact kx_8
  · exact kx_24
  · exact kx_41
  · exact kx_57
  · exact kx_76
  · exact kx_92
  · exact kx_108
  · exact kx_124
  · exact kx_140
  · exact kx_156
  · exact kx_172
  · exact kx_188
theorem wk_8 (S : Sh h) (V : Wa W) : zh_k h (W + 8) = (100, 120) := by
  rw [S.k]
  rcases V with rfl | rfl | rfl | rfl | rfl | rfl | rfl | rfl | rfl | rfl | rfl | rfl
  · exact kx_9
  · exact kx_25
  · exact kx_42
  · exact kx_58
  · exact kx_77
  · exact kx_93
  · exact kx_109
  · exact kx_125
  · exact kx_141
  · exact kx_157
  · exact kx_173
  · exact kx_189
theorem wk_9 (S : Sh h) (V : Wa W) : zh_k h (W + 9) = (104, 3) := by
  rw [S.k]
  rcases V with rfl | rfl | rfl | rfl | rfl | rfl | rfl | rfl | rfl | rfl | rfl | rfl
  · exact kx_10
  · exact kx_26
  · exact kx_43
  · exact kx_59
  · exact kx_78
  · exact kx_94
  · exact kx_110
  · exact kx_126
  · exact kx_142
  · exact kx_158
  · exact kx_174
  · exact kx_190
theorem wk_10 (S : Sh h) (V : Wa W) : zh_k h (W + 10) = (0, 13) := by
  rw [S.k]
  rcases V with rfl | rfl | rfl | rfl | rfl | rfl | rfl | rfl | rfl | rfl | rfl | rfl
  · exact kx_11
  · exact kx_27
  · exact kx_44
  · exact kx_60
  · exact kx_79
  · exact kx_95
  · exact kx_111
  · exact kx_127
  · exact kx_143
  · exact kx_159
  · exact kx_175
  · exact kx_191
theorem wk_11 (S : Sh h) (V : Wa W) : zh_k h (W + 11) = (100, 24) := by
  rw [S.k]
  rcases V with rfl | rfl | rfl | rfl | rfl | rfl | rfl | rfl | rfl | rfl | rfl | rfl
  · exact kx_12
  · exact kx_28
  · exact kx_45
  · exact kx_61
  · exact kx_80
  · exact kx_96
  · exact kx_112
  · exact kx_128
  · exact kx_144
  · exact kx_160
  · exact kx_176
  · exact kx_192
theorem wk_12 (S : Sh h) (V : Wa W) : zh_k h (W + 12) = (0, 13) := by
  rw [S.k]
  rcases V with rfl | rfl | rfl | rfl | rfl | rfl | rfl | rfl | rfl | rfl | rfl | rfl
  · exact kx_13
  · exact kx_29
  · exact kx_46
  · exact kx_62
  · exact kx_81
  · exact kx_97
  · exact kx_113
  · exact kx_129
  · exact kx_145
  · exact kx_161
  · exact kx_177
  · exact kx_193
theorem wk_13 (S : Sh h) (V : Wa W) : zh_k h (W + 13) = (100, 24) := by
  rw [S.k]
  rcases V with rfl | rfl | rfl | rfl | rfl | rfl | rfl | rfl | rfl | rfl | rfl | rfl
  · exact kx_14
  · exact kx_30
  · exact kx_47
  · exact kx_63
  · exact kx_82
  · exact kx_98
  · exact kx_114
  · exact kx_130
  · exact kx_146
  · exact kx_162
  · exact kx_178
  · exact kx_194
theorem wk_14 (S : Sh h) (V : Wa W) : zh_k h (W + 14) = (0, 13) := by
  rw [S.k]
  rcases V with rfl | rfl | rfl | rfl | rfl | rfl | rfl | rfl | rfl | rfl | rfl | rfl
  · exact kx_15
  · exact kx_31
  · exact kx_48
  · exact kx_64
  · exact kx_83
  · exact kx_99
  · exact kx_115
  · exact kx_131
  · exact kx_147
  · exact kx_163
  · exact kx_179
  · exact kx_195
theorem wk_15 (S : Sh h) (V : Wa W) : zh_k h (W + 15) = (100, 24) := by
  rw [S.k]
  rcases V with rfl | rfl | rfl | rfl | rfl | rfl | rfl | rfl | rfl | rfl | rfl | rfl
  · exact kx_16
  · exact kx_32
  · exact kx_49
  · exact kx_65
  · exact kx_84
  · exact kx_100
  · exact kx_116
  · exact kx_132
  · exact kx_148
  · exact kx_164
  · exact kx_180
  · exact kx_196
theorem wr_0_0 (S : Sh h) (V : Wa W) : zh_r h W 0 = .ref (W + 1) := by
  rw [S.r]
  rcases V with rfl | rfl | rfl | rfl | rfl | rfl | rfl | rfl | rfl | rfl | rfl | rfl
  · exact rx_1_0
  · exact rx_17_0
  · exact rx_34_0
  · exact rx_50_0
  · exact rx_69_0
  · exact rx_85_0
  · exact rx_101_0
  · exact rx_117_0
  · exact rx_133_0
  · exact rx_149_0
  · exact rx_165_0
  · exact rx_181_0
theorem wr_0_1 (S : Sh h) (V : Wa W) : zh_r h W 1 = .ref (W + 9) := by
  rw [S.r]
  rcases V with rfl | rfl | rfl | rfl | rfl | rfl | rfl | rfl | rfl | rfl | rfl | rfl
  · exact rx_1_1
  · exact rx_17_1
  · exact rx_34_1
  · exact rx_50_1
  · exact rx_69_1
  · exact rx_85_1
  · exact rx_101_1
  · exact rx_117_1
  · exact rx_133_1
  · exact rx_149_1
  · exact rx_165_1
  · exact rx_181_1
theorem wr_1_3 (S : Sh h) (V : Wa W) : zh_r h (W + 1) 3 = .ref (W + 2) := by
  rw [S.r]
  rcases V with rfl | rfl | rfl | rfl | rfl | rfl | rfl | rfl | rfl | rfl | rfl | rfl
  · exact rx_2_3
  · exact rx_18_3
  · exact rx_35_3
  · exact rx_51_3
  · exact rx_70_3
  · exact rx_86_3
  · exact rx_102_3
  · exact rx_118_3
  · exact rx_134_3
  · exact rx_150_3
  · exact rx_166_3
  · exact rx_182_3
theorem wr_1_4 (S : Sh h) (V : Wa W) : zh_r h (W + 1) 4 = .ref (W + 3) := by
  rw [S.r]
  rcases V with rfl | rfl | rfl | rfl | rfl | rfl | rfl | rfl | rfl | rfl | rfl | rfl
  · exact rx_2_4
  · exact rx_18_4
  · exact rx_35_4
  · exact rx_51_4
  · exact rx_70_4
  · exact rx_86_4
  · exact rx_102_4
  · exact rx_118_4
  · exact rx_134_4
  · exact rx_150_4
  · exact rx_166_4
  · exact rx_182_4
theorem wr_1_5 (S : Sh h) (V : Wa W) : zh_r h (W + 1) 5 = .ref (W + 4) := by
  rw [S.r]
  rcases V with rfl | rfl | rfl | rfl | rfl | rfl | rfl | rfl | rfl | rfl | rfl | rfl
  · exact rx_2_5
  · exact rx_18_5
  · exact rx_35_5
  · exact rx_51_5
  · exact rx_70_5
  · exact rx_86_5
  · exact rx_102_5
  · exact rx_118_5
  · exact rx_134_5
  · exact rx_150_5
  · exact rx_166_5
  · exact rx_182_5
theorem wr_1_6 (S : Sh h) (V : Wa W) : zh_r h (W + 1) 6 = .ref (W + 5) := by
  rw [S.r]
  rcases V with rfl | rfl | rfl | rfl | rfl | rfl | rfl | rfl | rfl | rfl | rfl | rfl
  · exact rx_2_6
  · exact rx_18_6
  · exact rx_35_6
  · exact rx_51_6
  · exact rx_70_6
  · exact rx_86_6
  · exact rx_102_6
  · exact rx_118_6
  · exact rx_134_6
  · exact rx_150_6
  · exact rx_166_6
  · exact rx_182_6
theorem wr_1_7 (S : Sh h) (V : Wa W) : zh_r h (W + 1) 7 = .ref (W + 6) := by
  rw [S.r]
  rcases V with rfl | rfl | rfl | rfl | rfl | rfl | rfl | rfl | rfl | rfl | rfl | rfl
  · exact rx_2_7
  · exact rx_18_7
  · exact rx_35_7
  · exact rx_51_7
  · exact rx_70_7
  · exact rx_86_7
  · exact rx_102_7
  · exact rx_118_7
  · exact rx_134_7
  · exact rx_150_7
  · exact rx_166_7
  · exact rx_182_7
theorem wr_1_8 (S : Sh h) (V : Wa W) : zh_r h (W + 1) 8 = .ref (W + 7) := by
  rw [S.r]
  rcases V with rfl | rfl | rfl | rfl | rfl | rfl | rfl | rfl | rfl | rfl | rfl | rfl
  · exact rx_2_8
  · exact rx_18_8
  · exact rx_35_8
  · exact rx_51_8
  · exact rx_70_8
  · exact rx_86_8
  · exact rx_102_8
  · exact rx_118_8
  · exact rx_134_8
  · exact rx_150_8
  · exact rx_166_8
  · exact rx_182_8
theorem wr_1_9 (S : Sh h) (V : Wa W) : zh_r h (W + 1) 9 = .ref (W + 8) := by
  rw [S.r]
  rcases V with rfl | rfl | rfl | rfl | rfl | rfl | rfl | rfl | rfl | rfl | rfl | rfl
  · exact rx_2_9
  · exact rx_18_9
  · exact rx_35_9
  · exact rx_51_9
  · exact rx_70_9
  · exact rx_86_9
  · exact rx_102_9
  · exact rx_118_9
  · exact rx_134_9
  · exact rx_150_9
  · exact rx_166_9
  · exact rx_182_9
theorem wr_9_0 (S : Sh h) (V : Wa W) : zh_r h (W + 9) 0 = .ref (W + 10) := by
  rw [S.r]
  rcases V with rfl | rfl | rfl | rfl | rfl | rfl | rfl | rfl | rfl | rfl | rfl | rfl
  · exact rx_10_0
  · exact rx_26_0
  · exact rx_43_0
  · exact rx_59_0
  · exact rx_78_0
  · exact rx_94_0
  · exact rx_110_0
  · exact rx_126_0
  · exact rx_142_0
  · exact rx_158_0
  · exact rx_174_0
  · exact rx_190_0
theorem wr_9_1 (S : Sh h) (V : Wa W) : zh_r h (W + 9) 1 = .ref (W + 12) := by
  rw [S.r]
  rcases V with rfl | rfl | rfl | rfl | rfl | rfl | rfl | rfl | rfl | rfl | rfl | rfl
  · exact rx_10_1
  · exact rx_26_1
  · exact rx_43_1
  · exact rx_59_1
  · exact rx_78_1
  · exact rx_94_1
  · exact rx_110_1
  · exact rx_126_1
  · exact rx_142_1
  · exact rx_158_1
  · exact rx_174_1
  · exact rx_190_1
theorem wr_9_2 (S : Sh h) (V : Wa W) : zh_r h (W + 9) 2 = .ref (W + 14) := by
  rw [S.r]
  rcases V with rfl | rfl | rfl | rfl | rfl | rfl | rfl | rfl | rfl | rfl | rfl | rfl
  · exact rx_10_2
  · exact rx_26_2
  · exact rx_43_2
  · exact rx_59_2
  · exact rx_78_2
  · exact rx_94_2
  · exact rx_110_2
  · exact rx_126_2
  · exact rx_142_2
  · exact rx_158_2
  · exact rx_174_2
  · exact rx_190_2
theorem wr_10_12 (S : Sh h) (V : Wa W) : zh_r h (W + 10) 12 = .ref (W + 11) := by
  rw [S.r]
  rcases V with rfl | rfl | rfl | rfl | rfl | rfl | rfl | rfl | rfl | rfl | rfl | rfl
  · exact rx_11_12
  · exact rx_27_12
  · exact rx_44_12
  · exact rx_60_12
  · exact rx_79_12
  · exact rx_95_12
  · exact rx_111_12
  · exact rx_127_12
  · exact rx_143_12
  · exact rx_159_12
  · exact rx_175_12
  · exact rx_191_12
theorem wr_12_12 (S : Sh h) (V : Wa W) : zh_r h (W + 12) 12 = .ref (W + 13) := by
  rw [S.r]
  rcases V with rfl | rfl | rfl | rfl | rfl | rfl | rfl | rfl | rfl | rfl | rfl | rfl
  · exact rx_13_12
  · exact rx_29_12
  · exact rx_46_12
  · exact rx_62_12
  · exact rx_81_12
  · exact rx_97_12
  · exact rx_113_12
  · exact rx_129_12
  · exact rx_145_12
  · exact rx_161_12
  · exact rx_177_12
  · exact rx_193_12
theorem wr_14_12 (S : Sh h) (V : Wa W) : zh_r h (W + 14) 12 = .ref (W + 15) := by
  rw [S.r]
  rcases V with rfl | rfl | rfl | rfl | rfl | rfl | rfl | rfl | rfl | rfl | rfl | rfl
  · exact rx_15_12
  · exact rx_31_12
  · exact rx_48_12
  · exact rx_64_12
  · exact rx_83_12
  · exact rx_99_12
  · exact rx_115_12
  · exact rx_131_12
  · exact rx_147_12
  · exact rx_163_12
  · exact rx_179_12
  · exact rx_195_12
end R30A
