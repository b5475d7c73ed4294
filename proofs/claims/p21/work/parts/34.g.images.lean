/-! BOTH SIDES: count, images -/
section R34G
variable {h h1 h2 : zi_Hp} {L : Nat}
theorem k_count (O : GO h) (x : Int32) : ∃ v, zv 4 131 0 [.ref 0, .int x] [] h = some (some (.int v), h) := by
  obtain ⟨S, G⟩ := id O
  obtain ⟨s, N, R, M, B, L, m, H, r, K, C, f, I, T⟩ := G 1 V1
  obtain ⟨eN, h1, hN, hM, hR⟩ := T.tr I
  obtain ⟨th, hth, -⟩ := t_thF S V1 (x := wx h 1) (y := wy h 1) eN hN hM
  obtain ⟨ve60, e60⟩ : ∃ v, zv 3 60 0 [.ref 2, .double 0, .double 0] [] h = some (some (.int v), h) := by
    have e := t_ls S V1 (x := wx h 1) (y := wy h 1) eN hN (u1 := .double 0) (u2 := .double 0)
    rw [zC_wx] at e; exact ⟨_, e⟩
  obtain ⟨ve57, e57⟩ : ∃ v, zv 2 57 0 [.ref 2, .double 0, .double 0] [] h = some (some (.int v), h) := by
    have e := t_su S V1 hth (u1 := .double 0) (u2 := .double 0)
    rw [zC_wx] at e; exact ⟨_, e⟩
  obtain ⟨ve61, e61⟩ : ∃ v, zv 1 61 0 [.ref 2, .double 0, .double 0] [] h = some (some (.int v), h) := by
    have e := t_ea S V1 (x := wx h 1) (y := wy h 1) eN hN (u1 := .double 0) (u2 := .double 0)
    rw [zC_wx] at e; exact ⟨_, e⟩
  rcases in_or x 0 5 (by decide) (by decide) with ⟨k, -, hk, rfl, -⟩ | hx
  · have : k = 0 ∨ k = 1 ∨ k = 2 ∨ k = 3 ∨ k = 4 ∨ k = 5 := by omega
    rcases this with rfl | rfl | rfl | rfl | rfl | rfl
    · rw [b131_0_c0 (x1 := nI 0) rfl]; simp +decide only [b131_0_c0, b131_0_c1, b131_0_c2, b131_0_c3, b131_0_c4, b131_0_c5, b131_0_d, b131_40, b131_50, b131_51, b131_60, b131_64, b131_65, b131_74, b131_78, b131_79, b131_81, b131_89, b131_99, b131_109, b131_110, b131_120, b131_121, S.n, S.k, S.r, hp_n_wi, hp_k_wi, hp_r_wi, hp_n_wl, hp_k_wl, hp_r_wl, hp_n_wb, hp_k_wb, hp_r_wb, zq_rf, kx_0, kx_1, kx_2, kx_3, kx_4, kx_5, kx_6, kx_7, kx_8, kx_9, kx_10, kx_11, kx_12, kx_13, kx_14, kx_15, kx_16, kx_17, kx_33, kx_34, kx_50, kx_66, kx_67, kx_68, kx_69, kx_197, kx_198, kx_199, kx_200, kx_201, kx_202, kx_203, kx_204, kx_205, kx_206, kx_207, kx_208, kx_209, kx_210, rx_0_0, rx_0_1, rx_0_2, rx_0_3, rx_0_4, rx_0_5, rx_0_6, rx_0_7, rx_1_0, rx_1_1, rx_2_3, rx_2_4, rx_2_5, rx_2_6, rx_2_7, rx_2_8, rx_2_9, rx_10_0, rx_10_1, rx_10_2, rx_33_0, rx_33_1, rx_67_0, rx_68_0, rx_197_0, rx_199_5, rx_199_6, rx_199_7, rx_203_0, rx_203_1, rx_203_2, rx_206_0, rx_206_1, rx_206_2, rx_206_3, Option.bind_some, Option.toList_some, Option.toList_none, List.cons_append, List.nil_append, ↓reduceIte, e60]; exact ⟨_, rfl⟩
    · rw [b131_0_c1 (x1 := nI 1) rfl]; simp +decide only [b131_0_c0, b131_0_c1, b131_0_c2, b131_0_c3, b131_0_c4, b131_0_c5, b131_0_d, b131_40, b131_50, b131_51, b131_60, b131_64, b131_65, b131_74, b131_78, b131_79, b131_81, b131_89, b131_99, b131_109, b131_110, b131_120, b131_121, S.n, S.k, S.r, hp_n_wi, hp_k_wi, hp_r_wi, hp_n_wl, hp_k_wl, hp_r_wl, hp_n_wb, hp_k_wb, hp_r_wb, zq_rf, kx_0, kx_1, kx_2, kx_3, kx_4, kx_5, kx_6, kx_7, kx_8, kx_9, kx_10, kx_11, kx_12, kx_13, kx_14, kx_15, kx_16, kx_17, kx_33, kx_34, kx_50, kx_66, kx_67, kx_68, kx_69, kx_197, kx_198, kx_199, kx_200, kx_201, kx_202, kx_203, kx_204, kx_205, kx_206, kx_207, kx_208, kx_209, kx_210, rx_0_0, rx_0_1, rx_0_2, rx_0_3, rx_0_4, rx_0_5, rx_0_6, rx_0_7, rx_1_0, rx_1_1, rx_2_3, rx_2_4, rx_2_5, rx_2_6, rx_2_7, rx_2_8, rx_2_9, rx_10_0, rx_10_1, rx_10_2, rx_33_0, rx_33_1, rx_67_0, rx_68_0, rx_197_0, rx_199_5, rx_199_6, rx_199_7, rx_203_0, rx_203_1, rx_203_2, rx_206_0, rx_206_1, rx_206_2, rx_206_3, Option.bind_some, Option.toList_some, Option.toList_none, List.cons_append, List.nil_append, ↓reduceIte]
      repeat' split
      all_goals exact ⟨_, rfl⟩
    · rw [b131_0_c2 (x1 := nI 2) rfl]; simp +decide only [b131_0_c0, b131_0_c1, b131_0_c2, b131_0_c3, b131_0_c4, b131_0_c5, b131_0_d, b131_40, b131_50, b131_51, b131_60, b131_64, b131_65, b131_74, b131_78, b131_79, b131_81, b131_89, b131_99, b131_109, b131_110, b131_120, b131_121, S.n, S.k, S.r, hp_n_wi, hp_k_wi, hp_r_wi, hp_n_wl, hp_k_wl, hp_r_wl, hp_n_wb, hp_k_wb, hp_r_wb, zq_rf, kx_0, kx_1, kx_2, kx_3, kx_4, kx_5, kx_6, kx_7, kx_8, kx_9, kx_10, kx_11, kx_12, kx_13, kx_14, kx_15, kx_16, kx_17, kx_33, kx_34, kx_50, kx_66, kx_67, kx_68, kx_69, kx_197, kx_198, kx_199, kx_200, kx_201, kx_202, kx_203, kx_204, kx_205, kx_206, kx_207, kx_208, kx_209, kx_210, rx_0_0, rx_0_1, rx_0_2, rx_0_3, rx_0_4, rx_0_5, rx_0_6, rx_0_7, rx_1_0, rx_1_1, rx_2_3, rx_2_4, rx_2_5, rx_2_6, rx_2_7, rx_2_8, rx_2_9, rx_10_0, rx_10_1, rx_10_2, rx_33_0, rx_33_1, rx_67_0, rx_68_0, rx_197_0, rx_199_5, rx_199_6, rx_199_7, rx_203_0, rx_203_1, rx_203_2, rx_206_0, rx_206_1, rx_206_2, rx_206_3, Option.bind_some, Option.toList_some, Option.toList_none, List.cons_append, List.nil_append, ↓reduceIte]; exact ⟨_, rfl⟩
    · rw [b131_0_c3 (x1 := nI 3) rfl]; simp +decide only [b131_0_c0, b131_0_c1, b131_0_c2, b131_0_c3, b131_0_c4, b131_0_c5, b131_0_d, b131_40, b131_50, b131_51, b131_60, b131_64, b131_65, b131_74, b131_78, b131_79, b131_81, b131_89, b131_99, b131_109, b131_110, b131_120, b131_121, S.n, S.k, S.r, hp_n_wi, hp_k_wi, hp_r_wi, hp_n_wl, hp_k_wl, hp_r_wl, hp_n_wb, hp_k_wb, hp_r_wb, zq_rf, kx_0, kx_1, kx_2, kx_3, kx_4, kx_5, kx_6, kx_7, kx_8, kx_9, kx_10, kx_11, kx_12, kx_13, kx_14, kx_15, kx_16, kx_17, kx_33, kx_34, kx_50, kx_66, kx_67, kx_68, kx_69, kx_197, kx_198, kx_199, kx_200, kx_201, kx_202, kx_203, kx_204, kx_205, kx_206, kx_207, kx_208, kx_209, kx_210, rx_0_0, rx_0_1, rx_0_2, rx_0_3, rx_0_4, rx_0_5, rx_0_6, rx_0_7, rx_1_0, rx_1_1, rx_2_3, rx_2_4, rx_2_5, rx_2_6, rx_2_7, rx_2_8, rx_2_9, rx_10_0, rx_10_1, rx_10_2, rx_33_0, rx_33_1, rx_67_0, rx_68_0, rx_197_0, rx_199_5, rx_199_6, rx_199_7, rx_203_0, rx_203_1, rx_203_2, rx_206_0, rx_206_1, rx_206_2, rx_206_3, Option.bind_some, Option.toList_some, Option.toList_none, List.cons_append, List.nil_append, ↓reduceIte]; exact ⟨_, rfl⟩
    · rw [b131_0_c4 (x1 := nI 4) rfl]; simp +decide only [b131_0_c0, b131_0_c1, b131_0_c2, b131_0_c3, b131_0_c4, b131_0_c5, b131_0_d, b131_40, b131_50, b131_51, b131_60, b131_64, b131_65, b131_74, b131_78, b131_79, b131_81, b131_89, b131_99, b131_109, b131_110, b131_120, b131_121, S.n, S.k, S.r, hp_n_wi, hp_k_wi, hp_r_wi, hp_n_wl, hp_k_wl, hp_r_wl, hp_n_wb, hp_k_wb, hp_r_wb, zq_rf, kx_0, kx_1, kx_2, kx_3, kx_4, kx_5, kx_6, kx_7, kx_8, kx_9, kx_10, kx_11, kx_12, kx_13, kx_14, kx_15, kx_16, kx_17, kx_33, kx_34, kx_50, kx_66, kx_67, kx_68, kx_69, kx_197, kx_198, kx_199, kx_200, kx_201, kx_202, kx_203, kx_204, kx_205, kx_206, kx_207, kx_208, kx_209, kx_210, rx_0_0, rx_0_1, rx_0_2, rx_0_3, rx_0_4, rx_0_5, rx_0_6, rx_0_7, rx_1_0, rx_1_1, rx_2_3, rx_2_4, rx_2_5, rx_2_6, rx_2_7, rx_2_8, rx_2_9, rx_10_0, rx_10_1, rx_10_2, rx_33_0, rx_33_1, rx_67_0, rx_68_0, rx_197_0, rx_199_5, rx_199_6, rx_199_7, rx_203_0, rx_203_1, rx_203_2, rx_206_0, rx_206_1, rx_206_2, rx_206_3, Option.bind_some, Option.toList_some, Option.toList_none, List.cons_append, List.nil_append, ↓reduceIte, e57]; exact ⟨_, rfl⟩
    · rw [b131_0_c5 (x1 := nI 5) rfl]; simp +decide only [b131_0_c0, b131_0_c1, b131_0_c2, b131_0_c3, b131_0_c4, b131_0_c5, b131_0_d, b131_40, b131_50, b131_51, b131_60, b131_64, b131_65, b131_74, b131_78, b131_79, b131_81, b131_89, b131_99, b131_109, b131_110, b131_120, b131_121, S.n, S.k, S.r, hp_n_wi, hp_k_wi, hp_r_wi, hp_n_wl, hp_k_wl, hp_r_wl, hp_n_wb, hp_k_wb, hp_r_wb, zq_rf, kx_0, kx_1, kx_2, kx_3, kx_4, kx_5, kx_6, kx_7, kx_8, kx_9, kx_10, kx_11, kx_12, kx_13, kx_14, kx_15, kx_16, kx_17, kx_33, kx_34, kx_50, kx_66, kx_67, kx_68, kx_69, kx_197, kx_198, kx_199, kx_200, kx_201, kx_202, kx_203, kx_204, kx_205, kx_206, kx_207, kx_208, kx_209, kx_210, rx_0_0, rx_0_1, rx_0_2, rx_0_3, rx_0_4, rx_0_5, rx_0_6, rx_0_7, rx_1_0, rx_1_1, rx_2_3, rx_2_4, rx_2_5, rx_2_6, rx_2_7, rx_2_8, rx_2_9, rx_10_0, rx_10_1, rx_10_2, rx_33_0, rx_33_1, rx_67_0, rx_68_0, rx_197_0, rx_199_5, rx_199_6, rx_199_7, rx_203_0, rx_203_1, rx_203_2, rx_206_0, rx_206_1, rx_206_2, rx_206_3, Option.bind_some, Option.toList_some, Option.toList_none, List.cons_append, List.nil_append, ↓reduceIte, e61]; exact ⟨_, rfl⟩
  · rw [b131_0_d (out_or (by decide) (by decide) hx), b131_121]; exact ⟨_, rfl⟩
theorem q_count (O : RO h) (x : Int32) : ∃ v, zv 3 240 0 [.ref 211, .int x] [] h = some (some (.int v), h) := by
  obtain ⟨S, J, k1, k2, k3⟩ := id O
  obtain ⟨N, R, M, B, L, m, H, r, K, C, f, I⟩ := id J
  have e1 := I.1.1.1
  have e2 := I.1.1.2.2
  have r2 : zh_r h 211 2 = .ref 214 := by rw [S.r, rx_211_2]
  have r35 : zh_r h 211 35 = .ref 230 := by rw [S.r, rx_211_35]
  have r36 : zh_r h 211 36 = .ref 231 := by rw [S.r, rx_211_36]
  have cb : ∀ x : Int32, ∃ y, zv 2 239 0 [.ref 211, .int x, .double 0, .double 0] [] h = some (some (.int y), h) := fun x => by
    have p := q_cbn (q := (zh_i h 215, zh_i h 216, zh_i h 211 5, zh_b h 217)) S e1 e2 (x := x) (u2 := .double 0) (u3 := .double 0)
    rw [zQ_id] at p
    exact ⟨_, p⟩
  have ka : ∃ y, zv 2 200 0 [.ref 211, .int 1, .double 0, .double 0, .double 0] [] h = some (some (.int y), h) := by
    have p := q_ka (q := (zh_i h 215, zh_i h 216, zh_i h 211 5, zh_b h 217)) S I (x := 1) (u2 := .double 0) (u3 := .double 0) (u4 := .double 0)
    rw [zQ_id] at p
    exact ⟨_, p⟩
  rcases in_or x 0 5 (by decide) (by decide) with ⟨k, -, hk, rfl, -⟩ | hx
  · have : k = 0 ∨ k = 1 ∨ k = 2 ∨ k = 3 ∨ k = 4 ∨ k = 5 := by omega
    rcases this with rfl | rfl | rfl | rfl | rfl | rfl
    · obtain ⟨y, ey⟩ := cb 1
      rw [b240_0_c0 (x1 := nI 0) rfl, b240_40 (S_g0 S) (S_g1 S), ey]
      simp only [Option.bind_some, Option.toList_some, Option.toList_none, List.cons_append, List.nil_append]
      rw [b240_45]; exact ⟨_, rfl⟩
    · rw [b240_0_c1 (x1 := nI 1) rfl, b240_46 (S_g0 S) (S_g1 S) (by rw [r2, zq_rf]) (by rw [r2, zq_rf, S.n]; decide) (by rw [r2, zq_rf, S.k, kx_214]; decide) (by rw [r2, zq_rf, S.k, kx_214]), r_flag]
      simp only [Option.bind_some, Option.toList_some, Option.toList_none, List.cons_append, List.nil_append]
      rw [b240_55 (S_g0 S) (S_g1 S) (by rw [r2, zq_rf]) (by rw [r2, zq_rf, S.n]; decide) (by rw [r2, zq_rf, S.k, kx_214]; decide) (by rw [r2, zq_rf, S.k, kx_214]), r_flag]
      simp only [Option.bind_some, Option.toList_some, Option.toList_none, List.cons_append, List.nil_append]
      rw [b240_64]; exact ⟨_, rfl⟩
    · rw [b240_0_c2 (x1 := nI 2) rfl, b240_66 (S_g0 S) (S_g1 S)]; exact ⟨_, rfl⟩
    · rw [b240_0_c3 (x1 := nI 3) rfl, b240_71 (S_g0 S) (S_g1 S) (by rw [r35, zq_rf]) (by rw [r35, zq_rf, S.n]; decide) (by rw [r35, zq_rf, S.k, kx_230]; decide) (by rw [r35, zq_rf, S.k, kx_230])]
      split
      · rw [b240_82, b240_93]; exact ⟨_, rfl⟩
      · rw [b240_87 (S_g0 S) (S_g1 S) (by rw [r36, zq_rf]) (by rw [r36, zq_rf, S.n]; decide) (by rw [r36, zq_rf, S.k, kx_231]; decide) (by rw [r36, zq_rf, S.k, kx_231]), b240_93]; exact ⟨_, rfl⟩
    · obtain ⟨y, ey⟩ := ka
      rw [b240_0_c4 (x1 := nI 4) rfl, b240_94 (S_g0 S) (S_g1 S), ey]
      simp only [Option.bind_some, Option.toList_some, Option.toList_none, List.cons_append, List.nil_append]
      rw [b240_99]; exact ⟨_, rfl⟩
    · obtain ⟨y, ey⟩ := cb 0
      rw [b240_0_c5 (x1 := nI 5) rfl, b240_100 (S_g0 S) (S_g1 S), ey]
      simp only [Option.bind_some, Option.toList_some, Option.toList_none, List.cons_append, List.nil_append]
      rw [b240_105]; exact ⟨_, rfl⟩
  · rw [b240_0_d, b240_106]
    · exact ⟨_, rfl⟩
    · refine Decidable.by_contra (fun w => hx ?_)
      rw [Int32.le_iff_toInt_le, Int32.le_iff_toInt_le, nI_toInt (by decide), nI_toInt (by decide)]
      omega
theorem a_count (R : R3 L h) (x : Int32) : Al2 L h (zv 4 131 0 [.ref 0, .int x] [] h) (fun m => zv 3 240 0 [.ref 211, .int x] [] m) := by
  obtain ⟨v, e⟩ := k_count R.2.1 x
  obtain ⟨v2, e2⟩ := q_count R.1 x
  exact ⟨v, v2, h, h, e, R.1.1, R.2.2.2.2, rfl, e2, R⟩
theorem im_V {k : Nat} (hk : k < 2) : Wa (34 + 16 * k) := by unfold Wa; omega
theorem im_r (S : Sh h) {k : Nat} (hk : k < 2) : zh_r h 33 k = .ref (34 + 16 * k) := by
  have : k = 0 ∨ k = 1 := by omega
  rcases this with rfl | rfl
  · rw [S.r, rx_33_0]
  · rw [S.r, rx_33_1]
theorem Sh.zi (S : Sh h) {x : Nat → Nat → Int32} {y : Nat → Nat → Bool} {W : Nat} : Sh (zC h W x y) := zC_S S
theorem a_keep (R : R3 L h) (x : Int32) {u u2 u3 : Value} : Al L h (zv 3 125 0 [.ref 0, .int x, u] [] h) (fun m => zv 2 232 0 [.ref 211, .int x, u2, u3] [] m) := by
  obtain ⟨r, g, G, X, l⟩ := id R
  have S := r.1
  rcases in_or x 0 1 (by decide) (by decide) with ⟨c, -, hc, rfl, hx⟩ | hx
  · have hc2 : c < 2 := by omega
    have hv : ¬ nI c < 0 ∧ nI c < 2 := (rg (b := 1) (by decide)).mpr hx
    have nc : (nI c).toNatClampNeg = c := nI_clamp (by omega)
    have hzc : ¬ (nI c < 0 ∨ 2 ≤ (nI c).toNatClampNeg) := zj_n hc2 (by decide)
    have V := im_V hc2
    obtain ⟨x', y', e, q⟩ := k_cw S V V1 (by omega) (x := wx h (34 + 16 * c)) (y := wy h (34 + 16 * c)) (u2' := .double 0)
    rw [zC_wx] at e
    obtain ⟨h1, eh1⟩ : ∃ h1, h1 = zC h (34 + 16 * c) x' y' := ⟨_, rfl⟩
    rw [← eh1] at e
    have G1 : Gs x' y' (zh_i h 212) := G.sw q
    have O1 : GO h1 := by rw [eh1]; exact g.zC V G1.gw
    have S1 := O1.1
    obtain ⟨h2, eh2⟩ : ∃ h2, h2 = zh_wb h1 66 c true := ⟨_, rfl⟩
    have O2 : GO h2 := by rw [eh2]; exact O1.wb wo_66
    have S2 := O2.1
    have F1 : Fb h h2 := by rw [eh2, eh1]; exact (Fc.zC V).1.1.trans (Fb.wb (by decide))
    have r0 : zh_r h 0 2 = .ref 33 := by rw [S.r, rx_0_2]
    have r3 : zh_r h 0 3 = .ref 66 := by rw [S.r, rx_0_3]
    have r00 : zh_r h 0 0 = .ref 1 := by rw [S.r, rx_0_0]
    have e37 : ∀ {b : Int32}, zv 3 125 37 [.ref 0, .int (nI c), .int b] [] h1 = some (some (.int b), h2) := fun {b} => by
      have S := S1
      rw [eh2]
      have : c = 0 ∨ c = 1 := by omega
      rcases this with rfl | rfl
      · simp +decide only [b125_37, S.n, S.k, S.r, hp_n_wi, hp_k_wi, hp_r_wi, hp_n_wl, hp_k_wl, hp_r_wl, hp_n_wb, hp_k_wb, hp_r_wb, zq_rf, kx_0, kx_1, kx_2, kx_3, kx_4, kx_5, kx_6, kx_7, kx_8, kx_9, kx_10, kx_11, kx_12, kx_13, kx_14, kx_15, kx_16, kx_17, kx_33, kx_34, kx_50, kx_66, kx_67, kx_68, kx_69, kx_197, kx_198, kx_199, kx_200, kx_201, kx_202, kx_203, kx_204, kx_205, kx_206, kx_207, kx_208, kx_209, kx_210, rx_0_0, rx_0_1, rx_0_2, rx_0_3, rx_0_4, rx_0_5, rx_0_6, rx_0_7, rx_1_0, rx_1_1, rx_2_3, rx_2_4, rx_2_5, rx_2_6, rx_2_7, rx_2_8, rx_2_9, rx_10_0, rx_10_1, rx_10_2, rx_33_0, rx_33_1, rx_67_0, rx_68_0, rx_197_0, rx_199_5, rx_199_6, rx_199_7, rx_203_0, rx_203_1, rx_203_2, rx_206_0, rx_206_1, rx_206_2, rx_206_3, Option.bind_some, Option.toList_some, Option.toList_none, List.cons_append, List.nil_append, ↓reduceIte, tc_0, hzc]
      · simp +decide only [b125_37, S.n, S.k, S.r, hp_n_wi, hp_k_wi, hp_r_wi, hp_n_wl, hp_k_wl, hp_r_wl, hp_n_wb, hp_k_wb, hp_r_wb, zq_rf, kx_0, kx_1, kx_2, kx_3, kx_4, kx_5, kx_6, kx_7, kx_8, kx_9, kx_10, kx_11, kx_12, kx_13, kx_14, kx_15, kx_16, kx_17, kx_33, kx_34, kx_50, kx_66, kx_67, kx_68, kx_69, kx_197, kx_198, kx_199, kx_200, kx_201, kx_202, kx_203, kx_204, kx_205, kx_206, kx_207, kx_208, kx_209, kx_210, rx_0_0, rx_0_1, rx_0_2, rx_0_3, rx_0_4, rx_0_5, rx_0_6, rx_0_7, rx_1_0, rx_1_1, rx_2_3, rx_2_4, rx_2_5, rx_2_6, rx_2_7, rx_2_8, rx_2_9, rx_10_0, rx_10_1, rx_10_2, rx_33_0, rx_33_1, rx_67_0, rx_68_0, rx_197_0, rx_199_5, rx_199_6, rx_199_7, rx_203_0, rx_203_1, rx_203_2, rx_206_0, rx_206_1, rx_206_2, rx_206_3, Option.bind_some, Option.toList_some, Option.toList_none, List.cons_append, List.nil_append, ↓reduceIte, tc_1, hzc]
    have e23 : ∀ {b : Int32}, zv 3 125 23 [.ref 0, .int (nI c), u] [.int b] h = some (some (.int b), h2) := fun {b} => by
      have : c = 0 ∨ c = 1 := by omega
      rcases this with rfl | rfl
      · simp +decide only [b125_23, S.n, S.k, S.r, hp_n_wi, hp_k_wi, hp_r_wi, hp_n_wl, hp_k_wl, hp_r_wl, hp_n_wb, hp_k_wb, hp_r_wb, zq_rf, kx_0, kx_1, kx_2, kx_3, kx_4, kx_5, kx_6, kx_7, kx_8, kx_9, kx_10, kx_11, kx_12, kx_13, kx_14, kx_15, kx_16, kx_17, kx_33, kx_34, kx_50, kx_66, kx_67, kx_68, kx_69, kx_197, kx_198, kx_199, kx_200, kx_201, kx_202, kx_203, kx_204, kx_205, kx_206, kx_207, kx_208, kx_209, kx_210, rx_0_0, rx_0_1, rx_0_2, rx_0_3, rx_0_4, rx_0_5, rx_0_6, rx_0_7, rx_1_0, rx_1_1, rx_2_3, rx_2_4, rx_2_5, rx_2_6, rx_2_7, rx_2_8, rx_2_9, rx_10_0, rx_10_1, rx_10_2, rx_33_0, rx_33_1, rx_67_0, rx_68_0, rx_197_0, rx_199_5, rx_199_6, rx_199_7, rx_203_0, rx_203_1, rx_203_2, rx_206_0, rx_206_1, rx_206_2, rx_206_3, Option.bind_some, Option.toList_some, Option.toList_none, List.cons_append, List.nil_append, ↓reduceIte, tc_0, hzc, e, e37]
      · simp +decide only [b125_23, S.n, S.k, S.r, hp_n_wi, hp_k_wi, hp_r_wi, hp_n_wl, hp_k_wl, hp_r_wl, hp_n_wb, hp_k_wb, hp_r_wb, zq_rf, kx_0, kx_1, kx_2, kx_3, kx_4, kx_5, kx_6, kx_7, kx_8, kx_9, kx_10, kx_11, kx_12, kx_13, kx_14, kx_15, kx_16, kx_17, kx_33, kx_34, kx_50, kx_66, kx_67, kx_68, kx_69, kx_197, kx_198, kx_199, kx_200, kx_201, kx_202, kx_203, kx_204, kx_205, kx_206, kx_207, kx_208, kx_209, kx_210, rx_0_0, rx_0_1, rx_0_2, rx_0_3, rx_0_4, rx_0_5, rx_0_6, rx_0_7, rx_1_0, rx_1_1, rx_2_3, rx_2_4, rx_2_5, rx_2_6, rx_2_7, rx_2_8, rx_2_9, rx_10_0, rx_10_1, rx_10_2, rx_33_0, rx_33_1, rx_67_0, rx_68_0, rx_197_0, rx_199_5, rx_199_6, rx_199_7, rx_203_0, rx_203_1, rx_203_2, rx_206_0, rx_206_1, rx_206_2, rx_206_3, Option.bind_some, Option.toList_some, Option.toList_none, List.cons_append, List.nil_append, ↓reduceIte, tc_1, hzc, e, e37]
    have ec : zv 3 125 0 [.ref 0, .int (nI c), u] [] h = some (some (.int (zi_bI (zh_b h 66 c))), h2) := by
      have : c = 0 ∨ c = 1 := by omega
      rcases this with rfl | rfl
      · cases hb : zh_b h 66 0 with
        | false => simp +decide only [b125_0, b125_4, b125_9, b125_18, b125_22, S.n, S.k, S.r, hp_n_wi, hp_k_wi, hp_r_wi, hp_n_wl, hp_k_wl, hp_r_wl, hp_n_wb, hp_k_wb, hp_r_wb, zq_rf, kx_0, kx_1, kx_2, kx_3, kx_4, kx_5, kx_6, kx_7, kx_8, kx_9, kx_10, kx_11, kx_12, kx_13, kx_14, kx_15, kx_16, kx_17, kx_33, kx_34, kx_50, kx_66, kx_67, kx_68, kx_69, kx_197, kx_198, kx_199, kx_200, kx_201, kx_202, kx_203, kx_204, kx_205, kx_206, kx_207, kx_208, kx_209, kx_210, rx_0_0, rx_0_1, rx_0_2, rx_0_3, rx_0_4, rx_0_5, rx_0_6, rx_0_7, rx_1_0, rx_1_1, rx_2_3, rx_2_4, rx_2_5, rx_2_6, rx_2_7, rx_2_8, rx_2_9, rx_10_0, rx_10_1, rx_10_2, rx_33_0, rx_33_1, rx_67_0, rx_68_0, rx_197_0, rx_199_5, rx_199_6, rx_199_7, rx_203_0, rx_203_1, rx_203_2, rx_206_0, rx_206_1, rx_206_2, rx_206_3, Option.bind_some, Option.toList_some, Option.toList_none, List.cons_append, List.nil_append, ↓reduceIte, p_137, decide_eq_true hv, zi_bI_t, zi_bI_f, tc_0, hzc, hb, e23]
        | true => simp +decide only [b125_0, b125_4, b125_9, b125_18, b125_22, S.n, S.k, S.r, hp_n_wi, hp_k_wi, hp_r_wi, hp_n_wl, hp_k_wl, hp_r_wl, hp_n_wb, hp_k_wb, hp_r_wb, zq_rf, kx_0, kx_1, kx_2, kx_3, kx_4, kx_5, kx_6, kx_7, kx_8, kx_9, kx_10, kx_11, kx_12, kx_13, kx_14, kx_15, kx_16, kx_17, kx_33, kx_34, kx_50, kx_66, kx_67, kx_68, kx_69, kx_197, kx_198, kx_199, kx_200, kx_201, kx_202, kx_203, kx_204, kx_205, kx_206, kx_207, kx_208, kx_209, kx_210, rx_0_0, rx_0_1, rx_0_2, rx_0_3, rx_0_4, rx_0_5, rx_0_6, rx_0_7, rx_1_0, rx_1_1, rx_2_3, rx_2_4, rx_2_5, rx_2_6, rx_2_7, rx_2_8, rx_2_9, rx_10_0, rx_10_1, rx_10_2, rx_33_0, rx_33_1, rx_67_0, rx_68_0, rx_197_0, rx_199_5, rx_199_6, rx_199_7, rx_203_0, rx_203_1, rx_203_2, rx_206_0, rx_206_1, rx_206_2, rx_206_3, Option.bind_some, Option.toList_some, Option.toList_none, List.cons_append, List.nil_append, ↓reduceIte, p_137, decide_eq_true hv, zi_bI_t, zi_bI_f, tc_0, hzc, hb, e23]
      · cases hb : zh_b h 66 1 with
        | false => simp +decide only [b125_0, b125_4, b125_9, b125_18, b125_22, S.n, S.k, S.r, hp_n_wi, hp_k_wi, hp_r_wi, hp_n_wl, hp_k_wl, hp_r_wl, hp_n_wb, hp_k_wb, hp_r_wb, zq_rf, kx_0, kx_1, kx_2, kx_3, kx_4, kx_5, kx_6, kx_7, kx_8, kx_9, kx_10, kx_11, kx_12, kx_13, kx_14, kx_15, kx_16, kx_17, kx_33, kx_34, kx_50, kx_66, kx_67, kx_68, kx_69, kx_197, kx_198, kx_199, kx_200, kx_201, kx_202, kx_203, kx_204, kx_205, kx_206, kx_207, kx_208, kx_209, kx_210, rx_0_0, rx_0_1, rx_0_2, rx_0_3, rx_0_4, rx_0_5, rx_0_6, rx_0_7, rx_1_0, rx_1_1, rx_2_3, rx_2_4, rx_2_5, rx_2_6, rx_2_7, rx_2_8, rx_2_9, rx_10_0, rx_10_1, rx_10_2, rx_33_0, rx_33_1, rx_67_0, rx_68_0, rx_197_0, rx_199_5, rx_199_6, rx_199_7, rx_203_0, rx_203_1, rx_203_2, rx_206_0, rx_206_1, rx_206_2, rx_206_3, Option.bind_some, Option.toList_some, Option.toList_none, List.cons_append, List.nil_append, ↓reduceIte, p_137, decide_eq_true hv, zi_bI_t, zi_bI_f, tc_1, hzc, hb, e23]
        | true => simp +decide only [b125_0, b125_4, b125_9, b125_18, b125_22, S.n, S.k, S.r, hp_n_wi, hp_k_wi, hp_r_wi, hp_n_wl, hp_k_wl, hp_r_wl, hp_n_wb, hp_k_wb, hp_r_wb, zq_rf, kx_0, kx_1, kx_2, kx_3, kx_4, kx_5, kx_6, kx_7, kx_8, kx_9, kx_10, kx_11, kx_12, kx_13, kx_14, kx_15, kx_16, kx_17, kx_33, kx_34, kx_50, kx_66, kx_67, kx_68, kx_69, kx_197, kx_198, kx_199, kx_200, kx_201, kx_202, kx_203, kx_204, kx_205, kx_206, kx_207, kx_208, kx_209, kx_210, rx_0_0, rx_0_1, rx_0_2, rx_0_3, rx_0_4, rx_0_5, rx_0_6, rx_0_7, rx_1_0, rx_1_1, rx_2_3, rx_2_4, rx_2_5, rx_2_6, rx_2_7, rx_2_8, rx_2_9, rx_10_0, rx_10_1, rx_10_2, rx_33_0, rx_33_1, rx_67_0, rx_68_0, rx_197_0, rx_199_5, rx_199_6, rx_199_7, rx_203_0, rx_203_1, rx_203_2, rx_206_0, rx_206_1, rx_206_2, rx_206_3, Option.bind_some, Option.toList_some, Option.toList_none, List.cons_append, List.nil_append, ↓reduceIte, p_137, decide_eq_true hv, zi_bI_t, zi_bI_f, tc_1, hzc, hb, e23]
    have Q2 : RO h2 := r.fc S2 F1
    obtain ⟨h3, eh3⟩ : ∃ h3, h3 = zh_ci (zh_wb h2 214 c true) 212 0 213 (387 * c) 387 := ⟨_, rfl⟩
    have er : zv 2 232 0 [.ref 211, .int (nI c), u2, u3] [] h2 = some (some (.int (zi_bI (zh_b h 66 c))), h3) := by
      have S := S2
      have r2 : zh_r h2 211 2 = .ref 214 := by rw [S.r, rx_211_2]
      rw [b232_0, show (0 : Int64) = (nI 0).toInt64 from rfl, show (1 : Int64) = (nI 1).toInt64 from rfl, c_iy hx]
      simp only [Option.bind_some, Option.toList_some, Option.toList_none, List.cons_append, List.nil_append]
      rw [b232_7, if_neg (by decide), b232_12 (S_g0 S) (S_g1 S) (by rw [r2, zq_rf]) (by rw [r2, zq_rf, S.n]; decide) (by rw [r2, zq_rf, S.k, kx_214]; exact hzc) (by rw [r2, zq_rf, S.k, kx_214]), r_flag]
      simp only [Option.bind_some, Option.toList_some, Option.toList_none, List.cons_append, List.nil_append]
      rw [b232_21 (S_g0 S) (S_g1 S) (by rw [r2, zq_rf]) (by rw [r2, zq_rf, S.n]; decide) (by rw [r2, zq_rf, S.k, kx_214]; exact hzc) (by rw [r2, zq_rf, S.k, kx_214]), r2, zq_rf, nc, c_keepL (S.wb 214 c true) hc2, eh3, bI_fl, (F1.1 214 c (by decide)).2.1, (X.1 c hc2).1]
    obtain ⟨v9, h9, e9, O9, F9⟩ := o_keep Q2 (nI c) (u := u2) (v := u3)
    rw [er] at e9
    obtain rfl : h3 = h9 := by injection e9 with e9; injection e9
    have i3 : ∀ a j, a ≠ 213 → zh_i h3 a j = zh_i h2 a j := fun a j ha => by
      rw [eh3, hp_i_ci, if_neg (fun w => ha w.1)]; rfl
    have j3 : ∀ j, j < 387 → zh_i h3 213 (387 * c + j) = zh_i h 212 j := fun j hj => by
      rw [eh3, hp_i_ci, if_pos ⟨rfl, by omega, by omega⟩, Nat.zero_add, show 387 * c + j - 387 * c = j by omega]
      exact (F1.1 212 j (by decide)).1
    have k3 : ∀ k j, k ≠ c → j < 387 → zh_i h3 213 (387 * k + j) = zh_i h 213 (387 * k + j) := fun k j hk hj => by
      rw [eh3, hp_i_ci, if_neg (fun w => by omega)]
      exact (F1.1 213 _ (by decide)).1
    have b3 : ∀ a j, (a ≠ 214 ∨ j ≠ c) → zh_b h3 a j = zh_b h2 a j := fun a j ha => by
      rw [eh3]
      show zh_b (zh_wb h2 214 c true) a j = _
      rw [hp_b_wb, if_neg (fun w => by omega)]
    have b3c : zh_b h3 214 c = true := by
      rw [eh3]
      show zh_b (zh_wb h2 214 c true) 214 c = _
      rw [hp_b_wb, if_pos ⟨rfl, rfl⟩]
    have i2 : ∀ a j, (a < 34 + 16 * c ∨ 34 + 16 * c + 16 ≤ a) → zh_i h2 a j = zh_i h a j := fun a j ha => by
      rw [eh2]
      show zh_i h1 a j = _
      rw [eh1]
      exact zC_io j ha
    have b2 : ∀ a j, (a < 34 + 16 * c ∨ 34 + 16 * c + 16 ≤ a) → (a ≠ 66 ∨ j ≠ c) → zh_b h2 a j = zh_b h a j := fun a j ha hj => by
      rw [eh2, hp_b_wb, if_neg (fun w => by omega), eh1]
      exact zC_bo j ha
    have b2c : zh_b h2 66 c = true := by rw [eh2, hp_b_wb, if_pos ⟨rfl, rfl⟩]
    have m2 : ∀ o j, o < 16 → zh_i h2 (34 + 16 * c + o) j = x' o j ∧ zh_b h2 (34 + 16 * c + o) j = y' o j := fun o j ho => by
      refine ⟨?_, ?_⟩
      · rw [eh2]
        show zh_i h1 _ j = _
        rw [eh1]
        exact zC_i ho j
      · rw [eh2, hp_b_wb, if_neg (fun w => by omega), eh1]
        exact zC_b ho j
    refine ⟨_, h2, h3, ec, S2, F1.2.1.trans l, F1.2.2, er, O9, O2.fx O9.1 F9.1.1, ?_, ⟨fun k hk => ?_, ?_, fun t ht et j hj => ?_, fun k hk => ?_, fun k hk i hi => ?_, ?_⟩, ?_⟩
    · refine G.of1 (fun o j ho => ⟨?_, ?_⟩) (fun j _ => ?_)
      · rw [i3 _ _ (by omega), i2 _ _ (by omega)]
      · rw [b3 _ _ (by omega), b2 _ _ (by omega) (by omega)]
      · rw [i3 _ _ (by decide), i2 _ _ (by omega)]
    · by_cases ek : k = c
      · subst ek
        refine ⟨by rw [b3 _ _ (by omega), b2c, b3c], fun _ => ?_⟩
        refine (G1.sw (SW.of (fun o j ho => ?_) (fun o j ho => ?_))).congr (fun j hj => j3 j hj)
        · show zh_i h3 (34 + 16 * k + o) j = _
          rw [i3 _ _ (by omega), (m2 o j ho).1]
        · show zh_b h3 (34 + 16 * k + o) j = _
          rw [b3 _ _ (by omega), (m2 o j ho).2]
      · obtain ⟨y1, y2⟩ := X.1 k hk
        refine ⟨by rw [b3 _ _ (by omega), b3 _ _ (by omega), b2 _ _ (by omega) (by omega), b2 _ _ (by omega) (by omega)]; exact y1, fun hb => ?_⟩
        rw [b3 _ _ (by omega), b2 _ _ (by omega) (by omega)] at hb
        refine ((y2 hb).sw (SW.of (fun o j ho => ?_) (fun o j ho => ?_))).congr (fun j hj => k3 k j ek hj)
        · show zh_i h3 (34 + 16 * k + o) j = _
          rw [i3 _ _ (by omega), i2 _ _ (by omega)]; rfl
        · show zh_b h3 (34 + 16 * k + o) j = _
          rw [b3 _ _ (by omega), b2 _ _ (by omega) (by omega)]; rfl
    · rw [i3 _ _ (by decide), i3 _ _ (by decide), i2 _ _ (by omega), i2 _ _ (by omega)]; exact X.2.1
    · rw [i3 _ _ (by decide), i2 _ _ (by omega)] at et
      rw [i3 _ _ (by decide), i3 _ _ (by decide), i2 _ _ (by omega), i2 _ _ (by omega)]
      exact X.2.2.1 t ht et j hj
    · rw [i3 _ _ (by decide), i3 _ _ (by decide), i3 _ _ (by decide), i3 _ _ (by decide), i2 _ _ (by omega), i2 _ _ (by omega), i2 _ _ (by omega), i2 _ _ (by omega)]
      exact X.2.2.2.1 k hk
    · rw [i3 _ _ (by omega), i3 _ _ (by decide), i2 _ _ (by omega), i2 _ _ (by omega)]
      exact X.2.2.2.2.1 k hk i hi
    · rw [i3 _ _ (by decide), i3 _ _ (by decide), i2 _ _ (by omega), i2 _ _ (by omega)]; exact X.2.2.2.2.2
    · rw [F9.1.1.2.1, F1.2.1]; exact l
  · have hv : ¬ (¬ x < 0 ∧ x < 2) := fun q => hx ((rg (b := 1) (by decide)).mp q)
    refine JW.al R (JW.same G (-1) ?_ (fun h1 q' S1 => ?_))
    · simp +decide only [b125_0, b125_4, b125_7, S.n, S.k, S.r, hp_n_wi, hp_k_wi, hp_r_wi, hp_n_wl, hp_k_wl, hp_r_wl, hp_n_wb, hp_k_wb, hp_r_wb, zq_rf, kx_0, kx_1, kx_2, kx_3, kx_4, kx_5, kx_6, kx_7, kx_8, kx_9, kx_10, kx_11, kx_12, kx_13, kx_14, kx_15, kx_16, kx_17, kx_33, kx_34, kx_50, kx_66, kx_67, kx_68, kx_69, kx_197, kx_198, kx_199, kx_200, kx_201, kx_202, kx_203, kx_204, kx_205, kx_206, kx_207, kx_208, kx_209, kx_210, rx_0_0, rx_0_1, rx_0_2, rx_0_3, rx_0_4, rx_0_5, rx_0_6, rx_0_7, rx_1_0, rx_1_1, rx_2_3, rx_2_4, rx_2_5, rx_2_6, rx_2_7, rx_2_8, rx_2_9, rx_10_0, rx_10_1, rx_10_2, rx_33_0, rx_33_1, rx_67_0, rx_68_0, rx_197_0, rx_199_5, rx_199_6, rx_199_7, rx_203_0, rx_203_1, rx_203_2, rx_206_0, rx_206_1, rx_206_2, rx_206_3, Option.bind_some, Option.toList_some, Option.toList_none, List.cons_append, List.nil_append, ↓reduceIte, p_137, decide_eq_false hv, zi_bI_f]
    · show zv 2 232 0 _ _ _ = _
      rw [b232_0, show (0 : Int64) = (nI 0).toInt64 from rfl, show (1 : Int64) = (nI 1).toInt64 from rfl, c_iz hx]
      simp only [Option.bind_some, Option.toList_some, Option.toList_none, List.cons_append, List.nil_append]
      rw [b232_7, if_pos rfl, b232_10]
theorem a_back (R : R3 L h) (x : Int32) {u2 : Value} : Al L h (zv 3 126 0 [.ref 0, .int x] [] h) (fun m => zv 2 233 0 [.ref 211, .int x, u2] [] m) := by
  obtain ⟨r, g, G, X, l⟩ := id R
  have S := r.1
  rcases in_or x 0 1 (by decide) (by decide) with ⟨c, -, hc, rfl, hx⟩ | hx
  · have hc2 : c < 2 := by omega
    have hv : ¬ nI c < 0 ∧ nI c < 2 := (rg (b := 1) (by decide)).mpr hx
    have nc : (nI c).toNatClampNeg = c := nI_clamp (by omega)
    have hzc : ¬ (nI c < 0 ∨ 2 ≤ (nI c).toNatClampNeg) := zj_n hc2 (by decide)
    have V := im_V hc2
    obtain ⟨y1, y2⟩ := X.1 c hc2
    have pr : ∀ {m : zi_Hp}, Sh m → zv 2 233 0 [.ref 211, .int (nI c), u2] [] m = if zi_bI (zh_b m 214 c) = 0 then some (some (.int (-2)), m) else some (some (.int (zh_i m 213 (387 * c + 312))), zh_ci m 213 (387 * c) 212 0 387) := fun {m} S => by
      have r2 : zh_r m 211 2 = .ref 214 := by rw [S.r, rx_211_2]
      rw [b233_0, show (0 : Int64) = (nI 0).toInt64 from rfl, show (1 : Int64) = (nI 1).toInt64 from rfl, c_iy hx]
      simp only [Option.bind_some, Option.toList_some, Option.toList_none, List.cons_append, List.nil_append]
      rw [b233_7, if_neg (by decide), b233_12 (S_g0 S) (S_g1 S) (by rw [r2, zq_rf]) (by rw [r2, zq_rf, S.n]; decide) (by rw [r2, zq_rf, S.k, kx_214]; exact hzc) (by rw [r2, zq_rf, S.k, kx_214]), r2, zq_rf, nc, b233_21, b233_24, c_backL S hc2]
    cases hb : zh_b h 66 c with
    | false =>
      have hb2 : zh_b h 214 c = false := y1.symm.trans hb
      refine ⟨-2, h, h, ?_, S, l, rfl, ?_, R⟩
      · have : c = 0 ∨ c = 1 := by omega
        rcases this with rfl | rfl
        · simp +decide only [b126_0, b126_4, b126_9, b126_18, S.n, S.k, S.r, hp_n_wi, hp_k_wi, hp_r_wi, hp_n_wl, hp_k_wl, hp_r_wl, hp_n_wb, hp_k_wb, hp_r_wb, zq_rf, kx_0, kx_1, kx_2, kx_3, kx_4, kx_5, kx_6, kx_7, kx_8, kx_9, kx_10, kx_11, kx_12, kx_13, kx_14, kx_15, kx_16, kx_17, kx_33, kx_34, kx_50, kx_66, kx_67, kx_68, kx_69, kx_197, kx_198, kx_199, kx_200, kx_201, kx_202, kx_203, kx_204, kx_205, kx_206, kx_207, kx_208, kx_209, kx_210, rx_0_0, rx_0_1, rx_0_2, rx_0_3, rx_0_4, rx_0_5, rx_0_6, rx_0_7, rx_1_0, rx_1_1, rx_2_3, rx_2_4, rx_2_5, rx_2_6, rx_2_7, rx_2_8, rx_2_9, rx_10_0, rx_10_1, rx_10_2, rx_33_0, rx_33_1, rx_67_0, rx_68_0, rx_197_0, rx_199_5, rx_199_6, rx_199_7, rx_203_0, rx_203_1, rx_203_2, rx_206_0, rx_206_1, rx_206_2, rx_206_3, Option.bind_some, Option.toList_some, Option.toList_none, List.cons_append, List.nil_append, ↓reduceIte, p_137, decide_eq_true hv, zi_bI_t, zi_bI_f, tc_0, hzc, hb]
        · simp +decide only [b126_0, b126_4, b126_9, b126_18, S.n, S.k, S.r, hp_n_wi, hp_k_wi, hp_r_wi, hp_n_wl, hp_k_wl, hp_r_wl, hp_n_wb, hp_k_wb, hp_r_wb, zq_rf, kx_0, kx_1, kx_2, kx_3, kx_4, kx_5, kx_6, kx_7, kx_8, kx_9, kx_10, kx_11, kx_12, kx_13, kx_14, kx_15, kx_16, kx_17, kx_33, kx_34, kx_50, kx_66, kx_67, kx_68, kx_69, kx_197, kx_198, kx_199, kx_200, kx_201, kx_202, kx_203, kx_204, kx_205, kx_206, kx_207, kx_208, kx_209, kx_210, rx_0_0, rx_0_1, rx_0_2, rx_0_3, rx_0_4, rx_0_5, rx_0_6, rx_0_7, rx_1_0, rx_1_1, rx_2_3, rx_2_4, rx_2_5, rx_2_6, rx_2_7, rx_2_8, rx_2_9, rx_10_0, rx_10_1, rx_10_2, rx_33_0, rx_33_1, rx_67_0, rx_68_0, rx_197_0, rx_199_5, rx_199_6, rx_199_7, rx_203_0, rx_203_1, rx_203_2, rx_206_0, rx_206_1, rx_206_2, rx_206_3, Option.bind_some, Option.toList_some, Option.toList_none, List.cons_append, List.nil_append, ↓reduceIte, p_137, decide_eq_true hv, zi_bI_t, zi_bI_f, tc_1, hzc, hb]
      · show zv 2 233 0 _ _ _ = _
        rw [pr S, hb2, zi_bI_f, if_pos rfl]
    | true =>
      have hb2 : zh_b h 214 c = true := y1.symm.trans hb
      have G2 := y2 hb2
      obtain ⟨x', y', e, q⟩ := k_cw S V1 V (by omega) (x := wx h 1) (y := wy h 1) (u2' := .double 0)
      rw [zC_wx] at e
      have G1 : Gs x' y' (fun j => zh_i h 213 (387 * c + j)) := G2.sw q
      obtain ⟨h1, eh1⟩ : ∃ h1, h1 = zC h 1 x' y' := ⟨_, rfl⟩
      rw [← eh1] at e
      have O1 : GO h1 := by rw [eh1]; exact g.zC V1 G1.gw
      have S1 := O1.1
      have F1 : Fb h h1 := by rw [eh1]; exact (Fc.zC V1).1.1
      have Q1 : RO h1 := r.fc S1 F1
      have ev : zh_i h1 2 0 = zh_i h 213 (387 * c + 312) := by
        have e1 : zh_i h1 2 0 = x' 1 0 := by rw [eh1]; exact zC_i (o := 1) (by decide) 0
        obtain ⟨N, R9, M, B, L9, m, H, r9, K, C, f, I, T⟩ := id G1
        rw [e1, T.1.1.1]
      obtain ⟨v9, h9, e9, O9, F9⟩ := o_back Q1 (nI c) (u := u2)
      have er := pr S1
      have b1 : zh_b h1 214 c = true := (F1.1 214 c (by decide)).2.1.trans hb2
      rw [b1, zi_bI_t, if_neg (by decide)] at er
      rw [er] at e9
      obtain ⟨h2, eh2⟩ : ∃ h2, h2 = zh_ci h1 213 (387 * c) 212 0 387 := ⟨_, rfl⟩
      rw [← eh2] at e9 er
      obtain rfl : h2 = h9 := by injection e9 with e9; injection e9
      have i2 : ∀ a j, a ≠ 212 → zh_i h2 a j = zh_i h1 a j := fun a j ha => by rw [eh2, hp_i_ci, if_neg (fun w => ha w.1)]
      have bb2 : ∀ a j, zh_b h2 a j = zh_b h1 a j := fun a j => by rw [eh2]; rfl
      have j2 : ∀ j, j < 387 → zh_i h2 212 j = zh_i h 213 (387 * c + j) := fun j hj => by
        rw [eh2, hp_i_ci, if_pos ⟨rfl, by omega, by omega⟩, Nat.sub_zero]
        exact (F1.1 213 _ (by decide)).1
      refine ⟨zh_i h 213 (387 * c + 312), h1, h2, ?_, S1, F1.2.1.trans l, F1.2.2, ?_, O9, O1.fx O9.1 F9.1.1, ?_, ?_, ?_⟩
      · have e34 : zv 3 126 34 [.ref 0, .int (nI c)] [] h1 = some (some (.int (zh_i h1 2 0)), h1) := by
          have S := S1
          simp +decide only [b126_34, S.n, S.k, S.r, hp_n_wi, hp_k_wi, hp_r_wi, hp_n_wl, hp_k_wl, hp_r_wl, hp_n_wb, hp_k_wb, hp_r_wb, zq_rf, kx_0, kx_1, kx_2, kx_3, kx_4, kx_5, kx_6, kx_7, kx_8, kx_9, kx_10, kx_11, kx_12, kx_13, kx_14, kx_15, kx_16, kx_17, kx_33, kx_34, kx_50, kx_66, kx_67, kx_68, kx_69, kx_197, kx_198, kx_199, kx_200, kx_201, kx_202, kx_203, kx_204, kx_205, kx_206, kx_207, kx_208, kx_209, kx_210, rx_0_0, rx_0_1, rx_0_2, rx_0_3, rx_0_4, rx_0_5, rx_0_6, rx_0_7, rx_1_0, rx_1_1, rx_2_3, rx_2_4, rx_2_5, rx_2_6, rx_2_7, rx_2_8, rx_2_9, rx_10_0, rx_10_1, rx_10_2, rx_33_0, rx_33_1, rx_67_0, rx_68_0, rx_197_0, rx_199_5, rx_199_6, rx_199_7, rx_203_0, rx_203_1, rx_203_2, rx_206_0, rx_206_1, rx_206_2, rx_206_3, Option.bind_some, Option.toList_some, Option.toList_none, List.cons_append, List.nil_append, ↓reduceIte]
        have : c = 0 ∨ c = 1 := by omega
        rcases this with rfl | rfl
        · simp +decide only [b126_0, b126_4, b126_9, b126_21, S.n, S.k, S.r, hp_n_wi, hp_k_wi, hp_r_wi, hp_n_wl, hp_k_wl, hp_r_wl, hp_n_wb, hp_k_wb, hp_r_wb, zq_rf, kx_0, kx_1, kx_2, kx_3, kx_4, kx_5, kx_6, kx_7, kx_8, kx_9, kx_10, kx_11, kx_12, kx_13, kx_14, kx_15, kx_16, kx_17, kx_33, kx_34, kx_50, kx_66, kx_67, kx_68, kx_69, kx_197, kx_198, kx_199, kx_200, kx_201, kx_202, kx_203, kx_204, kx_205, kx_206, kx_207, kx_208, kx_209, kx_210, rx_0_0, rx_0_1, rx_0_2, rx_0_3, rx_0_4, rx_0_5, rx_0_6, rx_0_7, rx_1_0, rx_1_1, rx_2_3, rx_2_4, rx_2_5, rx_2_6, rx_2_7, rx_2_8, rx_2_9, rx_10_0, rx_10_1, rx_10_2, rx_33_0, rx_33_1, rx_67_0, rx_68_0, rx_197_0, rx_199_5, rx_199_6, rx_199_7, rx_203_0, rx_203_1, rx_203_2, rx_206_0, rx_206_1, rx_206_2, rx_206_3, Option.bind_some, Option.toList_some, Option.toList_none, List.cons_append, List.nil_append, ↓reduceIte, p_137, decide_eq_true hv, zi_bI_t, tc_0, hzc, hb, e, e34, ev]
        · simp +decide only [b126_0, b126_4, b126_9, b126_21, S.n, S.k, S.r, hp_n_wi, hp_k_wi, hp_r_wi, hp_n_wl, hp_k_wl, hp_r_wl, hp_n_wb, hp_k_wb, hp_r_wb, zq_rf, kx_0, kx_1, kx_2, kx_3, kx_4, kx_5, kx_6, kx_7, kx_8, kx_9, kx_10, kx_11, kx_12, kx_13, kx_14, kx_15, kx_16, kx_17, kx_33, kx_34, kx_50, kx_66, kx_67, kx_68, kx_69, kx_197, kx_198, kx_199, kx_200, kx_201, kx_202, kx_203, kx_204, kx_205, kx_206, kx_207, kx_208, kx_209, kx_210, rx_0_0, rx_0_1, rx_0_2, rx_0_3, rx_0_4, rx_0_5, rx_0_6, rx_0_7, rx_1_0, rx_1_1, rx_2_3, rx_2_4, rx_2_5, rx_2_6, rx_2_7, rx_2_8, rx_2_9, rx_10_0, rx_10_1, rx_10_2, rx_33_0, rx_33_1, rx_67_0, rx_68_0, rx_197_0, rx_199_5, rx_199_6, rx_199_7, rx_203_0, rx_203_1, rx_203_2, rx_206_0, rx_206_1, rx_206_2, rx_206_3, Option.bind_some, Option.toList_some, Option.toList_none, List.cons_append, List.nil_append, ↓reduceIte, p_137, decide_eq_true hv, zi_bI_t, tc_1, hzc, hb, e, e34, ev]
      · show zv 2 233 0 _ _ _ = _
        rw [er, (F1.1 213 _ (by decide)).1]
      · refine (G1.sw (SW.of (fun o j ho => ?_) (fun o j ho => ?_))).congr (fun j hj => j2 j hj)
        · show zh_i h2 (1 + o) j = _
          rw [i2 _ _ (by omega), eh1, zC_i ho]
        · show zh_b h2 (1 + o) j = _
          rw [bb2, eh1, zC_b ho]
      · refine X.same (fun a j vv => ?_)
        rw [i2 a j (by unfold vc at vv; omega), bb2, eh1]
        exact zC_vc vv
      · rw [F9.1.1.2.1, F1.2.1]; exact l
  · have hv : ¬ (¬ x < 0 ∧ x < 2) := fun q => hx ((rg (b := 1) (by decide)).mp q)
    refine JW.al R (JW.same G (-1) ?_ (fun h1 q' S1 => ?_))
    · simp +decide only [b126_0, b126_4, b126_7, S.n, S.k, S.r, hp_n_wi, hp_k_wi, hp_r_wi, hp_n_wl, hp_k_wl, hp_r_wl, hp_n_wb, hp_k_wb, hp_r_wb, zq_rf, kx_0, kx_1, kx_2, kx_3, kx_4, kx_5, kx_6, kx_7, kx_8, kx_9, kx_10, kx_11, kx_12, kx_13, kx_14, kx_15, kx_16, kx_17, kx_33, kx_34, kx_50, kx_66, kx_67, kx_68, kx_69, kx_197, kx_198, kx_199, kx_200, kx_201, kx_202, kx_203, kx_204, kx_205, kx_206, kx_207, kx_208, kx_209, kx_210, rx_0_0, rx_0_1, rx_0_2, rx_0_3, rx_0_4, rx_0_5, rx_0_6, rx_0_7, rx_1_0, rx_1_1, rx_2_3, rx_2_4, rx_2_5, rx_2_6, rx_2_7, rx_2_8, rx_2_9, rx_10_0, rx_10_1, rx_10_2, rx_33_0, rx_33_1, rx_67_0, rx_68_0, rx_197_0, rx_199_5, rx_199_6, rx_199_7, rx_203_0, rx_203_1, rx_203_2, rx_206_0, rx_206_1, rx_206_2, rx_206_3, Option.bind_some, Option.toList_some, Option.toList_none, List.cons_append, List.nil_append, ↓reduceIte, p_137, decide_eq_false hv, zi_bI_f]
    · show zv 2 233 0 _ _ _ = _
      rw [b233_0, show (0 : Int64) = (nI 0).toInt64 from rfl, show (1 : Int64) = (nI 1).toInt64 from rfl, c_iz hx]
      simp only [Option.bind_some, Option.toList_some, Option.toList_none, List.cons_append, List.nil_append]
      rw [b233_7, if_pos rfl, b233_10]
end R34G
