section
/-! BOTH SIDES: count, images -/
section R34G
variable {h h1 h2 : zi_Hp} {L : Nat}
theorem k_count (O : GO h) (x : Int32) : ∃ v, zv 4 131 0 [.ref 0, .int x] [] h = some (some (.int v), h) := by
  obtain ⟨S, G⟩ := id O
  obtain ⟨s, N, R, M, B, L, m, H, r, K, C, f, I, T⟩ := G 1 V1
  obtain ⟨eN, h1, hN, hM, hR⟩ := T.tr I
  obtain ⟨th, hth, -⟩ := t_thF S V1 (x := wx h 1) (y := wy h 1) eN hN hM
  obtain ⟨ve60, e60⟩ : ∃ v, zv 3 60 0 [.ref 2, .double 0, .double 0] [] h = some (some (.int v), h) := by
    have e := t_ls S V1 (x := wx h 1) (y := wy h 1) eN hN (u1 := .double 0) (u2 := .double 0)
    rw [zC_wx] at e; exact ⟨_, e⟩
  obtain ⟨ve57, e57⟩ : ∃ v, zv 2 57 0 [.ref 2, .double 0, .double 0] [] h = some (some (.int v), h) := by
    have e := t_su S V1 hth (u1 := .double 0) (u2 := .double 0)
    rw [zC_wx] at e; exact ⟨_, e⟩
  obtain ⟨ve61, e61⟩ : ∃ v, zv 1 61 0 [.ref 2, .double 0, .double 0] [] h = some (some (.int v), h) := by
    have e := t_ea S V1 (x := wx h 1) (y := wy h 1) eN hN (u1 := .double 0) (u2 := .double 0)
    rw [zC_wx] at e; exact ⟨_, e⟩
  rcases in_or x 0 5 (by decide) (by decide) with ⟨k, -, hk, rfl, -⟩ | hx
  · have : k = 0 ∨ k = 1 ∨ k = 2 ∨ k = 3 ∨ k = 4 ∨ k = 5 := by omega
    rcases this with rfl | rfl | rfl | rfl | rfl | rfl
    · rw [b131_0_c0 (x1 := nI 0) rfl]; simp +decide only [b131_0_c0, b131_0_c1, b131_0_c2, b131_0_c3, b131_0_c4, b131_0_c5, b131_0_d, b131_40, b131_50, b131_51, b131_60, b131_64, b131_65, b131_74, b131_78, b131_79, b131_81, b131_89, b131_99, b131_109, b131_110, b131_120, b131_121, S.n, S.k, S.r, hp_n_wi, hp_k_wi, hp_r_wi, hp_n_wl, hp_k_wl, hp_r_wl, hp_n_wb, hp_k_wb, hp_r_wb, zq_rf, kx_0, kx_1, kx_2, kx_3, kx_4, kx_5, kx_6, kx_7, kx_8, kx_9, kx_10, kx_11, kx_12, kx_13, kx_14, kx_15, kx_16, kx_17, kx_33, kx_34, kx_50, kx_66, kx_67, kx_68, kx_69, kx_197, kx_198, kx_199, kx_200, kx_201, kx_202, kx_203, kx_204, kx_205, kx_206, kx_207, kx_208, kx_209, kx_210, rx_0_0, rx_0_1, rx_0_2, rx_0_3, rx_0_4, rx_0_5, rx_0_6, rx_0_7, rx_1_0, rx_1_1, rx_2_3, rx_2_4, rx_2_5, rx_2_6, rx_2_7, rx_2_8, rx_2_9, rx_10_0, rx_10_1, rx_10_2, rx_33_0, rx_33_1, rx_67_0, rx_68_0, rx_197_0, rx_199_5, rx_199_6, rx_199_7, rx_203_0, rx_203_1, rx_203_2, rx_206_0, rx_206_1, rx_206_2, rx_206_3, Option.bind_some, Option.toList_some, Option.toList_none, List.cons_append, List.nil_append, ↓reduceIte, e60]; exact ⟨_, rfl⟩
    · rw [b131_0_c1 (x1 := nI 1) rfl]; simp +decide only [b131_0_c0, b131_0_c1, b131_0_c2, b131_0_c3, b131_0_c4, b131_0_c5, b131_0_d, b131_40, b131_50, b131_51, b131_60, b131_64, b131_65, b131_74, b131_78, b131_79, b131_81, b131_89, b131_99, b131_109, b131_110, b131_120, b131_121, S.n, S.k, S.r, hp_n_wi, hp_k_wi, hp_r_wi, hp_n_wl, hp_k_wl, hp_r_wl, hp_n_wb, hp_k_wb, hp_r_wb, zq_rf, kx_0, kx_1, kx_2, kx_3, kx_4, kx_5, kx_6, kx_7, kx_8, kx_9, kx_10, kx_11, kx_12, kx_13, kx_14, kx_15, kx_16, kx_17, kx_33, kx_34, kx_50, kx_66, kx_67, kx_68, kx_69, kx_197, kx_198, kx_199, kx_200, kx_201, kx_202, kx_203, kx_204, kx_205, kx_206, kx_207, kx_208, kx_209, kx_210, rx_0_0, rx_0_1, rx_0_2, rx_0_3, rx_0_4, rx_0_5, rx_0_6, rx_0_7, rx_1_0, rx_1_1, rx_2_3, rx_2_4, rx_2_5, rx_2_6, rx_2_7, rx_2_8, rx_2_9, rx_10_0, rx_10_1, rx_10_2, rx_33_0, rx_33_1, rx_67_0, rx_68_0, rx_197_0, rx_199_5, rx_199_6, rx_199_7, rx_203_0, rx_203_1, rx_203_2, rx_206_0, rx_206_1, rx_206_2, rx_206_3, Option.bind_some, Option.toList_some, Option.toList_none, List.cons_append, List.nil_append, ↓reduceIte]
      repeat' split
      all_goals exact ⟨_, rfl⟩
    · rw [b131_0_c2 (x1 := nI 2) rfl]; simp +decide only [b131_0_c0, b131_0_c1, b131_0_c2, b131_0_c3, b131_0_c4, b131_0_c5, b131_0_d, b131_40, b131_50, b131_51, b131_60, b131_64, b131_65, b131_74, b131_78, b131_79, b131_81, b131_89, b131_99, b131_109, b131_110, b131_120, b131_121, S.n, S.k, S.r, hp_n_wi, hp_k_wi, hp_r_wi, hp_n_wl, hp_k_wl, hp_r_wl, hp_n_wb, hp_k_wb, hp_r_wb, zq_rf, kx_0, kx_1, kx_2, kx_3, kx_4, kx_5, kx_6, kx_7, kx_8, kx_9, kx_10, kx_11, kx_12, kx_13, kx_14, kx_15, kx_16, kx_17, kx_33, kx_34, kx_50, kx_66, kx_67, kx_68, kx_69, kx_197, kx_198, kx_199, kx_200, kx_201, kx_202, kx_203, kx_204, kx_205, kx_206, kx_207, kx_208, kx_209, kx_210, rx_0_0, rx_0_1, rx_0_2, rx_0_3, rx_0_4, rx_0_5, rx_0_6, rx_0_7, rx_1_0, rx_1_1, rx_2_3, rx_2_4, rx_2_5, rx_2_6, rx_2_7, rx_2_8, rx_2_9, rx_10_0, rx_10_1, rx_10_2, rx_33_0, rx_33_1, rx_67_0, rx_68_0, rx_197_0, rx_199_5, rx_199_6, rx_199_7, rx_203_0, rx_203_1, rx_203_2, rx_206_0, rx_206_1, rx_206_2, rx_206_3, Option.bind_some, Option.toList_some, Option.toList_none, List.cons_append, List.nil_append, ↓reduceIte]; exact ⟨_, rfl⟩
    · rw [b131_0_c3 (x1 := nI 3) rfl]; simp +decide only [b131_0_c0, b131_0_c1, b131_0_c2, b131_0_c3, b131_0_c4, b131_0_c5, b131_0_d, b131_40, b131_50, b131_51, b131_60, b131_64, b131_65, b131_74, b131_78, b131_79, b131_81, b131_89, b131_99, b131_109, b131_110, b131_120, b131_121, S.n, S.k, S.r, hp_n_wi, hp_k_wi, hp_r_wi, hp_n_wl, hp_k_wl, hp_r_wl, hp_n_wb, hp_k_wb, hp_r_wb, zq_rf, kx_0, kx_1, kx_2, kx_3, kx_4, kx_5, kx_6, kx_7, kx_8, kx_9, kx_10, kx_11, kx_12, kx_13, kx_14, kx_15, kx_16, kx_17, kx_33, kx_34, kx_50, kx_66, kx_67, kx_68, kx_69, kx_197, kx_198, kx_199, kx_200, kx_201, kx_202, kx_203, kx_204, kx_205, kx_206, kx_207, kx_208, kx_209, kx_210, rx_0_0, rx_0_1, rx_0_2, rx_0_3, rx_0_4, rx_0_5, rx_0_6, rx_0_7, rx_1_0, rx_1_1, rx_2_3, rx_2_4, rx_2_5, rx_2_6, rx_2_7, rx_2_8, rx_2_9, rx_10_0, rx_10_1, rx_10_2, rx_33_0, rx_33_1, rx_67_0, rx_68_0, rx_197_0, rx_199_5, rx_199_6, rx_199_7, rx_203_0, rx_203_1, rx_203_2, rx_206_0, rx_206_1, rx_206_2, rx_206_3, Option.bind_some, Option.toList_some, Option.toList_none, List.cons_append, List.nil_append, ↓reduceIte]; exact ⟨_, rfl⟩
    · rw [b131_0_c4 (x1 := nI 4) rfl]; simp +decide only [b131_0_c0, b131_0_c1, b131_0_c2, b131_0_c3, b131_0_c4, b131_0_c5, b131_0_d, b131_40, b131_50, b131_51, b131_60, b131_64, b131_65, b131_74, b131_78, b131_79, b131_81, b131_89, b131_99, b131_109, b131_110, b131_120, b131_121, S.n, S.k, S.r, hp_n_wi, hp_k_wi, hp_r_wi, hp_n_wl, hp_k_wl, hp_r_wl, hp_n_wb, hp_k_wb, hp_r_wb, zq_rf, kx_0, kx_1, kx_2, kx_3, kx_4, kx_5, kx_6, kx_7, kx_8, kx_9, kx_10, kx_11, kx_12, kx_13, kx_14, kx_15, kx_16, kx_17, kx_33, kx_34, kx_50, kx_66, kx_67, kx_68, kx_69, kx_197, kx_198, kx_199, kx_200, kx_201, kx_202, kx_203, kx_204, kx_205, kx_206, kx_207, kx_208, kx_209, kx_210, rx_0_0, rx_0_1, rx_0_2, rx_0_3, rx_0_4, rx_0_5, rx_0_6, rx_0_7, rx_1_0, rx_1_1, rx_2_3, rx_2_4, rx_2_5, rx_2_6, rx_2_7, rx_2_8, rx_2_9, rx_10_0, rx_10_1, rx_10_2, rx_33_0, rx_33_1, rx_67_0, rx_68_0, rx_197_0, rx_199_5, rx_199_6, rx_199_7, rx_203_0, rx_203_1, rx_203_2, rx_206_0, rx_206_1, rx_206_2, rx_206_3, Option.bind_some, Option.toList_some, Option.toList_none, List.cons_append, List.nil_append, ↓reduceIte, e57]; exact ⟨_, rfl⟩
    · rw [b131_0_c5 (x1 := nI 5) rfl]; simp +decide only [b131_0_c0, b131_0_c1, b131_0_c2, b131_0_c3, b131_0_c4, b131_0_c5, b131_0_d, b131_40, b131_50, b131_51, b131_60, b131_64, b131_65, b131_74, b131_78, b131_79, b131_81, b131_89, b131_99, b131_109, b131_110, b131_120, b131_121, S.n, S.k, S.r, hp_n_wi, hp_k_wi, hp_r_wi, hp_n_wl, hp_k_wl, hp_r_wl, hp_n_wb, hp_k_wb, hp_r_wb, zq_rf, kx_0, kx_1, kx_2, kx_3, kx_4, kx_5, kx_6, kx_7, kx_8, kx_9, kx_10, kx_11, kx_12, kx_13, kx_14, kx_15, kx_16, kx_17, kx_33, kx_34, kx_50, kx_66, kx_67, kx_68, kx_69, kx_197, kx_198, kx_199, kx_200, kx_201, kx_202, kx_203, kx_204, kx_205, kx_206, kx_207, kx_208, kx_209, kx_210, rx_0_0, rx_0_1, rx_0_2, rx_0_3, rx_0_4, rx_0_5, rx_0_6, rx_0_7, rx_1_0, rx_1_1, rx_2_3, rx_2_4, rx_2_5, rx_2_6, rx_2_7, rx_2_8, rx_2_9, rx_10_0, rx_10_1, rx_10_2, rx_33_0, rx_33_1, rx_67_0, rx_68_0, rx_197_0, rx_199_5, rx_199_6, rx_199_7, rx_203_0, rx_203_1, rx_203_2, rx_206_0, rx_206_1, rx_206_2, rx_206_3, Option.bind_some, Option.toList_some, Option.toList_none, List.cons_append, List.nil_append, ↓reduceIte, e61]; exact ⟨_, rfl⟩
  · rw [b131_0_d (out_or (by decide) (by decide) hx), b131_121]; exact ⟨_, rfl⟩
theorem q_count (O : RO h) (x : Int32) : ∃ v, zv 3 240 0 [.ref 211, .int x] [] h = some (some (.int v), h) := by
  obtain ⟨S, J, k1, k2, k3⟩ := id O
  obtain ⟨N, R, M, B, L, m, H, r, K, C, f, I⟩ := id J
  have e1 := I.1.1.1
  have e2 := I.1.1.2.2
  have r2 : zh_r h 211 2 = .ref 214 := by rw [S.r, rx_211_2]
  have r35 : zh_r h 211 35 = .ref 230 := by rw [S.r, rx_211_35]
  have r36 : zh_r h 211 36 = .ref 231 := by rw [S.r, rx_211_36]
  have cb : ∀ x : Int32, ∃ y, zv 2 239 0 [.ref 211, .int x, .double 0, .double 0] [] h = some (some (.int y), h) := fun x => by
    have p := q_cbn (q := (zh_i h 215, zh_i h 216, zh_i h 211 5, zh_b h 217)) S e1 e2 (x := x) (u2 := .double 0) (u3 := .double 0)
    rw [zQ_id] at p
    exact ⟨_, p⟩
  have ka : ∃ y, zv 2 200 0 [.ref 211, .int 1, .double 0, .double 0, .double 0] [] h = some (some (.int y), h) := by
    have p := q_ka (q := (zh_i h 215, zh_i h 216, zh_i h 211 5, zh_b h 217)) S I (x := 1) (u2 := .double 0) (u3 := .double 0) (u4 := .double 0)
    rw [zQ_id] at p
    exact ⟨_, p⟩
  rcases in_or x 0 5 (by decide) (by decide) with ⟨k, -, hk, rfl, -⟩ | hx
  · have : k = 0 ∨ k = 1 ∨ k = 2 ∨ k = 3 ∨ k = 4 ∨ k = 5 := by omega
    rcases this with rfl | rfl | rfl | rfl | rfl | rfl
    · obtain ⟨y, ey⟩ := cb 1
      rw [b240_0_c0 (x1 := nI 0) rfl, b240_40 (S_g0 S) (S_g1 S), ey]
      simp only [Option.bind_some, Option.toList_some, Option.toList_none, List.cons_append, List.nil_append]
      rw [b240_45]; exact ⟨_, rfl⟩
    · rw [b240_0_c1 (x1 := nI 1) rfl, b240_46 (S_g0 S) (S_g1 S) (by rw [r2, zq_rf]) (by rw [r2, zq_rf, S.n]; decide) (by rw [r2, zq_rf, S.k, kx_214]; decide) (by rw [r2, zq_rf, S.k, kx_214]), r_flag]
      simp only [Option.bind_some, Option.toList_some, Option.toList_none, List.cons_append, List.nil_append]
      rw [b240_55 (S_g0 S) (S_g1 S) (by rw [r2, zq_rf]) (by rw [r2, zq_rf, S.n]; decide) (by rw [r2, zq_rf, S.k, kx_214]; decide) (by rw [r2, zq_rf, S.k, kx_214]), r_flag]
      simp only [Option.bind_some, Option.toList_some, Option.toList_none, List.cons_append, List.nil_append]
      rw [b240_64]; exact ⟨_, rfl⟩
    · rw [b240_0_c2 (x1 := nI 2) rfl, b240_66 (S_g0 S) (S_g1 S)]; exact ⟨_, rfl⟩
    · rw [b240_0_c3 (x1 := nI 3) rfl, b240_71 (S_g0 S) (S_g1 S) (by rw [r35, zq_rf]) (by rw [r35, zq_rf, S.n]; decide) (by rw [r35, zq_rf, S.k, kx_230]; decide) (by rw [r35, zq_rf, S.k, kx_230])]
      split
      · rw [b240_82, b240_93]; exact ⟨_, rfl⟩
      · rw [b240_87 (S_g0 S) (S_g1 S) (by rw [r36, zq_rf]) (by rw [r36, zq_rf, S.n]; decide) (by rw [r36, zq_rf, S.k, kx_231]; decide) (by rw [r36, zq_rf, S.k, kx_231]), b240_93]; exact ⟨_, rfl⟩
    · obtain ⟨y, ey⟩ := ka
      rw [b240_0_c4 (x1 := nI 4) rfl, b240_94 (S_g0 S) (S_g1 S), ey]
      simp only [Option.bind_some, Option.toList_some, Option.toList_none, List.cons_append, List.nil_append]
      rw [b240_99]; exact ⟨_, rfl⟩
    · obtain ⟨y, ey⟩ := cb 0
      rw [b240_0_c5 (x1 := nI 5) rfl, b240_100 (S_g0 S) (S_g1 S), ey]
      simp only [Option.bind_some, Option.toList_some, Option.toList_none, List.cons_append, List.nil_append]
      rw [b240_105]; exact ⟨_, rfl⟩
  · rw [b240_0_d, b240_106]
    · exact ⟨_, rfl⟩
    · refine Decidable.by_contra (fun w => hx ?_)
      rw [Int32.le_iff_toInt_le, Int32.le_iff_toInt_le, nI_toInt (by decide), nI_toInt (by decide)]
      omega
theorem a_count (R : R3 L h) (x : Int32) : Al2 L h (zv 4 131 0 [.ref 0, .int x] [] h) (fun m => zv 3 240 0 [.ref 211, .int x] [] m) := by
  obtain ⟨v, e⟩ := k_count R.2.1 x
  obtain ⟨v2, e2⟩ := q_count R.1 x
  exact ⟨v, v2, h, h, e, R.1.1, R.2.2.2.2, rfl, e2, R⟩
theorem im_V {k : Nat} (hk : k < 2) : Wa (34 + 16 * k) := by unfold Wa; omega
theorem im_r (S : Sh h) {k : Nat} (hk : k < 2) : zh_r h 33 k = .ref (34 + 16 * k) := by
  have : k = 0 ∨ k = 1 := by omega
  rcases this with rfl | rfl
  · rw [S.r, rx_33_0]
  · rw [S.r, rx_33_1]
theorem Sh.zi (S : Sh h) {x : Nat → Nat → Int32} {y : Nat → Nat → Bool} {W : Nat} : Sh (zC h W x y) := zC_S S
theorem a_keep (R : R3 L h) (x : Int32) {u u2 u3 : Value} : Al L h (zv 3 125 0 [.ref 0, .int x, u] [] h) (fun m => zv 2 232 0 [.ref 211, .int x, u2, u3] [] m) := by
  obtain ⟨r, g, G, X, l⟩ := id R
  have S := r.1
  rcases in_or x 0 1 (by decide) (by decide) with ⟨c, -, hc, rfl, hx⟩ | hx
  · have hc2 : c < 2 := by omega
    have hv : ¬ nI c < 0 ∧ nI c < 2 := (rg (b := 1) (by decide)).mpr hx
    have nc : (nI c).toNatClampNeg = c := nI_clamp (by omega)
    have hzc : ¬ (nI c < 0 ∨ 2 ≤ (nI c).toNatClampNeg) := zj_n hc2 (by decide)
    have V := im_V hc2
    obtain ⟨x', y', e, q⟩ := k_cw S V V1 (by omega) (x := wx h (34 + 16 * c)) (y := wy h (34 + 16 * c)) (u2' := .double 0)
    rw [zC_wx] at e
    obtain ⟨h1, eh1⟩ : ∃ h1, h1 = zC h (34 + 16 * c) x' y' := ⟨_, rfl⟩
    rw [← eh1] at e
    have G1 : Gs x' y' (zh_i h 212) := G.sw q
    have O1 : GO h1 := by rw [eh1]; exact g.zC V G1.gw
    have S1 := O1.1
    obtain ⟨h2, eh2⟩ : ∃ h2, h2 = zh_wb h1 66 c true := ⟨_, rfl⟩
    have O2 : GO h2 := by rw [eh2]; exact O1.wb wo_66
    have S2 := O2.1
    have F1 : Fb h h2 := by rw [eh2, eh1]; exact (Fc.zC V).1.1.trans (Fb.wb (by decide))
    have r0 : zh_r h 0 2 = .ref 33 := by rw [S.r, rx_0_2]
    have r3 : zh_r h 0 3 = .ref 66 := by rw [S.r, rx_0_3]
    have r00 : zh_r h 0 0 = .ref 1 := by rw [S.r, rx_0_0]
    have e37 : ∀ {b : Int32}, zv 3 125 37 [.ref 0, .int (nI c), .int b] [] h1 = some (some (.int b), h2) := fun {b} => by
      have S := S1
      rw [eh2]
      have : c = 0 ∨ c = 1 := by omega
      rcases this with rfl | rfl
      · simp +decide only [b125_37, S.n, S.k, S.r, hp_n_wi, hp_k_wi, hp_r_wi, hp_n_wl, hp_k_wl, hp_r_wl, hp_n_wb, hp_k_wb, hp_r_wb, zq_rf, kx_0, kx_1, kx_2, kx_3, kx_4, kx_5, kx_6, kx_7, kx_8, kx_9, kx_10, kx_11, kx_12, kx_13, kx_14, kx_15, kx_16, kx_17, kx_33, kx_34, kx_50, kx_66, kx_67, kx_68, kx_69, kx_197, kx_198, kx_199, kx_200, kx_201, kx_202, kx_203, kx_204, kx_205, kx_206, kx_207, kx_208, kx_209, kx_210, rx_0_0, rx_0_1, rx_0_2, rx_0_3, rx_0_4, rx_0_5, rx_0_6, rx_0_7, rx_1_0, rx_1_1, rx_2_3, rx_2_4, rx_2_5, rx_2_6, rx_2_7, rx_2_8, rx_2_9, rx_10_0, rx_10_1, rx_10_2, rx_33_0, rx_33_1, rx_67_0, rx_68_0, rx_197_0, rx_199_5, rx_199_6, rx_199_7, rx_203_0, rx_203_1, rx_203_2, rx_206_0, rx_206_1, rx_206_2, rx_206_3, Option.bind_some, Option.toList_some, Option.toList_none, List.cons_append, List.nil_append, ↓reduceIte, tc_0, hzc]
      · simp +decide only [b125_37, S.n, S.k, S.r, hp_n_wi, hp_k_wi, hp_r_wi, hp_n_wl, hp_k_wl, hp_r_wl, hp_n_wb, hp_k_wb, hp_r_wb, zq_rf, kx_0, kx_1, kx_2, kx_3, kx_4, kx_5, kx_6, kx_7, kx_8, kx_9, kx_10, kx_11, kx_12, kx_13, kx_14, kx_15, kx_16, kx_17, kx_33, kx_34, kx_50, kx_66, kx_67, kx_68, kx_69, kx_197, kx_198, kx_199, kx_200, kx_201, kx_202, kx_203, kx_204, kx_205, kx_206, kx_207, kx_208, kx_209, kx_210, rx_0_0, rx_0_1, rx_0_2, rx_0_3, rx_0_4, rx_0_5, rx_0_6, rx_0_7, rx_1_0, rx_1_1, rx_2_3, rx_2_4, rx_2_5, rx_2_6, rx_2_7, rx_2_8, rx_2_9, rx_10_0, rx_10_1, rx_10_2, rx_33_0, rx_33_1, rx_67_0, rx_68_0, rx_197_0, rx_199_5, rx_199_6, rx_199_7, rx_203_0, rx_203_1, rx_203_2, rx_206_0, rx_206_1, rx_206_2, rx_206_3, Option.bind_some, Option.toList_some, Option.toList_none, List.cons_append, List.nil_append, ↓reduceIte, tc_1, hzc]
    have e23 : ∀ {b : Int32}, zv 3 125 23 [.ref 0, .int (nI c), u] [.int b] h = some (some (.int b), h2) := fun {b} => by
      have : c = 0 ∨ c = 1 := by omega
      rcases this with rfl | rfl
      · simp +decide only [b125_23, S.n, S.k, S.r, hp_n_wi, hp_k_wi, hp_r_wi, hp_n_wl, hp_k_wl, hp_r_wl, hp_n_wb, hp_k_wb, hp_r_wb, zq_rf, kx_0, kx_1, kx_2, kx_3, kx_4, kx_5, kx_6, kx_7, kx_8, kx_9, kx_10, kx_11, kx_12, kx_13, kx_14, kx_15, kx_16, kx_17, kx_33, kx_34, kx_50, kx_66, kx_67, kx_68, kx_69, kx_197, kx_198, kx_199, kx_200, kx_201, kx_202, kx_203, kx_204, kx_205, kx_206, kx_207, kx_208, kx_209, kx_210, rx_0_0, rx_0_1, rx_0_2, rx_0_3, rx_0_4, rx_0_5, rx_0_6, rx_0_7, rx_1_0, rx_1_1, rx_2_3, rx_2_4, rx_2_5, rx_2_6, rx_2_7, rx_2_8, rx_2_9, rx_10_0, rx_10_1, rx_10_2, rx_33_0, rx_33_1, rx_67_0, rx_68_0, rx_197_0, rx_199_5, rx_199_6, rx_199_7, rx_203_0, rx_203_1, rx_203_2, rx_206_0, rx_206_1, rx_206_2, rx_206_3, Option.bind_some, Option.toList_some, Option.toList_none, List.cons_append, List.nil_append, ↓reduceIte, tc_0, hzc, e, e37]
      · simp +decide only [b125_23, S.n, S.k, S.r, hp_n_wi, hp_k_wi, hp_r_wi, hp_n_wl, hp_k_wl, hp_r_wl, hp_n_wb, hp_k_wb, hp_r_wb, zq_rf, kx_0, kx_1, kx_2, kx_3, kx_4, kx_5, kx_6, kx_7, kx_8, kx_9, kx_10, kx_11, kx_12, kx_13, kx_14, kx_15, kx_16, kx_17, kx_33, kx_34, kx_50, kx_66, kx_67, kx_68, kx_69, kx_197, kx_198, kx_199, kx_200, kx_201, kx_202, kx_203, kx_204, kx_205, kx_206, kx_207, kx_208, kx_209, kx_210, rx_0_0, rx_0_1, rx_0_2, rx_0_3, rx_0_4, rx_0_5, rx_0_6, rx_0_7, rx_1_0, rx_1_1, rx_2_3, rx_2_4, rx_2_5, rx_2_6, rx_2_7, rx_2_8, rx_2_9, rx_10_0, rx_10_1, rx_10_2, rx_33_0, rx_33_1, rx_67_0, rx_68_0, rx_197_0, rx_199_5, rx_199_6, rx_199_7, rx_203_0, rx_203_1, rx_203_2, rx_206_0, rx_206_1, rx_206_2, rx_206_3, Option.bind_some, Option.toList_some, Option.toList_none, List.cons_append, List.nil_append, ↓reduceIte, tc_1, hzc, e, e37]
    have ec : zv 3 125 0 [.ref 0, .int (nI c), u] [] h = some (some (.int (zi_bI (zh_b h 66 c))), h2) := by
      have : c = 0 ∨ c = 1 := by omega
      rcases this with rfl | rfl
      · cases hb : zh_b h 66 0 with
        | false => simp +decide only [b125_0, b125_4, b125_9, b125_18, b125_22, S.n, S.k, S.r, hp_n_wi, hp_k_wi, hp_r_wi, hp_n_wl, hp_k_wl, hp_r_wl, hp_n_wb, hp_k_wb, hp_r_wb, zq_rf, kx_0, kx_1, kx_2, kx_3, kx_4, kx_5, kx_6, kx_7, kx_8, kx_9, kx_10, kx_11, kx_12, kx_13, kx_14, kx_15, kx_16, kx_17, kx_33, kx_34, kx_50, kx_66, kx_67, kx_68, kx_69, kx_197, kx_198, kx_199, kx_200, kx_201, kx_202, kx_203, kx_204, kx_205, kx_206, kx_207, kx_208, kx_209, kx_210, rx_0_0, rx_0_1, rx_0_2, rx_0_3, rx_0_4, rx_0_5, rx_0_6, rx_0_7, rx_1_0, rx_1_1, rx_2_3, rx_2_4, rx_2_5, rx_2_6, rx_2_7, rx_2_8, rx_2_9, rx_10_0, rx_10_1, rx_10_2, rx_33_0, rx_33_1, rx_67_0, rx_68_0, rx_197_0, rx_199_5, rx_199_6, rx_199_7, rx_203_0, rx_203_1, rx_203_2, rx_206_0, rx_206_1, rx_206_2, rx_206_3, Option.bind_some, Option.toList_some, Option.toList_none, List.cons_append, List.nil_append, ↓reduceIte, p_137, decide_eq_true hv, zi_bI_t, zi_bI_f, tc_0, hzc, hb, e23]
        | true => simp +decide only [b125_0, b125_4, b125_9, b125_18, b125_22, S.n, S.k, S.r, hp_n_wi, hp_k_wi, hp_r_wi, hp_n_wl, hp_k_wl, hp_r_wl, hp_n_wb, hp_k_wb, hp_r_wb, zq_rf, kx_0, kx_1, kx_2, kx_3, kx_4, kx_5, kx_6, kx_7, kx_8, kx_9, kx_10, kx_11, kx_12, kx_13, kx_14, kx_15, kx_16, kx_17, kx_33, kx_34, kx_50, kx_66, kx_67, kx_68, kx_69, kx_197, kx_198, kx_199, kx_200, kx_201, kx_202, kx_203, kx_204, kx_205, kx_206, kx_207, kx_208, kx_209, kx_210, rx_0_0, rx_0_1, rx_0_2, rx_0_3, rx_0_4, rx_0_5, rx_0_6, rx_0_7, rx_1_0, rx_1_1, rx_2_3, rx_2_4, rx_2_5, rx_2_6, rx_2_7, rx_2_8, rx_2_9, rx_10_0, rx_10_1, rx_10_2, rx_33_0, rx_33_1, rx_67_0, rx_68_0, rx_197_0, rx_199_5, rx_199_6, rx_199_7, rx_203_0, rx_203_1, rx_203_2, rx_206_0, rx_206_1, rx_206_2, rx_206_3, Option.bind_some, Option.toList_some, Option.toList_none, List.cons_append, List.nil_append, ↓reduceIte, p_137, decide_eq_true hv, zi_bI_t, zi_bI_f, tc_0, hzc, hb, e23]
      · cases hb : zh_b h 66 1 with
        | false => simp +decide only [b125_0, b125_4, b125_9, b125_18, b125_22, S.n, S.k, S.r, hp_n_wi, hp_k_wi, hp_r_wi, hp_n_wl, hp_k_wl, hp_r_wl, hp_n_wb, hp_k_wb, hp_r_wb, zq_rf, kx_0, kx_1, kx_2, kx_3, kx_4, kx_5, kx_6, kx_7, kx_8, kx_9, kx_10, kx_11, kx_12, kx_13, kx_14, kx_15, kx_16, kx_17, kx_33, kx_34, kx_50, kx_66, kx_67, kx_68, kx_69, kx_197, kx_198, kx_199, kx_200, kx_201, kx_202, kx_203, kx_204, kx_205, kx_206, kx_207, kx_208, kx_209, kx_210, rx_0_0, rx_0_1, rx_0_2, rx_0_3, rx_0_4, rx_0_5, rx_0_6, rx_0_7, rx_1_0, rx_1_1, rx_2_3, rx_2_4, rx_2_5, rx_2_6, rx_2_7, rx_2_8, rx_2_9, rx_10_0, rx_10_1, rx_10_2, rx_33_0, rx_33_1, rx_67_0, rx_68_0, rx_197_0, rx_199_5, rx_199_6, rx_199_7, rx_203_0, rx_203_1, rx_203_2, rx_206_0, rx_206_1, rx_206_2, rx_206_3, Option.bind_some, Option.toList_some, Option.toList_none, List.cons_append, List.nil_append, ↓reduceIte, p_137, decide_eq_true hv, zi_bI_t, zi_bI_f, tc_1, hzc, hb, e23]
        | true => simp +decide only [b125_0, b125_4, b125_9, b125_18, b125_22, S.n, S.k, S.r, hp_n_wi, hp_k_wi, hp_r_wi, hp_n_wl, hp_k_wl, hp_r_wl, hp_n_wb, hp_k_wb, hp_r_wb, zq_rf, kx_0, kx_1, kx_2, kx_3, kx_4, kx_5, kx_6, kx_7, kx_8, kx_9, kx_10, kx_11, kx_12, kx_13, kx_14, kx_15, kx_16, kx_17, kx_33, kx_34, kx_50, kx_66, kx_67, kx_68, kx_69, kx_197, kx_198, kx_199, kx_200, kx_201, kx_202, kx_203, kx_204, kx_205, kx_206, kx_207, kx_208, kx_209, kx_210, rx_0_0, rx_0_1, rx_0_2, rx_0_3, rx_0_4, rx_0_5, rx_0_6, rx_0_7, rx_1_0, rx_1_1, rx_2_3, rx_2_4, rx_2_5, rx_2_6, rx_2_7, rx_2_8, rx_2_9, rx_10_0, rx_10_1, rx_10_2, rx_33_0, rx_33_1, rx_67_0, rx_68_0, rx_197_0, rx_199_5, rx_199_6, rx_199_7, rx_203_0, rx_203_1, rx_203_2, rx_206_0, rx_206_1, rx_206_2, rx_206_3, Option.bind_some, Option.toList_some, Option.toList_none, List.cons_append, List.nil_append, ↓reduceIte, p_137, decide_eq_true hv, zi_bI_t, zi_bI_f, tc_1, hzc, hb, e23]
    have Q2 : RO h2 := r.fc S2 F1
    obtain ⟨h3, eh3⟩ : ∃ h3, h3 = zh_ci (zh_wb h2 214 c true) 212 0 213 (387 * c) 387 := ⟨_, rfl⟩
    have er : zv 2 232 0 [.ref 211, .int (nI c), u2, u3] [] h2 = some (some (.int (zi_bI (zh_b h 66 c))), h3) := by
      have S := S2
      have r2 : zh_r h2 211 2 = .ref 214 := by rw [S.r, rx_211_2]
      rw [b232_0, show (0 : Int64) = (nI 0).toInt64 from rfl, show (1 : Int64) = (nI 1).toInt64 from rfl, c_iy hx]
      simp only [Option.bind_some, Option.toList_some, Option.toList_none, List.cons_append, List.nil_append]
      rw [b232_7, if_neg (by decide), b232_12 (S_g0 S) (S_g1 S) (by rw [r2, zq_rf]) (by rw [r2, zq_rf, S.n]; decide) (by rw [r2, zq_rf, S.k, kx_214]; exact hzc) (by rw [r2, zq_rf, S.k, kx_214]), r_flag]
      simp only [Option.bind_some, Option.toList_some, Option.toList_none, List.cons_append, List.nil_append]
      rw [b232_21 (S_g0 S) (S_g1 S) (by rw [r2, zq_rf]) (by rw [r2, zq_rf, S.n]; decide) (by rw [r2, zq_rf, S.k, kx_214]; exact hzc) (by rw [r2, zq_rf, S.k, kx_214]), r2, zq_rf, nc, c_keepL (S.wb 214 c true) hc2, eh3, bI_fl, (F1.1 214 c (by decide)).2.1, (X.1 c hc2).1]
    obtain ⟨v9, h9, e9, O9, F9⟩ := o_keep Q2 (nI c) (u := u2) (v := u3)
    rw [er] at e9
    obtain rfl : h3 = h9 := by injection e9 with e9; injection e9
    have i3 : ∀ a j, a ≠ 213 → zh_i h3 a j = zh_i h2 a j := fun a j ha => by
      rw [eh3, hp_i_ci, if_neg (fun w => ha w.1)]; rfl
    have j3 : ∀ j, j < 387 → zh_i h3 213 (387 * c + j) = zh_i h 212 j := fun j hj => by
      rw [eh3, hp_i_ci, if_pos ⟨rfl, by omega, by omega⟩, Nat.zero_add, show 387 * c + j - 387 * c = j by omega]
      exact (F1.1 212 j (by decide)).1
    have k3 : ∀ k j, k ≠ c → j < 387 → zh_i h3 213 (387 * k + j) = zh_i h 213 (387 * k + j) := fun k j hk hj => by
      rw [eh3, hp_i_ci, if_neg (fun w => by omega)]
      exact (F1.1 213 _ (by decide)).1
    have b3 : ∀ a j, (a ≠ 214 ∨ j ≠ c) → zh_b h3 a j = zh_b h2 a j := fun a j ha => by
      rw [eh3]
      show zh_b (zh_wb h2 214 c true) a j = _
      rw [hp_b_wb, if_neg (fun w => by omega)]
    have b3c : zh_b h3 214 c = true := by
      rw [eh3]
      show zh_b (zh_wb h2 214 c true) 214 c = _
      rw [hp_b_wb, if_pos ⟨rfl, rfl⟩]
    have i2 : ∀ a j, (a < 34 + 16 * c ∨ 34 + 16 * c + 16 ≤ a) → zh_i h2 a j = zh_i h a j := fun a j ha => by
      rw [eh2]
      show zh_i h1 a j = _
      rw [eh1]
      exact zC_io j ha
    have b2 : ∀ a j, (a < 34 + 16 * c ∨ 34 + 16 * c + 16 ≤ a) → (a ≠ 66 ∨ j ≠ c) → zh_b h2 a j = zh_b h a j := fun a j ha hj => by
      rw [eh2, hp_b_wb, if_neg (fun w => by omega), eh1]
      exact zC_bo j ha
    have b2c : zh_b h2 66 c = true := by rw [eh2, hp_b_wb, if_pos ⟨rfl, rfl⟩]
    have m2 : ∀ o j, o < 16 → zh_i h2 (34 + 16 * c + o) j = x' o j ∧ zh_b h2 (34 + 16 * c + o) j = y' o j := fun o j ho => by
      refine ⟨?_, ?_⟩
      · rw [eh2]
        show zh_i h1 _ j = _
        rw [eh1]
        exact zC_i ho j
      · rw [eh2, hp_b_wb, if_neg (fun w => by omega), eh1]
        exact zC_b ho j
    refine ⟨_, h2, h3, ec, S2, F1.2.1.trans l, F1.2.2, er, O9, O2.fx O9.1 F9.1.1, ?_, ⟨fun k hk => ?_, ?_, fun t ht et j hj => ?_, fun k hk => ?_, fun k hk i hi => ?_, ?_⟩, ?_⟩
    · refine G.of1 (fun o j ho => ⟨?_, ?_⟩) (fun j _ => ?_)
      · rw [i3 _ _ (by omega), i2 _ _ (by omega)]
      · rw [b3 _ _ (by omega), b2 _ _ (by omega) (by omega)]
      · rw [i3 _ _ (by decide), i2 _ _ (by omega)]
    · by_cases ek : k = c
      · subst ek
        refine ⟨by rw [b3 _ _ (by omega), b2c, b3c], fun _ => ?_⟩
        refine (G1.sw (SW.of (fun o j ho => ?_) (fun o j ho => ?_))).congr (fun j hj => j3 j hj)
        · show zh_i h3 (34 + 16 * k + o) j = _
          rw [i3 _ _ (by omega), (m2 o j ho).1]
        · show zh_b h3 (34 + 16 * k + o) j = _
          rw [b3 _ _ (by omega), (m2 o j ho).2]
      · obtain ⟨y1, y2⟩ := X.1 k hk
        refine ⟨by rw [b3 _ _ (by omega), b3 _ _ (by omega), b2 _ _ (by omega) (by omega), b2 _ _ (by omega) (by omega)]; exact y1, fun hb => ?_⟩
        rw [b3 _ _ (by omega), b2 _ _ (by omega) (by omega)] at hb
        refine ((y2 hb).sw (SW.of (fun o j ho => ?_) (fun o j ho => ?_))).congr (fun j hj => k3 k j ek hj)
        · show zh_i h3 (34 + 16 * k + o) j = _
          rw [i3 _ _ (by omega), i2 _ _ (by omega)]; rfl
        · show zh_b h3 (34 + 16 * k + o) j = _
          rw [b3 _ _ (by omega), b2 _ _ (by omega) (by omega)]; rfl
    · rw [i3 _ _ (by decide), i3 _ _ (by decide), i2 _ _ (by omega), i2 _ _ (by omega)]; exact X.2.1
    · rw [i3 _ _ (by decide), i2 _ _ (by omega)] at et
      rw [i3 _ _ (by decide), i3 _ _ (by decide), i2 _ _ (by omega), i2 _ _ (by omega)]
      exact X.2.2.1 t ht et j hj
    · rw [i3 _ _ (by decide), i3 _ _ (by decide), i3 _ _ (by decide), i3 _ _ (by decide), i2 _ _ (by omega), i2 _ _ (by omega), i2 _ _ (by omega), i2 _ _ (by omega)]
      exact X.2.2.2.1 k hk
    · rw [i3 _ _ (by omega), i3 _ _ (by decide), i2 _ _ (by omega), i2 _ _ (by omega)]
      exact X.2.2.2.2.1 k hk i hi
    · rw [i3 _ _ (by decide), i3 _ _ (by decide), i2 _ _ (by omega), i2 _ _ (by omega)]; exact X.2.2.2.2.2
    · rw [F9.1.1.2.1, F1.2.1]; exact l
  · have hv : ¬ (¬ x < 0 ∧ x < 2) := fun q => hx ((rg (b := 1) (by decide)).mp q)
    refine JW.al R (JW.same G (-1) ?_ (fun h1 q' S1 => ?_))
    · simp +decide only [b125_0, b125_4, b125_7, S.n, S.k, S.r, hp_n_wi, hp_k_wi, hp_r_wi, hp_n_wl, hp_k_wl, hp_r_wl, hp_n_wb, hp_k_wb, hp_r_wb, zq_rf, kx_0, kx_1, kx_2, kx_3, kx_4, kx_5, kx_6, kx_7, kx_8, kx_9, kx_10, kx_11, kx_12, kx_13, kx_14, kx_15, kx_16, kx_17, kx_33, kx_34, kx_50, kx_66, kx_67, kx_68, kx_69, kx_197, kx_198, kx_199, kx_200, kx_201, kx_202, kx_203, kx_204, kx_205, kx_206, kx_207, kx_208, kx_209, kx_210, rx_0_0, rx_0_1, rx_0_2, rx_0_3, rx_0_4, rx_0_5, rx_0_6, rx_0_7, rx_1_0, rx_1_1, rx_2_3, rx_2_4, rx_2_5, rx_2_6, rx_2_7, rx_2_8, rx_2_9, rx_10_0, rx_10_1, rx_10_2, rx_33_0, rx_33_1, rx_67_0, rx_68_0, rx_197_0, rx_199_5, rx_199_6, rx_199_7, rx_203_0, rx_203_1, rx_203_2, rx_206_0, rx_206_1, rx_206_2, rx_206_3, Option.bind_some, Option.toList_some, Option.toList_none, List.cons_append, List.nil_append, ↓reduceIte, p_137, decide_eq_false hv, zi_bI_f]
    · show zv 2 232 0 _ _ _ = _
      rw [b232_0, show (0 : Int64) = (nI 0).toInt64 from rfl, show (1 : Int64) = (nI 1).toInt64 from rfl, c_iz hx]
      simp only [Option.bind_some, Option.toList_some, Option.toList_none, List.cons_append, List.nil_append]
      rw [b232_7, if_pos rfl, b232_10]
theorem a_back (R : R3 L h) (x : Int32) {u2 : Value} : Al L h (zv 3 126 0 [.ref 0, .int x] [] h) (fun m => zv 2 233 0 [.ref 211, .int x, u2] [] m) := by
  obtain ⟨r, g, G, X, l⟩ := id R
  have S := r.1
  rcases in_or x 0 1 (by decide) (by decide) with ⟨c, -, hc, rfl, hx⟩ | hx
  · have hc2 : c < 2 := by omega
    have hv : ¬ nI c < 0 ∧ nI c < 2 := (rg (b := 1) (by decide)).mpr hx
    have nc : (nI c).toNatClampNeg = c := nI_clamp (by omega)
    have hzc : ¬ (nI c < 0 ∨ 2 ≤ (nI c).toNatClampNeg) := zj_n hc2 (by decide)
    have V := im_V hc2
    obtain ⟨y1, y2⟩ := X.1 c hc2
    have pr : ∀ {m : zi_Hp}, Sh m → zv 2 233 0 [.ref 211, .int (nI c), u2] [] m = if zi_bI (zh_b m 214 c) = 0 then some (some (.int (-2)), m) else some (some (.int (zh_i m 213 (387 * c + 312))), zh_ci m 213 (387 * c) 212 0 387) := fun {m} S => by
      have r2 : zh_r m 211 2 = .ref 214 := by rw [S.r, rx_211_2]
      rw [b233_0, show (0 : Int64) = (nI 0).toInt64 from rfl, show (1 : Int64) = (nI 1).toInt64 from rfl, c_iy hx]
      simp only [Option.bind_some, Option.toList_some, Option.toList_none, List.cons_append, List.nil_append]
      rw [b233_7, if_neg (by decide), b233_12 (S_g0 S) (S_g1 S) (by rw [r2, zq_rf]) (by rw [r2, zq_rf, S.n]; decide) (by rw [r2, zq_rf, S.k, kx_214]; exact hzc) (by rw [r2, zq_rf, S.k, kx_214]), r2, zq_rf, nc, b233_21, b233_24, c_backL S hc2]
    cases hb : zh_b h 66 c with
    | false =>
      have hb2 : zh_b h 214 c = false := y1.symm.trans hb
      refine ⟨-2, h, h, ?_, S, l, rfl, ?_, R⟩
      · have : c = 0 ∨ c = 1 := by omega
        rcases this with rfl | rfl
        · simp +decide only [b126_0, b126_4, b126_9, b126_18, S.n, S.k, S.r, hp_n_wi, hp_k_wi, hp_r_wi, hp_n_wl, hp_k_wl, hp_r_wl, hp_n_wb, hp_k_wb, hp_r_wb, zq_rf, kx_0, kx_1, kx_2, kx_3, kx_4, kx_5, kx_6, kx_7, kx_8, kx_9, kx_10, kx_11, kx_12, kx_13, kx_14, kx_15, kx_16, kx_17, kx_33, kx_34, kx_50, kx_66, kx_67, kx_68, kx_69, kx_197, kx_198, kx_199, kx_200, kx_201, kx_202, kx_203, kx_204, kx_205, kx_206, kx_207, kx_208, kx_209, kx_210, rx_0_0, rx_0_1, rx_0_2, rx_0_3, rx_0_4, rx_0_5, rx_0_6, rx_0_7, rx_1_0, rx_1_1, rx_2_3, rx_2_4, rx_2_5, rx_2_6, rx_2_7, rx_2_8, rx_2_9, rx_10_0, rx_10_1, rx_10_2, rx_33_0, rx_33_1, rx_67_0, rx_68_0, rx_197_0, rx_199_5, rx_199_6, rx_199_7, rx_203_0, rx_203_1, rx_203_2, rx_206_0, rx_206_1, rx_206_2, rx_206_3, Option.bind_some, Option.toList_some, Option.toList_none, List.cons_append, List.nil_append, ↓reduceIte, p_137, decide_eq_true hv, zi_bI_t, zi_bI_f, tc_0, hzc, hb]
        · simp +decide only [b126_0, b126_4, b126_9, b126_18, S.n, S.k, S.r, hp_n_wi, hp_k_wi, hp_r_wi, hp_n_wl, hp_k_wl, hp_r_wl, hp_n_wb, hp_k_wb, hp_r_wb, zq_rf, kx_0, kx_1, kx_2, kx_3, kx_4, kx_5, kx_6, kx_7, kx_8, kx_9, kx_10, kx_11, kx_12, kx_13, kx_14, kx_15, kx_16, kx_17, kx_33, kx_34, kx_50, kx_66, kx_67, kx_68, kx_69, kx_197, kx_198, kx_199, kx_200, kx_201, kx_202, kx_203, kx_204, kx_205, kx_206, kx_207, kx_208, kx_209, kx_210, rx_0_0, rx_0_1, rx_0_2, rx_0_3, rx_0_4, rx_0_5, rx_0_6, rx_0_7, rx_1_0, rx_1_1, rx_2_3, rx_2_4, rx_2_5, rx_2_6, rx_2_7, rx_2_8, rx_2_9, rx_10_0, rx_10_1, rx_10_2, rx_33_0, rx_33_1, rx_67_0, rx_68_0, rx_197_0, rx_199_5, rx_199_6, rx_199_7, rx_203_0, rx_203_1, rx_203_2, rx_206_0, rx_206_1, rx_206_2, rx_206_3, Option.bind_some, Option.toList_some, Option.toList_none, List.cons_append, List.nil_append, ↓reduceIte, p_137, decide_eq_true hv, zi_bI_t, zi_bI_f, tc_1, hzc, hb]
      · show zv 2 233 0 _ _ _ = _
        rw [pr S, hb2, zi_bI_f, if_pos rfl]
    | true =>
      have hb2 : zh_b h 214 c = true := y1.symm.trans hb
      have G2 := y2 hb2
      obtain ⟨x', y', e, q⟩ := k_cw S V1 V (by omega) (x := wx h 1) (y := wy h 1) (u2' := .double 0)
      rw [zC_wx] at e
      have G1 : Gs x' y' (fun j => zh_i h 213 (387 * c + j)) := G2.sw q
      obtain ⟨h1, eh1⟩ : ∃ h1, h1 = zC h 1 x' y' := ⟨_, rfl⟩
      rw [← eh1] at e
      have O1 : GO h1 := by rw [eh1]; exact g.zC V1 G1.gw
      have S1 := O1.1
      have F1 : Fb h h1 := by rw [eh1]; exact (Fc.zC V1).1.1
      have Q1 : RO h1 := r.fc S1 F1
      have ev : zh_i h1 2 0 = zh_i h 213 (387 * c + 312) := by
        have e1 : zh_i h1 2 0 = x' 1 0 := by rw [eh1]; exact zC_i (o := 1) (by decide) 0
        obtain ⟨N, R9, M, B, L9, m, H, r9, K, C, f, I, T⟩ := id G1
        rw [e1, T.1.1.1]
      obtain ⟨v9, h9, e9, O9, F9⟩ := o_back Q1 (nI c) (u := u2)
      have er := pr S1
      have b1 : zh_b h1 214 c = true := (F1.1 214 c (by decide)).2.1.trans hb2
      rw [b1, zi_bI_t, if_neg (by decide)] at er
      rw [er] at e9
      obtain ⟨h2, eh2⟩ : ∃ h2, h2 = zh_ci h1 213 (387 * c) 212 0 387 := ⟨_, rfl⟩
      rw [← eh2] at e9 er
      obtain rfl : h2 = h9 := by injection e9 with e9; injection e9
      have i2 : ∀ a j, a ≠ 212 → zh_i h2 a j = zh_i h1 a j := fun a j ha => by rw [eh2, hp_i_ci, if_neg (fun w => ha w.1)]
      have bb2 : ∀ a j, zh_b h2 a j = zh_b h1 a j := fun a j => by rw [eh2]; rfl
      have j2 : ∀ j, j < 387 → zh_i h2 212 j = zh_i h 213 (387 * c + j) := fun j hj => by
        rw [eh2, hp_i_ci, if_pos ⟨rfl, by omega, by omega⟩, Nat.sub_zero]
        exact (F1.1 213 _ (by decide)).1
      refine ⟨zh_i h 213 (387 * c + 312), h1, h2, ?_, S1, F1.2.1.trans l, F1.2.2, ?_, O9, O1.fx O9.1 F9.1.1, ?_, ?_, ?_⟩
      · have e34 : zv 3 126 34 [.ref 0, .int (nI c)] [] h1 = some (some (.int (zh_i h1 2 0)), h1) := by
          have S := S1
          simp +decide only [b126_34, S.n, S.k, S.r, hp_n_wi, hp_k_wi, hp_r_wi, hp_n_wl, hp_k_wl, hp_r_wl, hp_n_wb, hp_k_wb, hp_r_wb, zq_rf, kx_0, kx_1, kx_2, kx_3, kx_4, kx_5, kx_6, kx_7, kx_8, kx_9, kx_10, kx_11, kx_12, kx_13, kx_14, kx_15, kx_16, kx_17, kx_33, kx_34, kx_50, kx_66, kx_67, kx_68, kx_69, kx_197, kx_198, kx_199, kx_200, kx_201, kx_202, kx_203, kx_204, kx_205, kx_206, kx_207, kx_208, kx_209, kx_210, rx_0_0, rx_0_1, rx_0_2, rx_0_3, rx_0_4, rx_0_5, rx_0_6, rx_0_7, rx_1_0, rx_1_1, rx_2_3, rx_2_4, rx_2_5, rx_2_6, rx_2_7, rx_2_8, rx_2_9, rx_10_0, rx_10_1, rx_10_2, rx_33_0, rx_33_1, rx_67_0, rx_68_0, rx_197_0, rx_199_5, rx_199_6, rx_199_7, rx_203_0, rx_203_1, rx_203_2, rx_206_0, rx_206_1, rx_206_2, rx_206_3, Option.bind_some, Option.toList_some, Option.toList_none, List.cons_append, List.nil_append, ↓reduceIte]
        have : c = 0 ∨ c = 1 := by omega
        rcases this with rfl | rfl
        · simp +decide only [b126_0, b126_4, b126_9, b126_21, S.n, S.k, S.r, hp_n_wi, hp_k_wi, hp_r_wi, hp_n_wl, hp_k_wl, hp_r_wl, hp_n_wb, hp_k_wb, hp_r_wb, zq_rf, kx_0, kx_1, kx_2, kx_3, kx_4, kx_5, kx_6, kx_7, kx_8, kx_9, kx_10, kx_11, kx_12, kx_13, kx_14, kx_15, kx_16, kx_17, kx_33, kx_34, kx_50, kx_66, kx_67, kx_68, kx_69, kx_197, kx_198, kx_199, kx_200, kx_201, kx_202, kx_203, kx_204, kx_205, kx_206, kx_207, kx_208, kx_209, kx_210, rx_0_0, rx_0_1, rx_0_2, rx_0_3, rx_0_4, rx_0_5, rx_0_6, rx_0_7, rx_1_0, rx_1_1, rx_2_3, rx_2_4, rx_2_5, rx_2_6, rx_2_7, rx_2_8, rx_2_9, rx_10_0, rx_10_1, rx_10_2, rx_33_0, rx_33_1, rx_67_0, rx_68_0, rx_197_0, rx_199_5, rx_199_6, rx_199_7, rx_203_0, rx_203_1, rx_203_2, rx_206_0, rx_206_1, rx_206_2, rx_206_3, Option.bind_some, Option.toList_some, Option.toList_none, List.cons_append, List.nil_append, ↓reduceIte, p_137, decide_eq_true hv, zi_bI_t, tc_0, hzc, hb, e, e34, ev]
        · simp +decide only [b126_0, b126_4, b126_9, b126_21, S.n, S.k, S.r, hp_n_wi, hp_k_wi, hp_r_wi, hp_n_wl, hp_k_wl, hp_r_wl, hp_n_wb, hp_k_wb, hp_r_wb, zq_rf, kx_0, kx_1, kx_2, kx_3, kx_4, kx_5, kx_6, kx_7, kx_8, kx_9, kx_10, kx_11, kx_12, kx_13, kx_14, kx_15, kx_16, kx_17, kx_33, kx_34, kx_50, kx_66, kx_67, kx_68, kx_69, kx_197, kx_198, kx_199, kx_200, kx_201, kx_202, kx_203, kx_204, kx_205, kx_206, kx_207, kx_208, kx_209, kx_210, rx_0_0, rx_0_1, rx_0_2, rx_0_3, rx_0_4, rx_0_5, rx_0_6, rx_0_7, rx_1_0, rx_1_1, rx_2_3, rx_2_4, rx_2_5, rx_2_6, rx_2_7, rx_2_8, rx_2_9, rx_10_0, rx_10_1, rx_10_2, rx_33_0, rx_33_1, rx_67_0, rx_68_0, rx_197_0, rx_199_5, rx_199_6, rx_199_7, rx_203_0, rx_203_1, rx_203_2, rx_206_0, rx_206_1, rx_206_2, rx_206_3, Option.bind_some, Option.toList_some, Option.toList_none, List.cons_append, List.nil_append, ↓reduceIte, p_137, decide_eq_true hv, zi_bI_t, tc_1, hzc, hb, e, e34, ev]
      · show zv 2 233 0 _ _ _ = _
        rw [er, (F1.1 213 _ (by decide)).1]
      · refine (G1.sw (SW.of (fun o j ho => ?_) (fun o j ho => ?_))).congr (fun j hj => j2 j hj)
        · show zh_i h2 (1 + o) j = _
          rw [i2 _ _ (by omega), eh1, zC_i ho]
        · show zh_b h2 (1 + o) j = _
          rw [bb2, eh1, zC_b ho]
      · refine X.same (fun a j vv => ?_)
        rw [i2 a j (by unfold vc at vv; omega), bb2, eh1]
        exact zC_vc vv
      · rw [F9.1.1.2.1, F1.2.1]; exact l
  · have hv : ¬ (¬ x < 0 ∧ x < 2) := fun q => hx ((rg (b := 1) (by decide)).mp q)
    refine JW.al R (JW.same G (-1) ?_ (fun h1 q' S1 => ?_))
    · simp +decide only [b126_0, b126_4, b126_7, S.n, S.k, S.r, hp_n_wi, hp_k_wi, hp_r_wi, hp_n_wl, hp_k_wl, hp_r_wl, hp_n_wb, hp_k_wb, hp_r_wb, zq_rf, kx_0, kx_1, kx_2, kx_3, kx_4, kx_5, kx_6, kx_7, kx_8, kx_9, kx_10, kx_11, kx_12, kx_13, kx_14, kx_15, kx_16, kx_17, kx_33, kx_34, kx_50, kx_66, kx_67, kx_68, kx_69, kx_197, kx_198, kx_199, kx_200, kx_201, kx_202, kx_203, kx_204, kx_205, kx_206, kx_207, kx_208, kx_209, kx_210, rx_0_0, rx_0_1, rx_0_2, rx_0_3, rx_0_4, rx_0_5, rx_0_6, rx_0_7, rx_1_0, rx_1_1, rx_2_3, rx_2_4, rx_2_5, rx_2_6, rx_2_7, rx_2_8, rx_2_9, rx_10_0, rx_10_1, rx_10_2, rx_33_0, rx_33_1, rx_67_0, rx_68_0, rx_197_0, rx_199_5, rx_199_6, rx_199_7, rx_203_0, rx_203_1, rx_203_2, rx_206_0, rx_206_1, rx_206_2, rx_206_3, Option.bind_some, Option.toList_some, Option.toList_none, List.cons_append, List.nil_append, ↓reduceIte, p_137, decide_eq_false hv, zi_bI_f]
    · show zv 2 233 0 _ _ _ = _
      rw [b233_0, show (0 : Int64) = (nI 0).toInt64 from rfl, show (1 : Int64) = (nI 1).toInt64 from rfl, c_iz hx]
      simp only [Option.bind_some, Option.toList_some, Option.toList_none, List.cons_append, List.nil_append]
      rw [b233_7, if_pos rfl, b233_10]
end R34G
end
section
/-! BOTH SIDES: tape, sheets -/
/-- a stretch of numbers, all one -/
def zfl (h : zi_Hp) (a k n : Nat) (v : Int32) : zi_Hp := (zh_n h, zh_s h, zh_k h, fun b j => if b = a ∧ k ≤ j ∧ j < n then v else zh_i h b j, zh_b h, zh_l h, zh_r h, zh_L h, zh_x h)
/-- what lay writes -/
def wrV (la v : Int32) : Int32 := if la = 0 then v.toInt8.toInt32 else if la = 1 then v.toInt16.toInt32 else v
section R34H
variable {h h1 h2 : zi_Hp} {L : Nat}
theorem zfl_i {a k n : Nat} {v : Int32} (b j : Nat) : zh_i (zfl h a k n v) b j = if b = a ∧ k ≤ j ∧ j < n then v else zh_i h b j := Eq.trans rfl rfl
theorem zfl_e {a n : Nat} {v : Int32} : zfl h a n n v = h := by
  refine zh_ext rfl rfl (fun _ => rfl) (fun b j => ?_) (fun _ _ => rfl) (fun _ _ => rfl) (fun _ _ => rfl) rfl rfl
  rw [zfl_i, if_neg (fun w => by omega)]
theorem zfl_u {a k n : Nat} {v : Int32} (hk : k < n) : zfl (zh_wi h a k v) a (k + 1) n v = zfl h a k n v := by
  refine zh_ext rfl rfl (fun _ => rfl) (fun b j => ?_) (fun _ _ => rfl) (fun _ _ => rfl) (fun _ _ => rfl) rfl rfl
  rw [zfl_i, zfl_i, hp_i_wi]
  by_cases q : b = a ∧ k ≤ j ∧ j < n
  · rw [if_pos q]
    by_cases e : j = k
    · rw [if_neg (fun w => by omega), if_pos ⟨q.1, e⟩]
    · rw [if_pos ⟨q.1, by omega, q.2.2⟩]
  · rw [if_neg q, if_neg (fun w => q ⟨w.1, by omega, w.2.2⟩), if_neg (fun w => q ⟨w.1, by omega, by omega⟩)]
theorem IM.same (X : IM h) (e : ∀ a j, (34 ≤ a ∧ a ≤ 66) ∨ a = 213 ∨ a = 214 → zh_i h2 a j = zh_i h a j ∧ zh_b h2 a j = zh_b h a j) : IM h2 := fun k hk => by
  obtain ⟨y1, y2⟩ := X k hk
  have eb := (e 214 k (by omega)).2
  refine ⟨by rw [(e 66 k (by omega)).2, eb]; exact y1, fun hb => ?_⟩
  rw [eb] at hb
  exact ((y2 hb).sw (SW.of (fun o j ho => (e (34 + 16 * k + o) j (by omega)).1) (fun o j ho => (e (34 + 16 * k + o) j (by omega)).2))).congr (fun j _ => (e 213 (387 * k + j) (by omega)).1)
theorem TP.same (X : TP h) (e8 : zh_i h2 211 8 = zh_i h 211 8) (e1 : ∀ j, zh_i h2 198 j = zh_i h 198 j) (e2 : ∀ j, zh_i h2 218 j = zh_i h 218 j) : TP h2 := fun t ht et j hj => by
  rw [e8] at et
  rw [e1, e2]
  exact X t ht et j hj
theorem SHT.same (T : SHT h) (e : ∀ k, zh_i h2 204 k = zh_i h 204 k ∧ zh_i h2 205 k = zh_i h 205 k ∧ zh_i h2 230 k = zh_i h 230 k ∧ zh_i h2 231 k = zh_i h 231 k) : SHT h2 := fun k hk => by
  obtain ⟨e1, e2, e3, e4⟩ := e k
  rw [e1, e2, e3, e4]
  exact T k hk
theorem SC.same (T : SC h) (e1 : ∀ a j, 207 ≤ a → a ≤ 210 → zh_i h2 a j = zh_i h a j) (e2 : ∀ j, zh_i h2 232 j = zh_i h 232 j) : SC h2 := fun k hk i hi => by
  rw [e1 _ _ (by omega) (by omega), e2]
  exact T k hk i hi
theorem rt_2 {v v' : Value} {a b : zi_Hp} (e : (some (some v, a) : Option zi_Rt) = some (some v', b)) : a = b := by injection e with e; injection e
theorem Al.same (R : R3 L h) {o : Option zi_Rt} {F : zi_Hp → Option zi_Rt} (v : Int32) (e : o = some (some (.int v), h)) (e2 : F h = some (some (.int v), h)) : Al L h o F := ⟨v, h, h, e, R.1.1, R.2.2.2.2, rfl, e2, R⟩
theorem a_feed (R : R3 L h) (x : Int32) : Al L h (zv 2 105 0 [.ref 0, .int x] [] h) (fun m => zv 2 180 0 [.ref 211, .int x] [] m) := by
  obtain ⟨r, g, G, X, l⟩ := id R
  have S := r.1
  obtain ⟨t, ht, et⟩ := r.2.2.1
  have ec : zh_i h 197 1 = nI t := X.2.1.trans et
  rcases in_or x 0 127 (by decide) (by decide) with ⟨b, -, hb, rfl, hx⟩ | hx
  · have h0 : ¬ nI b < 0 := Int32.not_lt.mpr hx.1
    have h1' : ¬ 127 < nI b := Int32.not_lt.mpr hx.2
    have p0 : ¬ nI t < 0 := nI_pos (by omega)
    have pr : ∀ {m : zi_Hp}, Sh m → zv 2 180 0 [.ref 211, .int (nI b)] [] m = zv 2 180 14 [.ref 211, .int (nI b)] [] m := fun {m} S => by
      rw [b180_0, show (0 : Int64) = (nI 0).toInt64 from rfl, show (127 : Int64) = (nI 127).toInt64 from rfl, c_iy hx]
      simp only [Option.bind_some, Option.toList_some, Option.toList_none, List.cons_append, List.nil_append]
      rw [b180_9, if_neg (by decide)]
    by_cases h160 : t = 160
    · have p1 : ¬ nI t < 160 := by rw [h160]; decide
      refine Al.same R (-3) ?_ ?_
      · simp +decide only [b105_0, b105_4, b105_10, b105_12, b105_20, b105_23, b105_33, b105_35, b28_0, b28_7, b28_17, b28_19, b28_31, S.n, S.k, S.r, hp_n_wi, hp_k_wi, hp_r_wi, hp_n_wl, hp_k_wl, hp_r_wl, hp_n_wb, hp_k_wb, hp_r_wb, zq_rf, kx_0, kx_1, kx_2, kx_3, kx_4, kx_5, kx_6, kx_7, kx_8, kx_9, kx_10, kx_11, kx_12, kx_13, kx_14, kx_15, kx_16, kx_17, kx_33, kx_34, kx_50, kx_66, kx_67, kx_68, kx_69, kx_197, kx_198, kx_199, kx_200, kx_201, kx_202, kx_203, kx_204, kx_205, kx_206, kx_207, kx_208, kx_209, kx_210, rx_0_0, rx_0_1, rx_0_2, rx_0_3, rx_0_4, rx_0_5, rx_0_6, rx_0_7, rx_1_0, rx_1_1, rx_2_3, rx_2_4, rx_2_5, rx_2_6, rx_2_7, rx_2_8, rx_2_9, rx_10_0, rx_10_1, rx_10_2, rx_33_0, rx_33_1, rx_67_0, rx_68_0, rx_197_0, rx_199_5, rx_199_6, rx_199_7, rx_203_0, rx_203_1, rx_203_2, rx_206_0, rx_206_1, rx_206_2, rx_206_3, Option.bind_some, Option.toList_some, Option.toList_none, List.cons_append, List.nil_append, ↓reduceIte, if_neg h0, if_neg h1', ec, if_neg p0, if_neg p1]
      · show zv 2 180 0 _ _ _ = _
        rw [pr S, b180_14 (S_g0 S) (S_g1 S), et, if_pos (by rw [h160]; rfl), b180_24]
    · have p1 : nI t < 160 := nI_lt (b := 160) (by omega) (by decide)
      have hne : ¬ nI t = 160 := fun w => h160 ((nI_eq (a := t) (b := 160) (by omega) (by decide)).mp w)
      have nc : (nI t).toNatClampNeg = t := nI_clamp (by omega)
      have hz : ¬ (nI t < 0 ∨ 160 ≤ t) := by
        have q := zj_n (n := t) (N := 160) (by omega) (by decide)
        rw [nc] at q; exact q
      have i1 : zh_i (zh_wi h 198 t (nI b)) 197 1 = nI t := by rw [hp_i_wi, if_neg (by omega)]; exact ec
      have i2 : zh_i (zh_wi (zh_wi h 198 t (nI b)) 197 1 (nI (t + 1))) 197 1 = nI (t + 1) := by rw [hp_i_wi, if_pos ⟨rfl, rfl⟩]
      obtain ⟨m1, em1⟩ : ∃ m1, m1 = zh_wi (zh_wi h 198 t (nI b)) 197 1 (nI (t + 1)) := ⟨_, rfl⟩
      have O1 : GO m1 := by rw [em1]; exact (g.wi (wo_p (by decide))).wi (wo_p (by decide))
      have F1 : Fb h m1 := by rw [em1]; exact (Fb.wi (by decide)).trans (Fb.wi (by decide))
      have c1 : zv 2 105 0 [.ref 0, .int (nI b)] [] h = some (some (.int (nI (t + 1))), m1) := by
        rw [em1]
        simp +decide only [b105_0, b105_4, b105_10, b105_12, b105_20, b105_23, b105_33, b105_35, b28_0, b28_7, b28_17, b28_19, b28_31, S.n, S.k, S.r, hp_n_wi, hp_k_wi, hp_r_wi, hp_n_wl, hp_k_wl, hp_r_wl, hp_n_wb, hp_k_wb, hp_r_wb, zq_rf, kx_0, kx_1, kx_2, kx_3, kx_4, kx_5, kx_6, kx_7, kx_8, kx_9, kx_10, kx_11, kx_12, kx_13, kx_14, kx_15, kx_16, kx_17, kx_33, kx_34, kx_50, kx_66, kx_67, kx_68, kx_69, kx_197, kx_198, kx_199, kx_200, kx_201, kx_202, kx_203, kx_204, kx_205, kx_206, kx_207, kx_208, kx_209, kx_210, rx_0_0, rx_0_1, rx_0_2, rx_0_3, rx_0_4, rx_0_5, rx_0_6, rx_0_7, rx_1_0, rx_1_1, rx_2_3, rx_2_4, rx_2_5, rx_2_6, rx_2_7, rx_2_8, rx_2_9, rx_10_0, rx_10_1, rx_10_2, rx_33_0, rx_33_1, rx_67_0, rx_68_0, rx_197_0, rx_199_5, rx_199_6, rx_199_7, rx_203_0, rx_203_1, rx_203_2, rx_206_0, rx_206_1, rx_206_2, rx_206_3, Option.bind_some, Option.toList_some, Option.toList_none, List.cons_append, List.nil_append, ↓reduceIte, if_neg h0, if_neg h1', ec, if_neg p0, if_pos p1, nc, hz, i1, nI_s, i2]
      have S1 := O1.1
      have Q1 : RO m1 := r.fc S1 F1
      have et1 : zh_i m1 211 8 = nI t := (F1.1 211 8 (by decide)).1.trans et
      obtain ⟨m2, em2⟩ : ∃ m2, m2 = zh_wi (zh_wi m1 218 t (nI b)) 211 8 (nI (t + 1)) := ⟨_, rfl⟩
      have e8 : zh_i m2 211 8 = nI (t + 1) := by rw [em2, hp_i_wi, if_pos ⟨rfl, rfl⟩]
      have c2 : zv 2 180 0 [.ref 211, .int (nI b)] [] m1 = some (some (.int (nI (t + 1))), m2) := by
        have S := S1
        have r7 : zh_r m1 211 7 = .ref 218 := by rw [S.r, rx_211_7]
        rw [pr S, b180_14 (S_g0 S) (S_g1 S), et1, if_neg hne, b180_27 (S_g0 S) (S_g1 S) (by rw [r7, zq_rf]) (by rw [r7, zq_rf, S.n]; decide) (by rw [r7, zq_rf, S.k, kx_218, et1]; exact zj_n (by omega) (by decide)) (by rw [r7, zq_rf, S.k, kx_218]), r7, zq_rf, et1, nc, b180_39 (S_g0 (S.wi 218 t (nI b))) (S_g1 (S.wi 218 t (nI b))) (S_g0 (S.wi 218 t (nI b))) (S_g1 (S.wi 218 t (nI b))), hp_i_wi, if_neg (by omega), et1, nI_s, b180_48 (S_g0 ((S.wi 218 t (nI b)).wi 211 8 _)) (S_g1 ((S.wi 218 t (nI b)).wi 211 8 _)), ← em2, e8]
      obtain ⟨v9, h9, e9, O9, F9, -⟩ := o_feed Q1 (nI b)
      rw [c2] at e9
      obtain rfl := rt_2 e9
      have k1 : ∀ a j, (a ≠ 198 ∨ j ≠ t) → (a ≠ 197 ∨ j ≠ 1) → (a ≠ 218 ∨ j ≠ t) → (a ≠ 211 ∨ j ≠ 8) → zh_i m2 a j = zh_i h a j := fun a j q1 q2 q3 q4 => by
        rw [em2, hp_i_wi, if_neg (by omega), hp_i_wi, if_neg (by omega), em1, hp_i_wi, if_neg (by omega), hp_i_wi, if_neg (by omega)]
      have b1 : ∀ a j, zh_b m2 a j = zh_b h a j := fun a j => by rw [em2, em1]; rfl
      refine ⟨_, m1, m2, c1, S1, F1.2.1.trans l, F1.2.2, c2, O9, O1.fx O9.1 F9.1, G.of1 (fun o j ho => ⟨k1 _ _ (by omega) (by omega) (by omega) (by omega), b1 _ _⟩) (fun j _ => k1 _ _ (by omega) (by omega) (by omega) (by omega)), ⟨X.1.same (fun a j q => ⟨k1 _ _ (by omega) (by omega) (by omega) (by omega), b1 _ _⟩), ?_, fun t' ht' et' j hj => ?_, X.2.2.2.1.same (fun k => ⟨k1 _ _ (by omega) (by omega) (by omega) (by omega), k1 _ _ (by omega) (by omega) (by omega) (by omega), k1 _ _ (by omega) (by omega) (by omega) (by omega), k1 _ _ (by omega) (by omega) (by omega) (by omega)⟩), X.2.2.2.2.1.same (fun a j q1 q2 => k1 _ _ (by omega) (by omega) (by omega) (by omega)) (fun j => k1 _ _ (by omega) (by omega) (by omega) (by omega)), ?_⟩, ?_⟩
      · rw [e8, em2, hp_i_wi, if_neg (by omega), hp_i_wi, if_neg (by omega), em1, hp_i_wi, if_pos ⟨rfl, rfl⟩]
      · rw [e8] at et'
        have : t' = t + 1 := ((nI_eq' (by omega) (by omega)).mp et').symm
        subst this
        by_cases ej : j = t
        · subst ej
          have a1 : zh_i m2 218 j = nI b := by rw [em2, hp_i_wi, if_neg (by omega), hp_i_wi, if_pos ⟨rfl, rfl⟩]
          have a2 : zh_i m2 198 j = nI b := by rw [em2, hp_i_wi, if_neg (by omega), hp_i_wi, if_neg (by omega), em1, hp_i_wi, if_neg (by omega), hp_i_wi, if_pos ⟨rfl, rfl⟩]
          exact ⟨a2.trans a1.symm, b, hb, a1⟩
        · rw [k1 198 j (by omega) (by omega) (by omega) (by omega), k1 218 j (by omega) (by omega) (by omega) (by omega)]
          exact X.2.2.1 t ht et j (by omega)
      · rw [k1 0 8 (by omega) (by omega) (by omega) (by omega), k1 211 38 (by omega) (by omega) (by omega) (by omega)]; exact X.2.2.2.2.2
      · rw [F9.1.2.1, F1.2.1]; exact l
  · refine Al.same R (-1) ?_ ?_
    · by_cases h0 : x < 0
      · simp +decide only [b105_0, b105_4, b105_10, b105_12, b105_20, b105_23, b105_33, b105_35, S.n, S.k, S.r, hp_n_wi, hp_k_wi, hp_r_wi, hp_n_wl, hp_k_wl, hp_r_wl, hp_n_wb, hp_k_wb, hp_r_wb, zq_rf, kx_0, kx_1, kx_2, kx_3, kx_4, kx_5, kx_6, kx_7, kx_8, kx_9, kx_10, kx_11, kx_12, kx_13, kx_14, kx_15, kx_16, kx_17, kx_33, kx_34, kx_50, kx_66, kx_67, kx_68, kx_69, kx_197, kx_198, kx_199, kx_200, kx_201, kx_202, kx_203, kx_204, kx_205, kx_206, kx_207, kx_208, kx_209, kx_210, rx_0_0, rx_0_1, rx_0_2, rx_0_3, rx_0_4, rx_0_5, rx_0_6, rx_0_7, rx_1_0, rx_1_1, rx_2_3, rx_2_4, rx_2_5, rx_2_6, rx_2_7, rx_2_8, rx_2_9, rx_10_0, rx_10_1, rx_10_2, rx_33_0, rx_33_1, rx_67_0, rx_68_0, rx_197_0, rx_199_5, rx_199_6, rx_199_7, rx_203_0, rx_203_1, rx_203_2, rx_206_0, rx_206_1, rx_206_2, rx_206_3, Option.bind_some, Option.toList_some, Option.toList_none, List.cons_append, List.nil_append, ↓reduceIte, if_pos h0]
      · have h1' : 127 < x := Int32.not_le.mp (fun q => hx ⟨Int32.not_lt.mp h0, q⟩)
        simp +decide only [b105_0, b105_4, b105_10, b105_12, b105_20, b105_23, b105_33, b105_35, S.n, S.k, S.r, hp_n_wi, hp_k_wi, hp_r_wi, hp_n_wl, hp_k_wl, hp_r_wl, hp_n_wb, hp_k_wb, hp_r_wb, zq_rf, kx_0, kx_1, kx_2, kx_3, kx_4, kx_5, kx_6, kx_7, kx_8, kx_9, kx_10, kx_11, kx_12, kx_13, kx_14, kx_15, kx_16, kx_17, kx_33, kx_34, kx_50, kx_66, kx_67, kx_68, kx_69, kx_197, kx_198, kx_199, kx_200, kx_201, kx_202, kx_203, kx_204, kx_205, kx_206, kx_207, kx_208, kx_209, kx_210, rx_0_0, rx_0_1, rx_0_2, rx_0_3, rx_0_4, rx_0_5, rx_0_6, rx_0_7, rx_1_0, rx_1_1, rx_2_3, rx_2_4, rx_2_5, rx_2_6, rx_2_7, rx_2_8, rx_2_9, rx_10_0, rx_10_1, rx_10_2, rx_33_0, rx_33_1, rx_67_0, rx_68_0, rx_197_0, rx_199_5, rx_199_6, rx_199_7, rx_203_0, rx_203_1, rx_203_2, rx_206_0, rx_206_1, rx_206_2, rx_206_3, Option.bind_some, Option.toList_some, Option.toList_none, List.cons_append, List.nil_append, ↓reduceIte, if_neg h0, if_pos h1']
    · show zv 2 180 0 _ _ _ = _
      rw [b180_0, show (0 : Int64) = (nI 0).toInt64 from rfl, show (127 : Int64) = (nI 127).toInt64 from rfl, c_iz hx]
      simp only [Option.bind_some, Option.toList_some, Option.toList_none, List.cons_append, List.nil_append]
      rw [b180_9, if_pos rfl, b180_12]
theorem a_end (R : R3 L h) (x : Int32) {u u' : Value} : Al L h (zv 1 106 0 [.ref 0, .int x, u] [] h) (fun m => zv 2 181 0 [.ref 211, .int x, u'] [] m) := by
  obtain ⟨r, g, G, X, l⟩ := id R
  have S := r.1
  obtain ⟨t, ht, et⟩ := r.2.2.1
  have ec : zh_i h 197 1 = nI t := X.2.1.trans et
  rcases in_or x 0 t (by omega) (by omega) with ⟨n, -, hn, rfl, hx⟩ | hx
  · have h0 : ¬ nI n < 0 := Int32.not_lt.mpr hx.1
    have h1' : ¬ nI t < nI n := Int32.not_lt.mpr hx.2
    obtain ⟨m1, em1⟩ : ∃ m1, m1 = zh_wi h 197 1 (nI n) := ⟨_, rfl⟩
    have O1 : GO m1 := by rw [em1]; exact g.wi (wo_p (by decide))
    have F1 : Fb h m1 := by rw [em1]; exact Fb.wi (by decide)
    have c1 : zv 1 106 0 [.ref 0, .int (nI n), u] [] h = some (some (.int (nI t)), m1) := by
      rw [em1]
      simp +decide only [b106_0, b106_4, b106_15, b106_17, S.n, S.k, S.r, hp_n_wi, hp_k_wi, hp_r_wi, hp_n_wl, hp_k_wl, hp_r_wl, hp_n_wb, hp_k_wb, hp_r_wb, zq_rf, kx_0, kx_1, kx_2, kx_3, kx_4, kx_5, kx_6, kx_7, kx_8, kx_9, kx_10, kx_11, kx_12, kx_13, kx_14, kx_15, kx_16, kx_17, kx_33, kx_34, kx_50, kx_66, kx_67, kx_68, kx_69, kx_197, kx_198, kx_199, kx_200, kx_201, kx_202, kx_203, kx_204, kx_205, kx_206, kx_207, kx_208, kx_209, kx_210, rx_0_0, rx_0_1, rx_0_2, rx_0_3, rx_0_4, rx_0_5, rx_0_6, rx_0_7, rx_1_0, rx_1_1, rx_2_3, rx_2_4, rx_2_5, rx_2_6, rx_2_7, rx_2_8, rx_2_9, rx_10_0, rx_10_1, rx_10_2, rx_33_0, rx_33_1, rx_67_0, rx_68_0, rx_197_0, rx_199_5, rx_199_6, rx_199_7, rx_203_0, rx_203_1, rx_203_2, rx_206_0, rx_206_1, rx_206_2, rx_206_3, Option.bind_some, Option.toList_some, Option.toList_none, List.cons_append, List.nil_append, ↓reduceIte, ec, if_neg h0, if_neg h1']
    have S1 := O1.1
    have Q1 : RO m1 := r.fc S1 F1
    have et1 : zh_i m1 211 8 = nI t := (F1.1 211 8 (by decide)).1.trans et
    obtain ⟨m2, em2⟩ : ∃ m2, m2 = zh_wi m1 211 8 (nI n) := ⟨_, rfl⟩
    have e8 : zh_i m2 211 8 = nI n := by rw [em2, hp_i_wi, if_pos ⟨rfl, rfl⟩]
    have c2 : zv 2 181 0 [.ref 211, .int (nI n), u'] [] m1 = some (some (.int (nI t)), m2) := by
      rw [b181_0 (S_g0 S1) (S_g1 S1), et1, show (0 : Int64) = (nI 0).toInt64 from rfl, c_iy hx]
      simp only [Option.bind_some, Option.toList_some, Option.toList_none, List.cons_append, List.nil_append]
      rw [b181_11, if_neg (by decide), b181_16 (S_g0 S1) (S_g1 S1), et1, em2]
    obtain ⟨v9, h9, e9, O9, F9, -⟩ := o_end Q1 (nI n) (u := u')
    rw [c2] at e9
    obtain rfl := rt_2 e9
    have k1 : ∀ a j, (a ≠ 197 ∨ j ≠ 1) → (a ≠ 211 ∨ j ≠ 8) → zh_i m2 a j = zh_i h a j := fun a j q1 q2 => by
      rw [em2, hp_i_wi, if_neg (by omega), em1, hp_i_wi, if_neg (by omega)]
    have b1 : ∀ a j, zh_b m2 a j = zh_b h a j := fun a j => by rw [em2, em1]; rfl
    refine ⟨_, m1, m2, c1, S1, F1.2.1.trans l, F1.2.2, c2, O9, O1.fx O9.1 F9.1, G.of1 (fun o j ho => ⟨k1 _ _ (by omega) (by omega), b1 _ _⟩) (fun j _ => k1 _ _ (by omega) (by omega)), ⟨X.1.same (fun a j q => ⟨k1 _ _ (by omega) (by omega), b1 _ _⟩), ?_, fun t' ht' et' j hj => ?_, X.2.2.2.1.same (fun k => ⟨k1 _ _ (by omega) (by omega), k1 _ _ (by omega) (by omega), k1 _ _ (by omega) (by omega), k1 _ _ (by omega) (by omega)⟩), X.2.2.2.2.1.same (fun a j q1 q2 => k1 _ _ (by omega) (by omega)) (fun j => k1 _ _ (by omega) (by omega)), ?_⟩, ?_⟩
    · rw [e8, em2, hp_i_wi, if_neg (by omega), em1, hp_i_wi, if_pos ⟨rfl, rfl⟩]
    · rw [e8] at et'
      have : t' = n := ((nI_eq' (by omega) (by omega)).mp et').symm
      rw [k1 198 j (by omega) (by omega), k1 218 j (by omega) (by omega)]
      exact X.2.2.1 t ht et j (by omega)
    · rw [k1 0 8 (by omega) (by omega), k1 211 38 (by omega) (by omega)]; exact X.2.2.2.2.2
    · rw [F9.1.2.1, F1.2.1]; exact l
  · refine Al.same R (-1) ?_ ?_
    · by_cases h0 : x < 0
      · simp +decide only [b106_0, b106_4, b106_15, b106_17, S.n, S.k, S.r, hp_n_wi, hp_k_wi, hp_r_wi, hp_n_wl, hp_k_wl, hp_r_wl, hp_n_wb, hp_k_wb, hp_r_wb, zq_rf, kx_0, kx_1, kx_2, kx_3, kx_4, kx_5, kx_6, kx_7, kx_8, kx_9, kx_10, kx_11, kx_12, kx_13, kx_14, kx_15, kx_16, kx_17, kx_33, kx_34, kx_50, kx_66, kx_67, kx_68, kx_69, kx_197, kx_198, kx_199, kx_200, kx_201, kx_202, kx_203, kx_204, kx_205, kx_206, kx_207, kx_208, kx_209, kx_210, rx_0_0, rx_0_1, rx_0_2, rx_0_3, rx_0_4, rx_0_5, rx_0_6, rx_0_7, rx_1_0, rx_1_1, rx_2_3, rx_2_4, rx_2_5, rx_2_6, rx_2_7, rx_2_8, rx_2_9, rx_10_0, rx_10_1, rx_10_2, rx_33_0, rx_33_1, rx_67_0, rx_68_0, rx_197_0, rx_199_5, rx_199_6, rx_199_7, rx_203_0, rx_203_1, rx_203_2, rx_206_0, rx_206_1, rx_206_2, rx_206_3, Option.bind_some, Option.toList_some, Option.toList_none, List.cons_append, List.nil_append, ↓reduceIte, if_pos h0]
      · have h1' : nI t < x := Int32.not_le.mp (fun q => hx ⟨Int32.not_lt.mp h0, q⟩)
        simp +decide only [b106_0, b106_4, b106_15, b106_17, S.n, S.k, S.r, hp_n_wi, hp_k_wi, hp_r_wi, hp_n_wl, hp_k_wl, hp_r_wl, hp_n_wb, hp_k_wb, hp_r_wb, zq_rf, kx_0, kx_1, kx_2, kx_3, kx_4, kx_5, kx_6, kx_7, kx_8, kx_9, kx_10, kx_11, kx_12, kx_13, kx_14, kx_15, kx_16, kx_17, kx_33, kx_34, kx_50, kx_66, kx_67, kx_68, kx_69, kx_197, kx_198, kx_199, kx_200, kx_201, kx_202, kx_203, kx_204, kx_205, kx_206, kx_207, kx_208, kx_209, kx_210, rx_0_0, rx_0_1, rx_0_2, rx_0_3, rx_0_4, rx_0_5, rx_0_6, rx_0_7, rx_1_0, rx_1_1, rx_2_3, rx_2_4, rx_2_5, rx_2_6, rx_2_7, rx_2_8, rx_2_9, rx_10_0, rx_10_1, rx_10_2, rx_33_0, rx_33_1, rx_67_0, rx_68_0, rx_197_0, rx_199_5, rx_199_6, rx_199_7, rx_203_0, rx_203_1, rx_203_2, rx_206_0, rx_206_1, rx_206_2, rx_206_3, Option.bind_some, Option.toList_some, Option.toList_none, List.cons_append, List.nil_append, ↓reduceIte, ec, if_neg h0, if_pos h1']
    · show zv 2 181 0 _ _ _ = _
      rw [b181_0 (S_g0 S) (S_g1 S), et, show (0 : Int64) = (nI 0).toInt64 from rfl, c_iz hx]
      simp only [Option.bind_some, Option.toList_some, Option.toList_none, List.cons_append, List.nil_append]
      rw [b181_11, if_pos rfl, b181_14]
theorem q_shL2 {k : Nat} (hk : k < 4) {x2 x3 : Int32} : ∀ d i, i + d = 40 → ∀ {h : zi_Hp}, Sh h → zv 3 235 40 [.ref 211, .int (nI k), .int x2, .int x3, .int (nI i)] [] h = some (some (.int 1), zfl h 232 (40 * k + i) (40 * k + 40) 0)
  | 0, i, hi, h, S => by
    have e : i = 40 := by omega
    subst e
    rw [b235_40, if_neg (by decide), b235_66, zfl_e]
  | d + 1, i, hi, h, S => by
    have r37 : zh_r h 211 37 = .ref 232 := by rw [S.r, rx_211_37]
    have e3 : nI i < 40 := nI_lt (b := 40) (by omega) (by decide)
    rw [b235_40, if_pos e3, b235_47 (S_g0 S) (S_g1 S) (by rw [r37, zq_rf]) (by rw [r37, zq_rf, S.n]; decide) (by rw [r37, zq_rf, S.k, kx_232, nI_iy]; exact zj_n (by omega) (by decide)) (by rw [r37, zq_rf, S.k, kx_232]), r37, zq_rf, nI_s, nI_iy, nI_clamp (by omega), q_shL2 hk d (i + 1) (by omega) (S.wi _ _ _), show 40 * k + (i + 1) = (40 * k + i) + 1 by omega, zfl_u (by omega)]
theorem k_shc (S : Sh h) {c : Nat} (hc : c < 4) {l n : Int32} : zv 2 23 0 [.ref 203, .int (nI c), .int l, .int n] [] h = some (none, zh_fi (zh_wi (zh_wi h 205 c l) 204 c n) (207 + c) 40 0) := by
  have hv : ¬ nI c < 0 ∧ nI c < 4 := ⟨nI_pos (by omega), nI_lt (b := 4) hc (by decide)⟩
  have S1 : Sh (zh_wi (zh_wi h 205 c l) 204 c n) := (S.wi _ _ _).wi _ _ _
  have : c = 0 ∨ c = 1 ∨ c = 2 ∨ c = 3 := by omega
  rcases this with rfl | rfl | rfl | rfl
  · have e2 := c_fill (h := zh_wi (zh_wi h 205 0 l) 204 0 n) (a := 207) (N := 40) (v := 0) (by rw [S1.n]; decide) (by rw [S1.k, kx_207]) (by decide)
    simp +decide only [b23_0, b23_4, b23_7, b23_8, b23_32, S.n, S.k, S.r, hp_n_wi, hp_k_wi, hp_r_wi, hp_n_wl, hp_k_wl, hp_r_wl, hp_n_wb, hp_k_wb, hp_r_wb, zq_rf, kx_0, kx_1, kx_2, kx_3, kx_4, kx_5, kx_6, kx_7, kx_8, kx_9, kx_10, kx_11, kx_12, kx_13, kx_14, kx_15, kx_16, kx_17, kx_33, kx_34, kx_50, kx_66, kx_67, kx_68, kx_69, kx_197, kx_198, kx_199, kx_200, kx_201, kx_202, kx_203, kx_204, kx_205, kx_206, kx_207, kx_208, kx_209, kx_210, rx_0_0, rx_0_1, rx_0_2, rx_0_3, rx_0_4, rx_0_5, rx_0_6, rx_0_7, rx_1_0, rx_1_1, rx_2_3, rx_2_4, rx_2_5, rx_2_6, rx_2_7, rx_2_8, rx_2_9, rx_10_0, rx_10_1, rx_10_2, rx_33_0, rx_33_1, rx_67_0, rx_68_0, rx_197_0, rx_199_5, rx_199_6, rx_199_7, rx_203_0, rx_203_1, rx_203_2, rx_206_0, rx_206_1, rx_206_2, rx_206_3, Option.bind_some, Option.toList_some, Option.toList_none, List.cons_append, List.nil_append, ↓reduceIte, p_138, decide_eq_true hv, zi_bI_t, tc_0, e2]
  · have e2 := c_fill (h := zh_wi (zh_wi h 205 1 l) 204 1 n) (a := 208) (N := 40) (v := 0) (by rw [S1.n]; decide) (by rw [S1.k, kx_208]) (by decide)
    simp +decide only [b23_0, b23_4, b23_7, b23_8, b23_32, S.n, S.k, S.r, hp_n_wi, hp_k_wi, hp_r_wi, hp_n_wl, hp_k_wl, hp_r_wl, hp_n_wb, hp_k_wb, hp_r_wb, zq_rf, kx_0, kx_1, kx_2, kx_3, kx_4, kx_5, kx_6, kx_7, kx_8, kx_9, kx_10, kx_11, kx_12, kx_13, kx_14, kx_15, kx_16, kx_17, kx_33, kx_34, kx_50, kx_66, kx_67, kx_68, kx_69, kx_197, kx_198, kx_199, kx_200, kx_201, kx_202, kx_203, kx_204, kx_205, kx_206, kx_207, kx_208, kx_209, kx_210, rx_0_0, rx_0_1, rx_0_2, rx_0_3, rx_0_4, rx_0_5, rx_0_6, rx_0_7, rx_1_0, rx_1_1, rx_2_3, rx_2_4, rx_2_5, rx_2_6, rx_2_7, rx_2_8, rx_2_9, rx_10_0, rx_10_1, rx_10_2, rx_33_0, rx_33_1, rx_67_0, rx_68_0, rx_197_0, rx_199_5, rx_199_6, rx_199_7, rx_203_0, rx_203_1, rx_203_2, rx_206_0, rx_206_1, rx_206_2, rx_206_3, Option.bind_some, Option.toList_some, Option.toList_none, List.cons_append, List.nil_append, ↓reduceIte, p_138, decide_eq_true hv, zi_bI_t, tc_1, e2]
  · have e2 := c_fill (h := zh_wi (zh_wi h 205 2 l) 204 2 n) (a := 209) (N := 40) (v := 0) (by rw [S1.n]; decide) (by rw [S1.k, kx_209]) (by decide)
    simp +decide only [b23_0, b23_4, b23_7, b23_8, b23_32, S.n, S.k, S.r, hp_n_wi, hp_k_wi, hp_r_wi, hp_n_wl, hp_k_wl, hp_r_wl, hp_n_wb, hp_k_wb, hp_r_wb, zq_rf, kx_0, kx_1, kx_2, kx_3, kx_4, kx_5, kx_6, kx_7, kx_8, kx_9, kx_10, kx_11, kx_12, kx_13, kx_14, kx_15, kx_16, kx_17, kx_33, kx_34, kx_50, kx_66, kx_67, kx_68, kx_69, kx_197, kx_198, kx_199, kx_200, kx_201, kx_202, kx_203, kx_204, kx_205, kx_206, kx_207, kx_208, kx_209, kx_210, rx_0_0, rx_0_1, rx_0_2, rx_0_3, rx_0_4, rx_0_5, rx_0_6, rx_0_7, rx_1_0, rx_1_1, rx_2_3, rx_2_4, rx_2_5, rx_2_6, rx_2_7, rx_2_8, rx_2_9, rx_10_0, rx_10_1, rx_10_2, rx_33_0, rx_33_1, rx_67_0, rx_68_0, rx_197_0, rx_199_5, rx_199_6, rx_199_7, rx_203_0, rx_203_1, rx_203_2, rx_206_0, rx_206_1, rx_206_2, rx_206_3, Option.bind_some, Option.toList_some, Option.toList_none, List.cons_append, List.nil_append, ↓reduceIte, p_138, decide_eq_true hv, zi_bI_t, tc_2, e2]
  · have e2 := c_fill (h := zh_wi (zh_wi h 205 3 l) 204 3 n) (a := 210) (N := 40) (v := 0) (by rw [S1.n]; decide) (by rw [S1.k, kx_210]) (by decide)
    simp +decide only [b23_0, b23_4, b23_7, b23_8, b23_32, S.n, S.k, S.r, hp_n_wi, hp_k_wi, hp_r_wi, hp_n_wl, hp_k_wl, hp_r_wl, hp_n_wb, hp_k_wb, hp_r_wb, zq_rf, kx_0, kx_1, kx_2, kx_3, kx_4, kx_5, kx_6, kx_7, kx_8, kx_9, kx_10, kx_11, kx_12, kx_13, kx_14, kx_15, kx_16, kx_17, kx_33, kx_34, kx_50, kx_66, kx_67, kx_68, kx_69, kx_197, kx_198, kx_199, kx_200, kx_201, kx_202, kx_203, kx_204, kx_205, kx_206, kx_207, kx_208, kx_209, kx_210, rx_0_0, rx_0_1, rx_0_2, rx_0_3, rx_0_4, rx_0_5, rx_0_6, rx_0_7, rx_1_0, rx_1_1, rx_2_3, rx_2_4, rx_2_5, rx_2_6, rx_2_7, rx_2_8, rx_2_9, rx_10_0, rx_10_1, rx_10_2, rx_33_0, rx_33_1, rx_67_0, rx_68_0, rx_197_0, rx_199_5, rx_199_6, rx_199_7, rx_203_0, rx_203_1, rx_203_2, rx_206_0, rx_206_1, rx_206_2, rx_206_3, Option.bind_some, Option.toList_some, Option.toList_none, List.cons_append, List.nil_append, ↓reduceIte, p_138, decide_eq_true hv, zi_bI_t, tc_3, e2]
theorem a_sheet (R : R3 L h) (x y w : Int32) {u : Value} : Al L h (zv 3 127 0 [.ref 0, .int x, .int y, .int w] [] h) (fun m => zv 3 235 0 [.ref 211, .int x, .int y, .int w, u] [] m) := by
  obtain ⟨r, g, G, X, l⟩ := id R
  have S := r.1
  rcases in_or x 0 3 (by decide) (by decide) with ⟨c, -, hc, rfl, hx⟩ | hx
  · have hv : ¬ nI c < 0 ∧ nI c < 4 := (rg (b := 3) (by decide)).mpr hx
    rcases in_or y 0 2 (by decide) (by decide) with ⟨la, -, hla, rfl, hy⟩ | hy
    · have hl : ¬ nI la < 0 ∧ nI la < 3 := (rg (b := 2) (by decide)).mpr hy
      have pr : ∀ {m : zi_Hp}, zv 3 235 0 [.ref 211, .int (nI c), .int (nI la), .int w, u] [] m = zv 3 235 8 [.ref 211, .int (nI c), .int (nI la), .int w, u] [] m := fun {m} => by
        rw [b235_0, q_shy hx hy]
        simp only [Option.bind_some, Option.toList_some, Option.toList_none, List.cons_append, List.nil_append]
        rw [b235_5, if_neg (by decide)]
      by_cases h40 : 40 < w
      · refine Al.same R (-1) ?_ ?_
        · simp +decide only [b127_0, b127_4, b127_7, b127_11, b127_14, b127_20, S.n, S.k, S.r, hp_n_wi, hp_k_wi, hp_r_wi, hp_n_wl, hp_k_wl, hp_r_wl, hp_n_wb, hp_k_wb, hp_r_wb, zq_rf, kx_0, kx_1, kx_2, kx_3, kx_4, kx_5, kx_6, kx_7, kx_8, kx_9, kx_10, kx_11, kx_12, kx_13, kx_14, kx_15, kx_16, kx_17, kx_33, kx_34, kx_50, kx_66, kx_67, kx_68, kx_69, kx_197, kx_198, kx_199, kx_200, kx_201, kx_202, kx_203, kx_204, kx_205, kx_206, kx_207, kx_208, kx_209, kx_210, rx_0_0, rx_0_1, rx_0_2, rx_0_3, rx_0_4, rx_0_5, rx_0_6, rx_0_7, rx_1_0, rx_1_1, rx_2_3, rx_2_4, rx_2_5, rx_2_6, rx_2_7, rx_2_8, rx_2_9, rx_10_0, rx_10_1, rx_10_2, rx_33_0, rx_33_1, rx_67_0, rx_68_0, rx_197_0, rx_199_5, rx_199_6, rx_199_7, rx_203_0, rx_203_1, rx_203_2, rx_206_0, rx_206_1, rx_206_2, rx_206_3, Option.bind_some, Option.toList_some, Option.toList_none, List.cons_append, List.nil_append, ↓reduceIte, p_138, p_139, decide_eq_true hv, decide_eq_true hl, zi_bI_t, if_pos h40]
        · show zv 3 235 0 _ _ _ = _
          rw [pr, b235_8, if_pos h40, b235_14]
      · by_cases h0 : w < 0
        · refine Al.same R (-14) ?_ ?_
          · simp +decide only [b127_0, b127_4, b127_7, b127_11, b127_14, b127_22, b127_26, S.n, S.k, S.r, hp_n_wi, hp_k_wi, hp_r_wi, hp_n_wl, hp_k_wl, hp_r_wl, hp_n_wb, hp_k_wb, hp_r_wb, zq_rf, kx_0, kx_1, kx_2, kx_3, kx_4, kx_5, kx_6, kx_7, kx_8, kx_9, kx_10, kx_11, kx_12, kx_13, kx_14, kx_15, kx_16, kx_17, kx_33, kx_34, kx_50, kx_66, kx_67, kx_68, kx_69, kx_197, kx_198, kx_199, kx_200, kx_201, kx_202, kx_203, kx_204, kx_205, kx_206, kx_207, kx_208, kx_209, kx_210, rx_0_0, rx_0_1, rx_0_2, rx_0_3, rx_0_4, rx_0_5, rx_0_6, rx_0_7, rx_1_0, rx_1_1, rx_2_3, rx_2_4, rx_2_5, rx_2_6, rx_2_7, rx_2_8, rx_2_9, rx_10_0, rx_10_1, rx_10_2, rx_33_0, rx_33_1, rx_67_0, rx_68_0, rx_197_0, rx_199_5, rx_199_6, rx_199_7, rx_203_0, rx_203_1, rx_203_2, rx_206_0, rx_206_1, rx_206_2, rx_206_3, Option.bind_some, Option.toList_some, Option.toList_none, List.cons_append, List.nil_append, ↓reduceIte, p_138, p_139, decide_eq_true hv, decide_eq_true hl, zi_bI_t, if_neg h40, if_pos h0]
          · show zv 3 235 0 _ _ _ = _
            rw [pr, b235_8, if_neg h40, b235_16, if_pos h0, b235_20]
        · obtain ⟨z, hz, rfl⟩ := nI_ex' (b := 40) (by decide) h0 h40
          obtain ⟨m1, em1⟩ : ∃ m1, m1 = zh_fi (zh_wi (zh_wi h 205 c (nI la)) 204 c (nI z)) (207 + c) 40 0 := ⟨_, rfl⟩
          have c1 : zv 3 127 0 [.ref 0, .int (nI c), .int (nI la), .int (nI z)] [] h = some (some (.int 1), m1) := by
            rw [em1]
            have e23 := k_shc S (c := c) (by omega) (l := nI la) (n := nI z)
            simp +decide only [b127_0, b127_4, b127_7, b127_11, b127_14, b127_22, b127_29, b127_39, S.n, S.k, S.r, hp_n_wi, hp_k_wi, hp_r_wi, hp_n_wl, hp_k_wl, hp_r_wl, hp_n_wb, hp_k_wb, hp_r_wb, zq_rf, kx_0, kx_1, kx_2, kx_3, kx_4, kx_5, kx_6, kx_7, kx_8, kx_9, kx_10, kx_11, kx_12, kx_13, kx_14, kx_15, kx_16, kx_17, kx_33, kx_34, kx_50, kx_66, kx_67, kx_68, kx_69, kx_197, kx_198, kx_199, kx_200, kx_201, kx_202, kx_203, kx_204, kx_205, kx_206, kx_207, kx_208, kx_209, kx_210, rx_0_0, rx_0_1, rx_0_2, rx_0_3, rx_0_4, rx_0_5, rx_0_6, rx_0_7, rx_1_0, rx_1_1, rx_2_3, rx_2_4, rx_2_5, rx_2_6, rx_2_7, rx_2_8, rx_2_9, rx_10_0, rx_10_1, rx_10_2, rx_33_0, rx_33_1, rx_67_0, rx_68_0, rx_197_0, rx_199_5, rx_199_6, rx_199_7, rx_203_0, rx_203_1, rx_203_2, rx_206_0, rx_206_1, rx_206_2, rx_206_3, Option.bind_some, Option.toList_some, Option.toList_none, List.cons_append, List.nil_append, ↓reduceIte, p_138, p_139, decide_eq_true hv, decide_eq_true hl, zi_bI_t, if_neg h40, if_neg h0, e23]
          obtain ⟨m9, e9, O1, F1, -, -⟩ := c_sheet g (nI c) (nI la) (nI z)
          rw [c1] at e9
          obtain rfl := rt_2 e9
          have S1 := O1.1
          have Q1 : RO m1 := r.fc S1 F1
          obtain ⟨m2, em2⟩ : ∃ m2, m2 = zfl (zh_wi (zh_wi m1 230 c (nI la)) 231 c (nI z)) 232 (40 * c + 0) (40 * c + 40) 0 := ⟨_, rfl⟩
          have c2 : zv 3 235 0 [.ref 211, .int (nI c), .int (nI la), .int (nI z), u] [] m1 = some (some (.int 1), m2) := by
            have S := S1
            have r35 : zh_r m1 211 35 = .ref 230 := by rw [S.r, rx_211_35]
            have r36 : zh_r m1 211 36 = .ref 231 := by rw [S.r, rx_211_36]
            have hz4 : ¬ (nI c < 0 ∨ 4 ≤ (nI c).toNatClampNeg) := zj_n (by omega) (by decide)
            rw [pr, b235_8, if_neg h40, b235_16, if_neg h0, b235_23 (S_g0 S) (S_g1 S) (by rw [r35, zq_rf]) (by rw [r35, zq_rf, S.n]; decide) (by rw [r35, zq_rf, S.k, kx_230]; exact hz4) (by rw [r35, zq_rf, S.k, kx_230]) (by rw [r36, zq_rf]) (by rw [r36, zq_rf, S.n]; decide) (by rw [r36, zq_rf, S.k, kx_231]; exact hz4) (by rw [r36, zq_rf, S.k, kx_231]), r35, r36, zq_rf, zq_rf, nI_clamp (by omega), show (0 : Int32) = nI 0 from rfl, em2]
            exact q_shL2 (k := c) (by omega) 40 0 rfl ((S.wi _ _ _).wi _ _ _)
          obtain ⟨m9, e9, O9, F9, -, -⟩ := o_sheet Q1 (nI c) (nI la) (nI z) (u := u)
          rw [c2] at e9
          obtain rfl := rt_2 e9
          have k1 : ∀ a j, a ≠ 204 → a ≠ 205 → a ≠ 207 + c → a ≠ 230 → a ≠ 231 → a ≠ 232 → zh_i m2 a j = zh_i h a j := fun a j q1 q2 q3 q4 q5 q6 => by
            rw [em2, zfl_i, if_neg (by omega), hp_i_wi, if_neg (by omega), hp_i_wi, if_neg (by omega), em1, hp_i_fi, if_neg (by omega), hp_i_wi, if_neg (by omega), hp_i_wi, if_neg (by omega)]
          have b1 : ∀ a j, zh_b m2 a j = zh_b h a j := fun a j => by rw [em2, em1]; rfl
          have w4 : ∀ j, zh_i m2 204 j = if j = c then nI z else zh_i h 204 j := fun j => by
            rw [em2, zfl_i, if_neg (by omega), hp_i_wi, if_neg (by omega), hp_i_wi, if_neg (by omega), em1, hp_i_fi, if_neg (by omega), hp_i_wi]
            by_cases e : j = c
            · rw [if_pos ⟨rfl, e⟩, if_pos e]
            · rw [if_neg (fun w => e w.2), if_neg e, hp_i_wi, if_neg (by omega)]
          have w5 : ∀ j, zh_i m2 205 j = if j = c then nI la else zh_i h 205 j := fun j => by
            rw [em2, zfl_i, if_neg (by omega), hp_i_wi, if_neg (by omega), hp_i_wi, if_neg (by omega), em1, hp_i_fi, if_neg (by omega), hp_i_wi, if_neg (by omega), hp_i_wi]
            by_cases e : j = c
            · rw [if_pos ⟨rfl, e⟩, if_pos e]
            · rw [if_neg (fun w => e w.2), if_neg e]
          have w30 : ∀ j, zh_i m2 230 j = if j = c then nI la else zh_i h 230 j := fun j => by
            rw [em2, zfl_i, if_neg (by omega), hp_i_wi, if_neg (by omega), hp_i_wi]
            by_cases e : j = c
            · rw [if_pos ⟨rfl, e⟩, if_pos e]
            · rw [if_neg (fun w => e w.2), if_neg e, (F1.1 230 j (by decide)).1]
          have w31 : ∀ j, zh_i m2 231 j = if j = c then nI z else zh_i h 231 j := fun j => by
            rw [em2, zfl_i, if_neg (by omega), hp_i_wi]
            by_cases e : j = c
            · rw [if_pos ⟨rfl, e⟩, if_pos e]
            · rw [if_neg (fun w => e w.2), if_neg e, hp_i_wi, if_neg (by omega), (F1.1 231 j (by decide)).1]
          refine ⟨1, m1, m2, c1, S1, F1.2.1.trans l, F1.2.2, c2, O9, O1.fx O9.1 F9, G.of1 (fun o j ho => ⟨k1 _ _ (by omega) (by omega) (by omega) (by omega) (by omega) (by omega), b1 _ _⟩) (fun j _ => k1 _ _ (by omega) (by omega) (by omega) (by omega) (by omega) (by omega)), ⟨X.1.same (fun a j q => ⟨k1 _ _ (by omega) (by omega) (by omega) (by omega) (by omega) (by omega), b1 _ _⟩), ?_, X.2.2.1.same (k1 _ _ (by omega) (by omega) (by omega) (by omega) (by omega) (by omega)) (fun j => k1 _ _ (by omega) (by omega) (by omega) (by omega) (by omega) (by omega)) (fun j => k1 _ _ (by omega) (by omega) (by omega) (by omega) (by omega) (by omega)), fun k hk => ?_, fun k hk i hi => ?_, ?_⟩, ?_⟩
          · rw [k1 197 1 (by omega) (by omega) (by omega) (by omega) (by omega) (by omega), k1 211 8 (by omega) (by omega) (by omega) (by omega) (by omega) (by omega)]; exact X.2.1
          · rw [w4, w5, w30, w31]
            by_cases e : k = c
            · rw [if_pos e, if_pos e, if_pos e, if_pos e]
              exact Or.inr ⟨nI_n4 _ (by omega), rfl, z, hz, rfl, rfl⟩
            · rw [if_neg e, if_neg e, if_neg e, if_neg e]
              exact X.2.2.2.1 k hk
          · have sc := X.2.2.2.2.1 k hk i hi
            by_cases e : k = c
            · subst e
              rw [em2, zfl_i, if_neg (by omega), zfl_i, if_pos ⟨rfl, by omega, by omega⟩, hp_i_wi, if_neg (by omega), hp_i_wi, if_neg (by omega), em1, hp_i_fi, if_pos ⟨rfl, hi⟩]
            · rw [k1 _ _ (by omega) (by omega) (by omega) (by omega) (by omega) (by omega), sc, em2, zfl_i, if_neg (fun w => by omega), hp_i_wi, if_neg (by omega), hp_i_wi, if_neg (by omega), (F1.1 232 _ (by decide)).1]
          · rw [k1 0 8 (by omega) (by omega) (by omega) (by omega) (by omega) (by omega), k1 211 38 (by omega) (by omega) (by omega) (by omega) (by omega) (by omega)]; exact X.2.2.2.2.2
          · rw [F9.2.1, F1.2.1]; exact l
    · have hl : ¬ (¬ y < 0 ∧ y < 3) := fun q => hy ((rg (b := 2) (by decide)).mp q)
      refine Al.same R (-1) ?_ ?_
      · simp +decide only [b127_0, b127_4, b127_7, b127_11, b127_20, S.n, S.k, S.r, hp_n_wi, hp_k_wi, hp_r_wi, hp_n_wl, hp_k_wl, hp_r_wl, hp_n_wb, hp_k_wb, hp_r_wb, zq_rf, kx_0, kx_1, kx_2, kx_3, kx_4, kx_5, kx_6, kx_7, kx_8, kx_9, kx_10, kx_11, kx_12, kx_13, kx_14, kx_15, kx_16, kx_17, kx_33, kx_34, kx_50, kx_66, kx_67, kx_68, kx_69, kx_197, kx_198, kx_199, kx_200, kx_201, kx_202, kx_203, kx_204, kx_205, kx_206, kx_207, kx_208, kx_209, kx_210, rx_0_0, rx_0_1, rx_0_2, rx_0_3, rx_0_4, rx_0_5, rx_0_6, rx_0_7, rx_1_0, rx_1_1, rx_2_3, rx_2_4, rx_2_5, rx_2_6, rx_2_7, rx_2_8, rx_2_9, rx_10_0, rx_10_1, rx_10_2, rx_33_0, rx_33_1, rx_67_0, rx_68_0, rx_197_0, rx_199_5, rx_199_6, rx_199_7, rx_203_0, rx_203_1, rx_203_2, rx_206_0, rx_206_1, rx_206_2, rx_206_3, Option.bind_some, Option.toList_some, Option.toList_none, List.cons_append, List.nil_append, ↓reduceIte, p_138, p_139, decide_eq_true hv, decide_eq_false hl, zi_bI_t, zi_bI_f]
      · show zv 3 235 0 _ _ _ = _
        rw [b235_0, q_shn (fun w => hy w.2)]
        simp only [Option.bind_some, Option.toList_some, Option.toList_none, List.cons_append, List.nil_append]
        rw [b235_5, if_pos rfl, b235_14]
  · have hv : ¬ (¬ x < 0 ∧ x < 4) := fun q => hx ((rg (b := 3) (by decide)).mp q)
    refine Al.same R (-1) ?_ ?_
    · simp +decide only [b127_0, b127_4, b127_20, S.n, S.k, S.r, hp_n_wi, hp_k_wi, hp_r_wi, hp_n_wl, hp_k_wl, hp_r_wl, hp_n_wb, hp_k_wb, hp_r_wb, zq_rf, kx_0, kx_1, kx_2, kx_3, kx_4, kx_5, kx_6, kx_7, kx_8, kx_9, kx_10, kx_11, kx_12, kx_13, kx_14, kx_15, kx_16, kx_17, kx_33, kx_34, kx_50, kx_66, kx_67, kx_68, kx_69, kx_197, kx_198, kx_199, kx_200, kx_201, kx_202, kx_203, kx_204, kx_205, kx_206, kx_207, kx_208, kx_209, kx_210, rx_0_0, rx_0_1, rx_0_2, rx_0_3, rx_0_4, rx_0_5, rx_0_6, rx_0_7, rx_1_0, rx_1_1, rx_2_3, rx_2_4, rx_2_5, rx_2_6, rx_2_7, rx_2_8, rx_2_9, rx_10_0, rx_10_1, rx_10_2, rx_33_0, rx_33_1, rx_67_0, rx_68_0, rx_197_0, rx_199_5, rx_199_6, rx_199_7, rx_203_0, rx_203_1, rx_203_2, rx_206_0, rx_206_1, rx_206_2, rx_206_3, Option.bind_some, Option.toList_some, Option.toList_none, List.cons_append, List.nil_append, ↓reduceIte, p_138, decide_eq_false hv, zi_bI_f]
    · show zv 3 235 0 _ _ _ = _
      rw [b235_0, q_shn (fun w => hx w.1)]
      simp only [Option.bind_some, Option.toList_some, Option.toList_none, List.cons_append, List.nil_append]
      rw [b235_5, if_pos rfl, b235_14]
theorem s_wrV (S : Sh h) {c j : Nat} (hc : c < 4) (hj : j < 40) {v : Int32} : zv 2 26 0 [.ref 203, .int (nI c), .int (nI j), .int v] [] h = some (none, zh_wi h (207 + c) j (wrV (zh_i h 205 c) v)) := by
  have hv : ¬ nI c < 0 ∧ nI c < 4 := ⟨nI_pos (by omega), nI_lt (b := 4) hc (by decide)⟩
  have h0 : ¬ nI j < 0 := nI_pos (by omega)
  have h40 : nI j < 40 := nI_lt (b := 40) hj (by decide)
  have nc : (nI j).toNatClampNeg = j := nI_clamp (by omega)
  have hz : ¬ (nI j < 0 ∨ 40 ≤ j) := by have q := zj_n (N := 40) hj (by decide); rw [nc] at q; exact q
  unfold wrV
  have : c = 0 ∨ c = 1 ∨ c = 2 ∨ c = 3 := by omega
  rcases this with rfl | rfl | rfl | rfl
  all_goals
    simp +decide only [b26_0, b26_4, b26_7, b26_11, b26_17, b26_18, b26_34, b26_39, b26_49, b26_54, b26_55, S.n, S.k, S.r, hp_n_wi, hp_k_wi, hp_r_wi, hp_n_wl, hp_k_wl, hp_r_wl, hp_n_wb, hp_k_wb, hp_r_wb, zq_rf, kx_0, kx_1, kx_2, kx_3, kx_4, kx_5, kx_6, kx_7, kx_8, kx_9, kx_10, kx_11, kx_12, kx_13, kx_14, kx_15, kx_16, kx_17, kx_33, kx_34, kx_50, kx_66, kx_67, kx_68, kx_69, kx_197, kx_198, kx_199, kx_200, kx_201, kx_202, kx_203, kx_204, kx_205, kx_206, kx_207, kx_208, kx_209, kx_210, rx_0_0, rx_0_1, rx_0_2, rx_0_3, rx_0_4, rx_0_5, rx_0_6, rx_0_7, rx_1_0, rx_1_1, rx_2_3, rx_2_4, rx_2_5, rx_2_6, rx_2_7, rx_2_8, rx_2_9, rx_10_0, rx_10_1, rx_10_2, rx_33_0, rx_33_1, rx_67_0, rx_68_0, rx_197_0, rx_199_5, rx_199_6, rx_199_7, rx_203_0, rx_203_1, rx_203_2, rx_206_0, rx_206_1, rx_206_2, rx_206_3, Option.bind_some, Option.toList_some, Option.toList_none, List.cons_append, List.nil_append, ↓reduceIte, p_138, decide_eq_true hv, zi_bI_t, tc_0, tc_1, tc_2, tc_3, if_neg h0, if_pos h40, nc, hz]
    repeat' split
    all_goals rfl
theorem a_lay (R : R3 L h) (x y w : Int32) {u : Value} : Al L h (zv 3 128 0 [.ref 0, .int x, .int y, .int w, u] [] h) (fun m => zv 3 236 0 [.ref 211, .int x, .int y, .int w] [] m) := by
  obtain ⟨r, g, G, X, l⟩ := id R
  have S := r.1
  rcases in_or x 0 3 (by decide) (by decide) with ⟨c, -, hc, rfl, hx⟩ | hx
  · have hv : ¬ nI c < 0 ∧ nI c < 4 := (rg (b := 3) (by decide)).mpr hx
    have hc4 : c < 4 := by omega
    have nc : (nI c).toNatClampNeg = c := nI_clamp (by omega)
    have go : zv 3 128 0 [.ref 0, .int (nI c), .int y, .int w, u] [] h = zv 3 128 27 [.ref 0, .int (nI c), .int y, .int w, u] [.int (faV (zh_i h 204 c) (zh_i h 205 c) (zh_i h 205 c) y)] h := by
      have e24 := s_fav g hc4 (zh_i h 205 c) y
      have : c = 0 ∨ c = 1 ∨ c = 2 ∨ c = 3 := by omega
      rcases this with rfl | rfl | rfl | rfl
      · simp +decide only [b128_0, b128_4, b128_9, S.n, S.k, S.r, hp_n_wi, hp_k_wi, hp_r_wi, hp_n_wl, hp_k_wl, hp_r_wl, hp_n_wb, hp_k_wb, hp_r_wb, zq_rf, kx_0, kx_1, kx_2, kx_3, kx_4, kx_5, kx_6, kx_7, kx_8, kx_9, kx_10, kx_11, kx_12, kx_13, kx_14, kx_15, kx_16, kx_17, kx_33, kx_34, kx_50, kx_66, kx_67, kx_68, kx_69, kx_197, kx_198, kx_199, kx_200, kx_201, kx_202, kx_203, kx_204, kx_205, kx_206, kx_207, kx_208, kx_209, kx_210, rx_0_0, rx_0_1, rx_0_2, rx_0_3, rx_0_4, rx_0_5, rx_0_6, rx_0_7, rx_1_0, rx_1_1, rx_2_3, rx_2_4, rx_2_5, rx_2_6, rx_2_7, rx_2_8, rx_2_9, rx_10_0, rx_10_1, rx_10_2, rx_33_0, rx_33_1, rx_67_0, rx_68_0, rx_197_0, rx_199_5, rx_199_6, rx_199_7, rx_203_0, rx_203_1, rx_203_2, rx_206_0, rx_206_1, rx_206_2, rx_206_3, Option.bind_some, Option.toList_some, Option.toList_none, List.cons_append, List.nil_append, ↓reduceIte, p_138, decide_eq_true hv, zi_bI_t, tc_0, e24]
      · simp +decide only [b128_0, b128_4, b128_9, S.n, S.k, S.r, hp_n_wi, hp_k_wi, hp_r_wi, hp_n_wl, hp_k_wl, hp_r_wl, hp_n_wb, hp_k_wb, hp_r_wb, zq_rf, kx_0, kx_1, kx_2, kx_3, kx_4, kx_5, kx_6, kx_7, kx_8, kx_9, kx_10, kx_11, kx_12, kx_13, kx_14, kx_15, kx_16, kx_17, kx_33, kx_34, kx_50, kx_66, kx_67, kx_68, kx_69, kx_197, kx_198, kx_199, kx_200, kx_201, kx_202, kx_203, kx_204, kx_205, kx_206, kx_207, kx_208, kx_209, kx_210, rx_0_0, rx_0_1, rx_0_2, rx_0_3, rx_0_4, rx_0_5, rx_0_6, rx_0_7, rx_1_0, rx_1_1, rx_2_3, rx_2_4, rx_2_5, rx_2_6, rx_2_7, rx_2_8, rx_2_9, rx_10_0, rx_10_1, rx_10_2, rx_33_0, rx_33_1, rx_67_0, rx_68_0, rx_197_0, rx_199_5, rx_199_6, rx_199_7, rx_203_0, rx_203_1, rx_203_2, rx_206_0, rx_206_1, rx_206_2, rx_206_3, Option.bind_some, Option.toList_some, Option.toList_none, List.cons_append, List.nil_append, ↓reduceIte, p_138, decide_eq_true hv, zi_bI_t, tc_1, e24]
      · simp +decide only [b128_0, b128_4, b128_9, S.n, S.k, S.r, hp_n_wi, hp_k_wi, hp_r_wi, hp_n_wl, hp_k_wl, hp_r_wl, hp_n_wb, hp_k_wb, hp_r_wb, zq_rf, kx_0, kx_1, kx_2, kx_3, kx_4, kx_5, kx_6, kx_7, kx_8, kx_9, kx_10, kx_11, kx_12, kx_13, kx_14, kx_15, kx_16, kx_17, kx_33, kx_34, kx_50, kx_66, kx_67, kx_68, kx_69, kx_197, kx_198, kx_199, kx_200, kx_201, kx_202, kx_203, kx_204, kx_205, kx_206, kx_207, kx_208, kx_209, kx_210, rx_0_0, rx_0_1, rx_0_2, rx_0_3, rx_0_4, rx_0_5, rx_0_6, rx_0_7, rx_1_0, rx_1_1, rx_2_3, rx_2_4, rx_2_5, rx_2_6, rx_2_7, rx_2_8, rx_2_9, rx_10_0, rx_10_1, rx_10_2, rx_33_0, rx_33_1, rx_67_0, rx_68_0, rx_197_0, rx_199_5, rx_199_6, rx_199_7, rx_203_0, rx_203_1, rx_203_2, rx_206_0, rx_206_1, rx_206_2, rx_206_3, Option.bind_some, Option.toList_some, Option.toList_none, List.cons_append, List.nil_append, ↓reduceIte, p_138, decide_eq_true hv, zi_bI_t, tc_2, e24]
      · simp +decide only [b128_0, b128_4, b128_9, S.n, S.k, S.r, hp_n_wi, hp_k_wi, hp_r_wi, hp_n_wl, hp_k_wl, hp_r_wl, hp_n_wb, hp_k_wb, hp_r_wb, zq_rf, kx_0, kx_1, kx_2, kx_3, kx_4, kx_5, kx_6, kx_7, kx_8, kx_9, kx_10, kx_11, kx_12, kx_13, kx_14, kx_15, kx_16, kx_17, kx_33, kx_34, kx_50, kx_66, kx_67, kx_68, kx_69, kx_197, kx_198, kx_199, kx_200, kx_201, kx_202, kx_203, kx_204, kx_205, kx_206, kx_207, kx_208, kx_209, kx_210, rx_0_0, rx_0_1, rx_0_2, rx_0_3, rx_0_4, rx_0_5, rx_0_6, rx_0_7, rx_1_0, rx_1_1, rx_2_3, rx_2_4, rx_2_5, rx_2_6, rx_2_7, rx_2_8, rx_2_9, rx_10_0, rx_10_1, rx_10_2, rx_33_0, rx_33_1, rx_67_0, rx_68_0, rx_197_0, rx_199_5, rx_199_6, rx_199_7, rx_203_0, rx_203_1, rx_203_2, rx_206_0, rx_206_1, rx_206_2, rx_206_3, Option.bind_some, Option.toList_some, Option.toList_none, List.cons_append, List.nil_append, ↓reduceIte, p_138, decide_eq_true hv, zi_bI_t, tc_3, e24]
    have hz4 : ¬ (nI c < 0 ∨ 4 ≤ (nI c).toNatClampNeg) := zj_n (by omega) (by decide)
    have pr : ∀ {m : zi_Hp}, Sh m → zv 3 236 0 [.ref 211, .int (nI c), .int y, .int w] [] m = if zh_i m 230 c = -4 then some (some (.int (-11)), m) else zv 3 236 24 [.ref 211, .int (nI c), .int y, .int w] [] m := fun {m} S => by
      have r35 : zh_r m 211 35 = .ref 230 := by rw [S.r, rx_211_35]
      rw [b236_0, q_shy hx (by decide)]
      simp only [Option.bind_some, Option.toList_some, Option.toList_none, List.cons_append, List.nil_append]
      rw [b236_5, if_neg (by decide), b236_10 (S_g0 S) (S_g1 S) (by rw [r35, zq_rf]) (by rw [r35, zq_rf, S.n]; decide) (by rw [r35, zq_rf, S.k, kx_230]; exact hz4) (by rw [r35, zq_rf, S.k, kx_230]), r35, zq_rf, nc, b236_21]
    rcases X.2.2.2.1 c hc4 with ⟨t1, t2⟩ | ⟨t1, t2, z, hz, t3, t4⟩
    · refine Al.same R (-11) ?_ ?_
      · rw [go, t1]
        unfold faV
        rw [if_pos (by decide)]
        simp +decide only [b128_27, b128_34, S.n, S.k, S.r, hp_n_wi, hp_k_wi, hp_r_wi, hp_n_wl, hp_k_wl, hp_r_wl, hp_n_wb, hp_k_wb, hp_r_wb, zq_rf, kx_0, kx_1, kx_2, kx_3, kx_4, kx_5, kx_6, kx_7, kx_8, kx_9, kx_10, kx_11, kx_12, kx_13, kx_14, kx_15, kx_16, kx_17, kx_33, kx_34, kx_50, kx_66, kx_67, kx_68, kx_69, kx_197, kx_198, kx_199, kx_200, kx_201, kx_202, kx_203, kx_204, kx_205, kx_206, kx_207, kx_208, kx_209, kx_210, rx_0_0, rx_0_1, rx_0_2, rx_0_3, rx_0_4, rx_0_5, rx_0_6, rx_0_7, rx_1_0, rx_1_1, rx_2_3, rx_2_4, rx_2_5, rx_2_6, rx_2_7, rx_2_8, rx_2_9, rx_10_0, rx_10_1, rx_10_2, rx_33_0, rx_33_1, rx_67_0, rx_68_0, rx_197_0, rx_199_5, rx_199_6, rx_199_7, rx_203_0, rx_203_1, rx_203_2, rx_206_0, rx_206_1, rx_206_2, rx_206_3, Option.bind_some, Option.toList_some, Option.toList_none, List.cons_append, List.nil_append, ↓reduceIte]; rfl
      · show zv 3 236 0 _ _ _ = _
        rw [pr S, if_pos t2]
    · have pr2 : ∀ {m : zi_Hp}, Sh m → zh_i m 230 c = zh_i h 230 c → zh_i m 231 c = zh_i h 231 c → zv 3 236 0 [.ref 211, .int (nI c), .int y, .int w] [] m = if (0 : Int32) ≤ y ∧ y ≤ nI z - 1 then zv 3 236 45 [.ref 211, .int (nI c), .int y, .int w] [] m else some (some (.int (-12)), m) := fun {m} S e0 e1 => by
        have r36 : zh_r m 211 36 = .ref 231 := by rw [S.r, rx_211_36]
        rw [pr S, e0, if_neg t1, b236_24 (S_g0 S) (S_g1 S) (by rw [r36, zq_rf]) (by rw [r36, zq_rf, S.n]; decide) (by rw [r36, zq_rf, S.k, kx_231]; exact hz4) (by rw [r36, zq_rf, S.k, kx_231]), r36, zq_rf, nc, e1, t4, show (0 : Int64) = (0 : Int32).toInt64 from rfl, c_inI]
        simp only [Option.bind_some, Option.toList_some, Option.toList_none, List.cons_append, List.nil_append]
        rw [b236_39]
        by_cases hi : (0 : Int32) ≤ y ∧ y ≤ nI z - 1
        · rw [if_pos hi, if_pos hi, if_neg (by decide)]
        · rw [if_neg hi, if_neg hi, if_pos rfl, b236_42]
      by_cases hi : (0 : Int32) ≤ y ∧ y ≤ nI z - 1
      · have hi2 := (rg1 (by omega)).mpr hi
        obtain ⟨j, hj, rfl⟩ := nI_ex (b := z) (by omega) hi2.1 hi2.2
        have hfa : faV (zh_i h 204 c) (zh_i h 205 c) (zh_i h 205 c) (nI j) = 0 := by
          unfold faV
          rw [t3, if_neg (nI_pos (by omega)), if_pos rfl, if_neg hi2.1, if_pos hi2.2]
        obtain ⟨m1, em1⟩ : ∃ m1, m1 = zh_wi h (207 + c) j (wrV (zh_i h 205 c) w) := ⟨_, rfl⟩
        have e26 := s_wrV S hc4 (j := j) (by omega) (v := w)
        rw [← em1] at e26
        have c1 : zv 3 128 0 [.ref 0, .int (nI c), .int (nI j), .int w, u] [] h = some (some (.int 1), m1) := by
          rw [go, hfa]
          simp +decide only [b128_27, b128_40, b128_50, S.n, S.k, S.r, hp_n_wi, hp_k_wi, hp_r_wi, hp_n_wl, hp_k_wl, hp_r_wl, hp_n_wb, hp_k_wb, hp_r_wb, zq_rf, kx_0, kx_1, kx_2, kx_3, kx_4, kx_5, kx_6, kx_7, kx_8, kx_9, kx_10, kx_11, kx_12, kx_13, kx_14, kx_15, kx_16, kx_17, kx_33, kx_34, kx_50, kx_66, kx_67, kx_68, kx_69, kx_197, kx_198, kx_199, kx_200, kx_201, kx_202, kx_203, kx_204, kx_205, kx_206, kx_207, kx_208, kx_209, kx_210, rx_0_0, rx_0_1, rx_0_2, rx_0_3, rx_0_4, rx_0_5, rx_0_6, rx_0_7, rx_1_0, rx_1_1, rx_2_3, rx_2_4, rx_2_5, rx_2_6, rx_2_7, rx_2_8, rx_2_9, rx_10_0, rx_10_1, rx_10_2, rx_33_0, rx_33_1, rx_67_0, rx_68_0, rx_197_0, rx_199_5, rx_199_6, rx_199_7, rx_203_0, rx_203_1, rx_203_2, rx_206_0, rx_206_1, rx_206_2, rx_206_3, Option.bind_some, Option.toList_some, Option.toList_none, List.cons_append, List.nil_append, ↓reduceIte, e26]
        have O1 : GO m1 := by rw [em1]; exact g.wi (wo_p (by omega))
        have F1 : Fb h m1 := by rw [em1]; exact Fb.wi (by omega)
        have S1 := O1.1
        have Q1 : RO m1 := r.fc S1 F1
        obtain ⟨m2, em2⟩ : ∃ m2, m2 = zh_wi m1 232 (40 * c + j) (wrV (zh_i h 205 c) w) := ⟨_, rfl⟩
        have c2 : zv 3 236 0 [.ref 211, .int (nI c), .int (nI j), .int w] [] m1 = some (some (.int 1), m2) := by
          have S := S1
          have r35 : zh_r m1 211 35 = .ref 230 := by rw [S.r, rx_211_35]
          have r37 : zh_r m1 211 37 = .ref 232 := by rw [S.r, rx_211_37]
          have e0 : zh_i m1 230 c = zh_i h 230 c := (F1.1 230 c (by decide)).1
          have fin : ∀ v : Int32, zv 3 236 85 [.ref 211, .int (nI c), .int (nI j), .int w] [.int v, .int (40 * nI c + nI j), .ref 232] m1 = some (some (.int 1), zh_wi m1 232 (40 * c + j) v) := fun v => by
            rw [nI_iy, b236_85 (by rw [S.n]; decide) (by rw [S.k, kx_232]; exact zj_n (by omega) (by decide)) (by rw [S.k, kx_232]), nI_clamp (by omega)]
          rw [pr2 S e0 (F1.1 231 c (by decide)).1, if_pos hi, b236_45 (S_g0 S) (S_g1 S) (by rw [r37, zq_rf]) (by rw [r35, zq_rf]) (by rw [r35, zq_rf, S.n]; decide) (by rw [r35, zq_rf, S.k, kx_230]; exact hz4) (by rw [r35, zq_rf, S.k, kx_230]), r35, r37, zq_rf, zq_rf, nc, e0, em2, t2]
          unfold wrV
          by_cases h0 : zh_i h 230 c = 0
          · rw [if_pos h0, if_pos h0, b236_64]; exact fin _
          · rw [if_neg h0, if_neg h0, b236_69 (S_g0 S) (S_g1 S) (by rw [r35, zq_rf]) (by rw [r35, zq_rf, S.n]; decide) (by rw [r35, zq_rf, S.k, kx_230]; exact hz4) (by rw [r35, zq_rf, S.k, kx_230]), r35, zq_rf, nc, e0]
            by_cases h1 : zh_i h 230 c = 1
            · rw [if_pos h1, if_pos h1, b236_79]; exact fin _
            · rw [if_neg h1, if_neg h1, b236_84]; exact fin _
        obtain ⟨v9, m9, e9, O9, F9⟩ := o_lay Q1 (nI c) (nI j) w
        rw [c2] at e9
        obtain rfl := rt_2 e9
        have k1 : ∀ a k, (a ≠ 207 + c ∨ k ≠ j) → (a ≠ 232 ∨ k ≠ 40 * c + j) → zh_i m2 a k = zh_i h a k := fun a k q1 q2 => by
          rw [em2, hp_i_wi, if_neg (by omega), em1, hp_i_wi, if_neg (by omega)]
        have b1 : ∀ a j, zh_b m2 a j = zh_b h a j := fun a j => by rw [em2, em1]; rfl
        refine ⟨1, m1, m2, c1, S1, F1.2.1.trans l, F1.2.2, c2, O9, O1.fx O9.1 F9.1.1, G.of1 (fun o j ho => ⟨k1 _ _ (by omega) (by omega), b1 _ _⟩) (fun j _ => k1 _ _ (by omega) (by omega)), ⟨X.1.same (fun a j q => ⟨k1 _ _ (by omega) (by omega), b1 _ _⟩), ?_, X.2.2.1.same (k1 _ _ (by omega) (by omega)) (fun j => k1 _ _ (by omega) (by omega)) (fun j => k1 _ _ (by omega) (by omega)), X.2.2.2.1.same (fun k => ⟨k1 _ _ (by omega) (by omega), k1 _ _ (by omega) (by omega), k1 _ _ (by omega) (by omega), k1 _ _ (by omega) (by omega)⟩), fun k hk i hi => ?_, ?_⟩, ?_⟩
        · rw [k1 197 1 (by omega) (by omega), k1 211 8 (by omega) (by omega)]; exact X.2.1
        · by_cases e : k = c ∧ i = j
          · obtain ⟨rfl, rfl⟩ := e
            rw [em2, hp_i_wi, if_neg (by omega), hp_i_wi, if_pos ⟨rfl, rfl⟩, em1, hp_i_wi, if_pos ⟨rfl, rfl⟩]
          · rw [k1 _ _ (by omega) (by omega), k1 232 _ (by omega) (by omega)]
            exact X.2.2.2.2.1 k hk i hi
        · rw [k1 0 8 (by omega) (by omega), k1 211 38 (by omega) (by omega)]; exact X.2.2.2.2.2
        · rw [F9.1.1.2.1, F1.2.1]; exact l
      · have hi2 : ¬ (¬ y < 0 ∧ y < nI z) := fun q => hi ((rg1 (by omega)).mp q)
        have hfa : faV (zh_i h 204 c) (zh_i h 205 c) (zh_i h 205 c) y = 2 := by
          unfold faV
          rw [t3, if_neg (nI_pos (by omega)), if_pos rfl]
          by_cases q0 : y < 0
          · rw [if_pos q0]
          · rw [if_neg q0, if_neg (fun w => hi2 ⟨q0, w⟩)]
        refine Al.same R (-12) ?_ ?_
        · rw [go, hfa]
          simp +decide only [b128_27, b128_34, S.n, S.k, S.r, hp_n_wi, hp_k_wi, hp_r_wi, hp_n_wl, hp_k_wl, hp_r_wl, hp_n_wb, hp_k_wb, hp_r_wb, zq_rf, kx_0, kx_1, kx_2, kx_3, kx_4, kx_5, kx_6, kx_7, kx_8, kx_9, kx_10, kx_11, kx_12, kx_13, kx_14, kx_15, kx_16, kx_17, kx_33, kx_34, kx_50, kx_66, kx_67, kx_68, kx_69, kx_197, kx_198, kx_199, kx_200, kx_201, kx_202, kx_203, kx_204, kx_205, kx_206, kx_207, kx_208, kx_209, kx_210, rx_0_0, rx_0_1, rx_0_2, rx_0_3, rx_0_4, rx_0_5, rx_0_6, rx_0_7, rx_1_0, rx_1_1, rx_2_3, rx_2_4, rx_2_5, rx_2_6, rx_2_7, rx_2_8, rx_2_9, rx_10_0, rx_10_1, rx_10_2, rx_33_0, rx_33_1, rx_67_0, rx_68_0, rx_197_0, rx_199_5, rx_199_6, rx_199_7, rx_203_0, rx_203_1, rx_203_2, rx_206_0, rx_206_1, rx_206_2, rx_206_3, Option.bind_some, Option.toList_some, Option.toList_none, List.cons_append, List.nil_append, ↓reduceIte]; rfl
        · show zv 3 236 0 _ _ _ = _
          rw [pr2 S rfl rfl, if_neg hi]
  · have hv : ¬ (¬ x < 0 ∧ x < 4) := fun q => hx ((rg (b := 3) (by decide)).mp q)
    refine Al.same R (-1) ?_ ?_
    · simp +decide only [b128_0, b128_4, b128_7, S.n, S.k, S.r, hp_n_wi, hp_k_wi, hp_r_wi, hp_n_wl, hp_k_wl, hp_r_wl, hp_n_wb, hp_k_wb, hp_r_wb, zq_rf, kx_0, kx_1, kx_2, kx_3, kx_4, kx_5, kx_6, kx_7, kx_8, kx_9, kx_10, kx_11, kx_12, kx_13, kx_14, kx_15, kx_16, kx_17, kx_33, kx_34, kx_50, kx_66, kx_67, kx_68, kx_69, kx_197, kx_198, kx_199, kx_200, kx_201, kx_202, kx_203, kx_204, kx_205, kx_206, kx_207, kx_208, kx_209, kx_210, rx_0_0, rx_0_1, rx_0_2, rx_0_3, rx_0_4, rx_0_5, rx_0_6, rx_0_7, rx_1_0, rx_1_1, rx_2_3, rx_2_4, rx_2_5, rx_2_6, rx_2_7, rx_2_8, rx_2_9, rx_10_0, rx_10_1, rx_10_2, rx_33_0, rx_33_1, rx_67_0, rx_68_0, rx_197_0, rx_199_5, rx_199_6, rx_199_7, rx_203_0, rx_203_1, rx_203_2, rx_206_0, rx_206_1, rx_206_2, rx_206_3, Option.bind_some, Option.toList_some, Option.toList_none, List.cons_append, List.nil_append, ↓reduceIte, p_138, decide_eq_false hv, zi_bI_f]
    · show zv 3 236 0 _ _ _ = _
      rw [b236_0, q_shn (fun w => hx w.1)]
      simp only [Option.bind_some, Option.toList_some, Option.toList_none, List.cons_append, List.nil_append]
      rw [b236_5, if_pos rfl, b236_8]
end R34H
end
section
/-! BOTH SIDES: read -/
/-- what the reference's memory has of the sheets, of its saved row, of the fault -/
def RD (h0 : zi_Hp) (s0 : Nat → Int32) (h1 : zi_Hp) : Prop := (∀ j, zh_i h1 230 j = zh_i h0 230 j) ∧ (∀ j, zh_i h1 231 j = zh_i h0 231 j) ∧ (∀ j, zh_i h1 232 j = zh_i h0 232 j) ∧ (∀ j, j < 387 → zh_i h1 221 j = s0 j) ∧ zh_i h1 211 38 = zh_i h0 0 8
section R34I
variable {h h0 h1 h2 : zi_Hp} {L : Nat} {x x1 : Nat → Nat → Int32} {y y1 : Nat → Nat → Bool} {s s0 s1 : Nat → Int32} {c n : Nat}
theorem wi_id {a k : Nat} {v : Int32} (e : v = zh_i h a k) : zh_wi h a k v = h := by
  subst e
  refine zh_ext rfl rfl (fun _ => rfl) (fun b j => ?_) (fun _ _ => rfl) (fun _ _ => rfl) (fun _ _ => rfl) rfl rfl
  rw [hp_i_wi]
  by_cases q : b = a ∧ j = k
  · rw [if_pos q, q.1, q.2]
  · rw [if_neg q]
theorem r_ceV (S : Sh h) {c j : Nat} (hc : c < 4) (hj : j < 40) : zv 2 25 0 [.ref 203, .int (nI c), .int (nI j)] [] h = some (some (.int (zh_i h (207 + c) j)), h) := by
  have hv : ¬ nI c < 0 ∧ nI c < 4 := ⟨nI_pos (by omega), nI_lt (b := 4) hc (by decide)⟩
  have h0 : ¬ nI j < 0 := nI_pos (by omega)
  have h40 : nI j < 40 := nI_lt (b := 40) hj (by decide)
  have nc : (nI j).toNatClampNeg = j := nI_clamp (by omega)
  have hz : ¬ (nI j < 0 ∨ 40 ≤ j) := by have q := zj_n (N := 40) hj (by decide); rw [nc] at q; exact q
  have : c = 0 ∨ c = 1 ∨ c = 2 ∨ c = 3 := by omega
  rcases this with rfl | rfl | rfl | rfl
  · simp +decide only [b25_0, b25_4, b25_7, b25_11, b25_17, b25_30, S.n, S.k, S.r, hp_n_wi, hp_k_wi, hp_r_wi, hp_n_wl, hp_k_wl, hp_r_wl, hp_n_wb, hp_k_wb, hp_r_wb, zq_rf, kx_0, kx_1, kx_2, kx_3, kx_4, kx_5, kx_6, kx_7, kx_8, kx_9, kx_10, kx_11, kx_12, kx_13, kx_14, kx_15, kx_16, kx_17, kx_33, kx_34, kx_50, kx_66, kx_67, kx_68, kx_69, kx_197, kx_198, kx_199, kx_200, kx_201, kx_202, kx_203, kx_204, kx_205, kx_206, kx_207, kx_208, kx_209, kx_210, rx_0_0, rx_0_1, rx_0_2, rx_0_3, rx_0_4, rx_0_5, rx_0_6, rx_0_7, rx_1_0, rx_1_1, rx_2_3, rx_2_4, rx_2_5, rx_2_6, rx_2_7, rx_2_8, rx_2_9, rx_10_0, rx_10_1, rx_10_2, rx_33_0, rx_33_1, rx_67_0, rx_68_0, rx_197_0, rx_199_5, rx_199_6, rx_199_7, rx_203_0, rx_203_1, rx_203_2, rx_206_0, rx_206_1, rx_206_2, rx_206_3, Option.bind_some, Option.toList_some, Option.toList_none, List.cons_append, List.nil_append, ↓reduceIte, p_138, decide_eq_true hv, zi_bI_t, tc_0, if_neg h0, if_pos h40, nc, hz]
  · simp +decide only [b25_0, b25_4, b25_7, b25_11, b25_17, b25_30, S.n, S.k, S.r, hp_n_wi, hp_k_wi, hp_r_wi, hp_n_wl, hp_k_wl, hp_r_wl, hp_n_wb, hp_k_wb, hp_r_wb, zq_rf, kx_0, kx_1, kx_2, kx_3, kx_4, kx_5, kx_6, kx_7, kx_8, kx_9, kx_10, kx_11, kx_12, kx_13, kx_14, kx_15, kx_16, kx_17, kx_33, kx_34, kx_50, kx_66, kx_67, kx_68, kx_69, kx_197, kx_198, kx_199, kx_200, kx_201, kx_202, kx_203, kx_204, kx_205, kx_206, kx_207, kx_208, kx_209, kx_210, rx_0_0, rx_0_1, rx_0_2, rx_0_3, rx_0_4, rx_0_5, rx_0_6, rx_0_7, rx_1_0, rx_1_1, rx_2_3, rx_2_4, rx_2_5, rx_2_6, rx_2_7, rx_2_8, rx_2_9, rx_10_0, rx_10_1, rx_10_2, rx_33_0, rx_33_1, rx_67_0, rx_68_0, rx_197_0, rx_199_5, rx_199_6, rx_199_7, rx_203_0, rx_203_1, rx_203_2, rx_206_0, rx_206_1, rx_206_2, rx_206_3, Option.bind_some, Option.toList_some, Option.toList_none, List.cons_append, List.nil_append, ↓reduceIte, p_138, decide_eq_true hv, zi_bI_t, tc_1, if_neg h0, if_pos h40, nc, hz]
  · simp +decide only [b25_0, b25_4, b25_7, b25_11, b25_17, b25_30, S.n, S.k, S.r, hp_n_wi, hp_k_wi, hp_r_wi, hp_n_wl, hp_k_wl, hp_r_wl, hp_n_wb, hp_k_wb, hp_r_wb, zq_rf, kx_0, kx_1, kx_2, kx_3, kx_4, kx_5, kx_6, kx_7, kx_8, kx_9, kx_10, kx_11, kx_12, kx_13, kx_14, kx_15, kx_16, kx_17, kx_33, kx_34, kx_50, kx_66, kx_67, kx_68, kx_69, kx_197, kx_198, kx_199, kx_200, kx_201, kx_202, kx_203, kx_204, kx_205, kx_206, kx_207, kx_208, kx_209, kx_210, rx_0_0, rx_0_1, rx_0_2, rx_0_3, rx_0_4, rx_0_5, rx_0_6, rx_0_7, rx_1_0, rx_1_1, rx_2_3, rx_2_4, rx_2_5, rx_2_6, rx_2_7, rx_2_8, rx_2_9, rx_10_0, rx_10_1, rx_10_2, rx_33_0, rx_33_1, rx_67_0, rx_68_0, rx_197_0, rx_199_5, rx_199_6, rx_199_7, rx_203_0, rx_203_1, rx_203_2, rx_206_0, rx_206_1, rx_206_2, rx_206_3, Option.bind_some, Option.toList_some, Option.toList_none, List.cons_append, List.nil_append, ↓reduceIte, p_138, decide_eq_true hv, zi_bI_t, tc_2, if_neg h0, if_pos h40, nc, hz]
  · simp +decide only [b25_0, b25_4, b25_7, b25_11, b25_17, b25_30, S.n, S.k, S.r, hp_n_wi, hp_k_wi, hp_r_wi, hp_n_wl, hp_k_wl, hp_r_wl, hp_n_wb, hp_k_wb, hp_r_wb, zq_rf, kx_0, kx_1, kx_2, kx_3, kx_4, kx_5, kx_6, kx_7, kx_8, kx_9, kx_10, kx_11, kx_12, kx_13, kx_14, kx_15, kx_16, kx_17, kx_33, kx_34, kx_50, kx_66, kx_67, kx_68, kx_69, kx_197, kx_198, kx_199, kx_200, kx_201, kx_202, kx_203, kx_204, kx_205, kx_206, kx_207, kx_208, kx_209, kx_210, rx_0_0, rx_0_1, rx_0_2, rx_0_3, rx_0_4, rx_0_5, rx_0_6, rx_0_7, rx_1_0, rx_1_1, rx_2_3, rx_2_4, rx_2_5, rx_2_6, rx_2_7, rx_2_8, rx_2_9, rx_10_0, rx_10_1, rx_10_2, rx_33_0, rx_33_1, rx_67_0, rx_68_0, rx_197_0, rx_199_5, rx_199_6, rx_199_7, rx_203_0, rx_203_1, rx_203_2, rx_206_0, rx_206_1, rx_206_2, rx_206_3, Option.bind_some, Option.toList_some, Option.toList_none, List.cons_append, List.nil_append, ↓reduceIte, p_138, decide_eq_true hv, zi_bI_t, tc_3, if_neg h0, if_pos h40, nc, hz]
/-- one cell is put, by both -/
theorem j_put (S : Sh h) (G : Gs x y s) (k : Int32) : ∃ (b : Bool) (x' : Nat → Nat → Int32) (y' : Nat → Nat → Bool) (s' : Nat → Int32), zv 7 132 0 [.ref 0, .int k] [] (zC h 1 x y) = some (some (.int (zi_bI b)), zC h 1 x' y') ∧ Gs x' y' s' ∧ ((¬ (nI 0 ≤ k ∧ k ≤ nI 99) ∧ b = false ∧ s' = s) ∨ ((nI 0 ≤ k ∧ k ≤ nI 99) ∧ ∃ v, (b = false ↔ v = -3) ∧ ∀ (h1 : zi_Hp) (q : zQs), Sh h1 → ∃ q', zv 7 179 0 [.ref 211, .int 1, .int k] [] (zQ h1 q s) = some (some (.int v), zQ h1 q' s'))) := by
  have S' : Sh (zC h 1 x y) := zC_S S
  have r00 : zh_r (zC h 1 x y) 0 0 = .ref 1 := by rw [S'.r, rx_0_0]
  rcases in_or k 0 99 (by decide) (by decide) with ⟨n, -, hn, rfl, hx⟩ | hx
  · have hv : ¬ nI n < 0 ∧ nI n < 100 := (rg (b := 99) (by decide)).mpr hx
    obtain ⟨v, x', y', s', e, G', er⟩ := j_does S V1 G (a := 1) (by decide) (k := n) hn
    have e' : zv 6 78 0 [.ref 1, .int 1, .int (nI n), .double 0, .double 0] [] (zC h 1 x y) = some (some (.int v), zC h 1 x' y') := e
    have er' : ∀ (h1 : zi_Hp) (q : zQs), Sh h1 → ∃ q', zv 7 179 0 [.ref 211, .int 1, .int (nI n)] [] (zQ h1 q s) = some (some (.int v), zQ h1 q' s') := fun h1 q S1 => er (q := q) S1
    have S := S'
    by_cases q : v = -3
    · exact ⟨false, x', y', s', by simp +decide only [b132_0, b132_4, b132_7, b132_16, b132_25, b132_26, S.n, S.k, S.r, hp_n_wi, hp_k_wi, hp_r_wi, hp_n_wl, hp_k_wl, hp_r_wl, hp_n_wb, hp_k_wb, hp_r_wb, zq_rf, kx_0, kx_1, kx_2, kx_3, kx_4, kx_5, kx_6, kx_7, kx_8, kx_9, kx_10, kx_11, kx_12, kx_13, kx_14, kx_15, kx_16, kx_17, kx_33, kx_34, kx_50, kx_66, kx_67, kx_68, kx_69, kx_197, kx_198, kx_199, kx_200, kx_201, kx_202, kx_203, kx_204, kx_205, kx_206, kx_207, kx_208, kx_209, kx_210, rx_0_0, rx_0_1, rx_0_2, rx_0_3, rx_0_4, rx_0_5, rx_0_6, rx_0_7, rx_1_0, rx_1_1, rx_2_3, rx_2_4, rx_2_5, rx_2_6, rx_2_7, rx_2_8, rx_2_9, rx_10_0, rx_10_1, rx_10_2, rx_33_0, rx_33_1, rx_67_0, rx_68_0, rx_197_0, rx_199_5, rx_199_6, rx_199_7, rx_203_0, rx_203_1, rx_203_2, rx_206_0, rx_206_1, rx_206_2, rx_206_3, Option.bind_some, Option.toList_some, Option.toList_none, List.cons_append, List.nil_append, ↓reduceIte, p_134, decide_eq_true hv, zi_bI_t, zi_bI_f, e', if_pos q], G', Or.inr ⟨hx, v, ⟨fun _ => q, fun _ => rfl⟩, er'⟩⟩
    · exact ⟨true, x', y', s', by simp +decide only [b132_0, b132_4, b132_7, b132_16, b132_21, b132_26, S.n, S.k, S.r, hp_n_wi, hp_k_wi, hp_r_wi, hp_n_wl, hp_k_wl, hp_r_wl, hp_n_wb, hp_k_wb, hp_r_wb, zq_rf, kx_0, kx_1, kx_2, kx_3, kx_4, kx_5, kx_6, kx_7, kx_8, kx_9, kx_10, kx_11, kx_12, kx_13, kx_14, kx_15, kx_16, kx_17, kx_33, kx_34, kx_50, kx_66, kx_67, kx_68, kx_69, kx_197, kx_198, kx_199, kx_200, kx_201, kx_202, kx_203, kx_204, kx_205, kx_206, kx_207, kx_208, kx_209, kx_210, rx_0_0, rx_0_1, rx_0_2, rx_0_3, rx_0_4, rx_0_5, rx_0_6, rx_0_7, rx_1_0, rx_1_1, rx_2_3, rx_2_4, rx_2_5, rx_2_6, rx_2_7, rx_2_8, rx_2_9, rx_10_0, rx_10_1, rx_10_2, rx_33_0, rx_33_1, rx_67_0, rx_68_0, rx_197_0, rx_199_5, rx_199_6, rx_199_7, rx_203_0, rx_203_1, rx_203_2, rx_206_0, rx_206_1, rx_206_2, rx_206_3, Option.bind_some, Option.toList_some, Option.toList_none, List.cons_append, List.nil_append, ↓reduceIte, p_134, decide_eq_true hv, zi_bI_t, zi_bI_f, e', if_neg q], G', Or.inr ⟨hx, v, ⟨fun w => absurd w (by decide), fun w => absurd w q⟩, er'⟩⟩
  · have hv : ¬ (¬ k < 0 ∧ k < 100) := fun q => hx ((rg (b := 99) (by decide)).mp q)
    have S := S'
    exact ⟨false, x, y, s, by simp +decide only [b132_0, b132_4, b132_25, b132_26, S.n, S.k, S.r, hp_n_wi, hp_k_wi, hp_r_wi, hp_n_wl, hp_k_wl, hp_r_wl, hp_n_wb, hp_k_wb, hp_r_wb, zq_rf, kx_0, kx_1, kx_2, kx_3, kx_4, kx_5, kx_6, kx_7, kx_8, kx_9, kx_10, kx_11, kx_12, kx_13, kx_14, kx_15, kx_16, kx_17, kx_33, kx_34, kx_50, kx_66, kx_67, kx_68, kx_69, kx_197, kx_198, kx_199, kx_200, kx_201, kx_202, kx_203, kx_204, kx_205, kx_206, kx_207, kx_208, kx_209, kx_210, rx_0_0, rx_0_1, rx_0_2, rx_0_3, rx_0_4, rx_0_5, rx_0_6, rx_0_7, rx_1_0, rx_1_1, rx_2_3, rx_2_4, rx_2_5, rx_2_6, rx_2_7, rx_2_8, rx_2_9, rx_10_0, rx_10_1, rx_10_2, rx_33_0, rx_33_1, rx_67_0, rx_68_0, rx_197_0, rx_199_5, rx_199_6, rx_199_7, rx_203_0, rx_203_1, rx_203_2, rx_206_0, rx_206_1, rx_206_2, rx_206_3, Option.bind_some, Option.toList_some, Option.toList_none, List.cons_append, List.nil_append, ↓reduceIte, p_134, decide_eq_false hv, zi_bI_f], G, Or.inl ⟨hx, rfl, rfl⟩⟩
theorem ci_q {q : zQs} (e : ∀ j, j < 387 → zh_i h 221 (387 * 0 + j) = s0 j) : zh_ci (zQ h q s) 221 (387 * 0) 212 0 387 = zQ h q (fun j => if j < 387 then s0 j else s j) := by
  refine zh_ext rfl rfl (fun _ => rfl) (fun b j => ?_) (fun _ _ => rfl) (fun _ _ => rfl) (fun _ _ => rfl) rfl rfl
  rw [hp_i_ci]
  by_cases q1 : b = 212
  · subst q1
    rw [zQ_212, zQ_212]
    by_cases q2 : j < 387
    · rw [if_pos ⟨rfl, by omega, by omega⟩, if_pos q2, zQ_o _ (by decide) (by decide) (by decide) (by decide), Nat.sub_zero, e j q2]
    · rw [if_neg (fun w => by omega), if_neg q2]
  · rw [if_neg (fun w => q1 w.1)]
    by_cases q2 : b = 215
    · subst q2; rw [zQ_215, zQ_215]
    · by_cases q3 : b = 216
      · subst q3; rw [zQ_216, zQ_216]
      · by_cases q4 : b = 211
        · subst q4
          by_cases q5 : j = 5
          · subst q5; rw [zQ_2115, zQ_2115]
          · rw [zQ_211 q5, zQ_211 q5]
        · rw [zQ_o j q4 q1 q2 q3, zQ_o j q4 q1 q2 q3]
theorem j_rdL (g0 : GO h0) (X0 : SHT h0) (C0 : SC h0) (hc : c < 4) (hn : n ≤ 40) (Gp : Gs (wx h0 17) (wy h0 17) s0) {l f : Int32} : ∀ d i, i + d = n → ∀ {x : Nat → Nat → Int32} {y : Nat → Nat → Bool} {s : Nat → Int32} {u6 : Value}, Gs x y s → ∃ (v : Int32) (x' : Nat → Nat → Int32) (y' : Nat → Nat → Bool) (s' : Nat → Int32) (t : Int32), zv 8 129 70 [.ref 0, .int (nI c), .int l, .int f, .int (nI n), .int (nI i), u6] [] (zC h0 1 x y) = some (some (.int v), zh_wi (zC h0 1 x' y') 0 8 t) ∧ Gs x' y' s' ∧ ∀ (h1 : zi_Hp) (q : zQs) (u8 u9 u10 : Value), Sh h1 → RD h0 s0 h1 → ∃ q', zv 8 237 56 [.ref 211, .int (nI c), .int l, .int f, .int (nI n), .int 0, .int (nI i), .int (nI i), u8, u9, u10] [] (zQ h1 q s) = some (some (.int v), zh_wi (zQ h1 q' s') 211 38 t)
  | 0, i, hi, x, y, s, u6, G => by
    have e : i = n := by omega
    subst e
    have S : Sh (zC h0 1 x y) := zC_S g0.1
    have lt : ¬ nI i < nI i := Int32.lt_irrefl
    refine ⟨nI i, x, y, s, 0, by simp +decide only [b129_70, b129_148, S.n, S.k, S.r, hp_n_wi, hp_k_wi, hp_r_wi, hp_n_wl, hp_k_wl, hp_r_wl, hp_n_wb, hp_k_wb, hp_r_wb, zq_rf, kx_0, kx_1, kx_2, kx_3, kx_4, kx_5, kx_6, kx_7, kx_8, kx_9, kx_10, kx_11, kx_12, kx_13, kx_14, kx_15, kx_16, kx_17, kx_33, kx_34, kx_50, kx_66, kx_67, kx_68, kx_69, kx_197, kx_198, kx_199, kx_200, kx_201, kx_202, kx_203, kx_204, kx_205, kx_206, kx_207, kx_208, kx_209, kx_210, rx_0_0, rx_0_1, rx_0_2, rx_0_3, rx_0_4, rx_0_5, rx_0_6, rx_0_7, rx_1_0, rx_1_1, rx_2_3, rx_2_4, rx_2_5, rx_2_6, rx_2_7, rx_2_8, rx_2_9, rx_10_0, rx_10_1, rx_10_2, rx_33_0, rx_33_1, rx_67_0, rx_68_0, rx_197_0, rx_199_5, rx_199_6, rx_199_7, rx_203_0, rx_203_1, rx_203_2, rx_206_0, rx_206_1, rx_206_2, rx_206_3, Option.bind_some, Option.toList_some, Option.toList_none, List.cons_append, List.nil_append, ↓reduceIte, if_neg lt], G, fun h1 q u8 u9 u10 S1 D => ⟨q, ?_⟩⟩
    rw [b237_56, if_neg lt, b237_198 (q_g0 S1) (q_g1 S1)]
  | d + 1, i, hi, x, y, s, u6, G => by
    have O : GO (zC h0 1 x y) := g0.zC V1 G.gw
    have S : Sh (zC h0 1 x y) := O.1
    have nc : (nI c).toNatClampNeg = c := nI_clamp (by omega)
    have lt : nI i < nI n := nI_lt (by omega) (by omega)
    have i4 : zh_i (zC h0 1 x y) 204 c = zh_i h0 204 c := zC_io c (by decide)
    have i5 : zh_i (zC h0 1 x y) 205 c = zh_i h0 205 c := zC_io c (by decide)
    have ew := s_fav O hc l (f + nI i)
    rw [i4, i5] at ew
    have hz4 : ¬ (nI c < 0 ∨ 4 ≤ (nI c).toNatClampNeg) := zj_n hc (by decide)
    have rp : ∀ (h1 : zi_Hp) (q : zQs) (u8 u9 u10 : Value), Sh h1 → RD h0 s0 h1 → zv 8 237 56 [.ref 211, .int (nI c), .int l, .int f, .int (nI n), .int 0, .int (nI i), .int (nI i), u8, u9, u10] [] (zQ h1 q s) = if zh_i h0 230 c = -4 then zv 8 237 130 [.ref 211, .int (nI c), .int l, .int f, .int (nI n), .int 0, .int (nI i), .int (nI i), .long (f.toInt64 + (nI i).toInt64), .double 1, u10] [.int 1] (zQ h1 q s) else if zh_i h0 230 c = l then zv 8 237 105 [.ref 211, .int (nI c), .int l, .int f, .int (nI n), .int 0, .int (nI i), .int (nI i), .long (f.toInt64 + (nI i).toInt64), .double 1, u10] [] (zQ h1 q s) else zv 8 237 130 [.ref 211, .int (nI c), .int l, .int f, .int (nI n), .int 0, .int (nI i), .int (nI i), .long (f.toInt64 + (nI i).toInt64), .double 1, u10] [.int 3] (zQ h1 q s) := fun h1 q u8 u9 u10 S1 D => by
      have S : Sh (zQ h1 q s) := zQ_S S1
      have r35 : zh_r (zQ h1 q s) 211 35 = .ref 230 := by rw [S.r, rx_211_35]
      have e30 : zh_i (zQ h1 q s) 230 c = zh_i h0 230 c := by rw [zQ_o c (by decide) (by decide) (by decide) (by decide)]; exact D.1 c
      rw [b237_56, if_pos lt, b237_63, if_pos rfl, b237_68 (S_g0 S) (S_g1 S) (by rw [r35, zq_rf]) (by rw [r35, zq_rf, S.n]; decide) (by rw [r35, zq_rf, S.k, kx_230]; exact hz4) (by rw [r35, zq_rf, S.k, kx_230]), r35, zq_rf, nc, e30]
      by_cases hl : zh_i h0 230 c = -4
      · rw [if_pos hl, if_pos hl, b237_87]
      · rw [if_neg hl, if_neg hl, b237_91 (S_g0 S) (S_g1 S) (by rw [r35, zq_rf]) (by rw [r35, zq_rf, S.n]; decide) (by rw [r35, zq_rf, S.k, kx_230]; exact hz4) (by rw [r35, zq_rf, S.k, kx_230]), r35, zq_rf, nc, e30]
        by_cases hl2 : zh_i h0 230 c = l
        · rw [if_pos hl2, if_pos hl2]
        · rw [if_neg hl2, if_neg hl2, b237_101]
    have rf : ∀ (h1 : zi_Hp) (q : zQs) (y8 : Int64) (u10 : Value) (t : Int32), Sh h1 → ¬ t = 0 → zv 8 237 130 [.ref 211, .int (nI c), .int l, .int f, .int (nI n), .int 0, .int (nI i), .int (nI i), .long y8, .double 1, u10] [.int t] (zQ h1 q s) = some (some (.int (nI i)), zh_wi (zQ h1 q s) 211 38 t) := fun h1 q y8 u10 t S1 ht => by
      rw [b237_130, if_neg ht, b237_192, nI_s, b237_56]
      by_cases lt2 : nI (i + 1) < nI n
      · rw [if_pos lt2, b237_63, if_neg ht, b237_198 (q_g0 S1) (q_g1 S1)]
      · rw [if_neg lt2, b237_198 (q_g0 S1) (q_g1 S1)]
    have fault : ∀ t : Int32, ¬ t = 0 → faV (zh_i h0 204 c) (zh_i h0 205 c) l (f + nI i) = t → (∀ (h1 : zi_Hp) (q : zQs) (u8 u9 u10 : Value), Sh h1 → RD h0 s0 h1 → ∃ y8, zv 8 237 56 [.ref 211, .int (nI c), .int l, .int f, .int (nI n), .int 0, .int (nI i), .int (nI i), u8, u9, u10] [] (zQ h1 q s) = zv 8 237 130 [.ref 211, .int (nI c), .int l, .int f, .int (nI n), .int 0, .int (nI i), .int (nI i), .long y8, .double 1, u10] [.int t] (zQ h1 q s)) → ∃ (v : Int32) (x' : Nat → Nat → Int32) (y' : Nat → Nat → Bool) (s' : Nat → Int32) (t : Int32), zv 8 129 70 [.ref 0, .int (nI c), .int l, .int f, .int (nI n), .int (nI i), u6] [] (zC h0 1 x y) = some (some (.int v), zh_wi (zC h0 1 x' y') 0 8 t) ∧ Gs x' y' s' ∧ ∀ (h1 : zi_Hp) (q : zQs) (u8 u9 u10 : Value), Sh h1 → RD h0 s0 h1 → ∃ q', zv 8 237 56 [.ref 211, .int (nI c), .int l, .int f, .int (nI n), .int 0, .int (nI i), .int (nI i), u8, u9, u10] [] (zQ h1 q s) = some (some (.int v), zh_wi (zQ h1 q' s') 211 38 t) := fun t ht hf er => by
      rw [hf] at ew
      refine ⟨nI i, x, y, s, t, by simp +decide only [b129_70, b129_77, b129_90, b129_97, S.n, S.k, S.r, hp_n_wi, hp_k_wi, hp_r_wi, hp_n_wl, hp_k_wl, hp_r_wl, hp_n_wb, hp_k_wb, hp_r_wb, zq_rf, kx_0, kx_1, kx_2, kx_3, kx_4, kx_5, kx_6, kx_7, kx_8, kx_9, kx_10, kx_11, kx_12, kx_13, kx_14, kx_15, kx_16, kx_17, kx_33, kx_34, kx_50, kx_66, kx_67, kx_68, kx_69, kx_197, kx_198, kx_199, kx_200, kx_201, kx_202, kx_203, kx_204, kx_205, kx_206, kx_207, kx_208, kx_209, kx_210, rx_0_0, rx_0_1, rx_0_2, rx_0_3, rx_0_4, rx_0_5, rx_0_6, rx_0_7, rx_1_0, rx_1_1, rx_2_3, rx_2_4, rx_2_5, rx_2_6, rx_2_7, rx_2_8, rx_2_9, rx_10_0, rx_10_1, rx_10_2, rx_33_0, rx_33_1, rx_67_0, rx_68_0, rx_197_0, rx_199_5, rx_199_6, rx_199_7, rx_203_0, rx_203_1, rx_203_2, rx_206_0, rx_206_1, rx_206_2, rx_206_3, Option.bind_some, Option.toList_some, Option.toList_none, List.cons_append, List.nil_append, ↓reduceIte, if_pos lt, ew, if_neg ht], G, fun h1 q u8 u9 u10 S1 D => ⟨q, ?_⟩⟩
      obtain ⟨y8, e8⟩ := er h1 q u8 u9 u10 S1 D
      rw [e8, rf h1 q y8 u10 t S1 ht]
    rcases X0 c hc with ⟨t1, t2⟩ | ⟨t1, t2, z, hz, t3, t4⟩
    · exact fault 1 (by decide) (by unfold faV; rw [t1, if_pos (by decide)]) (fun h1 q u8 u9 u10 S1 D => ⟨_, by rw [rp h1 q u8 u9 u10 S1 D, if_pos t2]⟩)
    · have hle : ¬ zh_i h0 204 c < 0 := by rw [t3]; exact nI_pos (by omega)
      by_cases hl2 : zh_i h0 230 c = l
      · have hl5 : zh_i h0 205 c = l := t2.trans hl2
        have rq : ∀ (h1 : zi_Hp) (q : zQs) (u8 u9 u10 : Value), Sh h1 → RD h0 s0 h1 → zv 8 237 56 [.ref 211, .int (nI c), .int l, .int f, .int (nI n), .int 0, .int (nI i), .int (nI i), u8, u9, u10] [] (zQ h1 q s) = if 0 ≤ f.toInt + i ∧ f.toInt + i < z then zv 8 237 130 [.ref 211, .int (nI c), .int l, .int f, .int (nI n), .int 0, .int (nI i), .int (nI i), .long (f.toInt64 + (nI i).toInt64), .double 1, u10] [.int 0] (zQ h1 q s) else zv 8 237 130 [.ref 211, .int (nI c), .int l, .int f, .int (nI n), .int 0, .int (nI i), .int (nI i), .long (f.toInt64 + (nI i).toInt64), .double 1, u10] [.int 2] (zQ h1 q s) := fun h1 q u8 u9 u10 S1 D => by
          have S : Sh (zQ h1 q s) := zQ_S S1
          have r36 : zh_r (zQ h1 q s) 211 36 = .ref 231 := by rw [S.r, rx_211_36]
          have e31 : zh_i (zQ h1 q s) 231 c = nI z := by rw [zQ_o c (by decide) (by decide) (by decide) (by decide)]; exact (D.2.1 c).trans t4
          rw [rp h1 q u8 u9 u10 S1 D, if_neg t1, if_pos hl2, b237_105]
          have c1 : lg_cmp (f.toInt64 + (nI i).toInt64) 0 < 0 ↔ f.toInt + i < 0 := by
            rw [lg_cmp_lt, Int64.lt_iff_toInt_lt, i64_sum (by omega)]; rfl
          have c2 : lg_cmp (f.toInt64 + (nI i).toInt64) (nI z).toInt64 < 0 ↔ f.toInt + i < z := by
            rw [lg_cmp_lt, Int64.lt_iff_toInt_lt, i64_sum (by omega), Int32.toInt_toInt64, nI_toInt (by omega)]
          by_cases hy : f.toInt + i < 0
          · rw [if_pos (c1.mpr hy), if_neg (fun w => by omega), b237_125]
          · rw [if_neg (fun w => hy (c1.mp w)), b237_112 (S_g0 S) (S_g1 S) (by rw [r36, zq_rf]) (by rw [r36, zq_rf, S.n]; decide) (by rw [r36, zq_rf, S.k, kx_231]; exact hz4) (by rw [r36, zq_rf, S.k, kx_231]), r36, zq_rf, nc, e31]
            by_cases hw : f.toInt + i < z
            · rw [if_pos (c2.mpr hw), if_pos ⟨by omega, hw⟩, b237_129]
            · rw [if_neg (fun w => hw (c2.mp w)), if_neg (fun w => hw w.2), b237_125]
        by_cases hp : 0 ≤ f.toInt + i ∧ f.toInt + i < z
        · obtain ⟨p, ep⟩ : ∃ p : Nat, f.toInt + i = p := ⟨(f.toInt + i).toNat, by omega⟩
          have es : f + nI i = nI p := i32_sum (by omega) ep (by omega)
          have hpz : p < z := by omega
          have hfa : faV (zh_i h0 204 c) (zh_i h0 205 c) l (f + nI i) = 0 := by
            unfold faV
            rw [if_neg hle, if_pos hl5, es, if_neg (nI_pos (by omega)), t3, if_pos (nI_lt hpz (by omega))]
          rw [hfa] at ew
          have ec := r_ceV S (c := c) (j := p) hc (by omega)
          rw [zC_io (a := 207 + c) p (by omega), C0 c hc p (by omega)] at ec
          have e40 : (40 : Int32) * nI c + f + nI i = nI (40 * c + p) := by rw [Int32.add_assoc, es, nI_iy]
          obtain ⟨b, x', y', s', e1, G', hb⟩ := j_put g0.1 G (zh_i h0 232 (40 * c + p))
          have O1 : GO (zC h0 1 x' y') := g0.zC V1 G'.gw
          have S' : Sh (zC h0 1 x' y') := O1.1
          have go : zv 8 129 70 [.ref 0, .int (nI c), .int l, .int f, .int (nI n), .int (nI i), u6] [] (zC h0 1 x y) = if zi_bI b = 0 then zv 8 129 125 [.ref 0, .int (nI c), .int l, .int f, .int (nI n), .int (nI i), .int 0] [] (zC h0 1 x' y') else zv 8 129 142 [.ref 0, .int (nI c), .int l, .int f, .int (nI n), .int (nI i), .int 0] [] (zC h0 1 x' y') := by
            rw [es] at ew
            simp +decide only [b129_70, b129_77, b129_90, b129_106, b129_119, b129_122, S.n, S.k, S.r, hp_n_wi, hp_k_wi, hp_r_wi, hp_n_wl, hp_k_wl, hp_r_wl, hp_n_wb, hp_k_wb, hp_r_wb, zq_rf, kx_0, kx_1, kx_2, kx_3, kx_4, kx_5, kx_6, kx_7, kx_8, kx_9, kx_10, kx_11, kx_12, kx_13, kx_14, kx_15, kx_16, kx_17, kx_33, kx_34, kx_50, kx_66, kx_67, kx_68, kx_69, kx_197, kx_198, kx_199, kx_200, kx_201, kx_202, kx_203, kx_204, kx_205, kx_206, kx_207, kx_208, kx_209, kx_210, rx_0_0, rx_0_1, rx_0_2, rx_0_3, rx_0_4, rx_0_5, rx_0_6, rx_0_7, rx_1_0, rx_1_1, rx_2_3, rx_2_4, rx_2_5, rx_2_6, rx_2_7, rx_2_8, rx_2_9, rx_10_0, rx_10_1, rx_10_2, rx_33_0, rx_33_1, rx_67_0, rx_68_0, rx_197_0, rx_199_5, rx_199_6, rx_199_7, rx_203_0, rx_203_1, rx_203_2, rx_206_0, rx_206_1, rx_206_2, rx_206_3, Option.bind_some, Option.toList_some, Option.toList_none, List.cons_append, List.nil_append, ↓reduceIte, if_pos lt, es, ew, ec, e1]
          have rw0 : ∀ (h1 : zi_Hp) (q : zQs) (u8 u9 u10 : Value), Sh h1 → RD h0 s0 h1 → zv 8 237 56 [.ref 211, .int (nI c), .int l, .int f, .int (nI n), .int 0, .int (nI i), .int (nI i), u8, u9, u10] [] (zQ h1 q s) = if (nI 0 ≤ zh_i h0 232 (40 * c + p) ∧ zh_i h0 232 (40 * c + p) ≤ nI 99) then zv 8 237 166 [.ref 211, .int (nI c), .int l, .int f, .int (nI n), .int 0, .int (nI i), .int (nI i), .long (f.toInt64 + (nI i).toInt64), .double 1, .int (zh_i h0 232 (40 * c + p))] [] (zQ h1 q s) else zv 8 237 178 [.ref 211, .int (nI c), .int l, .int f, .int (nI n), .int 0, .int (nI i), .int (nI i), .long (f.toInt64 + (nI i).toInt64), .double 1, .int (zh_i h0 232 (40 * c + p))] [] (zQ h1 q s) := fun h1 q u8 u9 u10 S1 D => by
            have S : Sh (zQ h1 q s) := zQ_S S1
            have r37 : zh_r (zQ h1 q s) 211 37 = .ref 232 := by rw [S.r, rx_211_37]
            have e32 : zh_i (zQ h1 q s) 232 (40 * c + p) = zh_i h0 232 (40 * c + p) := by rw [zQ_o _ (by decide) (by decide) (by decide) (by decide)]; exact D.2.2.1 _
            rw [rq h1 q u8 u9 u10 S1 D, if_pos hp, b237_130, if_pos rfl, b237_137 (S_g0 S) (S_g1 S) (by rw [r37, zq_rf]) (by rw [r37, zq_rf, S.n]; decide) (by rw [r37, zq_rf, S.k, kx_232, e40]; exact zj_n (by omega) (by decide)) (by rw [r37, zq_rf, S.k, kx_232]), r37, zq_rf, e40, nI_clamp (by omega), e32, show (0 : Int64) = (nI 0).toInt64 from rfl, show (99 : Int64) = (nI 99).toInt64 from rfl]
            by_cases hk : nI 0 ≤ zh_i h0 232 (40 * c + p) ∧ zh_i h0 232 (40 * c + p) ≤ nI 99
            · rw [if_pos hk, c_iy hk]
              simp only [Option.bind_some, Option.toList_some, Option.toList_none, List.cons_append, List.nil_append]
              rw [b237_163, if_neg (by decide)]
            · rw [if_neg hk, c_iz hk]
              simp only [Option.bind_some, Option.toList_some, Option.toList_none, List.cons_append, List.nil_append]
              rw [b237_163, if_pos rfl]
          have undo : ∀ (h1 : zi_Hp) (q : zQs) (t : Nat → Int32) (y8 : Int64) (u10 : Int32), Sh h1 → RD h0 s0 h1 → zv 8 237 178 [.ref 211, .int (nI c), .int l, .int f, .int (nI n), .int 0, .int (nI i), .int (nI i), .long y8, .double 1, .int u10] [] (zQ h1 q t) = some (some (.int (-20 - nI i)), zQ h1 q (fun j => if j < 387 then s0 j else t j)) := fun h1 q t y8 u10 S1 D => by
            rw [b237_178 (q_g0 S1) (q_g1 S1), show (0 : Int32) = nI 0 from rfl, c_restores (zQ_S S1) (d := 0) (by decide), ci_q (s0 := s0) (fun j hj => by rw [show 387 * 0 + j = j by omega]; exact D.2.2.2.1 j hj)]
            simp only [Option.bind_some, Option.toList_some, Option.toList_none, List.cons_append, List.nil_append]
            rw [b237_183]
          cases b with
          | true =>
            rcases hb with ⟨-, w, -⟩ | ⟨hk, v, hv, er⟩
            · exact absurd w (by decide)
            · have nv : ¬ v = -3 := fun w => absurd (hv.mpr w) (by decide)
              obtain ⟨v2, x2, y2, s2, t, e2, G2, er2⟩ := j_rdL g0 X0 C0 hc hn Gp (l := l) (f := f) d (i + 1) (by omega) (u6 := .int 0) G'
              refine ⟨v2, x2, y2, s2, t, by rw [go, zi_bI_t, if_neg (by decide), b129_142, nI_s, e2], G2, fun h1 q u8 u9 u10 S1 D => ?_⟩
              obtain ⟨q1, f1⟩ := er h1 q S1
              obtain ⟨q2, f2⟩ := er2 h1 q1 (.long (f.toInt64 + (nI i).toInt64)) (.double 1) (.int (zh_i h0 232 (40 * c + p))) S1 D
              refine ⟨q2, ?_⟩
              rw [rw0 h1 q u8 u9 u10 S1 D, if_pos hk, b237_166 (q_g0 S1) (q_g1 S1), f1]
              simp only [Option.bind_some, Option.toList_some, Option.toList_none, List.cons_append, List.nil_append]
              rw [b237_173, if_neg nv, b237_189, b237_192, nI_s, f2]
          | false =>
            obtain ⟨x3, y3, e3, q3⟩ := k_cw g0.1 V1 V17 (by decide) (x := x') (y := y') (u2' := .double 0)
            have G3 : Gs x3 y3 s0 := Gp.sw q3
            have fin : zv 8 129 125 [.ref 0, .int (nI c), .int l, .int f, .int (nI n), .int (nI i), .int 0] [] (zC h0 1 x' y') = some (some (.int (-20 - nI i)), zC h0 1 x3 y3) := by
              have S := S'
              simp +decide only [b129_125, b129_136, S.n, S.k, S.r, hp_n_wi, hp_k_wi, hp_r_wi, hp_n_wl, hp_k_wl, hp_r_wl, hp_n_wb, hp_k_wb, hp_r_wb, zq_rf, kx_0, kx_1, kx_2, kx_3, kx_4, kx_5, kx_6, kx_7, kx_8, kx_9, kx_10, kx_11, kx_12, kx_13, kx_14, kx_15, kx_16, kx_17, kx_33, kx_34, kx_50, kx_66, kx_67, kx_68, kx_69, kx_197, kx_198, kx_199, kx_200, kx_201, kx_202, kx_203, kx_204, kx_205, kx_206, kx_207, kx_208, kx_209, kx_210, rx_0_0, rx_0_1, rx_0_2, rx_0_3, rx_0_4, rx_0_5, rx_0_6, rx_0_7, rx_1_0, rx_1_1, rx_2_3, rx_2_4, rx_2_5, rx_2_6, rx_2_7, rx_2_8, rx_2_9, rx_10_0, rx_10_1, rx_10_2, rx_33_0, rx_33_1, rx_67_0, rx_68_0, rx_197_0, rx_199_5, rx_199_6, rx_199_7, rx_203_0, rx_203_1, rx_203_2, rx_206_0, rx_206_1, rx_206_2, rx_206_3, Option.bind_some, Option.toList_some, Option.toList_none, List.cons_append, List.nil_append, ↓reduceIte, e3]
            have tid : zh_wi (zC h0 1 x3 y3) 0 8 (zh_i h0 0 8) = zC h0 1 x3 y3 := wi_id (zC_io 8 (by decide)).symm
            have tiq : ∀ (h1 : zi_Hp) (q : zQs) (t : Nat → Int32), RD h0 s0 h1 → zh_wi (zQ h1 q t) 211 38 (zh_i h0 0 8) = zQ h1 q t := fun h1 q t D => wi_id (by rw [zQ_211 (by decide)]; exact D.2.2.2.2.symm)
            rcases hb with ⟨hk, -, es2⟩ | ⟨hk, v, hv, er⟩
            · refine ⟨-20 - nI i, x3, y3, fun j => if j < 387 then s0 j else s j, zh_i h0 0 8, by rw [go, zi_bI_f, if_pos rfl, fin, tid], G3.congr (fun j hj => if_pos hj), fun h1 q u8 u9 u10 S1 D => ⟨q, ?_⟩⟩
              rw [rw0 h1 q u8 u9 u10 S1 D, if_neg hk, undo h1 q s _ _ S1 D, tiq h1 q _ D]
            · refine ⟨-20 - nI i, x3, y3, fun j => if j < 387 then s0 j else s' j, zh_i h0 0 8, by rw [go, zi_bI_f, if_pos rfl, fin, tid], G3.congr (fun j hj => if_pos hj), fun h1 q u8 u9 u10 S1 D => ?_⟩
              obtain ⟨q1, f1⟩ := er h1 q S1
              refine ⟨q1, ?_⟩
              rw [rw0 h1 q u8 u9 u10 S1 D, if_pos hk, b237_166 (q_g0 S1) (q_g1 S1), f1]
              simp only [Option.bind_some, Option.toList_some, Option.toList_none, List.cons_append, List.nil_append]
              rw [b237_173, if_pos (hv.mp rfl), undo h1 q1 s' _ _ S1 D, tiq h1 q1 _ D]
        · refine fault 2 (by decide) ?_ (fun h1 q u8 u9 u10 S1 D => ⟨_, by rw [rq h1 q u8 u9 u10 S1 D, if_neg hp]⟩)
          unfold faV
          rw [if_neg hle, if_pos hl5, t3]
          by_cases q0 : f + nI i < 0
          · rw [if_pos q0]
          · rw [if_neg q0]
            by_cases q1 : f + nI i < nI z
            · exfalso
              obtain ⟨p, hp1, ep⟩ := nI_ex (b := z) (by omega) q0 q1
              have h1 := Int32.toInt_lt f
              have h2 := Int32.le_toInt f
              have et := congrArg Int32.toInt ep
              rw [Int32.toInt_add, nI_toInt (by omega), nI_toInt (by omega)] at et
              by_cases w : f.toInt + i < 2147483648
              · rw [Int.bmod_eq_of_le (by omega) (by omega)] at et
                exact hp ⟨by omega, by omega⟩
              · have e9 : (f.toInt + (i : Int)).bmod (2 ^ 32) = f.toInt + i - 4294967296 := by
                  rw [← Int.sub_bmod_right (f.toInt + (i : Int)) (2 ^ 32)]
                  exact Int.bmod_eq_of_le (by omega) (by omega)
                rw [e9] at et
                omega
            · rw [if_neg q1]
      · exact fault 3 (by decide) (by unfold faV; rw [if_neg hle, if_neg (fun w => hl2 (t2.symm.trans w))]) (fun h1 q u8 u9 u10 S1 D => ⟨_, by rw [rp h1 q u8 u9 u10 S1 D, if_neg t1, if_neg hl2]⟩)
theorem j_lm (S : Sh h) {W : Nat} (V : Wa W) {N R M B : Nat} {L m H r : Nat → Nat} {K C : Nat → Nat → Nat} {f : Nat → Nat} (I : InvG s N R M B L m H r K C f) (T : CR x y s N m) {u1 u2 : Value} : zv 3 98 0 [.ref W, u1, u2] [] (zC h W x y) = some (some (.int (lmF s N)), zC h W x y) := by
  obtain ⟨eN, hN1, hN, hM, hR⟩ := T.tr I
  have e := k_lo S V (x := x) (y := y) eN hN (u1 := u1) (u2 := u2)
  rw [show lmF s N = itF (fun n a => if hoK x (nI n) < 0 then a else a + 1) N 0 0 from itF_congr N 0 0 (fun n a _ hn => by
    rw [T.ho]
    by_cases q : lkB s (nI n) = -4
    · rw [if_pos q, if_pos ((lk_neg _ _).mpr q), Int32.add_zero]
    · rw [if_neg q, if_neg (fun w => q ((lk_neg _ _).mp w))])]
  exact e
theorem a_read (R : R3 L h) (x l f n : Int32) {u5 u6 v5 v6 v7 v8 v9 v10 : Value} : Al L h (zv 8 129 0 [.ref 0, .int x, .int l, .int f, .int n, u5, u6] [] h) (fun m => zv 8 237 0 [.ref 211, .int x, .int l, .int f, .int n, v5, v6, v7, v8, v9, v10] [] m) := by
  obtain ⟨r, g, G, X, lL⟩ := id R
  have S := r.1
  rcases in_or x 0 3 (by decide) (by decide) with ⟨c, -, hc, rfl, hx⟩ | hx
  · have hv : ¬ nI c < 0 ∧ nI c < 4 := (rg (b := 3) (by decide)).mpr hx
    rcases in_or l 0 2 (by decide) (by decide) with ⟨la, -, hla, rfl, hy⟩ | hy
    · have hl : ¬ nI la < 0 ∧ nI la < 3 := (rg (b := 2) (by decide)).mpr hy
      have pr : ∀ {m : zi_Hp}, zv 8 237 0 [.ref 211, .int (nI c), .int (nI la), .int f, .int n, v5, v6, v7, v8, v9, v10] [] m = zv 8 237 8 [.ref 211, .int (nI c), .int (nI la), .int f, .int n, v5, v6, v7, v8, v9, v10] [] m := fun {m} => by
        rw [b237_0, q_shy hx hy]
        simp only [Option.bind_some, Option.toList_some, Option.toList_none, List.cons_append, List.nil_append]
        rw [b237_5, if_neg (by decide)]
      rcases in_or n 0 40 (by decide) (by decide) with ⟨k, -, hk, rfl, hw⟩ | hw
      · have h0 : ¬ nI k < 0 := Int32.not_lt.mpr hw.1
        have h40 : ¬ 40 < nI k := Int32.not_lt.mpr hw.2
        obtain ⟨N, R9, M, B, L9, m', H, r9, K, C, ff, I, T⟩ := id G
        have k0 := (T.2.1 0 (by decide)).1
        have a1 := I.1.1.1
        have a3 := I.1.1.2.2
        have e98 : zv 3 98 0 [.ref 1, .double 0, .double 0] [] h = some (some (.int (lmF (zh_i h 212) N)), h) := by
          have e := j_lm S V1 I T (u1 := .double 0) (u2 := .double 0)
          rw [zC_wx] at e; exact e
        have pr2 : ∀ {m : zi_Hp}, Sh m → (∀ j, zh_i m 212 j = zh_i h 212 j) → zv 8 237 0 [.ref 211, .int (nI c), .int (nI la), .int f, .int (nI k), v5, v6, v7, v8, v9, v10] [] m = if zh_i h 212 (315 + 24 * 0) = 0 then (if 0 < lmF (zh_i h 212) N then some (some (.int (-2)), m) else zv 8 237 56 [.ref 211, .int (nI c), .int (nI la), .int f, .int (nI k), .int 0, .int (nI 0), .int (nI 0), v8, v9, v10] [] (zh_ci m 212 0 221 (387 * 0) 387)) else some (some (.int (-2)), m) := fun {m} S es => by
          have c0 : zv 1 146 0 [.ref 211, .int 0, .int 0] [] m = some (some (.int (zh_i m 212 (315 + 24 * 0))), m) := r_oc0 S (c := 0) (by decide)
          have er : zh_i m 212 = zh_i h 212 := funext es
          have lm : zv 3 198 0 [.ref 211, .double 0, .double 0] [] m = some (some (.int (lmF (zh_i m 212) N)), m) := by
            have p := q_lm (q := (zh_i m 215, zh_i m 216, zh_i m 211 5, zh_b m 217)) (s := zh_i m 212) S (by rw [er]; exact a1) a3 (u1 := .double 0) (u2 := .double 0)
            rw [zQ_id] at p
            exact p
          have sv : zv 1 211 0 [.ref 211, .int 0, .double 0] [] m = some (none, zh_ci m 212 0 221 (387 * 0) 387) := c_saves S (d := 0) (by decide)
          rw [pr, b237_8, show (0 : Int64) = (nI 0).toInt64 from rfl, show (40 : Int64) = (nI 40).toInt64 from rfl, c_iy hw]
          simp only [Option.bind_some, Option.toList_some, Option.toList_none, List.cons_append, List.nil_append]
          rw [b237_18, if_neg (by decide), b237_23 (S_g0 S) (S_g1 S), c0]
          simp only [Option.bind_some, Option.toList_some, Option.toList_none, List.cons_append, List.nil_append]
          rw [b237_29, er]
          by_cases q0 : zh_i h 212 (315 + 24 * 0) = 0
          · rw [if_pos q0, if_pos q0, b237_32 (S_g0 S) (S_g1 S), lm]
            simp only [Option.bind_some, Option.toList_some, Option.toList_none, List.cons_append, List.nil_append]
            rw [b237_36, er]
            by_cases q1 : 0 < lmF (zh_i h 212) N
            · rw [if_pos q1, if_pos q1, b237_39]
            · rw [if_neg q1, if_neg q1, b237_42 (S_g0 S) (S_g1 S), sv]
              simp only [Option.bind_some, Option.toList_some, Option.toList_none, List.cons_append, List.nil_append]
              rw [b237_47]; rfl
          · rw [if_neg q0, if_neg q0, b237_39]
        by_cases q0 : zh_i h 212 (315 + 24 * 0) = 0
        · have q0' : zh_i h 11 0 = 0 := k0.trans q0
          by_cases q1 : 0 < lmF (zh_i h 212) N
          · refine Al.same R (-2) ?_ ?_
            · simp +decide only [b129_0, b129_4, b129_7, b129_11, b129_14, b129_19, b129_28, b129_43, b129_50, b129_53, S.n, S.k, S.r, hp_n_wi, hp_k_wi, hp_r_wi, hp_n_wl, hp_k_wl, hp_r_wl, hp_n_wb, hp_k_wb, hp_r_wb, zq_rf, kx_0, kx_1, kx_2, kx_3, kx_4, kx_5, kx_6, kx_7, kx_8, kx_9, kx_10, kx_11, kx_12, kx_13, kx_14, kx_15, kx_16, kx_17, kx_33, kx_34, kx_50, kx_66, kx_67, kx_68, kx_69, kx_197, kx_198, kx_199, kx_200, kx_201, kx_202, kx_203, kx_204, kx_205, kx_206, kx_207, kx_208, kx_209, kx_210, rx_0_0, rx_0_1, rx_0_2, rx_0_3, rx_0_4, rx_0_5, rx_0_6, rx_0_7, rx_1_0, rx_1_1, rx_2_3, rx_2_4, rx_2_5, rx_2_6, rx_2_7, rx_2_8, rx_2_9, rx_10_0, rx_10_1, rx_10_2, rx_33_0, rx_33_1, rx_67_0, rx_68_0, rx_197_0, rx_199_5, rx_199_6, rx_199_7, rx_203_0, rx_203_1, rx_203_2, rx_206_0, rx_206_1, rx_206_2, rx_206_3, Option.bind_some, Option.toList_some, Option.toList_none, List.cons_append, List.nil_append, ↓reduceIte, p_138, p_139, decide_eq_true hv, decide_eq_true hl, zi_bI_t, if_neg h0, if_neg h40, if_pos q0', e98, if_pos q1]
            · show zv 8 237 0 _ _ _ = _
              rw [pr2 S (fun _ => rfl), if_pos q0, if_pos q1]
          · obtain ⟨x', y', e, qs⟩ := k_cw S V17 V1 (by decide) (x := wx h 17) (y := wy h 17) (u2' := .double 0)
            rw [zC_wx] at e
            obtain ⟨h0', eh0⟩ : ∃ h0', h0' = zC h 17 x' y' := ⟨_, rfl⟩
            rw [← eh0] at e
            have Gp0 : Gs x' y' (zh_i h 212) := G.sw qs
            have g0 : GO h0' := by rw [eh0]; exact g.zC V17 Gp0.gw
            have i0 : ∀ a j, (a < 17 ∨ 17 + 16 ≤ a) → zh_i h0' a j = zh_i h a j ∧ zh_b h0' a j = zh_b h a j := fun a j ha => by rw [eh0]; exact ⟨zC_io j ha, zC_bo j ha⟩
            have Gp : Gs (wx h0' 17) (wy h0' 17) (zh_i h 212) := Gp0.sw (SW.of (fun o j ho => by show zh_i h0' (17 + o) j = _; rw [eh0, zC_i ho]) (fun o j ho => by show zh_b h0' (17 + o) j = _; rw [eh0, zC_b ho]))
            have G0 : Gs (wx h0' 1) (wy h0' 1) (zh_i h 212) := G.of1 (fun o j ho => i0 _ _ (by omega)) (fun _ _ => rfl)
            have X0 : SHT h0' := X.2.2.2.1.same (fun k => ⟨(i0 _ _ (by omega)).1, (i0 _ _ (by omega)).1, (i0 _ _ (by omega)).1, (i0 _ _ (by omega)).1⟩)
            have C0 : SC h0' := X.2.2.2.2.1.same (fun a j _ _ => (i0 _ _ (by omega)).1) (fun j => (i0 _ _ (by omega)).1)
            obtain ⟨v, x2, y2, s2, t, e2, G2, er⟩ := j_rdL g0 X0 C0 (c := c) (by omega) (n := k) hk Gp (l := nI la) (f := f) k 0 (Nat.zero_add _) (u6 := u6) G0
            rw [zC_wx] at e2
            have e2' : zv 8 129 70 [.ref 0, .int (nI c), .int (nI la), .int f, .int (nI k), .int 0, u6] [] h0' = some (some (.int v), zh_wi (zC h0' 1 x2 y2) 0 8 t) := e2
            obtain ⟨m1, em1⟩ : ∃ m1, m1 = zh_wi (zC h0' 1 x2 y2) 0 8 t := ⟨_, rfl⟩
            rw [← em1] at e2'
            have O1 : GO m1 := by rw [em1]; exact (g0.zC V1 G2.gw).wi wo_0
            have S1 := O1.1
            have F1 : Fb h m1 := by rw [em1, eh0]; exact ((Fc.zC V17).1.1.trans (Fc.zC V1).1.1).trans (Fb.wi (by decide))
            have Q1 : RO m1 := r.fc S1 F1
            obtain ⟨m2, em2⟩ : ∃ m2, m2 = zh_ci m1 212 0 221 (387 * 0) 387 := ⟨_, rfl⟩
            have S2 : Sh m2 := by rw [em2]; exact S1.ci _ _ _ _ _
            have i2 : ∀ a j, a ≠ 221 → zh_i m2 a j = zh_i m1 a j := fun a j ha => by rw [em2, hp_i_ci, if_neg (fun w => ha w.1)]
            have D : RD h0' (zh_i h 212) m2 := ⟨fun j => by rw [i2 _ _ (by decide), (F1.1 230 j (by decide)).1, (i0 230 j (by omega)).1], fun j => by rw [i2 _ _ (by decide), (F1.1 231 j (by decide)).1, (i0 231 j (by omega)).1], fun j => by rw [i2 _ _ (by decide), (F1.1 232 j (by decide)).1, (i0 232 j (by omega)).1], fun j hj => by rw [em2, hp_i_ci, if_pos ⟨rfl, by omega, by omega⟩, show 0 + (j - 387 * 0) = j by omega, (F1.1 212 j (by decide)).1], by rw [i2 _ _ (by decide), (F1.1 211 38 (by decide)).1, (i0 0 8 (by omega)).1]; exact X.2.2.2.2.2.symm⟩
            obtain ⟨q', f2⟩ := er m2 (zh_i m2 215, zh_i m2 216, zh_i m2 211 5, zh_b m2 217) v8 v9 v10 S2 D
            have es2 : zh_i h 212 = zh_i m2 212 := funext (fun j => by rw [i2 _ _ (by decide), (F1.1 212 j (by decide)).1])
            rw [es2, zQ_id] at f2
            obtain ⟨m3, em3⟩ : ∃ m3, m3 = zh_wi (zQ m2 q' s2) 211 38 t := ⟨_, rfl⟩
            rw [← em3] at f2
            have S3 : Sh m3 := by rw [em3]; exact (zQ_S S2).wi _ _ _
            have i3 : ∀ a j, vc a j → (a ≠ 211 ∨ j ≠ 38) → zh_i m3 a j = zh_i m2 a j ∧ zh_b m3 a j = zh_b m2 a j := fun a j vv hj => by
              refine ⟨?_, ?_⟩
              · rw [em3, hp_i_wi, if_neg (by omega)]
                exact (zQ_vc vv).1
              · rw [em3]
                exact (zQ_vc (s := s2) vv).2
            have i1 : ∀ a j, vc a j → (a ≠ 0 ∨ j ≠ 8) → zh_i m1 a j = zh_i h a j ∧ zh_b m1 a j = zh_b h a j := fun a j vv hj => by
              refine ⟨?_, ?_⟩
              · rw [em1, hp_i_wi, if_neg (by omega)]
                exact (zC_vc vv).1.trans (i0 a j (by unfold vc at vv; omega)).1
              · rw [em1]
                exact (zC_vc (x := x2) vv).2.trans (i0 a j (by unfold vc at vv; omega)).2
            have ii : ∀ a j, vc a j → (a ≠ 211 ∨ j ≠ 38) → (a ≠ 0 ∨ j ≠ 8) → zh_i m3 a j = zh_i h a j ∧ zh_b m3 a j = zh_b h a j := fun a j vv h1 h2 => by
              have p1 := i1 a j vv h2
              have p3 := i3 a j vv h1
              exact ⟨by rw [p3.1, i2 _ _ (by unfold vc at vv; omega), p1.1], by rw [p3.2, ← p1.2, em2]; rfl⟩
            have e212 : zh_i m3 212 = s2 := funext (fun j => by rw [em3, hp_i_wi, if_neg (by omega), zQ_212])
            have F2 : Fx0 m1 m3 := by rw [em3, em2]; exact (Fr.ci (by decide)).1.1.trans (Fr.zQ.1.1.trans (Fx0.wi (by decide)))
            refine ⟨v, m1, m3, ?_, S1, F1.2.1.trans lL, F1.2.2, ?_, ⟨S3, by rw [e212]; exact G2.inv, ?_⟩, O1.fx S3 F2, ?_, ⟨X.1.same (fun a j q => ii a j (by unfold vc; omega) (by omega) (by omega)), ?_, X.2.2.1.same (ii _ _ (by unfold vc; omega) (by omega) (by omega)).1 (fun j => (ii _ _ (by unfold vc; omega) (by omega) (by omega)).1) (fun j => (ii _ _ (by unfold vc; omega) (by omega) (by omega)).1), X.2.2.2.1.same (fun k => ⟨(ii _ _ (by unfold vc; omega) (by omega) (by omega)).1, (ii _ _ (by unfold vc; omega) (by omega) (by omega)).1, (ii _ _ (by unfold vc; omega) (by omega) (by omega)).1, (ii _ _ (by unfold vc; omega) (by omega) (by omega)).1⟩), X.2.2.2.2.1.same (fun a j _ _ => (ii _ _ (by unfold vc; omega) (by omega) (by omega)).1) (fun j => (ii _ _ (by unfold vc; omega) (by omega) (by omega)).1), ?_⟩, ?_⟩
            · simp +decide only [b129_0, b129_4, b129_7, b129_11, b129_14, b129_19, b129_28, b129_43, b129_50, b129_56, b129_67, S.n, S.k, S.r, hp_n_wi, hp_k_wi, hp_r_wi, hp_n_wl, hp_k_wl, hp_r_wl, hp_n_wb, hp_k_wb, hp_r_wb, zq_rf, kx_0, kx_1, kx_2, kx_3, kx_4, kx_5, kx_6, kx_7, kx_8, kx_9, kx_10, kx_11, kx_12, kx_13, kx_14, kx_15, kx_16, kx_17, kx_33, kx_34, kx_50, kx_66, kx_67, kx_68, kx_69, kx_197, kx_198, kx_199, kx_200, kx_201, kx_202, kx_203, kx_204, kx_205, kx_206, kx_207, kx_208, kx_209, kx_210, rx_0_0, rx_0_1, rx_0_2, rx_0_3, rx_0_4, rx_0_5, rx_0_6, rx_0_7, rx_1_0, rx_1_1, rx_2_3, rx_2_4, rx_2_5, rx_2_6, rx_2_7, rx_2_8, rx_2_9, rx_10_0, rx_10_1, rx_10_2, rx_33_0, rx_33_1, rx_67_0, rx_68_0, rx_197_0, rx_199_5, rx_199_6, rx_199_7, rx_203_0, rx_203_1, rx_203_2, rx_206_0, rx_206_1, rx_206_2, rx_206_3, Option.bind_some, Option.toList_some, Option.toList_none, List.cons_append, List.nil_append, ↓reduceIte, p_138, p_139, decide_eq_true hv, decide_eq_true hl, zi_bI_t, if_neg h0, if_neg h40, if_pos q0', e98, if_neg q1, e, e2']
            · show zv 8 237 0 _ _ _ = _
              rw [pr2 S1 (fun j => (F1.1 212 j (by decide)).1), if_pos q0, if_neg q1, ← em2, f2]
            · refine Q1.2.2.same ?_ (fun j => ?_) (fun j => ?_) (fun j => ?_)
              · rw [(i3 211 8 (by unfold vc; omega) (by omega)).1, i2 _ _ (by decide)]
              · rw [(i3 213 j (by unfold vc; omega) (by omega)).1, i2 _ _ (by decide)]
              · rw [(i3 214 j (by unfold vc; omega) (by omega)).2, em2]; rfl
              · rw [(i3 231 j (by unfold vc; omega) (by omega)).1, i2 _ _ (by decide)]
            · rw [e212]
              refine G2.sw (SW.of (fun o j ho => ?_) (fun o j ho => ?_))
              · show zh_i m3 (1 + o) j = _
                rw [(F2.1 (1 + o) j (by omega)).1, em1, hp_i_wi, if_neg (by omega), zC_i ho]
              · show zh_b m3 (1 + o) j = _
                rw [(F2.1 (1 + o) j (by omega)).2.1, em1]
                exact zC_b (x := x2) ho j
            · rw [(ii 197 1 (by unfold vc; omega) (by omega) (by omega)).1, (ii 211 8 (by unfold vc; omega) (by omega) (by omega)).1]; exact X.2.1
            · rw [(F2.1 0 8 (by decide)).1, em1, hp_i_wi, if_pos ⟨rfl, rfl⟩, em3, hp_i_wi, if_pos ⟨rfl, rfl⟩]
            · rw [F2.2.1, F1.2.1]; exact lL
        · have q0' : ¬ zh_i h 11 0 = 0 := fun w => q0 (k0.symm.trans w)
          refine Al.same R (-2) ?_ ?_
          · simp +decide only [b129_0, b129_4, b129_7, b129_11, b129_14, b129_19, b129_28, b129_53, S.n, S.k, S.r, hp_n_wi, hp_k_wi, hp_r_wi, hp_n_wl, hp_k_wl, hp_r_wl, hp_n_wb, hp_k_wb, hp_r_wb, zq_rf, kx_0, kx_1, kx_2, kx_3, kx_4, kx_5, kx_6, kx_7, kx_8, kx_9, kx_10, kx_11, kx_12, kx_13, kx_14, kx_15, kx_16, kx_17, kx_33, kx_34, kx_50, kx_66, kx_67, kx_68, kx_69, kx_197, kx_198, kx_199, kx_200, kx_201, kx_202, kx_203, kx_204, kx_205, kx_206, kx_207, kx_208, kx_209, kx_210, rx_0_0, rx_0_1, rx_0_2, rx_0_3, rx_0_4, rx_0_5, rx_0_6, rx_0_7, rx_1_0, rx_1_1, rx_2_3, rx_2_4, rx_2_5, rx_2_6, rx_2_7, rx_2_8, rx_2_9, rx_10_0, rx_10_1, rx_10_2, rx_33_0, rx_33_1, rx_67_0, rx_68_0, rx_197_0, rx_199_5, rx_199_6, rx_199_7, rx_203_0, rx_203_1, rx_203_2, rx_206_0, rx_206_1, rx_206_2, rx_206_3, Option.bind_some, Option.toList_some, Option.toList_none, List.cons_append, List.nil_append, ↓reduceIte, p_138, p_139, decide_eq_true hv, decide_eq_true hl, zi_bI_t, if_neg h0, if_neg h40, if_neg q0']
          · show zv 8 237 0 _ _ _ = _
            rw [pr2 S (fun _ => rfl), if_neg q0]
      · refine Al.same R (-1) ?_ ?_
        · by_cases h0 : n < 0
          · simp +decide only [b129_0, b129_4, b129_7, b129_11, b129_14, b129_26, S.n, S.k, S.r, hp_n_wi, hp_k_wi, hp_r_wi, hp_n_wl, hp_k_wl, hp_r_wl, hp_n_wb, hp_k_wb, hp_r_wb, zq_rf, kx_0, kx_1, kx_2, kx_3, kx_4, kx_5, kx_6, kx_7, kx_8, kx_9, kx_10, kx_11, kx_12, kx_13, kx_14, kx_15, kx_16, kx_17, kx_33, kx_34, kx_50, kx_66, kx_67, kx_68, kx_69, kx_197, kx_198, kx_199, kx_200, kx_201, kx_202, kx_203, kx_204, kx_205, kx_206, kx_207, kx_208, kx_209, kx_210, rx_0_0, rx_0_1, rx_0_2, rx_0_3, rx_0_4, rx_0_5, rx_0_6, rx_0_7, rx_1_0, rx_1_1, rx_2_3, rx_2_4, rx_2_5, rx_2_6, rx_2_7, rx_2_8, rx_2_9, rx_10_0, rx_10_1, rx_10_2, rx_33_0, rx_33_1, rx_67_0, rx_68_0, rx_197_0, rx_199_5, rx_199_6, rx_199_7, rx_203_0, rx_203_1, rx_203_2, rx_206_0, rx_206_1, rx_206_2, rx_206_3, Option.bind_some, Option.toList_some, Option.toList_none, List.cons_append, List.nil_append, ↓reduceIte, p_138, p_139, decide_eq_true hv, decide_eq_true hl, zi_bI_t, if_pos h0]
          · have h40 : 40 < n := Int32.not_le.mp (fun q => hw ⟨Int32.not_lt.mp h0, q⟩)
            simp +decide only [b129_0, b129_4, b129_7, b129_11, b129_14, b129_19, b129_26, S.n, S.k, S.r, hp_n_wi, hp_k_wi, hp_r_wi, hp_n_wl, hp_k_wl, hp_r_wl, hp_n_wb, hp_k_wb, hp_r_wb, zq_rf, kx_0, kx_1, kx_2, kx_3, kx_4, kx_5, kx_6, kx_7, kx_8, kx_9, kx_10, kx_11, kx_12, kx_13, kx_14, kx_15, kx_16, kx_17, kx_33, kx_34, kx_50, kx_66, kx_67, kx_68, kx_69, kx_197, kx_198, kx_199, kx_200, kx_201, kx_202, kx_203, kx_204, kx_205, kx_206, kx_207, kx_208, kx_209, kx_210, rx_0_0, rx_0_1, rx_0_2, rx_0_3, rx_0_4, rx_0_5, rx_0_6, rx_0_7, rx_1_0, rx_1_1, rx_2_3, rx_2_4, rx_2_5, rx_2_6, rx_2_7, rx_2_8, rx_2_9, rx_10_0, rx_10_1, rx_10_2, rx_33_0, rx_33_1, rx_67_0, rx_68_0, rx_197_0, rx_199_5, rx_199_6, rx_199_7, rx_203_0, rx_203_1, rx_203_2, rx_206_0, rx_206_1, rx_206_2, rx_206_3, Option.bind_some, Option.toList_some, Option.toList_none, List.cons_append, List.nil_append, ↓reduceIte, p_138, p_139, decide_eq_true hv, decide_eq_true hl, zi_bI_t, if_neg h0, if_pos h40]
        · show zv 8 237 0 _ _ _ = _
          rw [pr, b237_8, show (0 : Int64) = (nI 0).toInt64 from rfl, show (40 : Int64) = (nI 40).toInt64 from rfl, c_iz hw]
          simp only [Option.bind_some, Option.toList_some, Option.toList_none, List.cons_append, List.nil_append]
          rw [b237_18, if_pos rfl, b237_21]
    · have hl : ¬ (¬ l < 0 ∧ l < 3) := fun q => hy ((rg (b := 2) (by decide)).mp q)
      refine Al.same R (-1) ?_ ?_
      · simp +decide only [b129_0, b129_4, b129_7, b129_11, b129_26, S.n, S.k, S.r, hp_n_wi, hp_k_wi, hp_r_wi, hp_n_wl, hp_k_wl, hp_r_wl, hp_n_wb, hp_k_wb, hp_r_wb, zq_rf, kx_0, kx_1, kx_2, kx_3, kx_4, kx_5, kx_6, kx_7, kx_8, kx_9, kx_10, kx_11, kx_12, kx_13, kx_14, kx_15, kx_16, kx_17, kx_33, kx_34, kx_50, kx_66, kx_67, kx_68, kx_69, kx_197, kx_198, kx_199, kx_200, kx_201, kx_202, kx_203, kx_204, kx_205, kx_206, kx_207, kx_208, kx_209, kx_210, rx_0_0, rx_0_1, rx_0_2, rx_0_3, rx_0_4, rx_0_5, rx_0_6, rx_0_7, rx_1_0, rx_1_1, rx_2_3, rx_2_4, rx_2_5, rx_2_6, rx_2_7, rx_2_8, rx_2_9, rx_10_0, rx_10_1, rx_10_2, rx_33_0, rx_33_1, rx_67_0, rx_68_0, rx_197_0, rx_199_5, rx_199_6, rx_199_7, rx_203_0, rx_203_1, rx_203_2, rx_206_0, rx_206_1, rx_206_2, rx_206_3, Option.bind_some, Option.toList_some, Option.toList_none, List.cons_append, List.nil_append, ↓reduceIte, p_138, p_139, decide_eq_true hv, decide_eq_false hl, zi_bI_t, zi_bI_f]
      · show zv 8 237 0 _ _ _ = _
        rw [b237_0, q_shn (fun w => hy w.2)]
        simp only [Option.bind_some, Option.toList_some, Option.toList_none, List.cons_append, List.nil_append]
        rw [b237_5, if_pos rfl, b237_21]
  · have hv : ¬ (¬ x < 0 ∧ x < 4) := fun q => hx ((rg (b := 3) (by decide)).mp q)
    refine Al.same R (-1) ?_ ?_
    · simp +decide only [b129_0, b129_4, b129_26, S.n, S.k, S.r, hp_n_wi, hp_k_wi, hp_r_wi, hp_n_wl, hp_k_wl, hp_r_wl, hp_n_wb, hp_k_wb, hp_r_wb, zq_rf, kx_0, kx_1, kx_2, kx_3, kx_4, kx_5, kx_6, kx_7, kx_8, kx_9, kx_10, kx_11, kx_12, kx_13, kx_14, kx_15, kx_16, kx_17, kx_33, kx_34, kx_50, kx_66, kx_67, kx_68, kx_69, kx_197, kx_198, kx_199, kx_200, kx_201, kx_202, kx_203, kx_204, kx_205, kx_206, kx_207, kx_208, kx_209, kx_210, rx_0_0, rx_0_1, rx_0_2, rx_0_3, rx_0_4, rx_0_5, rx_0_6, rx_0_7, rx_1_0, rx_1_1, rx_2_3, rx_2_4, rx_2_5, rx_2_6, rx_2_7, rx_2_8, rx_2_9, rx_10_0, rx_10_1, rx_10_2, rx_33_0, rx_33_1, rx_67_0, rx_68_0, rx_197_0, rx_199_5, rx_199_6, rx_199_7, rx_203_0, rx_203_1, rx_203_2, rx_206_0, rx_206_1, rx_206_2, rx_206_3, Option.bind_some, Option.toList_some, Option.toList_none, List.cons_append, List.nil_append, ↓reduceIte, p_138, decide_eq_false hv, zi_bI_f]
    · show zv 8 237 0 _ _ _ = _
      rw [b237_0, q_shn (fun w => hx w.1)]
      simp only [Option.bind_some, Option.toList_some, Option.toList_none, List.cons_append, List.nil_append]
      rw [b237_5, if_pos rfl, b237_21]
end R34I
end
section
/-! A PURE LEXER, and what the class reads -/
/-- so many places from p on whose bytes are such -/
def lR (B : Nat → Int32) (t : Nat) (g : Int32 → Bool) : Nat → Nat → Nat
  | 0, p => p
  | d + 1, p => if p < t ∧ g (B p) = true then lR B t g d (p + 1) else p
def isL (c : Int32) : Bool := decide (¬ c < 97 ∧ ¬ 122 < c)
def isF (c : Int32) : Bool := decide (¬ c < 48 ∧ ¬ 57 < c)
def isB (c : Int32) : Bool := decide (c = 32)
/-- where a token begins, behind p -/
def lS (B : Nat → Int32) (t p : Nat) : Nat := lR B t isB (t - p) p
/-- its kind: 0 wrong, 1 the end, 2 a name, 3 a number, 4 a stop -/
def lK (B : Nat → Int32) (t p : Nat) : Nat := if t ≤ lS B t p then 1 else if isL (B (lS B t p)) = true then 2 else if isF (B (lS B t p)) = true then (if lR B t isF (t - lS B t p) (lS B t p) - lS B t p ≤ 2 then 3 else 0) else if B (lS B t p) = 59 then 4 else 0
/-- where the next one may begin -/
def lX (B : Nat → Int32) (t p : Nat) : Nat := if t ≤ lS B t p then lS B t p else if isL (B (lS B t p)) = true then lR B t isL (t - lS B t p) (lS B t p) else if isF (B (lS B t p)) = true then lR B t isF (t - lS B t p) (lS B t p) else lS B t p + 1
/-- the value of the figures from st on, so many -/
def lVv (B : Nat → Int32) (st : Nat) : Nat → Int32
  | 0 => 0
  | d + 1 => lVv B st d * 10 + B (st + d) - 48
/-- the class's tape has read the token behind n -/
def TA (B : Nat → Int32) (a : Nat → Int32) (t n : Nat) : Prop := TJ a t (lX B t n) ∧ a 2 = nI (lK B t n) ∧ a 3 = nI (lS B t n) ∧ (lK B t n = 3 → a 4 = lVv B (lS B t n) (lX B t n - lS B t n))
section R34J
variable {B : Nat → Int32} {t n : Nat} {g : Int32 → Bool}
theorem lR_ge : ∀ d p, p ≤ lR B t g d p
  | 0, p => Nat.le_refl _
  | d + 1, p => by
    unfold lR
    split
    · exact Nat.le_trans (Nat.le_succ p) (lR_ge d (p + 1))
    · exact Nat.le_refl _
theorem lR_le : ∀ d p, p ≤ t → lR B t g d p ≤ t
  | 0, p, h => h
  | d + 1, p, h => by
    unfold lR
    split
    · rename_i q; exact lR_le d (p + 1) q.1
    · exact h
theorem lR_in : ∀ d p k, p ≤ k → k < lR B t g d p → k < t ∧ g (B k) = true
  | 0, p, k, h1, h2 => absurd h2 (by unfold lR; omega)
  | d + 1, p, k, h1, h2 => by
    unfold lR at h2
    by_cases q : p < t ∧ g (B p) = true
    · rw [if_pos q] at h2
      by_cases e : k = p
      · rw [e]; exact q
      · exact lR_in d (p + 1) k (by omega) h2
    · rw [if_neg q] at h2; omega
theorem lR_out : ∀ d p, t ≤ p + d → ¬ (lR B t g d p < t ∧ g (B (lR B t g d p)) = true)
  | 0, p, h => fun q => by unfold lR at q; omega
  | d + 1, p, h => by
    unfold lR
    by_cases q : p < t ∧ g (B p) = true
    · rw [if_pos q]; exact lR_out d (p + 1) (by omega)
    · rw [if_neg q]; exact q
theorem lR_gt {d p : Nat} (h : p < t) (hg : g (B p) = true) : p < lR B t g (d + 1) p := by
  unfold lR
  rw [if_pos ⟨h, hg⟩]
  exact lR_ge d (p + 1)
theorem lS_ge : n ≤ lS B t n := lR_ge _ _
theorem lS_le (h : n ≤ t) : lS B t n ≤ t := lR_le _ _ h
theorem lX_ge : lS B t n ≤ lX B t n := by
  unfold lX
  split
  · exact Nat.le_refl _
  · split
    · exact lR_ge _ _
    · split
      · exact lR_ge _ _
      · exact Nat.le_succ _
theorem lX_le (h : n ≤ t) : lX B t n ≤ t := by
  have := lS_le (B := B) h
  unfold lX
  split
  · omega
  · split
    · exact lR_le _ _ this
    · split
      · exact lR_le _ _ this
      · omega
theorem lK_end (h : t ≤ lS B t n) : lK B t n = 1 ∧ lX B t n = lS B t n := by
  refine ⟨?_, ?_⟩
  · unfold lK; rw [if_pos h]
  · unfold lX; rw [if_pos h]
theorem lK_name (h : lS B t n < t) (h1 : isL (B (lS B t n)) = true) : lK B t n = 2 ∧ lX B t n = lR B t isL (t - lS B t n) (lS B t n) := by
  refine ⟨?_, ?_⟩
  · unfold lK; rw [if_neg (by omega), if_pos h1]
  · unfold lX; rw [if_neg (by omega), if_pos h1]
theorem lK_num (h : lS B t n < t) (h1 : isL (B (lS B t n)) = false) (h2 : isF (B (lS B t n)) = true) : lK B t n = (if lX B t n - lS B t n ≤ 2 then 3 else 0) ∧ lX B t n = lR B t isF (t - lS B t n) (lS B t n) := by
  have e : lX B t n = lR B t isF (t - lS B t n) (lS B t n) := by
    unfold lX
    rw [if_neg (by omega), if_neg (by rw [h1]; decide), if_pos h2]
  refine ⟨?_, e⟩
  rw [e]
  unfold lK
  rw [if_neg (by omega), if_neg (by rw [h1]; decide), if_pos h2]
theorem lK_oth (h : lS B t n < t) (h1 : isL (B (lS B t n)) = false) (h2 : isF (B (lS B t n)) = false) : lK B t n = (if B (lS B t n) = 59 then 4 else 0) ∧ lX B t n = lS B t n + 1 := by
  refine ⟨?_, ?_⟩
  · unfold lK; rw [if_neg (by omega), if_neg (by rw [h1]; decide), if_neg (by rw [h2]; decide)]
  · unfold lX; rw [if_neg (by omega), if_neg (by rw [h1]; decide), if_neg (by rw [h2]; decide)]
theorem lK_le : lK B t n ≤ 4 := by
  unfold lK
  repeat' split
  all_goals omega
/-- a token that is not the end has bytes -/
theorem lX_gt (hK : ¬ lK B t n = 1) : lS B t n < lX B t n ∧ lS B t n < t := by
  by_cases h : t ≤ lS B t n
  · exact absurd (lK_end h).1 hK
  · have h' : lS B t n < t := by omega
    refine ⟨?_, h'⟩
    cases h1 : isL (B (lS B t n)) with
    | true =>
      rw [(lK_name h' h1).2, show t - lS B t n = (t - lS B t n - 1) + 1 by omega]
      exact lR_gt h' h1
    | false =>
      cases h2 : isF (B (lS B t n)) with
      | true =>
        rw [(lK_num h' h1 h2).2, show t - lS B t n = (t - lS B t n - 1) + 1 by omega]
        exact lR_gt h' h2
      | false => rw [(lK_oth h' h1 h2).2]; omega
/-- a number's figures -/
theorem lK_3 (hK : lK B t n = 3) : lS B t n < t ∧ 1 ≤ lX B t n - lS B t n ∧ lX B t n - lS B t n ≤ 2 ∧ ∀ k, lS B t n ≤ k → k < lX B t n → isF (B k) = true := by
  obtain ⟨g1, g2⟩ := lX_gt (B := B) (t := t) (n := n) (by omega)
  cases h1 : isL (B (lS B t n)) with
  | true => rw [(lK_name g2 h1).1] at hK; omega
  | false =>
    cases h2 : isF (B (lS B t n)) with
    | true =>
      obtain ⟨e1, e2⟩ := lK_num g2 h1 h2
      rw [e1] at hK
      by_cases q : lX B t n - lS B t n ≤ 2
      · refine ⟨g2, by omega, q, fun k k1 k2 => ?_⟩
        rw [e2] at k2
        exact (lR_in _ _ k k1 k2).2
      · rw [if_neg q] at hK; omega
    | false =>
      rw [(lK_oth g2 h1 h2).1] at hK
      split at hK <;> omega
theorem isF_v {c : Int32} (h : isF c = true) : ∃ q, q ≤ 9 ∧ c = nI (48 + q) := by
  unfold isF at h
  rw [decide_eq_true_eq] at h
  obtain ⟨h1, h2⟩ := h
  obtain ⟨q, hq, rfl⟩ := nI_ex' (x := c) (b := 57) (by decide) (fun w => h1 (Int32.lt_trans w (by decide))) h2
  rw [show (48 : Int32) = nI 48 from rfl, nI_lt' (by omega) (by omega)] at h1
  exact ⟨q - 48, by omega, by rw [show 48 + (q - 48) = q by omega]⟩
theorem nI_s48 {a q : Nat} : nI (10 * a) + nI (48 + q) - 48 = nI (10 * a + q) := by
  rw [nI_add, show (48 : Int32) = nI 48 from rfl, nI_sub (by omega), show 10 * a + (48 + q) - 48 = 10 * a + q by omega]
theorem lV_1 {st q v : Nat} {d : Nat} (e : lVv B st d = nI v) (eq : B (st + d) = nI (48 + q)) : lVv B st (d + 1) = nI (10 * v + q) := by
  show lVv B st d * 10 + B (st + d) - 48 = _
  have e10 : nI v * (10 : Int32) = nI (10 * v) := by
    have := nI_n10 (c := v) (i := 0)
    rw [show nI 0 = (0 : Int32) from rfl, Int32.add_zero] at this
    exact this
  rw [e, eq, e10, nI_s48]
/-- a number's value -/
theorem lV_v (hK : lK B t n = 3) : ∃ v, v ≤ 99 ∧ lVv B (lS B t n) (lX B t n - lS B t n) = nI v := by
  obtain ⟨h1, h2, h3, h4⟩ := lK_3 hK
  obtain ⟨q0, hq0, e0⟩ := isF_v (h4 (lS B t n) (Nat.le_refl _) (by omega))
  have v1 : lVv B (lS B t n) 1 = nI (10 * 0 + q0) := lV_1 (v := 0) (d := 0) rfl e0
  by_cases e : lX B t n - lS B t n = 1
  · exact ⟨10 * 0 + q0, by omega, by rw [e, v1]⟩
  · have e2 : lX B t n - lS B t n = 2 := by omega
    obtain ⟨q1, hq1, e1⟩ := isF_v (h4 (lS B t n + 1) (by omega) (by omega))
    exact ⟨10 * (10 * 0 + q0) + q1, by omega, by rw [e2]; exact lV_1 v1 e1⟩
end R34J
end
section
/-! THE CLASS reads tokens as the pure lexer does -/
section R34K
variable {h : zi_Hp} {a p A K F : Nat → Int32} {b : Bool} {t n : Nat}
theorem up_up {s : Nat → Int32} {k : Nat} {v w : Int32} : up (up s k v) k w = up s k w := by
  funext j
  unfold up
  by_cases q : j = k
  · rw [if_pos q, if_pos q]
  · rw [if_neg q, if_neg q, if_neg q]
theorem x_by (S : Sh h) (T : TJ a t n) (hn : n < t) : zv 1 33 0 [.ref 197, .int (nI n)] [] (zS h a p A K F b) = some (some (.int (zh_i h 198 n)), zS h a p A K F b) := by
  have ht := T.1
  rw [b33_0, if_neg (nI_pos (by omega)), b33_4 (s_g0 S) (s_g1 S), zS_7, T.2.1, if_pos (nI_lt hn (by omega)), b33_12, if_pos (show nI n < 160 from nI_lt (b := 160) (by omega) (by decide)), b33_19 (s_g0 S) (s_g1 S) (by rw [zS_r, S.r, rx_197_0, zq_rf]) (by rw [zS_r, S.r, rx_197_0, zq_rf, zS_n, S.n]; decide) (by rw [zS_r, S.r, rx_197_0, zq_rf, zS_k, S.k, kx_198]; exact zj_n (by omega) (by decide)) (by rw [zS_r, S.r, rx_197_0, zq_rf, zS_k, S.k, kx_198]), b33_30, zS_r, S.r, rx_197_0, zq_rf, nI_clamp (by omega), zS_8]
theorem x_le {c : Int32} : zv 1 34 0 [.int c] [] h = some (some (.int (zi_bI (isL c))), h) := by
  unfold isL
  rw [b34_0]
  by_cases h0 : c < 97
  · rw [if_pos h0, b34_16, b34_17 (Or.inl rfl), decide_eq_false (fun q => q.1 h0)]; rfl
  · rw [if_neg h0, b34_6]
    by_cases h1 : 122 < c
    · rw [if_pos h1, b34_16, b34_17 (Or.inl rfl), decide_eq_false (fun q => q.2 h1)]; rfl
    · rw [if_neg h1, b34_12, b34_17 (Or.inr rfl), decide_eq_true ⟨h0, h1⟩]; rfl
theorem x_bl (S : Sh h) {u : Value} : ∀ d n a, n + d = t → TJ a t n → zv 3 30 0 [.ref 197, u] [] (zS h a p A K F b) = zv 3 30 37 [.ref 197, u] [] (zS h (up a 5 (nI (lR (zh_i h 198) t isB d n))) p A K F b)
  | 0, n, a, hn, T => by
    have e : n = t := by omega
    subst e
    rw [b30_0 (s_g0 S) (s_g1 S), zS_7, zS_7, T.2.1, T.2.2.2, if_neg Int32.lt_irrefl]
    unfold lR
    rw [up_id a 5 T.2.2.2.symm]
  | d + 1, n, a, hn, T => by
    have ht := T.1
    rw [b30_0 (s_g0 S) (s_g1 S), zS_7, zS_7, T.2.1, T.2.2.2, if_pos (nI_lt (by omega) (by omega)), b30_11 (s_g0 S) (s_g1 S), zS_7, T.2.2.2, x_by S T (by omega)]
    simp only [Option.bind_some, Option.toList_some, Option.toList_none, List.cons_append, List.nil_append]
    rw [b30_19]
    unfold lR isB
    by_cases q : zh_i h 198 n = 32
    · rw [if_pos q, if_pos ⟨by omega, decide_eq_true q⟩, b30_24 (s_g0 S) (s_g1 S), zS_7, T.2.2.2, nI_s, zS_w7, x_bl S d (n + 1) _ (by omega) (T.nx (by omega)), up_up]; rfl
    · rw [if_neg q, if_neg (fun w => q (of_decide_eq_true w.2)), up_id a 5 T.2.2.2.symm]
theorem x_lt (S : Sh h) {c : Int32} : ∀ d n a, n + d = t → TJ a t n → zv 3 30 85 [.ref 197, .int c] [] (zS h a p A K F b) = some (none, zS h (up a 5 (nI (lR (zh_i h 198) t isL d n))) p A K F b)
  | 0, n, a, hn, T => by
    have e : n = t := by omega
    subst e
    rw [b30_85 (s_g0 S) (s_g1 S), zS_7, zS_7, T.2.1, T.2.2.2, if_neg Int32.lt_irrefl, s_end S]
    unfold lR
    rw [up_id a 5 T.2.2.2.symm]
  | d + 1, n, a, hn, T => by
    have ht := T.1
    rw [b30_85 (s_g0 S) (s_g1 S), zS_7, zS_7, T.2.1, T.2.2.2, if_pos (nI_lt (by omega) (by omega)), b30_96 (s_g0 S) (s_g1 S), zS_7, T.2.2.2, x_by S T (by omega)]
    simp only [Option.bind_some, Option.toList_some, Option.toList_none, List.cons_append, List.nil_append]
    rw [b30_104, x_le]
    simp only [Option.bind_some, Option.toList_some, Option.toList_none, List.cons_append, List.nil_append]
    rw [b30_107]
    unfold lR
    cases q : isL (zh_i h 198 n) with
    | true => rw [zi_bI_t, if_neg (by decide), if_pos ⟨by omega, rfl⟩, b30_110 (s_g0 S) (s_g1 S), zS_7, T.2.2.2, nI_s, zS_w7, x_lt S d (n + 1) _ (by omega) (T.nx (by omega)), up_up]
    | false => rw [zi_bI_f, if_pos rfl, if_neg (fun w => absurd w.2 (by decide)), s_end S, up_id a 5 T.2.2.2.symm]
theorem x_fg (S : Sh h) {st : Nat} : ∀ d n a, n + d = t → TJ a t n → st ≤ n → a 4 = lVv (zh_i h 198) st (n - st) → zv 2 31 5 [.ref 197] [] (zS h a p A K F b) = zv 2 31 66 [.ref 197] [] (zS h (up (up a 4 (lVv (zh_i h 198) st (lR (zh_i h 198) t isF d n - st))) 5 (nI (lR (zh_i h 198) t isF d n))) p A K F b)
  | 0, n, a, hn, T, hs, e4 => by
    have e : n = t := by omega
    subst e
    rw [b31_5 (s_g0 S) (s_g1 S), zS_7, zS_7, T.2.1, T.2.2.2, if_neg Int32.lt_irrefl]
    unfold lR
    rw [up_id a 4 e4.symm, up_id a 5 T.2.2.2.symm]
  | d + 1, n, a, hn, T, hs, e4 => by
    have ht := T.1
    have ev := x_by S T (p := p) (A := A) (K := K) (F := F) (b := b) (by omega)
    rw [b31_5 (s_g0 S) (s_g1 S), zS_7, zS_7, T.2.1, T.2.2.2, if_pos (nI_lt (by omega) (by omega)), b31_16 (s_g0 S) (s_g1 S), zS_7, T.2.2.2, ev]
    simp only [Option.bind_some, Option.toList_some, Option.toList_none, List.cons_append, List.nil_append]
    rw [b31_24, s_fi]
    simp only [Option.bind_some, Option.toList_some, Option.toList_none, List.cons_append, List.nil_append]
    rw [b31_27]
    unfold lR isF
    by_cases q : ¬ zh_i h 198 n < 48 ∧ ¬ 57 < zh_i h 198 n
    · rw [decide_eq_true q, zi_bI_t, if_neg (by decide), if_pos ⟨by omega, rfl⟩, b31_30 (s_g0 S) (s_g1 S), zS_7, zS_7, T.2.2.2, ev]
      simp only [Option.bind_some, Option.toList_some, Option.toList_none, List.cons_append, List.nil_append]
      have T1 : TJ (up (up a 4 (a 4 * 10 + zh_i h 198 n - 48)) 5 (nI (n + 1))) t (n + 1) := (T.u1 (k := 4) (by decide) (by decide)).nx (by omega)
      rw [b31_46 (s_g0 S) (s_g1 S), zS_w7, b31_55 (s_g0 S) (s_g1 S) (s_g0 S) (s_g1 S), zS_7, up_n _ _ (by decide), T.2.2.2, nI_s, zS_w7, x_fg S (st := st) d (n + 1) _ (by omega) T1 (by omega) (by
        rw [up_n _ _ (by decide), up_s, e4, show n + 1 - st = (n - st) + 1 by omega]
        show _ = lVv (zh_i h 198) st (n - st) * 10 + zh_i h 198 (st + (n - st)) - 48
        rw [show st + (n - st) = n by omega])]
      have eu : ∀ (v1 v2 v3 v4 : Int32), up (up (up (up a 4 v1) 5 v2) 4 v3) 5 v4 = up (up a 4 v3) 5 v4 := fun v1 v2 v3 v4 => by
        funext j
        unfold up
        by_cases q5 : j = 5
        · simp only [if_pos q5]
        · by_cases q4 : j = 4
          · simp only [if_neg q5, if_pos q4]
          · simp only [if_neg q5, if_neg q4]
      rw [eu]; rfl
    · rw [decide_eq_false q, zi_bI_f, if_pos rfl, if_neg (fun w => absurd w.2 (by decide)), up_id a 4 e4.symm, up_id a 5 T.2.2.2.symm]
theorem x_tok (S : Sh h) (T : TJ a t n) (hS : lS (zh_i h 198) t n = n) {u : Value} : ∃ a', zv 3 30 37 [.ref 197, u] [] (zS h a p A K F b) = some (none, zS h a' p A K F b) ∧ TJ a' t (lX (zh_i h 198) t n) ∧ a' 2 = nI (lK (zh_i h 198) t n) ∧ a' 3 = nI n ∧ (lK (zh_i h 198) t n = 3 → a' 4 = lVv (zh_i h 198) n (lX (zh_i h 198) t n - n)) := by
  have ht := T.1
  have hn := T.2.2.1
  obtain ⟨a1, ea1⟩ : ∃ a1, a1 = up a 3 (nI n) := ⟨_, rfl⟩
  have T1 : TJ a1 t n := by rw [ea1]; exact T.u1 (by decide) (by decide)
  have e3 : a1 3 = nI n := by rw [ea1, up_s]
  have go : ∃ v, zv 3 30 37 [.ref 197, u] [] (zS h a p A K F b) = (if nI n < nI t then zv 3 30 73 [.ref 197, .int v] [] (zS h a1 p A K F b) else zv 3 30 65 [.ref 197, .int v] [] (zS h a1 p A K F b)) ∧ (n < t → v = zh_i h 198 n) := by
    by_cases hnt : n < t
    · have ev := x_by S T1 (p := p) (A := A) (K := K) (F := F) (b := b) hnt
      refine ⟨_, ?_, fun _ => rfl⟩
      rw [b30_37 (s_g0 S) (s_g1 S), zS_7, T.2.2.2, zS_w7, ← ea1, b30_47 (s_g0 S) (s_g1 S) (s_g0 S) (s_g1 S), zS_7, e3, ev]
      simp only [Option.bind_some, Option.toList_some, Option.toList_none, List.cons_append, List.nil_append]
      rw [b30_53 (s_g0 S) (s_g1 S), zS_7, zS_7, e3, T1.2.1]
    · obtain ⟨v, ev⟩ := s_by S (a := a1) (p := p) (A := A) (K := K) (F := F) (b := b) (nI n)
      refine ⟨v, ?_, fun w => absurd w hnt⟩
      rw [b30_37 (s_g0 S) (s_g1 S), zS_7, T.2.2.2, zS_w7, ← ea1, b30_47 (s_g0 S) (s_g1 S) (s_g0 S) (s_g1 S), zS_7, e3, ev]
      simp only [Option.bind_some, Option.toList_some, Option.toList_none, List.cons_append, List.nil_append]
      rw [b30_53 (s_g0 S) (s_g1 S), zS_7, zS_7, e3, T1.2.1]
  obtain ⟨v, go, ev⟩ := go
  by_cases hnt : n < t
  · obtain rfl := ev hnt
    rw [if_pos (nI_lt hnt (by omega)), b30_73, x_le] at go
    simp only [Option.bind_some, Option.toList_some, Option.toList_none, List.cons_append, List.nil_append] at go
    rw [b30_77] at go
    have hs : lS (zh_i h 198) t n < t := by rw [hS]; exact hnt
    cases h1 : isL (zh_i h 198 n) with
    | true =>
      obtain ⟨k1, k2⟩ := lK_name hs (by rw [hS]; exact h1)
      rw [hS] at k2
      rw [h1, zi_bI_t, if_neg (by decide), b30_80 (s_g0 S) (s_g1 S), zS_w7, x_lt S (t - n) n (up a1 2 2) (by omega) (T1.u1 (by decide) (by decide)), ← k2] at go
      refine ⟨_, go, ?_, ?_, ?_, fun w => by rw [k1] at w; omega⟩
      · exact (T1.u1 (by decide) (by decide)).nx (lX_le hn)
      · rw [up_n _ _ (by decide), up_s, k1]; rfl
      · rw [up_n _ _ (by decide), up_n _ _ (by decide), e3]
    | false =>
      rw [h1, zi_bI_f, if_pos rfl, b30_123, s_fi] at go
      simp only [Option.bind_some, Option.toList_some, Option.toList_none, List.cons_append, List.nil_append] at go
      rw [b30_127] at go
      cases h2 : isF (zh_i h 198 n) with
      | true =>
        obtain ⟨k1, k2⟩ := lK_num hs (by rw [hS]; exact h1) (by rw [hS]; exact h2)
        rw [hS] at k1 k2
        have h2' : ¬ zh_i h 198 n < 48 ∧ ¬ 57 < zh_i h 198 n := by unfold isF at h2; exact of_decide_eq_true h2
        have T2 : TJ (up a1 4 0) t n := T1.u1 (by decide) (by decide)
        have hx : n ≤ lX (zh_i h 198) t n := by have := lX_ge (B := zh_i h 198) (t := t) (n := n); omega
        have hxt := lX_le (B := zh_i h 198) hn
        have e31 := x_fg S (p := p) (A := A) (K := K) (F := F) (b := b) (st := n) (t - n) n (up a1 4 0) (by omega) T2 (Nat.le_refl _) (by rw [up_s, Nat.sub_self]; rfl)
        rw [← k2] at e31
        obtain ⟨a2, ea2⟩ : ∃ a2, a2 = up (up (up a1 4 0) 4 (lVv (zh_i h 198) n (lX (zh_i h 198) t n - n))) 5 (nI (lX (zh_i h 198) t n)) := ⟨_, rfl⟩
        rw [← ea2] at e31
        have T3 : TJ a2 t (lX (zh_i h 198) t n) := by rw [ea2]; exact (T2.u1 (by decide) (by decide)).nx hxt
        have a23 : a2 3 = nI n := by rw [ea2, up_n _ _ (by decide), up_n _ _ (by decide), up_n _ _ (by decide), e3]
        have a24 : a2 4 = lVv (zh_i h 198) n (lX (zh_i h 198) t n - n) := by rw [ea2, up_n _ _ (by decide), up_s]
        have c31 : zv 2 31 0 [.ref 197] [] (zS h a1 p A K F b) = some (none, zS h (up a2 2 (nI (lK (zh_i h 198) t n))) p A K F b) := by
          rw [b31_0 (s_g0 S) (s_g1 S), zS_w7, e31, b31_66 (s_g0 S) (s_g1 S), zS_7, zS_7, T3.2.2.2, a23, nI_sub hx, k1]
          by_cases q : lX (zh_i h 198) t n - n ≤ 2
          · rw [if_neg (by rw [show (2 : Int32) = nI 2 from rfl, nI_lt' (by omega) (by omega)]; omega), if_pos q, b31_84, b31_85 (s_g0 S) (s_g1 S), zS_w7]; rfl
          · rw [if_pos (by rw [show (2 : Int32) = nI 2 from rfl, nI_lt' (by omega) (by omega)]; omega), if_neg q, b31_80, b31_85 (s_g0 S) (s_g1 S), zS_w7]; rfl
        rw [decide_eq_true h2', zi_bI_t, if_neg (by decide), b30_130 (s_g0 S) (s_g1 S), c31] at go
        simp only [Option.bind_some, Option.toList_some, Option.toList_none, List.cons_append, List.nil_append] at go
        rw [b30_134, s_end S] at go
        refine ⟨_, go, T3.u1 (by decide) (by decide), up_s _ _ _, ?_, fun _ => ?_⟩
        · rw [up_n _ _ (by decide), a23]
        · rw [up_n _ _ (by decide), a24]
      | false =>
        obtain ⟨k1, k2⟩ := lK_oth hs (by rw [hS]; exact h1) (by rw [hS]; exact h2)
        rw [hS] at k1 k2
        have h2' : ¬ (¬ zh_i h 198 n < 48 ∧ ¬ 57 < zh_i h 198 n) := by unfold isF at h2; exact of_decide_eq_false h2
        have fin : ∀ w : Int32, zv 3 30 149 [.ref 197, .int (zh_i h 198 n)] [.int w, .ref 197] (zS h a1 p A K F b) = some (none, zS h (up (up a1 2 w) 5 (nI (n + 1))) p A K F b) := fun w => by
          rw [b30_149 (s_g0 S) (s_g1 S), zS_w7, b30_154 (s_g0 S) (s_g1 S) (s_g0 S) (s_g1 S), zS_7, up_n _ _ (by decide), T1.2.2.2, nI_s, zS_w7, s_end S]
        have f2 : zv 3 30 37 [.ref 197, u] [] (zS h a p A K F b) = some (none, zS h (up (up a1 2 (nI (lK (zh_i h 198) t n))) 5 (nI (n + 1))) p A K F b) := by
          rw [go, decide_eq_false h2', zi_bI_f, if_pos rfl, b30_137, k1]
          by_cases q9 : zh_i h 198 n = 59
          · rw [if_pos q9, if_pos q9, b30_144, fin]; rfl
          · rw [if_neg q9, if_neg q9, b30_148, fin]; rfl
        refine ⟨_, f2, ?_, ?_, ?_, fun w => by rw [k1] at w; split at w <;> omega⟩
        · rw [k2]; exact (T1.u1 (by decide) (by decide)).nx (by omega)
        · rw [up_n _ _ (by decide), up_s]
        · rw [up_n _ _ (by decide), up_n _ _ (by decide), e3]
  · have hs : t ≤ lS (zh_i h 198) t n := by rw [hS]; omega
    obtain ⟨k1, k2⟩ := lK_end hs
    rw [hS] at k2
    rw [if_neg (fun w => hnt (by rw [nI_lt' (by omega) (by omega)] at w; exact w)), b30_65 (s_g0 S) (s_g1 S), zS_w7, s_end S] at go
    refine ⟨_, go, ?_, ?_, ?_, fun w => by rw [k1] at w; omega⟩
    · rw [k2]; exact T1.u1 (by decide) (by decide)
    · rw [up_s, k1]; rfl
    · rw [up_n _ _ (by decide), e3]
/-- the class reads the token behind n -/
theorem x_sc (S : Sh h) (T : TJ a t n) {u : Value} : ∃ a', zv 3 30 0 [.ref 197, u] [] (zS h a p A K F b) = some (none, zS h a' p A K F b) ∧ TA (zh_i h 198) a' t n := by
  have hn := T.2.2.1
  have hst : lS (zh_i h 198) t n ≤ t := lS_le hn
  have T1 : TJ (up a 5 (nI (lS (zh_i h 198) t n))) t (lS (zh_i h 198) t n) := T.nx hst
  have hS2 : lS (zh_i h 198) t (lS (zh_i h 198) t n) = lS (zh_i h 198) t n := by
    have o := lR_out (B := zh_i h 198) (t := t) (g := isB) (t - n) n (by omega)
    show lR (zh_i h 198) t isB (t - lS (zh_i h 198) t n) (lS (zh_i h 198) t n) = _
    have o' : ¬ (lS (zh_i h 198) t n < t ∧ isB (zh_i h 198 (lS (zh_i h 198) t n)) = true) := o
    generalize t - lS (zh_i h 198) t n = d
    cases d with
    | zero => rfl
    | succ d => unfold lR; rw [if_neg o']
  have hX2 : lX (zh_i h 198) t (lS (zh_i h 198) t n) = lX (zh_i h 198) t n := by unfold lX; rw [hS2]
  have hK2 : lK (zh_i h 198) t (lS (zh_i h 198) t n) = lK (zh_i h 198) t n := by unfold lK; rw [hS2]
  obtain ⟨a', e, T', k2, k3, k4⟩ := x_tok S (p := p) (A := A) (K := K) (F := F) (b := b) T1 hS2 (u := u)
  rw [hX2] at T' k4
  rw [hK2] at k2 k4
  exact ⟨a', by rw [x_bl S (t - n) n a (by omega) T]; exact e, T', k2, k3, k4⟩
end R34K
end
section
/-! THE REFERENCE reads tokens as the pure lexer does -/
/-- the reference has read the token behind n -/
def TW (B : Nat → Int32) (w : Nat → Int32) (t n : Nat) : Prop := w 9 = nI (lX B t n) ∧ w 10 = nI (lS B t n) ∧ (lK B t n = 0 → w 13 = 1 ∧ w 14 = nI (lS B t n)) ∧ (¬ lK B t n = 0 → w 13 = 0 ∧ w 11 = nI (lK B t n - 1)) ∧ (lK B t n = 3 → w 12 = lVv B (lS B t n) (lX B t n - lS B t n))
/-- the tape's bytes -/
def BT (B : Nat → Int32) (h : zi_Hp) (t : Nat) : Prop := t ≤ 160 ∧ zh_i h 211 8 = nI t ∧ ∀ j, j < t → zh_i h 218 j = B j ∧ ∃ b, b ≤ 127 ∧ B j = nI b
section R34L
variable {h : zi_Hp} {w T F : Nat → Int32} {b : Bool} {B : Nat → Int32} {t n : Nat}
theorem BT.by (Q : BT B h t) {p : Nat} : byF h t p = if p < t then B p else -1 := by
  unfold byF
  by_cases e : p < t
  · rw [if_pos e, if_pos e, (Q.2.2 p e).1]
  · rw [if_neg e, if_neg e]
theorem BT.qL (Q : BT B h t) {p : Nat} : (nI 97 ≤ byF h t p ∧ byF h t p ≤ nI 122) ↔ (p < t ∧ isL (B p) = true) := by
  rw [Q.by]
  unfold isL
  by_cases e : p < t
  · rw [if_pos e, decide_eq_true_eq, Int32.not_lt, Int32.not_lt]
    exact ⟨fun q => ⟨e, q⟩, fun q => q.2⟩
  · rw [if_neg e]
    exact ⟨fun q => absurd q (by decide), fun q => absurd q.1 e⟩
theorem BT.qF (Q : BT B h t) {p : Nat} : (nI 48 ≤ byF h t p ∧ byF h t p ≤ nI 57) ↔ (p < t ∧ isF (B p) = true) := by
  rw [Q.by]
  unfold isF
  by_cases e : p < t
  · rw [if_pos e, decide_eq_true_eq, Int32.not_lt, Int32.not_lt]
    exact ⟨fun q => ⟨e, q⟩, fun q => q.2⟩
  · rw [if_neg e]
    exact ⟨fun q => absurd q (by decide), fun q => absurd q.1 e⟩
theorem BT.qB (Q : BT B h t) {p : Nat} : byF h t p = 32 ↔ (p < t ∧ isB (B p) = true) := by
  rw [Q.by]
  unfold isB
  by_cases e : p < t
  · rw [if_pos e, decide_eq_true_eq]
    exact ⟨fun q => ⟨e, q⟩, fun q => q.2⟩
  · rw [if_neg e]
    exact ⟨fun q => absurd q (by decide), fun q => absurd q.1 e⟩
theorem BT.neg (Q : BT B h t) {p : Nat} : byF h t p < 0 ↔ t ≤ p := by
  rw [Q.by]
  by_cases e : p < t
  · obtain ⟨c, hc, ec⟩ := (Q.2.2 p e).2
    rw [if_pos e, ec]
    exact ⟨fun q => absurd q (nI_pos (by omega)), fun q => by omega⟩
  · rw [if_neg e]
    exact ⟨fun _ => by omega, fun _ => by decide⟩
theorem y_by (S : Sh h) (Q : BT B h t) {p : Nat} (hp : p < 1000) : zv 1 183 0 [.ref 211, .int (nI p)] [] (zP h w T F b) = some (some (.int (byF h t p)), zP h w T F b) := p_by S Q.1 Q.2.1 hp
theorem y_bl (S : Sh h) (Q : BT B h t) {u : Value} : ∀ d n w, n + d = t → w 9 = nI n → zv 2 186 8 [.ref 211, u] [] (zP h w T F b) = zv 2 186 34 [.ref 211, u] [] (zP h (up w 9 (nI (lR B t isB d n))) T F b)
  | 0, n, w, hn, e9 => by
    have ht := Q.1
    have q : ¬ byF h t n = 32 := fun z => by have := Q.qB.mp z; omega
    rw [b186_8 (p_g0 S) (p_g1 S), zP_w (by decide) (by decide), e9, y_by S Q (by omega)]
    simp only [Option.bind_some, Option.toList_some, Option.toList_none, List.cons_append, List.nil_append]
    rw [b186_16, if_neg q]
    unfold lR
    rw [up_id w 9 e9.symm]
  | d + 1, n, w, hn, e9 => by
    have ht := Q.1
    rw [b186_8 (p_g0 S) (p_g1 S), zP_w (by decide) (by decide), e9, y_by S Q (by omega)]
    simp only [Option.bind_some, Option.toList_some, Option.toList_none, List.cons_append, List.nil_append]
    rw [b186_16]
    unfold lR
    by_cases q : byF h t n = 32
    · rw [if_pos q, if_pos (Q.qB.mp q), b186_21 (p_g0 S) (p_g1 S), zP_w (by decide) (by decide), zP_ww _ (by decide) (by decide), e9, nI_s, y_bl S Q d (n + 1) _ (by omega) (up_s _ _ _), up_up]
    · rw [if_neg q, if_neg (fun z => q (Q.qB.mpr z)), up_id w 9 e9.symm]
theorem y_lt (S : Sh h) (Q : BT B h t) {x : Int32} : ∀ d n w, n + d = t → w 9 = nI n → zv 2 186 82 [.ref 211, .int x] [] (zP h w T F b) = zv 2 186 274 [.ref 211, .int x] [] (zP h (up w 9 (nI (lR B t isL d n))) T F b)
  | 0, n, w, hn, e9 => by
    have ht := Q.1
    have q : ¬ (nI 97 ≤ byF h t n ∧ byF h t n ≤ nI 122) := fun z => by have := Q.qL.mp z; omega
    rw [b186_82 (p_g0 S) (p_g1 S), zP_w (by decide) (by decide), e9, y_by S Q (by omega)]
    simp only [Option.bind_some, Option.toList_some, Option.toList_none, List.cons_append, List.nil_append]
    rw [b186_90, show (97 : Int64) = (nI 97).toInt64 from rfl, show (122 : Int64) = (nI 122).toInt64 from rfl, c_iz q]
    simp only [Option.bind_some, Option.toList_some, Option.toList_none, List.cons_append, List.nil_append]
    rw [b186_100, if_pos rfl]
    unfold lR
    rw [up_id w 9 e9.symm]
  | d + 1, n, w, hn, e9 => by
    have ht := Q.1
    rw [b186_82 (p_g0 S) (p_g1 S), zP_w (by decide) (by decide), e9, y_by S Q (by omega)]
    simp only [Option.bind_some, Option.toList_some, Option.toList_none, List.cons_append, List.nil_append]
    rw [b186_90, show (97 : Int64) = (nI 97).toInt64 from rfl, show (122 : Int64) = (nI 122).toInt64 from rfl]
    unfold lR
    by_cases q : nI 97 ≤ byF h t n ∧ byF h t n ≤ nI 122
    · rw [c_iy q, if_pos (Q.qL.mp q)]
      simp only [Option.bind_some, Option.toList_some, Option.toList_none, List.cons_append, List.nil_append]
      rw [b186_100, if_neg (by decide), b186_103 (p_g0 S) (p_g1 S), zP_w (by decide) (by decide), zP_ww _ (by decide) (by decide), e9, nI_s, y_lt S Q d (n + 1) _ (by omega) (up_s _ _ _), up_up]
    · rw [c_iz q, if_neg (fun z => q (Q.qL.mpr z))]
      simp only [Option.bind_some, Option.toList_some, Option.toList_none, List.cons_append, List.nil_append]
      rw [b186_100, if_pos rfl, up_id w 9 e9.symm]
theorem up_4 {s : Nat → Int32} {v1 v2 v3 v4 : Int32} : up (up (up (up s 12 v1) 9 v2) 12 v3) 9 v4 = up (up s 12 v3) 9 v4 := by
  funext j
  unfold up
  by_cases q5 : j = 9
  · simp only [if_pos q5]
  · by_cases q4 : j = 12
    · simp only [if_neg q5, if_pos q4]
    · simp only [if_neg q5, if_neg q4]
theorem y_fg (S : Sh h) (Q : BT B h t) {x : Int32} {st : Nat} : ∀ d n w, n + d = t → w 9 = nI n → w 10 = nI st → st ≤ n → w 12 = lVv B st (min (n - st) 2) → zv 2 186 140 [.ref 211, .int x] [] (zP h w T F b) = zv 2 186 217 [.ref 211, .int x] [] (zP h (up (up w 12 (lVv B st (min (lR B t isF d n - st) 2))) 9 (nI (lR B t isF d n))) T F b)
  | 0, n, w, hn, e9, e10, hs, e12 => by
    have ht := Q.1
    have q : ¬ (nI 48 ≤ byF h t n ∧ byF h t n ≤ nI 57) := fun z => by have := Q.qF.mp z; omega
    rw [b186_140 (p_g0 S) (p_g1 S), zP_w (by decide) (by decide), e9, y_by S Q (by omega)]
    simp only [Option.bind_some, Option.toList_some, Option.toList_none, List.cons_append, List.nil_append]
    rw [b186_148, show (48 : Int64) = (nI 48).toInt64 from rfl, show (57 : Int64) = (nI 57).toInt64 from rfl, c_iz q]
    simp only [Option.bind_some, Option.toList_some, Option.toList_none, List.cons_append, List.nil_append]
    rw [b186_158, if_pos rfl]
    unfold lR
    rw [up_id w 12 e12.symm, up_id w 9 e9.symm]
  | d + 1, n, w, hn, e9, e10, hs, e12 => by
    have ht := Q.1
    rw [b186_140 (p_g0 S) (p_g1 S), zP_w (by decide) (by decide), e9, y_by S Q (by omega)]
    simp only [Option.bind_some, Option.toList_some, Option.toList_none, List.cons_append, List.nil_append]
    rw [b186_148, show (48 : Int64) = (nI 48).toInt64 from rfl, show (57 : Int64) = (nI 57).toInt64 from rfl]
    unfold lR
    by_cases q : nI 48 ≤ byF h t n ∧ byF h t n ≤ nI 57
    · have q' := Q.qF.mp q
      have eb : byF h t n = B n := by rw [Q.by, if_pos q'.1]
      rw [c_iy q, if_pos q']
      simp only [Option.bind_some, Option.toList_some, Option.toList_none, List.cons_append, List.nil_append]
      rw [b186_158, if_neg (by decide), b186_161 (p_g0 S) (p_g1 S), zP_w (by decide) (by decide), zP_w (by decide) (by decide), e9, e10, nI_sub hs]
      have nxt : ∀ v, v = lVv B st (min (n + 1 - st) 2) → zv 2 186 201 [.ref 211, .int x] [.int v, .ref 211] (zP h w T F b) = zv 2 186 217 [.ref 211, .int x] [] (zP h (up (up w 12 (lVv B st (min (lR B t isF d (n + 1) - st) 2))) 9 (nI (lR B t isF d (n + 1)))) T F b) := fun v ev => by
        rw [b186_201 (p_g0 S) (p_g1 S), zP_ww _ (by decide) (by decide), b186_206 (p_g0 S) (p_g1 S) (p_g0 S) (p_g1 S), zP_w (by decide) (by decide), up_n _ _ (by decide), zP_ww _ (by decide) (by decide), e9, nI_s, y_fg S Q (st := st) d (n + 1) _ (by omega) (up_s _ _ _) (by rw [up_n _ _ (by decide), up_n _ _ (by decide)]; exact e10) (by omega) (by rw [up_n _ _ (by decide), up_s]; exact ev), up_4]
      by_cases q2 : n - st < 2
      · rw [if_pos (show nI (n - st) < 2 from nI_lt (b := 2) q2 (by decide)), b186_175 (p_g0 S) (p_g1 S), zP_w (by decide) (by decide), zP_w (by decide) (by decide), e9, y_by S Q (by omega), eb]
        simp only [Option.bind_some, Option.toList_some, Option.toList_none, List.cons_append, List.nil_append]
        rw [b186_190]
        refine nxt _ ?_
        rw [e12, show min (n - st) 2 = n - st by omega, show min (n + 1 - st) 2 = (n - st) + 1 by omega]
        show _ = lVv B st (n - st) * 10 + B (st + (n - st)) - 48
        rw [show st + (n - st) = n by omega, Int32.mul_comm]
      · rw [if_neg (show ¬ nI (n - st) < 2 from fun z => q2 ((nI_lt' (b := 2) (by omega) (by decide)).mp z)), b186_197 (p_g0 S) (p_g1 S), zP_w (by decide) (by decide)]
        refine nxt _ ?_
        rw [e12, show min (n - st) 2 = 2 by omega, show min (n + 1 - st) 2 = 2 by omega]
    · rw [c_iz q, if_neg (fun z => q (Q.qF.mpr z))]
      simp only [Option.bind_some, Option.toList_some, Option.toList_none, List.cons_append, List.nil_append]
      rw [b186_158, if_pos rfl, up_id w 12 e12.symm, up_id w 9 e9.symm]
theorem y_rdF (S : Sh h) (hf : 0 < w 13) {u : Value} : zv 2 186 0 [.ref 211, u] [] (zP h w T F b) = some (none, zP h w T F b) := by
  rw [b186_0 (p_g0 S) (p_g1 S), zP_w (by decide) (by decide), if_pos hf, b186_7]
/-- the reference reads the token behind n -/
theorem y_rd (S : Sh h) (Q : BT B h t) (hn : n ≤ t) (e9 : w 9 = nI n) (e13 : w 13 = 0) {u : Value} : ∃ w', zv 2 186 0 [.ref 211, u] [] (zP h w T F b) = some (none, zP h w' T F b) ∧ TW B w' t n ∧ ∀ j, 14 < j → w' j = w j := by
  have ht := Q.1
  have hst : lS B t n ≤ t := lS_le hn
  have hxt : lX B t n ≤ t := lX_le hn
  have hxg : lS B t n ≤ lX B t n := lX_ge
  have bl := y_bl S Q (w := w) (T := T) (F := F) (b := b) (u := u) (t - n) n (by omega) e9
  have el : lR B t isB (t - n) n = lS B t n := rfl
  rw [el] at bl
  obtain ⟨w2, ew2⟩ : ∃ w2, w2 = up (up w 9 (nI (lS B t n))) 10 (nI (lS B t n)) := ⟨_, rfl⟩
  have go : zv 2 186 0 [.ref 211, u] [] (zP h w T F b) = zv 2 186 50 [.ref 211, u] [.int (byF h t (lS B t n))] (zP h w2 T F b) := by
    rw [b186_0 (p_g0 S) (p_g1 S), zP_w (by decide) (by decide), e13, if_neg (by decide), bl, b186_34 (p_g0 S) (p_g1 S), zP_w (by decide) (by decide), up_s, zP_ww _ (by decide) (by decide), ← ew2, b186_44 (p_g0 S) (p_g1 S) (p_g0 S) (p_g1 S), zP_w (by decide) (by decide), show w2 9 = nI (lS B t n) by rw [ew2, up_n _ _ (by decide), up_s], y_by S Q (by omega)]
    simp only [Option.bind_some, Option.toList_some, Option.toList_none, List.cons_append, List.nil_append]
  have a9 : w2 9 = nI (lS B t n) := by rw [ew2, up_n _ _ (by decide), up_s]
  have a10 : w2 10 = nI (lS B t n) := by rw [ew2, up_s]
  have a13 : w2 13 = 0 := by rw [ew2, up_n _ _ (by decide), up_n _ _ (by decide)]; exact e13
  have ah : ∀ j, 14 < j → w2 j = w j := fun j hj => by rw [ew2, up_n _ _ (by omega), up_n _ _ (by omega)]
  rw [go, b186_50]
  clear go bl ew2
  by_cases hneg : t ≤ lS B t n
  · obtain ⟨k1, k2⟩ := lK_end (B := B) hneg
    rw [if_pos (Q.neg.mpr hneg), b186_55 (p_g0 S) (p_g1 S), zP_ww _ (by decide) (by decide), b186_274]
    refine ⟨_, rfl, ⟨?_, ?_, fun z => by omega, fun _ => ⟨?_, ?_⟩, fun z => by omega⟩, fun j hj => by rw [up_n _ _ (by omega)]; exact ah j hj⟩
    · rw [up_n _ _ (by decide), a9, k2]
    · rw [up_n _ _ (by decide), a10]
    · rw [up_n _ _ (by decide)]; exact a13
    · rw [up_s, k1]; rfl
  · have hlt : lS B t n < t := by omega
    rw [if_neg (fun z => hneg (Q.neg.mp z)), b186_63, show (97 : Int64) = (nI 97).toInt64 from rfl, show (122 : Int64) = (nI 122).toInt64 from rfl]
    cases h1 : isL (B (lS B t n)) with
    | true =>
      obtain ⟨k1, k2⟩ := lK_name hlt h1
      have ql := y_lt S Q (T := T) (F := F) (b := b) (x := byF h t (lS B t n)) (t - lS B t n) (lS B t n) (up w2 11 1) (by omega) (by rw [up_n _ _ (by decide)]; exact a9)
      rw [← k2] at ql
      rw [c_iy (Q.qL.mpr ⟨hlt, h1⟩)]
      simp only [Option.bind_some, Option.toList_some, Option.toList_none, List.cons_append, List.nil_append]
      rw [b186_74, if_neg (by decide), b186_77 (p_g0 S) (p_g1 S), zP_ww _ (by decide) (by decide), ql, b186_274]
      refine ⟨_, rfl, ⟨up_s _ _ _, ?_, fun z => by omega, fun _ => ⟨?_, ?_⟩, fun z => by omega⟩, fun j hj => by rw [up_n _ _ (by omega), up_n _ _ (by omega)]; exact ah j hj⟩
      · rw [up_n _ _ (by decide), up_n _ _ (by decide), a10]
      · rw [up_n _ _ (by decide), up_n _ _ (by decide)]; exact a13
      · rw [up_n _ _ (by decide), up_s, k1]; rfl
    | false =>
      rw [c_iz (fun z => by have := (Q.qL.mp z).2; rw [h1] at this; exact absurd this (by decide))]
      simp only [Option.bind_some, Option.toList_some, Option.toList_none, List.cons_append, List.nil_append]
      rw [b186_74, if_pos rfl, b186_116, show (48 : Int64) = (nI 48).toInt64 from rfl, show (57 : Int64) = (nI 57).toInt64 from rfl]
      cases h2 : isF (B (lS B t n)) with
      | true =>
        obtain ⟨k1, k2⟩ := lK_num hlt h1 h2
        have qf := y_fg S Q (T := T) (F := F) (b := b) (x := byF h t (lS B t n)) (st := lS B t n) (t - lS B t n) (lS B t n) (up (up w2 11 2) 12 0) (by omega) (by rw [up_n _ _ (by decide), up_n _ _ (by decide)]; exact a9) (by rw [up_n _ _ (by decide), up_n _ _ (by decide)]; exact a10) (Nat.le_refl _) (by rw [up_s, Nat.sub_self]; rfl)
        rw [← k2] at qf
        obtain ⟨w3, ew3⟩ : ∃ w3, w3 = up (up (up (up w2 11 2) 12 0) 12 (lVv B (lS B t n) (min (lX B t n - lS B t n) 2))) 9 (nI (lX B t n)) := ⟨_, rfl⟩
        rw [← ew3] at qf
        have b9 : w3 9 = nI (lX B t n) := by rw [ew3, up_s]
        have b10 : w3 10 = nI (lS B t n) := by rw [ew3, up_n _ _ (by decide), up_n _ _ (by decide), up_n _ _ (by decide), up_n _ _ (by decide), a10]
        have b11 : w3 11 = 2 := by rw [ew3, up_n _ _ (by decide), up_n _ _ (by decide), up_n _ _ (by decide), up_s]
        have b12 : w3 12 = lVv B (lS B t n) (min (lX B t n - lS B t n) 2) := by rw [ew3, up_n _ _ (by decide), up_s]
        have b13 : w3 13 = 0 := by rw [ew3, up_n _ _ (by decide), up_n _ _ (by decide), up_n _ _ (by decide), up_n _ _ (by decide)]; exact a13
        have bh : ∀ j, 14 < j → w3 j = w j := fun j hj => by rw [ew3, up_n _ _ (by omega), up_n _ _ (by omega), up_n _ _ (by omega), up_n _ _ (by omega)]; exact ah j hj
        have rest : ∀ g : Int32, zv 2 186 236 [.ref 211, .int (byF h t (lS B t n))] [.int g, .ref 211] (zP h w3 T F b) = some (none, zP h (rqF w3 g 1) T F b) := fun g => by
          rw [b186_236 (p_g0 S) (p_g1 S), p_rq S]
          simp only [Option.bind_some, Option.toList_some, Option.toList_none, List.cons_append, List.nil_append]
          rw [b186_240, b186_274]
        rw [c_iy (Q.qF.mpr ⟨hlt, h2⟩)]
        simp only [Option.bind_some, Option.toList_some, Option.toList_none, List.cons_append, List.nil_append]
        rw [b186_127, if_neg (by decide), b186_130 (p_g0 S) (p_g1 S), zP_ww _ (by decide) (by decide), zP_ww _ (by decide) (by decide), qf, b186_217 (p_g0 S) (p_g1 S), zP_w (by decide) (by decide), zP_w (by decide) (by decide), b9, b10, nI_sub hxg]
        clear qf ew3
        by_cases q : lX B t n - lS B t n ≤ 2
        · rw [if_pos q] at k1
          rw [if_neg (fun z => by rw [show (2 : Int32) = nI 2 from rfl, nI_lt' (by omega) (by omega)] at z; omega), b186_231, rest]
          have er : rqF w3 1 1 = w3 := by unfold rqF; rw [if_neg (fun z => absurd z.1 (by decide))]
          rw [er]
          refine ⟨_, rfl, ⟨b9, b10, fun z => by omega, fun _ => ⟨b13, ?_⟩, fun _ => ?_⟩, bh⟩
          · rw [b11, k1]; rfl
          · rw [b12, show min (lX B t n - lS B t n) 2 = lX B t n - lS B t n by omega]
        · rw [if_neg q] at k1
          rw [if_pos (by rw [show (2 : Int32) = nI 2 from rfl, nI_lt' (by omega) (by omega)]; omega), b186_235, rest]
          have er : rqF w3 0 1 = up (up w3 13 1) 14 (w3 10) := by unfold rqF; rw [if_pos ⟨rfl, b13⟩]
          rw [er]
          refine ⟨_, rfl, ⟨?_, ?_, fun _ => ⟨?_, ?_⟩, fun z => absurd k1 z, fun z => by omega⟩, fun j hj => by rw [up_n _ _ (by omega), up_n _ _ (by omega)]; exact bh j hj⟩
          · rw [up_n _ _ (by decide), up_n _ _ (by decide), b9]
          · rw [up_n _ _ (by decide), up_n _ _ (by decide), b10]
          · rw [up_n _ _ (by decide), up_s]
          · rw [up_s, b10]
      | false =>
        obtain ⟨k1, k2⟩ := lK_oth hlt h1 h2
        have eb : byF h t (lS B t n) = B (lS B t n) := by rw [Q.by, if_pos hlt]
        rw [c_iz (fun z => by have := (Q.qF.mp z).2; rw [h2] at this; exact absurd this (by decide))]
        simp only [Option.bind_some, Option.toList_some, Option.toList_none, List.cons_append, List.nil_append]
        rw [b186_127, if_pos rfl, b186_243 (p_g0 S) (p_g1 S), zP_ww _ (by decide) (by decide)]
        obtain ⟨w3, ew3⟩ : ∃ w3, w3 = up w2 11 3 := ⟨_, rfl⟩
        rw [← ew3]
        have b9 : w3 9 = nI (lS B t n) := by rw [ew3, up_n _ _ (by decide), a9]
        have b10 : w3 10 = nI (lS B t n) := by rw [ew3, up_n _ _ (by decide), a10]
        have b11 : w3 11 = 3 := by rw [ew3, up_s]
        have b13 : w3 13 = 0 := by rw [ew3, up_n _ _ (by decide)]; exact a13
        have bh : ∀ j, 14 < j → w3 j = w j := fun j hj => by rw [ew3, up_n _ _ (by omega)]; exact ah j hj
        have rest : ∀ g : Int32, zv 2 186 260 [.ref 211, .int (byF h t (lS B t n))] [.int g, .ref 211] (zP h w3 T F b) = some (none, zP h (up (rqF w3 g 1) 9 (nI (lS B t n + 1))) T F b) := fun g => by
          have g9 : rqF w3 g 1 9 = nI (lS B t n) := by rw [rq_hi (by decide) (by decide), b9]
          rw [b186_260 (p_g0 S) (p_g1 S), p_rq S]
          simp only [Option.bind_some, Option.toList_some, Option.toList_none, List.cons_append, List.nil_append]
          rw [b186_264 (p_g0 S) (p_g1 S), zP_w (by decide) (by decide), zP_ww _ (by decide) (by decide), g9, nI_s, b186_274]
        clear ew3
        rw [eb] at rest ⊢
        by_cases q : B (lS B t n) = 59
        · rw [if_pos q] at k1
          rw [if_pos q, b186_255, rest]
          have er : rqF w3 1 1 = w3 := by unfold rqF; rw [if_neg (fun z => absurd z.1 (by decide))]
          rw [er]
          refine ⟨_, rfl, ⟨?_, ?_, fun z => by omega, fun _ => ⟨?_, ?_⟩, fun z => by omega⟩, fun j hj => by rw [up_n _ _ (by omega)]; exact bh j hj⟩
          · rw [up_s, k2]
          · rw [up_n _ _ (by decide), b10]
          · rw [up_n _ _ (by decide), b13]
          · rw [up_n _ _ (by decide), b11, k1]; rfl
        · rw [if_neg q] at k1
          rw [if_neg q, b186_259, rest]
          have er : rqF w3 0 1 = up (up w3 13 1) 14 (w3 10) := by unfold rqF; rw [if_pos ⟨rfl, b13⟩]
          rw [er]
          refine ⟨_, rfl, ⟨?_, ?_, fun _ => ⟨?_, ?_⟩, fun z => absurd k1 z, fun z => by omega⟩, fun j hj => by rw [up_n _ _ (by omega), up_n _ _ (by omega), up_n _ _ (by omega)]; exact bh j hj⟩
          · rw [up_s, k2]
          · rw [up_n _ _ (by decide), up_n _ _ (by decide), up_n _ _ (by decide), b10]
          · rw [up_n _ _ (by decide), up_n _ _ (by decide), up_s]
          · rw [up_n _ _ (by decide), up_s, b10]
end R34L
end
