/-! BOTH SIDES: calls that change the world -/
/-- a call of both on a world and a row that are alike: one answer, and they are alike behind it -/
def JW (h : zi_Hp) (s : Nat → Int32) (o : Option zi_Rt) (F : zi_Hp → Option zi_Rt) : Prop := ∃ v x' y' s', o = some (some (.int v), zC h 1 x' y') ∧ Gs x' y' s' ∧ ∀ (h1 : zi_Hp) (q : zQs), Sh h1 → ∃ q', F (zQ h1 q s) = some (some (.int v), zQ h1 q' s')
section R34E
variable {h : zi_Hp} {x x1 : Nat → Nat → Int32} {y y1 : Nat → Nat → Bool} {s s1 : Nat → Int32} {c n : Nat}
theorem JW.same (G : Gs (wx h 1) (wy h 1) s) {o : Option zi_Rt} {F : zi_Hp → Option zi_Rt} (v : Int32) (e : o = some (some (.int v), h)) (e2 : ∀ (h1 : zi_Hp) (q : zQs), Sh h1 → F (zQ h1 q s) = some (some (.int v), zQ h1 q s)) : JW h s o F := ⟨v, wx h 1, wy h 1, s, by rw [zC_wx]; exact e, G, fun h1 q S => ⟨q, e2 h1 q S⟩⟩
theorem Gs.k0 (G : Gs x y s) (hc : c < 3) : x (10 + 2 * c) 0 = s (315 + 24 * c) := by
  obtain ⟨N, R, M, B, L, m, H, r, K, C, f, I, T⟩ := G
  exact (T.2.1 c hc).1
theorem on_i (v : Int32) : decide (¬ v = 0 ∧ ¬ v = 5) = false ↔ v = 0 ∨ v = 5 := by
  rw [decide_eq_false_iff_not]
  constructor
  · intro w
    by_cases q : v = 0
    · exact Or.inl q
    · by_cases q5 : v = 5
      · exact Or.inr q5
      · exact absurd ⟨q, q5⟩ w
  · rintro (q | q) w
    · exact w.1 q
    · exact w.2 q
theorem j_begin (O : GO h) (G : Gs (wx h 1) (wy h 1) s) (x a k : Int32) {u u' : Value} : JW h s (zv 5 114 0 [.ref 0, .int x, .int a, .int k, u] [] h) (fun m => zv 5 206 0 [.ref 211, .int x, .int a, .int k, u'] [] m) := by
  obtain ⟨S, -⟩ := id O
  rcases in_or x 0 2 (by decide) (by decide) with ⟨c, -, hc, rfl, hx⟩ | hx
  · have hv : ¬ nI c < 0 ∧ nI c < 3 := (rg (b := 2) (by decide)).mpr hx
    have hc3 : c < 3 := by omega
    have gr : ∀ {h1 : zi_Hp} {q : zQs}, zv 5 206 0 [.ref 211, .int (nI c), .int a, .int k, u'] [] (zQ h1 q s) = zv 5 206 7 [.ref 211, .int (nI c), .int a, .int k, u'] [] (zQ h1 q s) := fun {h1 q} => by
      rw [b206_0, q_cly hx]
      simp only [Option.bind_some, Option.toList_some, Option.toList_none, List.cons_append, List.nil_append]
      rw [b206_4, if_neg (by decide)]
    rcases in_or a 0 2 (by decide) (by decide) with ⟨a', -, ha, rfl, hy⟩ | hy
    · have hy' := (rg (b := 2) (by decide)).mpr hy
      have ha0 : ¬ nI a' < 0 := hy'.1
      have ha2 : ¬ 2 < nI a' := Int32.not_lt.mpr hy.2
      have ga : ∀ {h1 : zi_Hp} {q : zQs}, zv 5 206 0 [.ref 211, .int (nI c), .int (nI a'), .int k, u'] [] (zQ h1 q s) = zv 5 206 19 [.ref 211, .int (nI c), .int (nI a'), .int k, u'] [] (zQ h1 q s) := fun {h1 q} => by
        rw [gr, b206_7, show (0 : Int64) = (nI 0).toInt64 from rfl, show (2 : Int64) = (nI 2).toInt64 from rfl, c_iy hy]
        simp only [Option.bind_some, Option.toList_some, Option.toList_none, List.cons_append, List.nil_append]
        rw [b206_16, if_neg (by decide)]
      rcases in_or k 0 99 (by decide) (by decide) with ⟨k', -, hk', rfl, hw⟩ | hw
      · have hk : ¬ nI k' < 0 ∧ nI k' < 100 := (rg (b := 99) (by decide)).mpr hw
        have hzc : ¬ (nI c < 0 ∨ 3 ≤ (nI c).toNatClampNeg) := zj_n hc3 (by decide)
        have k0 := G.k0 hc3
        obtain ⟨N, R, M, B, L, m, H, r, K, C, f, I, T⟩ := id G
        obtain ⟨x', e, G', er⟩ := Gs.start S V1 G hc3 (a := a') ha (k := k') hk'
        rw [zC_wx] at e
        have go : ∀ {st : Int32}, zv 5 114 53 [.ref 0, .int (nI c), .int (nI a'), .int (nI k'), .int st] [] h = some (some (.int st), zC h 1 x' (wy h 1)) := fun {st} => by
          simp +decide only [b114_53, b114_63, S.n, S.k, S.r, hp_n_wi, hp_k_wi, hp_r_wi, hp_n_wl, hp_k_wl, hp_r_wl, hp_n_wb, hp_k_wb, hp_r_wb, zq_rf, kx_0, kx_1, kx_2, kx_3, kx_4, kx_5, kx_6, kx_7, kx_8, kx_9, kx_10, kx_11, kx_12, kx_13, kx_14, kx_15, kx_16, kx_17, kx_33, kx_34, kx_50, kx_66, kx_67, kx_68, kx_69, kx_197, kx_198, kx_199, kx_200, kx_201, kx_202, kx_203, kx_204, kx_205, kx_206, kx_207, kx_208, kx_209, kx_210, rx_0_0, rx_0_1, rx_0_2, rx_0_3, rx_0_4, rx_0_5, rx_0_6, rx_0_7, rx_1_0, rx_1_1, rx_2_3, rx_2_4, rx_2_5, rx_2_6, rx_2_7, rx_2_8, rx_2_9, rx_10_0, rx_10_1, rx_10_2, rx_33_0, rx_33_1, rx_67_0, rx_68_0, rx_197_0, rx_199_5, rx_199_6, rx_199_7, rx_203_0, rx_203_1, rx_203_2, rx_206_0, rx_206_1, rx_206_2, rx_206_3, Option.bind_some, Option.toList_some, Option.toList_none, List.cons_append, List.nil_append, ↓reduceIte, e]
        have pre : zv 5 114 0 [.ref 0, .int (nI c), .int (nI a'), .int (nI k'), u] [] h = zv 5 114 25 [.ref 0, .int (nI c), .int (nI a'), .int (nI k'), u] [] h := by
          simp +decide only [b114_0, b114_4, b114_7, b114_11, b114_16, b114_20, S.n, S.k, S.r, hp_n_wi, hp_k_wi, hp_r_wi, hp_n_wl, hp_k_wl, hp_r_wl, hp_n_wb, hp_k_wb, hp_r_wb, zq_rf, kx_0, kx_1, kx_2, kx_3, kx_4, kx_5, kx_6, kx_7, kx_8, kx_9, kx_10, kx_11, kx_12, kx_13, kx_14, kx_15, kx_16, kx_17, kx_33, kx_34, kx_50, kx_66, kx_67, kx_68, kx_69, kx_197, kx_198, kx_199, kx_200, kx_201, kx_202, kx_203, kx_204, kx_205, kx_206, kx_207, kx_208, kx_209, kx_210, rx_0_0, rx_0_1, rx_0_2, rx_0_3, rx_0_4, rx_0_5, rx_0_6, rx_0_7, rx_1_0, rx_1_1, rx_2_3, rx_2_4, rx_2_5, rx_2_6, rx_2_7, rx_2_8, rx_2_9, rx_10_0, rx_10_1, rx_10_2, rx_33_0, rx_33_1, rx_67_0, rx_68_0, rx_197_0, rx_199_5, rx_199_6, rx_199_7, rx_203_0, rx_203_1, rx_203_2, rx_206_0, rx_206_1, rx_206_2, rx_206_3, Option.bind_some, Option.toList_some, Option.toList_none, List.cons_append, List.nil_append, ↓reduceIte, p_133, p_134, decide_eq_true hv, decide_eq_true hk, zi_bI_t, if_neg ha0, if_neg ha2]
        have es : zv 5 114 0 [.ref 0, .int (nI c), .int (nI a'), .int (nI k'), u] [] h = if s (315 + 24 * c) = 0 then some (some (.int (s (315 + 24 * c))), zC h 1 x' (wy h 1)) else if s (315 + 24 * c) = 5 then some (some (.int (s (315 + 24 * c))), zC h 1 x' (wy h 1)) else some (some (.int (-2)), h) := by
          rw [← k0]
          have : c = 0 ∨ c = 1 ∨ c = 2 := by omega
          rcases this with rfl | rfl | rfl
          · rw [pre]; simp +decide only [b114_25, b114_44, b114_50, S.n, S.k, S.r, hp_n_wi, hp_k_wi, hp_r_wi, hp_n_wl, hp_k_wl, hp_r_wl, hp_n_wb, hp_k_wb, hp_r_wb, zq_rf, kx_0, kx_1, kx_2, kx_3, kx_4, kx_5, kx_6, kx_7, kx_8, kx_9, kx_10, kx_11, kx_12, kx_13, kx_14, kx_15, kx_16, kx_17, kx_33, kx_34, kx_50, kx_66, kx_67, kx_68, kx_69, kx_197, kx_198, kx_199, kx_200, kx_201, kx_202, kx_203, kx_204, kx_205, kx_206, kx_207, kx_208, kx_209, kx_210, rx_0_0, rx_0_1, rx_0_2, rx_0_3, rx_0_4, rx_0_5, rx_0_6, rx_0_7, rx_1_0, rx_1_1, rx_2_3, rx_2_4, rx_2_5, rx_2_6, rx_2_7, rx_2_8, rx_2_9, rx_10_0, rx_10_1, rx_10_2, rx_33_0, rx_33_1, rx_67_0, rx_68_0, rx_197_0, rx_199_5, rx_199_6, rx_199_7, rx_203_0, rx_203_1, rx_203_2, rx_206_0, rx_206_1, rx_206_2, rx_206_3, Option.bind_some, Option.toList_some, Option.toList_none, List.cons_append, List.nil_append, ↓reduceIte, tc_0, hzc, go]; rfl
          · rw [pre]; simp +decide only [b114_25, b114_44, b114_50, S.n, S.k, S.r, hp_n_wi, hp_k_wi, hp_r_wi, hp_n_wl, hp_k_wl, hp_r_wl, hp_n_wb, hp_k_wb, hp_r_wb, zq_rf, kx_0, kx_1, kx_2, kx_3, kx_4, kx_5, kx_6, kx_7, kx_8, kx_9, kx_10, kx_11, kx_12, kx_13, kx_14, kx_15, kx_16, kx_17, kx_33, kx_34, kx_50, kx_66, kx_67, kx_68, kx_69, kx_197, kx_198, kx_199, kx_200, kx_201, kx_202, kx_203, kx_204, kx_205, kx_206, kx_207, kx_208, kx_209, kx_210, rx_0_0, rx_0_1, rx_0_2, rx_0_3, rx_0_4, rx_0_5, rx_0_6, rx_0_7, rx_1_0, rx_1_1, rx_2_3, rx_2_4, rx_2_5, rx_2_6, rx_2_7, rx_2_8, rx_2_9, rx_10_0, rx_10_1, rx_10_2, rx_33_0, rx_33_1, rx_67_0, rx_68_0, rx_197_0, rx_199_5, rx_199_6, rx_199_7, rx_203_0, rx_203_1, rx_203_2, rx_206_0, rx_206_1, rx_206_2, rx_206_3, Option.bind_some, Option.toList_some, Option.toList_none, List.cons_append, List.nil_append, ↓reduceIte, tc_1, hzc, go]; rfl
          · rw [pre]; simp +decide only [b114_25, b114_44, b114_50, S.n, S.k, S.r, hp_n_wi, hp_k_wi, hp_r_wi, hp_n_wl, hp_k_wl, hp_r_wl, hp_n_wb, hp_k_wb, hp_r_wb, zq_rf, kx_0, kx_1, kx_2, kx_3, kx_4, kx_5, kx_6, kx_7, kx_8, kx_9, kx_10, kx_11, kx_12, kx_13, kx_14, kx_15, kx_16, kx_17, kx_33, kx_34, kx_50, kx_66, kx_67, kx_68, kx_69, kx_197, kx_198, kx_199, kx_200, kx_201, kx_202, kx_203, kx_204, kx_205, kx_206, kx_207, kx_208, kx_209, kx_210, rx_0_0, rx_0_1, rx_0_2, rx_0_3, rx_0_4, rx_0_5, rx_0_6, rx_0_7, rx_1_0, rx_1_1, rx_2_3, rx_2_4, rx_2_5, rx_2_6, rx_2_7, rx_2_8, rx_2_9, rx_10_0, rx_10_1, rx_10_2, rx_33_0, rx_33_1, rx_67_0, rx_68_0, rx_197_0, rx_199_5, rx_199_6, rx_199_7, rx_203_0, rx_203_1, rx_203_2, rx_206_0, rx_206_1, rx_206_2, rx_206_3, Option.bind_some, Option.toList_some, Option.toList_none, List.cons_append, List.nil_append, ↓reduceIte, tc_2, hzc, go]; rfl
        have rs : ∀ (h1 : zi_Hp) (q : zQs), Sh h1 → zv 5 206 0 [.ref 211, .int (nI c), .int (nI a'), .int (nI k'), u'] [] (zQ h1 q s) = if zi_bI (onB s c) = 0 then some (some (.int (s (315 + 24 * c))), zQ h1 q (beF s c (nI a') (nI k'))) else some (some (.int (-2)), zQ h1 q s) := fun h1 q S => by
          rw [ga, b206_19, show (0 : Int64) = (nI 0).toInt64 from rfl, show (99 : Int64) = (nI 99).toInt64 from rfl, c_iy hw]
          simp only [Option.bind_some, Option.toList_some, Option.toList_none, List.cons_append, List.nil_append]
          rw [b206_28, if_neg (by decide), b206_33 (q_g0 S) (q_g1 S), q_oc0 S hc3]
          simp only [Option.bind_some, Option.toList_some, Option.toList_none, List.cons_append, List.nil_append]
          rw [b206_39, q_on I hc3]
          simp only [Option.bind_some, Option.toList_some, Option.toList_none, List.cons_append, List.nil_append]
          rw [b206_46, b206_49, b206_52 (q_g0 S) (q_g1 S), er S]
          simp only [Option.bind_some, Option.toList_some, Option.toList_none, List.cons_append, List.nil_append]
          rw [b206_59]
        have hon : onB s c = decide (¬ s (315 + 24 * c) = 0 ∧ ¬ s (315 + 24 * c) = 5) := rfl
        by_cases q : s (315 + 24 * c) = 0 ∨ s (315 + 24 * c) = 5
        · refine ⟨s (315 + 24 * c), x', wy h 1, _, ?_, G', fun h1 q' S1 => ⟨q', ?_⟩⟩
          · rw [es]
            rcases q with q | q
            · rw [if_pos q]
            · rw [if_neg (by rw [q]; decide), if_pos q]
          · show zv 5 206 0 _ _ _ = _
            rw [rs h1 q' S1, hon, (on_i _).mpr q, zi_bI_f, if_pos rfl]
        · refine JW.same G (-2) ?_ (fun h1 q' S1 => ?_)
          · rw [es, if_neg (fun w => q (Or.inl w)), if_neg (fun w => q (Or.inr w))]
          · show zv 5 206 0 _ _ _ = _
            rw [rs h1 q' S1, hon, decide_eq_true ⟨fun w => q (Or.inl w), fun w => q (Or.inr w)⟩, zi_bI_t, if_neg (by decide)]
      · have hk : ¬ (¬ k < 0 ∧ k < 100) := fun q => hw ((rg (b := 99) (by decide)).mp q)
        refine JW.same G (-1) ?_ (fun h1 q' S1 => ?_)
        · simp +decide only [b114_0, b114_4, b114_7, b114_11, b114_16, b114_20, b114_23, S.n, S.k, S.r, hp_n_wi, hp_k_wi, hp_r_wi, hp_n_wl, hp_k_wl, hp_r_wl, hp_n_wb, hp_k_wb, hp_r_wb, zq_rf, kx_0, kx_1, kx_2, kx_3, kx_4, kx_5, kx_6, kx_7, kx_8, kx_9, kx_10, kx_11, kx_12, kx_13, kx_14, kx_15, kx_16, kx_17, kx_33, kx_34, kx_50, kx_66, kx_67, kx_68, kx_69, kx_197, kx_198, kx_199, kx_200, kx_201, kx_202, kx_203, kx_204, kx_205, kx_206, kx_207, kx_208, kx_209, kx_210, rx_0_0, rx_0_1, rx_0_2, rx_0_3, rx_0_4, rx_0_5, rx_0_6, rx_0_7, rx_1_0, rx_1_1, rx_2_3, rx_2_4, rx_2_5, rx_2_6, rx_2_7, rx_2_8, rx_2_9, rx_10_0, rx_10_1, rx_10_2, rx_33_0, rx_33_1, rx_67_0, rx_68_0, rx_197_0, rx_199_5, rx_199_6, rx_199_7, rx_203_0, rx_203_1, rx_203_2, rx_206_0, rx_206_1, rx_206_2, rx_206_3, Option.bind_some, Option.toList_some, Option.toList_none, List.cons_append, List.nil_append, ↓reduceIte, p_133, p_134, decide_eq_true hv, decide_eq_false hk, zi_bI_t, zi_bI_f, if_neg ha0, if_neg ha2]
        · show zv 5 206 0 _ _ _ = _
          rw [ga, b206_19, show (0 : Int64) = (nI 0).toInt64 from rfl, show (99 : Int64) = (nI 99).toInt64 from rfl, c_iz hw]
          simp only [Option.bind_some, Option.toList_some, Option.toList_none, List.cons_append, List.nil_append]
          rw [b206_28, if_pos rfl, b206_31]
    · refine JW.same G (-1) ?_ (fun h1 q' S1 => ?_)
      · by_cases ha0 : a < 0
        · simp +decide only [b114_0, b114_4, b114_7, b114_23, S.n, S.k, S.r, hp_n_wi, hp_k_wi, hp_r_wi, hp_n_wl, hp_k_wl, hp_r_wl, hp_n_wb, hp_k_wb, hp_r_wb, zq_rf, kx_0, kx_1, kx_2, kx_3, kx_4, kx_5, kx_6, kx_7, kx_8, kx_9, kx_10, kx_11, kx_12, kx_13, kx_14, kx_15, kx_16, kx_17, kx_33, kx_34, kx_50, kx_66, kx_67, kx_68, kx_69, kx_197, kx_198, kx_199, kx_200, kx_201, kx_202, kx_203, kx_204, kx_205, kx_206, kx_207, kx_208, kx_209, kx_210, rx_0_0, rx_0_1, rx_0_2, rx_0_3, rx_0_4, rx_0_5, rx_0_6, rx_0_7, rx_1_0, rx_1_1, rx_2_3, rx_2_4, rx_2_5, rx_2_6, rx_2_7, rx_2_8, rx_2_9, rx_10_0, rx_10_1, rx_10_2, rx_33_0, rx_33_1, rx_67_0, rx_68_0, rx_197_0, rx_199_5, rx_199_6, rx_199_7, rx_203_0, rx_203_1, rx_203_2, rx_206_0, rx_206_1, rx_206_2, rx_206_3, Option.bind_some, Option.toList_some, Option.toList_none, List.cons_append, List.nil_append, ↓reduceIte, p_133, decide_eq_true hv, zi_bI_t, if_pos ha0]
        · have ha2 : 2 < a := Int32.not_le.mp (fun q => hy ⟨Int32.not_lt.mp ha0, q⟩)
          simp +decide only [b114_0, b114_4, b114_7, b114_11, b114_23, S.n, S.k, S.r, hp_n_wi, hp_k_wi, hp_r_wi, hp_n_wl, hp_k_wl, hp_r_wl, hp_n_wb, hp_k_wb, hp_r_wb, zq_rf, kx_0, kx_1, kx_2, kx_3, kx_4, kx_5, kx_6, kx_7, kx_8, kx_9, kx_10, kx_11, kx_12, kx_13, kx_14, kx_15, kx_16, kx_17, kx_33, kx_34, kx_50, kx_66, kx_67, kx_68, kx_69, kx_197, kx_198, kx_199, kx_200, kx_201, kx_202, kx_203, kx_204, kx_205, kx_206, kx_207, kx_208, kx_209, kx_210, rx_0_0, rx_0_1, rx_0_2, rx_0_3, rx_0_4, rx_0_5, rx_0_6, rx_0_7, rx_1_0, rx_1_1, rx_2_3, rx_2_4, rx_2_5, rx_2_6, rx_2_7, rx_2_8, rx_2_9, rx_10_0, rx_10_1, rx_10_2, rx_33_0, rx_33_1, rx_67_0, rx_68_0, rx_197_0, rx_199_5, rx_199_6, rx_199_7, rx_203_0, rx_203_1, rx_203_2, rx_206_0, rx_206_1, rx_206_2, rx_206_3, Option.bind_some, Option.toList_some, Option.toList_none, List.cons_append, List.nil_append, ↓reduceIte, p_133, decide_eq_true hv, zi_bI_t, if_neg ha0, if_pos ha2]
      · show zv 5 206 0 _ _ _ = _
        rw [gr, b206_7, show (0 : Int64) = (nI 0).toInt64 from rfl, show (2 : Int64) = (nI 2).toInt64 from rfl, c_iz hy]
        simp only [Option.bind_some, Option.toList_some, Option.toList_none, List.cons_append, List.nil_append]
        rw [b206_16, if_pos rfl, b206_31]
  · have hv : ¬ (¬ x < 0 ∧ x < 3) := fun q => hx ((rg (b := 2) (by decide)).mp q)
    refine JW.same G (-1) ?_ (fun h1 q' S1 => ?_)
    · simp +decide only [b114_0, b114_4, b114_23, S.n, S.k, S.r, hp_n_wi, hp_k_wi, hp_r_wi, hp_n_wl, hp_k_wl, hp_r_wl, hp_n_wb, hp_k_wb, hp_r_wb, zq_rf, kx_0, kx_1, kx_2, kx_3, kx_4, kx_5, kx_6, kx_7, kx_8, kx_9, kx_10, kx_11, kx_12, kx_13, kx_14, kx_15, kx_16, kx_17, kx_33, kx_34, kx_50, kx_66, kx_67, kx_68, kx_69, kx_197, kx_198, kx_199, kx_200, kx_201, kx_202, kx_203, kx_204, kx_205, kx_206, kx_207, kx_208, kx_209, kx_210, rx_0_0, rx_0_1, rx_0_2, rx_0_3, rx_0_4, rx_0_5, rx_0_6, rx_0_7, rx_1_0, rx_1_1, rx_2_3, rx_2_4, rx_2_5, rx_2_6, rx_2_7, rx_2_8, rx_2_9, rx_10_0, rx_10_1, rx_10_2, rx_33_0, rx_33_1, rx_67_0, rx_68_0, rx_197_0, rx_199_5, rx_199_6, rx_199_7, rx_203_0, rx_203_1, rx_203_2, rx_206_0, rx_206_1, rx_206_2, rx_206_3, Option.bind_some, Option.toList_some, Option.toList_none, List.cons_append, List.nil_append, ↓reduceIte, p_133, decide_eq_false hv, zi_bI_f]
    · show zv 5 206 0 _ _ _ = _
      rw [b206_0, q_cln hx]
      simp only [Option.bind_some, Option.toList_some, Option.toList_none, List.cons_append, List.nil_append]
      rw [b206_4, if_pos rfl, b206_31]
theorem j_stepc (O : GO h) (G : Gs (wx h 1) (wy h 1) s) (x : Int32) : JW h s (zv 6 115 0 [.ref 0, .int x] [] h) (fun m => zv 7 207 0 [.ref 211, .int x] [] m) := by
  obtain ⟨S, -⟩ := id O
  rcases in_or x 0 2 (by decide) (by decide) with ⟨c, -, hc, rfl, hx⟩ | hx
  · have hv : ¬ nI c < 0 ∧ nI c < 3 := (rg (b := 2) (by decide)).mpr hx
    obtain ⟨cd, x', y', s', e, G', er, -, -⟩ := j_step S V1 G (c := c) (by omega)
    rw [zC_wx] at e
    refine ⟨cd, x', y', s', by simp +decide only [b115_0, b115_4, b115_7, b115_15, b115_18, b115_19, S.n, S.k, S.r, hp_n_wi, hp_k_wi, hp_r_wi, hp_n_wl, hp_k_wl, hp_r_wl, hp_n_wb, hp_k_wb, hp_r_wb, zq_rf, kx_0, kx_1, kx_2, kx_3, kx_4, kx_5, kx_6, kx_7, kx_8, kx_9, kx_10, kx_11, kx_12, kx_13, kx_14, kx_15, kx_16, kx_17, kx_33, kx_34, kx_50, kx_66, kx_67, kx_68, kx_69, kx_197, kx_198, kx_199, kx_200, kx_201, kx_202, kx_203, kx_204, kx_205, kx_206, kx_207, kx_208, kx_209, kx_210, rx_0_0, rx_0_1, rx_0_2, rx_0_3, rx_0_4, rx_0_5, rx_0_6, rx_0_7, rx_1_0, rx_1_1, rx_2_3, rx_2_4, rx_2_5, rx_2_6, rx_2_7, rx_2_8, rx_2_9, rx_10_0, rx_10_1, rx_10_2, rx_33_0, rx_33_1, rx_67_0, rx_68_0, rx_197_0, rx_199_5, rx_199_6, rx_199_7, rx_203_0, rx_203_1, rx_203_2, rx_206_0, rx_206_1, rx_206_2, rx_206_3, Option.bind_some, Option.toList_some, Option.toList_none, List.cons_append, List.nil_append, ↓reduceIte, p_133, decide_eq_true hv, zi_bI_t, e], G', fun h1 q S1 => ?_⟩
    obtain ⟨q', f1⟩ := er (q := q) S1
    refine ⟨q', ?_⟩
    show zv 7 207 0 _ _ _ = _
    rw [b207_0, q_cly hx]
    simp only [Option.bind_some, Option.toList_some, Option.toList_none, List.cons_append, List.nil_append]
    rw [b207_4, if_neg (by decide), b207_7 (q_g0 S1) (q_g1 S1), f1]
    simp only [Option.bind_some, Option.toList_some, Option.toList_none, List.cons_append, List.nil_append]
    rw [b207_12, b207_16]
  · have hv : ¬ (¬ x < 0 ∧ x < 3) := fun q => hx ((rg (b := 2) (by decide)).mp q)
    refine JW.same G (-1) ?_ (fun h1 q' S1 => ?_)
    · simp +decide only [b115_0, b115_4, b115_7, b115_15, b115_18, b115_19, S.n, S.k, S.r, hp_n_wi, hp_k_wi, hp_r_wi, hp_n_wl, hp_k_wl, hp_r_wl, hp_n_wb, hp_k_wb, hp_r_wb, zq_rf, kx_0, kx_1, kx_2, kx_3, kx_4, kx_5, kx_6, kx_7, kx_8, kx_9, kx_10, kx_11, kx_12, kx_13, kx_14, kx_15, kx_16, kx_17, kx_33, kx_34, kx_50, kx_66, kx_67, kx_68, kx_69, kx_197, kx_198, kx_199, kx_200, kx_201, kx_202, kx_203, kx_204, kx_205, kx_206, kx_207, kx_208, kx_209, kx_210, rx_0_0, rx_0_1, rx_0_2, rx_0_3, rx_0_4, rx_0_5, rx_0_6, rx_0_7, rx_1_0, rx_1_1, rx_2_3, rx_2_4, rx_2_5, rx_2_6, rx_2_7, rx_2_8, rx_2_9, rx_10_0, rx_10_1, rx_10_2, rx_33_0, rx_33_1, rx_67_0, rx_68_0, rx_197_0, rx_199_5, rx_199_6, rx_199_7, rx_203_0, rx_203_1, rx_203_2, rx_206_0, rx_206_1, rx_206_2, rx_206_3, Option.bind_some, Option.toList_some, Option.toList_none, List.cons_append, List.nil_append, ↓reduceIte, p_133, decide_eq_false hv, zi_bI_f]
    · show zv 7 207 0 _ _ _ = _
      rw [b207_0, q_cln hx]
      simp only [Option.bind_some, Option.toList_some, Option.toList_none, List.cons_append, List.nil_append]
      rw [b207_4, if_pos rfl, b207_15, b207_16]
theorem j_go (O : GO h) (G : Gs (wx h 1) (wy h 1) s) (x w : Int32) : JW h s (zv 7 116 0 [.ref 0, .int x, .int w] [] h) (fun m => zv 8 208 0 [.ref 211, .int x, .int w] [] m) := by
  obtain ⟨S, -⟩ := id O
  rcases in_or x 0 2 (by decide) (by decide) with ⟨c, -, hc, rfl, hx⟩ | hx
  · have hv : ¬ nI c < 0 ∧ nI c < 3 := (rg (b := 2) (by decide)).mpr hx
    have gr : ∀ {h1 : zi_Hp} {q : zQs}, zv 8 208 0 [.ref 211, .int (nI c), .int w] [] (zQ h1 q s) = zv 8 208 7 [.ref 211, .int (nI c), .int w] [] (zQ h1 q s) := fun {h1 q} => by
      rw [b208_0, q_cly hx]
      simp only [Option.bind_some, Option.toList_some, Option.toList_none, List.cons_append, List.nil_append]
      rw [b208_4, if_neg (by decide)]
    rcases in_or w 0 60 (by decide) (by decide) with ⟨n, -, hn, rfl, hy⟩ | hy
    · have hw0 : ¬ nI n < 0 := Int32.not_lt.mpr hy.1
      have hw1 : ¬ 60 < nI n := Int32.not_lt.mpr hy.2
      obtain ⟨v, x', y', s', e, G', er⟩ := j_goL S V1 (c := c) (by omega) (n := n) (by omega) n 0 (Nat.zero_add _) G
      rw [zC_wx] at e
      have e' : zv 6 79 0 [.ref 1, .int (nI c), .int (nI n), .double 0] [] h = some (some (.int v), zC h 1 x' y') := by
        rw [b79_0]; exact e
      refine ⟨v, x', y', s', by simp +decide only [b116_0, b116_4, b116_7, b116_11, b116_17, b116_19, b116_28, S.n, S.k, S.r, hp_n_wi, hp_k_wi, hp_r_wi, hp_n_wl, hp_k_wl, hp_r_wl, hp_n_wb, hp_k_wb, hp_r_wb, zq_rf, kx_0, kx_1, kx_2, kx_3, kx_4, kx_5, kx_6, kx_7, kx_8, kx_9, kx_10, kx_11, kx_12, kx_13, kx_14, kx_15, kx_16, kx_17, kx_33, kx_34, kx_50, kx_66, kx_67, kx_68, kx_69, kx_197, kx_198, kx_199, kx_200, kx_201, kx_202, kx_203, kx_204, kx_205, kx_206, kx_207, kx_208, kx_209, kx_210, rx_0_0, rx_0_1, rx_0_2, rx_0_3, rx_0_4, rx_0_5, rx_0_6, rx_0_7, rx_1_0, rx_1_1, rx_2_3, rx_2_4, rx_2_5, rx_2_6, rx_2_7, rx_2_8, rx_2_9, rx_10_0, rx_10_1, rx_10_2, rx_33_0, rx_33_1, rx_67_0, rx_68_0, rx_197_0, rx_199_5, rx_199_6, rx_199_7, rx_203_0, rx_203_1, rx_203_2, rx_206_0, rx_206_1, rx_206_2, rx_206_3, Option.bind_some, Option.toList_some, Option.toList_none, List.cons_append, List.nil_append, ↓reduceIte, p_133, decide_eq_true hv, zi_bI_t, if_neg hw0, if_neg hw1, e'], G', fun h1 q S1 => ?_⟩
      obtain ⟨q', f1⟩ := er (q := q) S1
      refine ⟨q', ?_⟩
      show zv 8 208 0 _ _ _ = _
      rw [gr, b208_7, show (0 : Int64) = (nI 0).toInt64 from rfl, show (60 : Int64) = (nI 60).toInt64 from rfl, c_iy hy]
      simp only [Option.bind_some, Option.toList_some, Option.toList_none, List.cons_append, List.nil_append]
      rw [b208_16, if_neg (by decide), b208_19 (q_g0 S1) (q_g1 S1), b178_0, show (0 : Int32) = nI 0 from rfl, f1]
      simp only [Option.bind_some, Option.toList_some, Option.toList_none, List.cons_append, List.nil_append]
      rw [b208_25, b208_29]
    · refine JW.same G (-1) ?_ (fun h1 q' S1 => ?_)
      · simp +decide only [b116_0, b116_4, b116_7, b116_11, b116_17, S.n, S.k, S.r, hp_n_wi, hp_k_wi, hp_r_wi, hp_n_wl, hp_k_wl, hp_r_wl, hp_n_wb, hp_k_wb, hp_r_wb, zq_rf, kx_0, kx_1, kx_2, kx_3, kx_4, kx_5, kx_6, kx_7, kx_8, kx_9, kx_10, kx_11, kx_12, kx_13, kx_14, kx_15, kx_16, kx_17, kx_33, kx_34, kx_50, kx_66, kx_67, kx_68, kx_69, kx_197, kx_198, kx_199, kx_200, kx_201, kx_202, kx_203, kx_204, kx_205, kx_206, kx_207, kx_208, kx_209, kx_210, rx_0_0, rx_0_1, rx_0_2, rx_0_3, rx_0_4, rx_0_5, rx_0_6, rx_0_7, rx_1_0, rx_1_1, rx_2_3, rx_2_4, rx_2_5, rx_2_6, rx_2_7, rx_2_8, rx_2_9, rx_10_0, rx_10_1, rx_10_2, rx_33_0, rx_33_1, rx_67_0, rx_68_0, rx_197_0, rx_199_5, rx_199_6, rx_199_7, rx_203_0, rx_203_1, rx_203_2, rx_206_0, rx_206_1, rx_206_2, rx_206_3, Option.bind_some, Option.toList_some, Option.toList_none, List.cons_append, List.nil_append, ↓reduceIte, p_133, decide_eq_true hv, zi_bI_t]
        by_cases q0 : w < 0
        · simp only [if_pos q0]
        · have q1 : 60 < w := Int32.not_le.mp (fun q => hy ⟨Int32.not_lt.mp q0, q⟩)
          simp only [if_neg q0, if_pos q1]
      · show zv 8 208 0 _ _ _ = _
        rw [gr, b208_7, show (0 : Int64) = (nI 0).toInt64 from rfl, show (60 : Int64) = (nI 60).toInt64 from rfl, c_iz hy]
        simp only [Option.bind_some, Option.toList_some, Option.toList_none, List.cons_append, List.nil_append]
        rw [b208_16, if_pos rfl, b208_28, b208_29]
  · have hv : ¬ (¬ x < 0 ∧ x < 3) := fun q => hx ((rg (b := 2) (by decide)).mp q)
    refine JW.same G (-1) ?_ (fun h1 q' S1 => ?_)
    · simp +decide only [b116_0, b116_4, b116_17, S.n, S.k, S.r, hp_n_wi, hp_k_wi, hp_r_wi, hp_n_wl, hp_k_wl, hp_r_wl, hp_n_wb, hp_k_wb, hp_r_wb, zq_rf, kx_0, kx_1, kx_2, kx_3, kx_4, kx_5, kx_6, kx_7, kx_8, kx_9, kx_10, kx_11, kx_12, kx_13, kx_14, kx_15, kx_16, kx_17, kx_33, kx_34, kx_50, kx_66, kx_67, kx_68, kx_69, kx_197, kx_198, kx_199, kx_200, kx_201, kx_202, kx_203, kx_204, kx_205, kx_206, kx_207, kx_208, kx_209, kx_210, rx_0_0, rx_0_1, rx_0_2, rx_0_3, rx_0_4, rx_0_5, rx_0_6, rx_0_7, rx_1_0, rx_1_1, rx_2_3, rx_2_4, rx_2_5, rx_2_6, rx_2_7, rx_2_8, rx_2_9, rx_10_0, rx_10_1, rx_10_2, rx_33_0, rx_33_1, rx_67_0, rx_68_0, rx_197_0, rx_199_5, rx_199_6, rx_199_7, rx_203_0, rx_203_1, rx_203_2, rx_206_0, rx_206_1, rx_206_2, rx_206_3, Option.bind_some, Option.toList_some, Option.toList_none, List.cons_append, List.nil_append, ↓reduceIte, p_133, decide_eq_false hv, zi_bI_f]
    · show zv 8 208 0 _ _ _ = _
      rw [b208_0, q_cln hx]
      simp only [Option.bind_some, Option.toList_some, Option.toList_none, List.cons_append, List.nil_append]
      rw [b208_4, if_pos rfl, b208_28, b208_29]
theorem j_drop (O : GO h) (G : Gs (wx h 1) (wy h 1) s) (x : Int32) {u : Value} : JW h s (zv 2 117 0 [.ref 0, .int x, u] [] h) (fun m => zv 3 209 0 [.ref 211, .int x] [] m) := by
  obtain ⟨S, -⟩ := id O
  rcases in_or x 0 2 (by decide) (by decide) with ⟨c, -, hc, rfl, hx⟩ | hx
  · have hv : ¬ nI c < 0 ∧ nI c < 3 := (rg (b := 2) (by decide)).mpr hx
    have hc3 : c < 3 := by omega
    have hzc : ¬ (nI c < 0 ∨ 3 ≤ (nI c).toNatClampNeg) := zj_n hc3 (by decide)
    have rs : ∀ (h1 : zi_Hp) (q : zQs), Sh h1 → zv 3 209 0 [.ref 211, .int (nI c)] [] (zQ h1 q s) = if s (315 + 24 * c) = 5 then some (some (.int (s (315 + 24 * c + 4))), zQ h1 q (up s (315 + 24 * c) 0)) else some (some (.int (-2)), zQ h1 q s) := fun h1 q S => by
      rw [b209_0, q_cly hx]
      simp only [Option.bind_some, Option.toList_some, Option.toList_none, List.cons_append, List.nil_append]
      rw [b209_4, if_neg (by decide), b209_9 (q_g0 S) (q_g1 S), q_oc0 S hc3]
      simp only [Option.bind_some, Option.toList_some, Option.toList_none, List.cons_append, List.nil_append]
      rw [b209_15, b209_19, b209_22 (q_g0 S) (q_g1 S), q_cb0 S hc3]
      simp only [Option.bind_some, Option.toList_some, Option.toList_none, List.cons_append, List.nil_append]
      rw [b209_29 (q_g0 S) (q_g1 S), q_oc4 S hc3]
      simp only [Option.bind_some, Option.toList_some, Option.toList_none, List.cons_append, List.nil_append]
      rw [b209_35, uc_0c _ _ (by decide)]
    obtain ⟨N, R, M, B, L, m, H, r, K, C, f, I, T⟩ := id G
    obtain ⟨k0, k1, -, -⟩ := T.2.1 c hc3
    by_cases q5 : s (315 + 24 * c) = 5
    · have k4 : wx h 1 (10 + 2 * c) 4 = s (315 + 24 * c + 4) := k1 (by rw [q5]; decide) 4 (by decide) (by decide)
      have e := zC_wi (h := h) (W := 1) (x := wx h 1) (y := wy h 1) (o := 10 + 2 * c) (by omega) 0 0
      rw [zC_wx] at e
      refine ⟨s (315 + 24 * c + 4), u2 (wx h 1) (10 + 2 * c) 0 0, wy h 1, up s (315 + 24 * c) 0, ?_, G.idle hc3, fun h1 q' S1 => ⟨q', ?_⟩⟩
      · rw [← e, ← k4]
        rw [← k0] at q5
        have : c = 0 ∨ c = 1 ∨ c = 2 := by omega
        rcases this with rfl | rfl | rfl
        · have q5' : zh_i h 11 0 = 5 := q5
          simp +decide only [b117_0, b117_4, b117_7, b117_9, b117_27, b117_30, b117_36, S.n, S.k, S.r, hp_n_wi, hp_k_wi, hp_r_wi, hp_n_wl, hp_k_wl, hp_r_wl, hp_n_wb, hp_k_wb, hp_r_wb, zq_rf, kx_0, kx_1, kx_2, kx_3, kx_4, kx_5, kx_6, kx_7, kx_8, kx_9, kx_10, kx_11, kx_12, kx_13, kx_14, kx_15, kx_16, kx_17, kx_33, kx_34, kx_50, kx_66, kx_67, kx_68, kx_69, kx_197, kx_198, kx_199, kx_200, kx_201, kx_202, kx_203, kx_204, kx_205, kx_206, kx_207, kx_208, kx_209, kx_210, rx_0_0, rx_0_1, rx_0_2, rx_0_3, rx_0_4, rx_0_5, rx_0_6, rx_0_7, rx_1_0, rx_1_1, rx_2_3, rx_2_4, rx_2_5, rx_2_6, rx_2_7, rx_2_8, rx_2_9, rx_10_0, rx_10_1, rx_10_2, rx_33_0, rx_33_1, rx_67_0, rx_68_0, rx_197_0, rx_199_5, rx_199_6, rx_199_7, rx_203_0, rx_203_1, rx_203_2, rx_206_0, rx_206_1, rx_206_2, rx_206_3, Option.bind_some, Option.toList_some, Option.toList_none, List.cons_append, List.nil_append, ↓reduceIte, p_133, decide_eq_true hv, zi_bI_t, tc_0, hzc, if_pos q5', hp_i_wi]; rfl
        · have q5' : zh_i h 13 0 = 5 := q5
          simp +decide only [b117_0, b117_4, b117_7, b117_9, b117_27, b117_30, b117_36, S.n, S.k, S.r, hp_n_wi, hp_k_wi, hp_r_wi, hp_n_wl, hp_k_wl, hp_r_wl, hp_n_wb, hp_k_wb, hp_r_wb, zq_rf, kx_0, kx_1, kx_2, kx_3, kx_4, kx_5, kx_6, kx_7, kx_8, kx_9, kx_10, kx_11, kx_12, kx_13, kx_14, kx_15, kx_16, kx_17, kx_33, kx_34, kx_50, kx_66, kx_67, kx_68, kx_69, kx_197, kx_198, kx_199, kx_200, kx_201, kx_202, kx_203, kx_204, kx_205, kx_206, kx_207, kx_208, kx_209, kx_210, rx_0_0, rx_0_1, rx_0_2, rx_0_3, rx_0_4, rx_0_5, rx_0_6, rx_0_7, rx_1_0, rx_1_1, rx_2_3, rx_2_4, rx_2_5, rx_2_6, rx_2_7, rx_2_8, rx_2_9, rx_10_0, rx_10_1, rx_10_2, rx_33_0, rx_33_1, rx_67_0, rx_68_0, rx_197_0, rx_199_5, rx_199_6, rx_199_7, rx_203_0, rx_203_1, rx_203_2, rx_206_0, rx_206_1, rx_206_2, rx_206_3, Option.bind_some, Option.toList_some, Option.toList_none, List.cons_append, List.nil_append, ↓reduceIte, p_133, decide_eq_true hv, zi_bI_t, tc_1, hzc, if_pos q5', hp_i_wi]; rfl
        · have q5' : zh_i h 15 0 = 5 := q5
          simp +decide only [b117_0, b117_4, b117_7, b117_9, b117_27, b117_30, b117_36, S.n, S.k, S.r, hp_n_wi, hp_k_wi, hp_r_wi, hp_n_wl, hp_k_wl, hp_r_wl, hp_n_wb, hp_k_wb, hp_r_wb, zq_rf, kx_0, kx_1, kx_2, kx_3, kx_4, kx_5, kx_6, kx_7, kx_8, kx_9, kx_10, kx_11, kx_12, kx_13, kx_14, kx_15, kx_16, kx_17, kx_33, kx_34, kx_50, kx_66, kx_67, kx_68, kx_69, kx_197, kx_198, kx_199, kx_200, kx_201, kx_202, kx_203, kx_204, kx_205, kx_206, kx_207, kx_208, kx_209, kx_210, rx_0_0, rx_0_1, rx_0_2, rx_0_3, rx_0_4, rx_0_5, rx_0_6, rx_0_7, rx_1_0, rx_1_1, rx_2_3, rx_2_4, rx_2_5, rx_2_6, rx_2_7, rx_2_8, rx_2_9, rx_10_0, rx_10_1, rx_10_2, rx_33_0, rx_33_1, rx_67_0, rx_68_0, rx_197_0, rx_199_5, rx_199_6, rx_199_7, rx_203_0, rx_203_1, rx_203_2, rx_206_0, rx_206_1, rx_206_2, rx_206_3, Option.bind_some, Option.toList_some, Option.toList_none, List.cons_append, List.nil_append, ↓reduceIte, p_133, decide_eq_true hv, zi_bI_t, tc_2, hzc, if_pos q5', hp_i_wi]; rfl
      · show zv 3 209 0 _ _ _ = _
        rw [rs h1 q' S1, if_pos q5]
    · refine JW.same G (-2) ?_ (fun h1 q' S1 => ?_)
      · rw [← k0] at q5
        have : c = 0 ∨ c = 1 ∨ c = 2 := by omega
        rcases this with rfl | rfl | rfl
        · have q5' : ¬ zh_i h 11 0 = 5 := q5
          simp +decide only [b117_0, b117_4, b117_7, b117_9, b117_27, b117_30, b117_36, S.n, S.k, S.r, hp_n_wi, hp_k_wi, hp_r_wi, hp_n_wl, hp_k_wl, hp_r_wl, hp_n_wb, hp_k_wb, hp_r_wb, zq_rf, kx_0, kx_1, kx_2, kx_3, kx_4, kx_5, kx_6, kx_7, kx_8, kx_9, kx_10, kx_11, kx_12, kx_13, kx_14, kx_15, kx_16, kx_17, kx_33, kx_34, kx_50, kx_66, kx_67, kx_68, kx_69, kx_197, kx_198, kx_199, kx_200, kx_201, kx_202, kx_203, kx_204, kx_205, kx_206, kx_207, kx_208, kx_209, kx_210, rx_0_0, rx_0_1, rx_0_2, rx_0_3, rx_0_4, rx_0_5, rx_0_6, rx_0_7, rx_1_0, rx_1_1, rx_2_3, rx_2_4, rx_2_5, rx_2_6, rx_2_7, rx_2_8, rx_2_9, rx_10_0, rx_10_1, rx_10_2, rx_33_0, rx_33_1, rx_67_0, rx_68_0, rx_197_0, rx_199_5, rx_199_6, rx_199_7, rx_203_0, rx_203_1, rx_203_2, rx_206_0, rx_206_1, rx_206_2, rx_206_3, Option.bind_some, Option.toList_some, Option.toList_none, List.cons_append, List.nil_append, ↓reduceIte, p_133, decide_eq_true hv, zi_bI_t, tc_0, hzc, if_neg q5']
        · have q5' : ¬ zh_i h 13 0 = 5 := q5
          simp +decide only [b117_0, b117_4, b117_7, b117_9, b117_27, b117_30, b117_36, S.n, S.k, S.r, hp_n_wi, hp_k_wi, hp_r_wi, hp_n_wl, hp_k_wl, hp_r_wl, hp_n_wb, hp_k_wb, hp_r_wb, zq_rf, kx_0, kx_1, kx_2, kx_3, kx_4, kx_5, kx_6, kx_7, kx_8, kx_9, kx_10, kx_11, kx_12, kx_13, kx_14, kx_15, kx_16, kx_17, kx_33, kx_34, kx_50, kx_66, kx_67, kx_68, kx_69, kx_197, kx_198, kx_199, kx_200, kx_201, kx_202, kx_203, kx_204, kx_205, kx_206, kx_207, kx_208, kx_209, kx_210, rx_0_0, rx_0_1, rx_0_2, rx_0_3, rx_0_4, rx_0_5, rx_0_6, rx_0_7, rx_1_0, rx_1_1, rx_2_3, rx_2_4, rx_2_5, rx_2_6, rx_2_7, rx_2_8, rx_2_9, rx_10_0, rx_10_1, rx_10_2, rx_33_0, rx_33_1, rx_67_0, rx_68_0, rx_197_0, rx_199_5, rx_199_6, rx_199_7, rx_203_0, rx_203_1, rx_203_2, rx_206_0, rx_206_1, rx_206_2, rx_206_3, Option.bind_some, Option.toList_some, Option.toList_none, List.cons_append, List.nil_append, ↓reduceIte, p_133, decide_eq_true hv, zi_bI_t, tc_1, hzc, if_neg q5']
        · have q5' : ¬ zh_i h 15 0 = 5 := q5
          simp +decide only [b117_0, b117_4, b117_7, b117_9, b117_27, b117_30, b117_36, S.n, S.k, S.r, hp_n_wi, hp_k_wi, hp_r_wi, hp_n_wl, hp_k_wl, hp_r_wl, hp_n_wb, hp_k_wb, hp_r_wb, zq_rf, kx_0, kx_1, kx_2, kx_3, kx_4, kx_5, kx_6, kx_7, kx_8, kx_9, kx_10, kx_11, kx_12, kx_13, kx_14, kx_15, kx_16, kx_17, kx_33, kx_34, kx_50, kx_66, kx_67, kx_68, kx_69, kx_197, kx_198, kx_199, kx_200, kx_201, kx_202, kx_203, kx_204, kx_205, kx_206, kx_207, kx_208, kx_209, kx_210, rx_0_0, rx_0_1, rx_0_2, rx_0_3, rx_0_4, rx_0_5, rx_0_6, rx_0_7, rx_1_0, rx_1_1, rx_2_3, rx_2_4, rx_2_5, rx_2_6, rx_2_7, rx_2_8, rx_2_9, rx_10_0, rx_10_1, rx_10_2, rx_33_0, rx_33_1, rx_67_0, rx_68_0, rx_197_0, rx_199_5, rx_199_6, rx_199_7, rx_203_0, rx_203_1, rx_203_2, rx_206_0, rx_206_1, rx_206_2, rx_206_3, Option.bind_some, Option.toList_some, Option.toList_none, List.cons_append, List.nil_append, ↓reduceIte, p_133, decide_eq_true hv, zi_bI_t, tc_2, hzc, if_neg q5']
      · show zv 3 209 0 _ _ _ = _
        rw [rs h1 q' S1, if_neg q5]
  · have hv : ¬ (¬ x < 0 ∧ x < 3) := fun q => hx ((rg (b := 2) (by decide)).mp q)
    refine JW.same G (-1) ?_ (fun h1 q' S1 => ?_)
    · simp +decide only [b117_0, b117_4, b117_7, b117_9, b117_27, b117_30, b117_36, S.n, S.k, S.r, hp_n_wi, hp_k_wi, hp_r_wi, hp_n_wl, hp_k_wl, hp_r_wl, hp_n_wb, hp_k_wb, hp_r_wb, zq_rf, kx_0, kx_1, kx_2, kx_3, kx_4, kx_5, kx_6, kx_7, kx_8, kx_9, kx_10, kx_11, kx_12, kx_13, kx_14, kx_15, kx_16, kx_17, kx_33, kx_34, kx_50, kx_66, kx_67, kx_68, kx_69, kx_197, kx_198, kx_199, kx_200, kx_201, kx_202, kx_203, kx_204, kx_205, kx_206, kx_207, kx_208, kx_209, kx_210, rx_0_0, rx_0_1, rx_0_2, rx_0_3, rx_0_4, rx_0_5, rx_0_6, rx_0_7, rx_1_0, rx_1_1, rx_2_3, rx_2_4, rx_2_5, rx_2_6, rx_2_7, rx_2_8, rx_2_9, rx_10_0, rx_10_1, rx_10_2, rx_33_0, rx_33_1, rx_67_0, rx_68_0, rx_197_0, rx_199_5, rx_199_6, rx_199_7, rx_203_0, rx_203_1, rx_203_2, rx_206_0, rx_206_1, rx_206_2, rx_206_3, Option.bind_some, Option.toList_some, Option.toList_none, List.cons_append, List.nil_append, ↓reduceIte, p_133, decide_eq_false hv, zi_bI_f]
    · show zv 3 209 0 _ _ _ = _
      rw [b209_0, q_cln hx]
      simp only [Option.bind_some, Option.toList_some, Option.toList_none, List.cons_append, List.nil_append]
      rw [b209_4, if_pos rfl, b209_7]
theorem mx_at {g : Nat → Int32} : ∀ d n a, itF (fun n a => if a < g n then g n else a) d n a = a ∨ ∃ k, n ≤ k ∧ k < n + d ∧ itF (fun n a => if a < g n then g n else a) d n a = g k
  | 0, n, a => Or.inl rfl
  | d + 1, n, a => by
    have e : itF (fun n a => if a < g n then g n else a) (d + 1) n a = itF (fun n a => if a < g n then g n else a) d (n + 1) (if a < g n then g n else a) := rfl
    rw [e]
    rcases mx_at (g := g) d (n + 1) (if a < g n then g n else a) with w | ⟨k, k1, k2, w⟩
    · rw [w]
      by_cases q : a < g n
      · rw [if_pos q]; exact Or.inr ⟨n, Nat.le_refl _, by omega, rfl⟩
      · rw [if_neg q]; exact Or.inl rfl
    · exact Or.inr ⟨k, by omega, by omega, w⟩
theorem Gs.room (G : Gs x y s) {v : Nat} (h2 : 2 ≤ v) (h4 : v ≤ 4) (hv : ∀ N, x 1 0 = nI N → N ≤ 24 → ∀ n, n < N → ¬ nI v < x 3 n) : Gs (u2 x 1 2 (nI v)) y (up s 314 (nI v)) := by
  obtain ⟨N, R, M, B, L, m, H, r, K, C, f, I, T⟩ := G
  obtain ⟨eN, h1, hN, hM, hR⟩ := T.tr I
  have hm : ∀ n, n < N → m n ≤ v := fun n hn => by
    have q := hv N eN hN n hn
    rw [(hM n hn).1, nI_lt' (by omega) (by have := (hM n hn).2; omega)] at q
    omega
  have J := I.room h2 h4 hm
  have un : ∀ k, k ≠ 314 → up s 314 (nI v) k = s k := fun k hk => up_n _ _ hk
  refine ⟨_, _, _, _, _, _, _, _, _, _, _, J, ⟨⟨by rw [u2_n _ _ (by decide), un _ (by decide)]; exact T.1.1.1, by rw [u2_n _ _ (by decide), un _ (by decide)]; exact T.1.1.2.1, by rw [u2_s, up_s]⟩, fun n hn => ?_⟩, fun c hc => ?_, fun c hc ho => ?_⟩
  · obtain ⟨⟨p2, p3, p4, p5, p6⟩, pk⟩ := T.1.2 n hn
    refine ⟨⟨by rw [u2_n _ _ (by omega), un _ (by omega)]; exact p2, by rw [u2_n _ _ (by omega), un _ (by omega)]; exact p3, by rw [u2_n _ _ (by omega), un _ (by omega)]; exact p4, by rw [u2_n _ _ (by omega), un _ (by omega)]; exact p5, by rw [un _ (by omega)]; exact p6⟩, fun i hi => ?_⟩
    have := (hM n hn).2
    rw [u2_n _ _ (by omega), u2_n _ _ (by omega), un _ (by omega), un _ (by omega), un _ (by omega)]
    exact pk i hi
  · obtain ⟨k0, k1, k2, k3⟩ := T.2.1 c hc
    unfold KR
    rw [u2_n _ _ (by omega), u2_n _ _ (by omega), u2_n _ _ (by omega), u2_n _ _ (by omega), un _ (by omega), un _ (by omega), un _ (by omega), un _ (by omega), un _ (by omega)]
    exact ⟨k0, fun h1 w w1 w7 => by rw [u2_n _ _ (by omega), un _ (by omega)]; exact k1 h1 w w1 w7, k2, fun h1 h2 l hl => by rw [u2_n _ _ (by omega), un _ (by omega)]; exact k3 h1 h2 l hl⟩
  · have ez : thA (up s 314 (nI v)) (up s 314 (nI v) (315 + 24 * c + 2)) = thA s (s (315 + 24 * c + 2)) := by
      rw [un _ (by omega), Bool.eq_iff_iff, thA_iff I, thA_iff J]
      constructor
      · rintro ⟨n, hn, q1, q2, i, hi, q3⟩
        have := (hM n hn).2
        rw [un _ (by omega)] at q1 q2 q3
        exact ⟨n, hn, q1, q2, i, hi, q3⟩
      · rintro ⟨n, hn, q1, q2, i, hi, q3⟩
        have := (hM n hn).2
        exact ⟨n, hn, by rw [un _ (by omega)]; exact q1, by rw [un _ (by omega)]; exact q2, i, hi, by rw [un _ (by omega)]; exact q3⟩
    rw [ez, un _ (by omega)]
    refine T.2.2 c hc ?_
    unfold onB at ho ⊢
    rw [un _ (by omega)] at ho
    exact ho
theorem j_room (O : GO h) (G : Gs (wx h 1) (wy h 1) s) (x : Int32) {u u' : Value} : JW h s (zv 2 118 0 [.ref 0, .int x, u] [] h) (fun m => zv 2 210 0 [.ref 211, .int x, u'] [] m) := by
  obtain ⟨S, -⟩ := id O
  obtain ⟨N, R, M, B, L, m, H, r, K, C, f, I, T⟩ := id G
  obtain ⟨eN, h1, hN, hM, hR⟩ := T.tr I
  obtain ⟨⟨a1, a2, a3⟩, ⟨b1, b2⟩, ⟨d1, d2, d3⟩, GG, -⟩ := id I.1
  obtain ⟨w, ew⟩ : ∃ w, w = itF (fun n a => if a < wx h 1 3 n then wx h 1 3 n else a) N 0 0 := ⟨_, rfl⟩
  have e62 : zv 1 62 0 [.ref 2, .double 0, .double 0] [] h = some (some (.int w), h) := by
    have e := t_wi S V1 (x := wx h 1) (y := wy h 1) eN hN (u1 := .double 0) (u2 := .double 0)
    rw [zC_wx, ← ew] at e; exact e
  rcases in_or x 2 4 (by decide) (by decide) with ⟨v, hv2, hv4, rfl, hx⟩ | hx
  · have q2 : ¬ nI v < 2 := Int32.not_lt.mpr hx.1
    have q4 : ¬ 4 < nI v := Int32.not_lt.mpr hx.2
    have gr : ∀ {h1 : zi_Hp} {q : zQs}, zv 2 210 0 [.ref 211, .int (nI v), u'] [] (zQ h1 q s) = zv 2 210 18 [.ref 211, .int (nI v), .int 0] [] (zQ h1 q s) := fun {h1 q} => by
      rw [b210_0, show (2 : Int64) = (nI 2).toInt64 from rfl, show (4 : Int64) = (nI 4).toInt64 from rfl, c_iy hx]
      simp only [Option.bind_some, Option.toList_some, Option.toList_none, List.cons_append, List.nil_append]
      rw [b210_11, if_neg (by decide), b210_16]
    have lp : ∀ d n, n + d = N → (∀ i, i < n → m i ≤ v) → ∀ {h1 : zi_Hp} {q : zQs}, Sh h1 → zv 2 210 18 [.ref 211, .int (nI v), .int (nI n)] [] (zQ h1 q s) = if (∀ i, i < N → m i ≤ v) then some (some (.int (s 314)), zQ h1 q (up s 314 (nI v))) else some (some (.int (-2)), zQ h1 q s) := by
      intro d
      induction d with
      | zero =>
        intro n hn hm h1 q S
        have e : n = N := by omega
        subst e
        rw [b210_18 (q_g0 S) (q_g1 S) (by rw [q_r0 S, zq_rf]) (by rw [q_r0 S, zq_rf, zQ_n, S.n]; decide) (by rw [q_r0 S, zq_rf, zQ_k, S.k, kx_212]; decide) (by rw [q_r0 S, zq_rf, zQ_k, S.k, kx_212]), q_r0 S, zq_rf, zQ_212, a1, if_neg Int32.lt_irrefl, b210_49 (q_g0 S) (q_g1 S) (by rw [q_r0 S, zq_rf]) (by rw [q_r0 S, zq_rf, zQ_n, S.n]; decide) (by rw [q_r0 S, zq_rf, zQ_k, S.k, kx_212]; decide) (by rw [q_r0 S, zq_rf, zQ_k, S.k, kx_212]), q_r0 S, zq_rf, zQ_w, zQ_212, if_pos hm]
      | succ d ih =>
        intro n hn hm h1 q S
        have e3 : nI n < nI N := nI_lt (by omega) (by omega)
        have g2 := (GG n (by omega)).1.2.1
        have g10 := (GG n (by omega)).2.2.2.2.2.2.2.1
        rw [b210_18 (q_g0 S) (q_g1 S) (by rw [q_r0 S, zq_rf]) (by rw [q_r0 S, zq_rf, zQ_n, S.n]; decide) (by rw [q_r0 S, zq_rf, zQ_k, S.k, kx_212]; decide) (by rw [q_r0 S, zq_rf, zQ_k, S.k, kx_212]), q_r0 S, zq_rf, zQ_212, a1, if_pos e3, b210_30 (q_g0 S) (q_g1 S), q_of1 S (by omega), g2]
        simp only [Option.bind_some, Option.toList_some, Option.toList_none, List.cons_append, List.nil_append]
        rw [b210_36]
        by_cases hvm : v < m n
        · rw [if_pos (nI_lt hvm (by omega)), b210_40, if_neg (fun z => by have := z n (by omega); omega)]
        · rw [if_neg (nI_nlt (by omega) (by omega)), b210_43, nI_s]
          refine ih (n + 1) (by omega) (fun i hi => ?_) S
          by_cases e : i = n
          · subst e; omega
          · exact hm i (by omega)
    have rs : ∀ (h1 : zi_Hp) (q : zQs), Sh h1 → zv 2 210 0 [.ref 211, .int (nI v), u'] [] (zQ h1 q s) = if (∀ i, i < N → m i ≤ v) then some (some (.int (s 314)), zQ h1 q (up s 314 (nI v))) else some (some (.int (-2)), zQ h1 q s) := fun h1 q S => by
      rw [gr]
      exact lp N 0 (Nat.zero_add _) (fun i hi => absurd hi (Nat.not_lt_zero i)) S
    by_cases hw : nI v < w
    · refine JW.same G (-2) (by simp +decide only [b118_0, b118_5, b118_10, b118_12, b118_22, b118_26, b118_29, S.n, S.k, S.r, hp_n_wi, hp_k_wi, hp_r_wi, hp_n_wl, hp_k_wl, hp_r_wl, hp_n_wb, hp_k_wb, hp_r_wb, zq_rf, kx_0, kx_1, kx_2, kx_3, kx_4, kx_5, kx_6, kx_7, kx_8, kx_9, kx_10, kx_11, kx_12, kx_13, kx_14, kx_15, kx_16, kx_17, kx_33, kx_34, kx_50, kx_66, kx_67, kx_68, kx_69, kx_197, kx_198, kx_199, kx_200, kx_201, kx_202, kx_203, kx_204, kx_205, kx_206, kx_207, kx_208, kx_209, kx_210, rx_0_0, rx_0_1, rx_0_2, rx_0_3, rx_0_4, rx_0_5, rx_0_6, rx_0_7, rx_1_0, rx_1_1, rx_2_3, rx_2_4, rx_2_5, rx_2_6, rx_2_7, rx_2_8, rx_2_9, rx_10_0, rx_10_1, rx_10_2, rx_33_0, rx_33_1, rx_67_0, rx_68_0, rx_197_0, rx_199_5, rx_199_6, rx_199_7, rx_203_0, rx_203_1, rx_203_2, rx_206_0, rx_206_1, rx_206_2, rx_206_3, Option.bind_some, Option.toList_some, Option.toList_none, List.cons_append, List.nil_append, ↓reduceIte, if_neg q2, if_neg q4, e62, if_pos hw]) (fun h1 q' S1 => ?_)
      show zv 2 210 0 _ _ _ = _
      rw [rs h1 q' S1, if_neg (fun z => ?_)]
      rcases mx_at (g := fun n => wx h 1 3 n) N 0 0 with w0 | ⟨k, -, k2, w0⟩
      · rw [ew, w0] at hw
        exact absurd hw (nI_pos (by omega))
      · rw [ew, w0, (hM k (by omega)).1, nI_lt' (by omega) (by have := (hM k (by omega)).2; omega)] at hw
        have := z k (by omega)
        omega
    · have hle : ∀ n, n < N → ¬ nI v < wx h 1 3 n := fun n hn => by
        have q := (mx_ge (g := fun n => wx h 1 3 n) N 0 0).2 n (by omega) (by omega)
        rw [ew] at hw
        intro z
        have z1 := Int32.le_trans (Int32.not_lt.mp q) (Int32.not_lt.mp hw)
        exact absurd z (Int32.not_lt.mpr z1)
      have hle' : ∀ i, i < N → m i ≤ v := fun i hi => by
        have q := hle i hi
        rw [(hM i hi).1, nI_lt' (by omega) (by have := (hM i hi).2; omega)] at q
        omega
      have e := zC_wi (h := h) (W := 1) (x := wx h 1) (y := wy h 1) (o := 1) (by omega) 2 (nI v)
      rw [zC_wx] at e
      refine ⟨s 314, u2 (wx h 1) 1 2 (nI v), wy h 1, up s 314 (nI v), ?_, G.room hv2 hv4 (fun N' eN' hN' n hn => ?_), fun h1 q' S1 => ⟨q', ?_⟩⟩
      · rw [← e, ← T.1.1.2.2]
        simp +decide only [b118_0, b118_5, b118_10, b118_12, b118_22, b118_26, b118_29, S.n, S.k, S.r, hp_n_wi, hp_k_wi, hp_r_wi, hp_n_wl, hp_k_wl, hp_r_wl, hp_n_wb, hp_k_wb, hp_r_wb, zq_rf, kx_0, kx_1, kx_2, kx_3, kx_4, kx_5, kx_6, kx_7, kx_8, kx_9, kx_10, kx_11, kx_12, kx_13, kx_14, kx_15, kx_16, kx_17, kx_33, kx_34, kx_50, kx_66, kx_67, kx_68, kx_69, kx_197, kx_198, kx_199, kx_200, kx_201, kx_202, kx_203, kx_204, kx_205, kx_206, kx_207, kx_208, kx_209, kx_210, rx_0_0, rx_0_1, rx_0_2, rx_0_3, rx_0_4, rx_0_5, rx_0_6, rx_0_7, rx_1_0, rx_1_1, rx_2_3, rx_2_4, rx_2_5, rx_2_6, rx_2_7, rx_2_8, rx_2_9, rx_10_0, rx_10_1, rx_10_2, rx_33_0, rx_33_1, rx_67_0, rx_68_0, rx_197_0, rx_199_5, rx_199_6, rx_199_7, rx_203_0, rx_203_1, rx_203_2, rx_206_0, rx_206_1, rx_206_2, rx_206_3, Option.bind_some, Option.toList_some, Option.toList_none, List.cons_append, List.nil_append, ↓reduceIte, if_neg q2, if_neg q4, e62, if_neg hw]; rfl
      · have : N' = N := by rw [eN] at eN'; exact ((nI_eq' (by omega) (by omega)).mp eN').symm
        subst this
        exact hle n hn
      · show zv 2 210 0 _ _ _ = _
        rw [rs h1 q' S1, if_pos hle']
  · refine JW.same G (-1) ?_ (fun h1 q' S1 => ?_)
    · by_cases q2 : x < 2
      · simp +decide only [b118_0, b118_5, b118_10, b118_12, b118_22, b118_26, b118_29, S.n, S.k, S.r, hp_n_wi, hp_k_wi, hp_r_wi, hp_n_wl, hp_k_wl, hp_r_wl, hp_n_wb, hp_k_wb, hp_r_wb, zq_rf, kx_0, kx_1, kx_2, kx_3, kx_4, kx_5, kx_6, kx_7, kx_8, kx_9, kx_10, kx_11, kx_12, kx_13, kx_14, kx_15, kx_16, kx_17, kx_33, kx_34, kx_50, kx_66, kx_67, kx_68, kx_69, kx_197, kx_198, kx_199, kx_200, kx_201, kx_202, kx_203, kx_204, kx_205, kx_206, kx_207, kx_208, kx_209, kx_210, rx_0_0, rx_0_1, rx_0_2, rx_0_3, rx_0_4, rx_0_5, rx_0_6, rx_0_7, rx_1_0, rx_1_1, rx_2_3, rx_2_4, rx_2_5, rx_2_6, rx_2_7, rx_2_8, rx_2_9, rx_10_0, rx_10_1, rx_10_2, rx_33_0, rx_33_1, rx_67_0, rx_68_0, rx_197_0, rx_199_5, rx_199_6, rx_199_7, rx_203_0, rx_203_1, rx_203_2, rx_206_0, rx_206_1, rx_206_2, rx_206_3, Option.bind_some, Option.toList_some, Option.toList_none, List.cons_append, List.nil_append, ↓reduceIte, if_pos q2]
      · have q4 : 4 < x := Int32.not_le.mp (fun q => hx ⟨Int32.not_lt.mp q2, q⟩)
        simp +decide only [b118_0, b118_5, b118_10, b118_12, b118_22, b118_26, b118_29, S.n, S.k, S.r, hp_n_wi, hp_k_wi, hp_r_wi, hp_n_wl, hp_k_wl, hp_r_wl, hp_n_wb, hp_k_wb, hp_r_wb, zq_rf, kx_0, kx_1, kx_2, kx_3, kx_4, kx_5, kx_6, kx_7, kx_8, kx_9, kx_10, kx_11, kx_12, kx_13, kx_14, kx_15, kx_16, kx_17, kx_33, kx_34, kx_50, kx_66, kx_67, kx_68, kx_69, kx_197, kx_198, kx_199, kx_200, kx_201, kx_202, kx_203, kx_204, kx_205, kx_206, kx_207, kx_208, kx_209, kx_210, rx_0_0, rx_0_1, rx_0_2, rx_0_3, rx_0_4, rx_0_5, rx_0_6, rx_0_7, rx_1_0, rx_1_1, rx_2_3, rx_2_4, rx_2_5, rx_2_6, rx_2_7, rx_2_8, rx_2_9, rx_10_0, rx_10_1, rx_10_2, rx_33_0, rx_33_1, rx_67_0, rx_68_0, rx_197_0, rx_199_5, rx_199_6, rx_199_7, rx_203_0, rx_203_1, rx_203_2, rx_206_0, rx_206_1, rx_206_2, rx_206_3, Option.bind_some, Option.toList_some, Option.toList_none, List.cons_append, List.nil_append, ↓reduceIte, if_neg q2, if_pos q4]
    · show zv 2 210 0 _ _ _ = _
      rw [b210_0, show (2 : Int64) = (nI 2).toInt64 from rfl, show (4 : Int64) = (nI 4).toInt64 from rfl, c_iz hx]
      simp only [Option.bind_some, Option.toList_some, Option.toList_none, List.cons_append, List.nil_append]
      rw [b210_11, if_pos rfl, b210_14]
end R34E
