/-! THE CLASS: tape and sheets -/
section R33D
variable {h : zi_Hp}
theorem c_feed (O : GO h) {t : Nat} (ht : t ≤ 160) (et : zh_i h 197 1 = nI t) (x : Int32) : ∃ v h', zv 2 105 0 [.ref 0, .int x] [] h = some (some (.int v), h') ∧ GO h' ∧ Fy h h' ∧ FD x (zh_i h 197 1) v (zh_i h' 197 1) := by
  obtain ⟨S, -⟩ := id O
  by_cases h0 : x < 0
  · exact ⟨-1, h, by simp +decide only [b105_0, b105_4, b105_10, b105_12, b105_20, b105_23, b105_33, b105_35, S.n, S.k, S.r, hp_n_wi, hp_k_wi, hp_r_wi, hp_n_wl, hp_k_wl, hp_r_wl, hp_n_wb, hp_k_wb, hp_r_wb, zq_rf, kx_0, kx_1, kx_2, kx_3, kx_4, kx_5, kx_6, kx_7, kx_8, kx_9, kx_10, kx_11, kx_12, kx_13, kx_14, kx_15, kx_16, kx_17, kx_33, kx_34, kx_50, kx_66, kx_67, kx_68, kx_69, kx_197, kx_198, kx_199, kx_200, kx_201, kx_202, kx_203, kx_204, kx_205, kx_206, kx_207, kx_208, kx_209, kx_210, rx_0_0, rx_0_1, rx_0_2, rx_0_3, rx_0_4, rx_0_5, rx_0_6, rx_0_7, rx_1_0, rx_1_1, rx_2_3, rx_2_4, rx_2_5, rx_2_6, rx_2_7, rx_2_8, rx_2_9, rx_10_0, rx_10_1, rx_10_2, rx_33_0, rx_33_1, rx_67_0, rx_68_0, rx_197_0, rx_199_5, rx_199_6, rx_199_7, rx_203_0, rx_203_1, rx_203_2, rx_206_0, rx_206_1, rx_206_2, rx_206_3, Option.bind_some, Option.toList_some, Option.toList_none, List.cons_append, List.nil_append, ↓reduceIte, if_pos h0], O, Fy.refl h, Or.inr (Or.inr ⟨fun q => absurd h0 (Int32.not_lt.mpr q.1), rfl, rfl⟩)⟩
  · by_cases h1 : 127 < x
    · exact ⟨-1, h, by simp +decide only [b105_0, b105_4, b105_10, b105_12, b105_20, b105_23, b105_33, b105_35, S.n, S.k, S.r, hp_n_wi, hp_k_wi, hp_r_wi, hp_n_wl, hp_k_wl, hp_r_wl, hp_n_wb, hp_k_wb, hp_r_wb, zq_rf, kx_0, kx_1, kx_2, kx_3, kx_4, kx_5, kx_6, kx_7, kx_8, kx_9, kx_10, kx_11, kx_12, kx_13, kx_14, kx_15, kx_16, kx_17, kx_33, kx_34, kx_50, kx_66, kx_67, kx_68, kx_69, kx_197, kx_198, kx_199, kx_200, kx_201, kx_202, kx_203, kx_204, kx_205, kx_206, kx_207, kx_208, kx_209, kx_210, rx_0_0, rx_0_1, rx_0_2, rx_0_3, rx_0_4, rx_0_5, rx_0_6, rx_0_7, rx_1_0, rx_1_1, rx_2_3, rx_2_4, rx_2_5, rx_2_6, rx_2_7, rx_2_8, rx_2_9, rx_10_0, rx_10_1, rx_10_2, rx_33_0, rx_33_1, rx_67_0, rx_68_0, rx_197_0, rx_199_5, rx_199_6, rx_199_7, rx_203_0, rx_203_1, rx_203_2, rx_206_0, rx_206_1, rx_206_2, rx_206_3, Option.bind_some, Option.toList_some, Option.toList_none, List.cons_append, List.nil_append, ↓reduceIte, if_neg h0, if_pos h1], O, Fy.refl h, Or.inr (Or.inr ⟨fun q => absurd h1 (Int32.not_lt.mpr q.2), rfl, rfl⟩)⟩
    · have hx : (0 : Int32) ≤ x ∧ x ≤ 127 := ⟨Int32.not_lt.mp h0, Int32.not_lt.mp h1⟩
      have p0 : ¬ nI t < 0 := nI_pos (by omega)
      by_cases h160 : t = 160
      · have p1 : ¬ nI t < 160 := by rw [h160]; decide
        exact ⟨-3, h, by simp +decide only [b105_0, b105_4, b105_10, b105_12, b105_20, b105_23, b105_33, b105_35, b28_0, b28_7, b28_17, b28_19, b28_31, S.n, S.k, S.r, hp_n_wi, hp_k_wi, hp_r_wi, hp_n_wl, hp_k_wl, hp_r_wl, hp_n_wb, hp_k_wb, hp_r_wb, zq_rf, kx_0, kx_1, kx_2, kx_3, kx_4, kx_5, kx_6, kx_7, kx_8, kx_9, kx_10, kx_11, kx_12, kx_13, kx_14, kx_15, kx_16, kx_17, kx_33, kx_34, kx_50, kx_66, kx_67, kx_68, kx_69, kx_197, kx_198, kx_199, kx_200, kx_201, kx_202, kx_203, kx_204, kx_205, kx_206, kx_207, kx_208, kx_209, kx_210, rx_0_0, rx_0_1, rx_0_2, rx_0_3, rx_0_4, rx_0_5, rx_0_6, rx_0_7, rx_1_0, rx_1_1, rx_2_3, rx_2_4, rx_2_5, rx_2_6, rx_2_7, rx_2_8, rx_2_9, rx_10_0, rx_10_1, rx_10_2, rx_33_0, rx_33_1, rx_67_0, rx_68_0, rx_197_0, rx_199_5, rx_199_6, rx_199_7, rx_203_0, rx_203_1, rx_203_2, rx_206_0, rx_206_1, rx_206_2, rx_206_3, Option.bind_some, Option.toList_some, Option.toList_none, List.cons_append, List.nil_append, ↓reduceIte, if_neg h0, if_neg h1, et, if_neg p0, if_neg p1], O, Fy.refl h, Or.inl ⟨hx, by rw [et, h160]; rfl, rfl, rfl⟩⟩
      · have p1 : nI t < 160 := nI_lt (b := 160) (by omega) (by decide)
        have hz : ¬ (nI t < 0 ∨ 160 ≤ t) := by
          have q := zj_n (n := t) (N := 160) (by omega) (by decide)
          rw [nI_clamp (by omega)] at q; exact q
        have nc : (nI t).toNatClampNeg = t := nI_clamp (by omega)
        have i1 : zh_i (zh_wi h 198 t x) 197 1 = nI t := by rw [hp_i_wi, if_neg (by omega)]; exact et
        have i2 : zh_i (zh_wi (zh_wi h 198 t x) 197 1 (nI (t + 1))) 197 1 = nI (t + 1) := by rw [hp_i_wi, if_pos ⟨rfl, rfl⟩]
        have O1 : GO (zh_wi (zh_wi h 198 t x) 197 1 (nI (t + 1))) := (O.wi (wo_p (by decide))).wi (wo_p (by decide))
        refine ⟨nI (t + 1), zh_wi (zh_wi h 198 t x) 197 1 (nI (t + 1)), ?_, O1, (Fy.wi (by decide)).trans (Fy.wi (by decide)), Or.inr (Or.inl ⟨hx, fun q => h160 ?_, ?_, ?_⟩)⟩
        · simp +decide only [b105_0, b105_4, b105_10, b105_12, b105_20, b105_23, b105_33, b105_35, b28_0, b28_7, b28_17, b28_19, b28_31, S.n, S.k, S.r, hp_n_wi, hp_k_wi, hp_r_wi, hp_n_wl, hp_k_wl, hp_r_wl, hp_n_wb, hp_k_wb, hp_r_wb, zq_rf, kx_0, kx_1, kx_2, kx_3, kx_4, kx_5, kx_6, kx_7, kx_8, kx_9, kx_10, kx_11, kx_12, kx_13, kx_14, kx_15, kx_16, kx_17, kx_33, kx_34, kx_50, kx_66, kx_67, kx_68, kx_69, kx_197, kx_198, kx_199, kx_200, kx_201, kx_202, kx_203, kx_204, kx_205, kx_206, kx_207, kx_208, kx_209, kx_210, rx_0_0, rx_0_1, rx_0_2, rx_0_3, rx_0_4, rx_0_5, rx_0_6, rx_0_7, rx_1_0, rx_1_1, rx_2_3, rx_2_4, rx_2_5, rx_2_6, rx_2_7, rx_2_8, rx_2_9, rx_10_0, rx_10_1, rx_10_2, rx_33_0, rx_33_1, rx_67_0, rx_68_0, rx_197_0, rx_199_5, rx_199_6, rx_199_7, rx_203_0, rx_203_1, rx_203_2, rx_206_0, rx_206_1, rx_206_2, rx_206_3, Option.bind_some, Option.toList_some, Option.toList_none, List.cons_append, List.nil_append, ↓reduceIte, if_neg h0, if_neg h1, et, if_neg p0, if_pos p1, nc, hz, i1, nI_s, i2]
        · rw [et] at q
          exact (nI_eq (a := t) (b := 160) (by omega) (by decide)).mp q
        · rw [et, nI_s]
        · rw [i2, et, nI_s]
theorem c_end (O : GO h) (x : Int32) {u : Value} : ∃ v h', zv 1 106 0 [.ref 0, .int x, u] [] h = some (some (.int v), h') ∧ GO h' ∧ Fy h h' ∧ ED x (zh_i h 197 1) v (zh_i h' 197 1) := by
  obtain ⟨S, -⟩ := id O
  by_cases h0 : x < 0
  · exact ⟨-1, h, by simp +decide only [b106_0, b106_4, b106_15, b106_17, S.n, S.k, S.r, hp_n_wi, hp_k_wi, hp_r_wi, hp_n_wl, hp_k_wl, hp_r_wl, hp_n_wb, hp_k_wb, hp_r_wb, zq_rf, kx_0, kx_1, kx_2, kx_3, kx_4, kx_5, kx_6, kx_7, kx_8, kx_9, kx_10, kx_11, kx_12, kx_13, kx_14, kx_15, kx_16, kx_17, kx_33, kx_34, kx_50, kx_66, kx_67, kx_68, kx_69, kx_197, kx_198, kx_199, kx_200, kx_201, kx_202, kx_203, kx_204, kx_205, kx_206, kx_207, kx_208, kx_209, kx_210, rx_0_0, rx_0_1, rx_0_2, rx_0_3, rx_0_4, rx_0_5, rx_0_6, rx_0_7, rx_1_0, rx_1_1, rx_2_3, rx_2_4, rx_2_5, rx_2_6, rx_2_7, rx_2_8, rx_2_9, rx_10_0, rx_10_1, rx_10_2, rx_33_0, rx_33_1, rx_67_0, rx_68_0, rx_197_0, rx_199_5, rx_199_6, rx_199_7, rx_203_0, rx_203_1, rx_203_2, rx_206_0, rx_206_1, rx_206_2, rx_206_3, Option.bind_some, Option.toList_some, Option.toList_none, List.cons_append, List.nil_append, ↓reduceIte, if_pos h0], O, Fy.refl h, Or.inr ⟨fun q => absurd h0 (Int32.not_lt.mpr q.1), rfl, rfl⟩⟩
  · by_cases h1 : zh_i h 197 1 < x
    · exact ⟨-1, h, by simp +decide only [b106_0, b106_4, b106_15, b106_17, S.n, S.k, S.r, hp_n_wi, hp_k_wi, hp_r_wi, hp_n_wl, hp_k_wl, hp_r_wl, hp_n_wb, hp_k_wb, hp_r_wb, zq_rf, kx_0, kx_1, kx_2, kx_3, kx_4, kx_5, kx_6, kx_7, kx_8, kx_9, kx_10, kx_11, kx_12, kx_13, kx_14, kx_15, kx_16, kx_17, kx_33, kx_34, kx_50, kx_66, kx_67, kx_68, kx_69, kx_197, kx_198, kx_199, kx_200, kx_201, kx_202, kx_203, kx_204, kx_205, kx_206, kx_207, kx_208, kx_209, kx_210, rx_0_0, rx_0_1, rx_0_2, rx_0_3, rx_0_4, rx_0_5, rx_0_6, rx_0_7, rx_1_0, rx_1_1, rx_2_3, rx_2_4, rx_2_5, rx_2_6, rx_2_7, rx_2_8, rx_2_9, rx_10_0, rx_10_1, rx_10_2, rx_33_0, rx_33_1, rx_67_0, rx_68_0, rx_197_0, rx_199_5, rx_199_6, rx_199_7, rx_203_0, rx_203_1, rx_203_2, rx_206_0, rx_206_1, rx_206_2, rx_206_3, Option.bind_some, Option.toList_some, Option.toList_none, List.cons_append, List.nil_append, ↓reduceIte, if_neg h0, if_pos h1], O, Fy.refl h, Or.inr ⟨fun q => absurd h1 (Int32.not_lt.mpr q.2), rfl, rfl⟩⟩
    · exact ⟨zh_i h 197 1, zh_wi h 197 1 x, by simp +decide only [b106_0, b106_4, b106_15, b106_17, S.n, S.k, S.r, hp_n_wi, hp_k_wi, hp_r_wi, hp_n_wl, hp_k_wl, hp_r_wl, hp_n_wb, hp_k_wb, hp_r_wb, zq_rf, kx_0, kx_1, kx_2, kx_3, kx_4, kx_5, kx_6, kx_7, kx_8, kx_9, kx_10, kx_11, kx_12, kx_13, kx_14, kx_15, kx_16, kx_17, kx_33, kx_34, kx_50, kx_66, kx_67, kx_68, kx_69, kx_197, kx_198, kx_199, kx_200, kx_201, kx_202, kx_203, kx_204, kx_205, kx_206, kx_207, kx_208, kx_209, kx_210, rx_0_0, rx_0_1, rx_0_2, rx_0_3, rx_0_4, rx_0_5, rx_0_6, rx_0_7, rx_1_0, rx_1_1, rx_2_3, rx_2_4, rx_2_5, rx_2_6, rx_2_7, rx_2_8, rx_2_9, rx_10_0, rx_10_1, rx_10_2, rx_33_0, rx_33_1, rx_67_0, rx_68_0, rx_197_0, rx_199_5, rx_199_6, rx_199_7, rx_203_0, rx_203_1, rx_203_2, rx_206_0, rx_206_1, rx_206_2, rx_206_3, Option.bind_some, Option.toList_some, Option.toList_none, List.cons_append, List.nil_append, ↓reduceIte, if_neg h0, if_neg h1], O.wi (wo_p (by decide)), Fy.wi (by decide), Or.inl ⟨⟨Int32.not_lt.mp h0, Int32.not_lt.mp h1⟩, rfl, by rw [hp_i_wi, if_pos ⟨rfl, rfl⟩]⟩⟩
/-- an array is filled -/
theorem fill_g {a n : Nat} {v : Int32} (ha : 197 ≤ a ∧ a < 211 ∧ a ≠ 197 ∧ a ≠ 204 ∧ a ≠ 205) (hn : n < 1000) : ∀ d k, k + d = n → ∀ {h : zi_Hp}, GO h → zh_k h a = (100, n) → a < zh_n h → ∃ h', zv 1 241 5 [.ref a, .int v, .int (nI k), .int (nI n)] [] h = some (none, h') ∧ GO h' ∧ Fc h h' ∧ (∀ c j, c ≠ a → zh_i h' c j = zh_i h c j) ∧ (∀ j, j < k → zh_i h' a j = zh_i h a j) ∧ (∀ j, k ≤ j → j < n → zh_i h' a j = v)
  | 0, k, hk, h, O, ek, el => by
    have e : k = n := by omega
    subst e
    exact ⟨h, by rw [b241_5, if_neg Int32.lt_irrefl, b241_20], O, Fc.refl h, fun _ _ _ => rfl, fun _ _ => rfl, fun j h1 h2 => absurd h2 (by omega)⟩
  | d + 1, k, hk, h, O, ek, el => by
    have O1 : GO (zh_wi h a k v) := O.wi (wo_p ha.1)
    obtain ⟨h', e', O', F', g', z', w'⟩ := fill_g (v := v) ha hn d (k + 1) (by omega) O1 (by rw [hp_k_wi]; exact ek) (by rw [hp_n_wi]; exact el)
    refine ⟨h', ?_, O', (Fc.wi ha.2.1).trans F', fun c j hc => by rw [g' c j hc, hp_i_wi, if_neg (fun q => hc q.1)], fun j hj => by rw [z' j (by omega), hp_i_wi, if_neg (by omega)], fun j h1 h2 => ?_⟩
    · rw [b241_5, if_pos (nI_lt (by omega) (by omega)), b241_10 el (by rw [ek]; exact zj_n (by omega) (by omega)) (by rw [ek]), nI_s, nI_clamp (by omega), e']
    · by_cases ej : j = k
      · subst ej; rw [z' j (by omega), hp_i_wi, if_pos ⟨rfl, rfl⟩]
      · exact w' j (by omega) h2
theorem rg {x : Int32} {b : Nat} (hb : b < 1000) : (¬ x < 0 ∧ x < nI (b + 1)) ↔ (nI 0 ≤ x ∧ x ≤ nI b) := by
  have e1 : (nI (b + 1)).toInt = (b + 1 : Nat) := nI_toInt (by omega)
  have e2 : (nI b).toInt = b := nI_toInt (by omega)
  have e0 : (nI 0).toInt = (0 : Nat) := nI_toInt (by omega)
  have e3 : (0 : Int32).toInt = 0 := rfl
  rw [Int32.lt_iff_toInt_lt, Int32.lt_iff_toInt_lt, Int32.le_iff_toInt_le, Int32.le_iff_toInt_le, e1, e2, e0, e3]
  omega
theorem c_sheet (O : GO h) (x l n : Int32) : ∃ h', zv 3 127 0 [.ref 0, .int x, .int l, .int n] [] h = some (some (.int (shV x l n)), h') ∧ GO h' ∧ Fb h h' ∧ zh_i h' 197 1 = zh_i h 197 1 ∧ shE x l n (zh_i h 205) (zh_i h 204) (zh_i h' 205) (zh_i h' 204) := by
  obtain ⟨S, -⟩ := id O
  have no : ¬ shV x l n = 1 → ∀ {o : Option zi_Rt}, o = some (some (.int (shV x l n)), h) → ∃ h', o = some (some (.int (shV x l n)), h') ∧ GO h' ∧ Fb h h' ∧ zh_i h' 197 1 = zh_i h 197 1 ∧ shE x l n (zh_i h 205) (zh_i h 204) (zh_i h' 205) (zh_i h' 204) := fun q {o} e => ⟨h, e, O, Fb.refl h, rfl, Or.inr ⟨q, fun _ => ⟨rfl, rfl⟩⟩⟩
  by_cases hv : ¬ x < 0 ∧ x < 4
  · by_cases hl : ¬ l < 0 ∧ l < 3
    · have hs : (nI 0 ≤ x ∧ x ≤ nI 3) ∧ (nI 0 ≤ l ∧ l ≤ nI 2) := ⟨(rg (b := 3) (by decide)).mp hv, (rg (b := 2) (by decide)).mp hl⟩
      by_cases h40 : 40 < n
      · have ev : shV x l n = -1 := by unfold shV; rw [if_pos hs, if_pos h40]
        refine no (by rw [ev]; decide) ?_
        rw [ev]
        simp +decide only [b127_0, b127_4, b127_7, b127_11, b127_14, b127_20, S.n, S.k, S.r, hp_n_wi, hp_k_wi, hp_r_wi, hp_n_wl, hp_k_wl, hp_r_wl, hp_n_wb, hp_k_wb, hp_r_wb, zq_rf, kx_0, kx_1, kx_2, kx_3, kx_4, kx_5, kx_6, kx_7, kx_8, kx_9, kx_10, kx_11, kx_12, kx_13, kx_14, kx_15, kx_16, kx_17, kx_33, kx_34, kx_50, kx_66, kx_67, kx_68, kx_69, kx_197, kx_198, kx_199, kx_200, kx_201, kx_202, kx_203, kx_204, kx_205, kx_206, kx_207, kx_208, kx_209, kx_210, rx_0_0, rx_0_1, rx_0_2, rx_0_3, rx_0_4, rx_0_5, rx_0_6, rx_0_7, rx_1_0, rx_1_1, rx_2_3, rx_2_4, rx_2_5, rx_2_6, rx_2_7, rx_2_8, rx_2_9, rx_10_0, rx_10_1, rx_10_2, rx_33_0, rx_33_1, rx_67_0, rx_68_0, rx_197_0, rx_199_5, rx_199_6, rx_199_7, rx_203_0, rx_203_1, rx_203_2, rx_206_0, rx_206_1, rx_206_2, rx_206_3, Option.bind_some, Option.toList_some, Option.toList_none, List.cons_append, List.nil_append, ↓reduceIte, p_138, p_139, decide_eq_true hv, decide_eq_true hl, zi_bI_t, if_pos h40]
      · by_cases h0 : n < 0
        · have ev : shV x l n = -14 := by unfold shV; rw [if_pos hs, if_neg h40, if_pos h0]
          refine no (by rw [ev]; decide) ?_
          rw [ev]
          simp +decide only [b127_0, b127_4, b127_7, b127_11, b127_14, b127_22, b127_26, S.n, S.k, S.r, hp_n_wi, hp_k_wi, hp_r_wi, hp_n_wl, hp_k_wl, hp_r_wl, hp_n_wb, hp_k_wb, hp_r_wb, zq_rf, kx_0, kx_1, kx_2, kx_3, kx_4, kx_5, kx_6, kx_7, kx_8, kx_9, kx_10, kx_11, kx_12, kx_13, kx_14, kx_15, kx_16, kx_17, kx_33, kx_34, kx_50, kx_66, kx_67, kx_68, kx_69, kx_197, kx_198, kx_199, kx_200, kx_201, kx_202, kx_203, kx_204, kx_205, kx_206, kx_207, kx_208, kx_209, kx_210, rx_0_0, rx_0_1, rx_0_2, rx_0_3, rx_0_4, rx_0_5, rx_0_6, rx_0_7, rx_1_0, rx_1_1, rx_2_3, rx_2_4, rx_2_5, rx_2_6, rx_2_7, rx_2_8, rx_2_9, rx_10_0, rx_10_1, rx_10_2, rx_33_0, rx_33_1, rx_67_0, rx_68_0, rx_197_0, rx_199_5, rx_199_6, rx_199_7, rx_203_0, rx_203_1, rx_203_2, rx_206_0, rx_206_1, rx_206_2, rx_206_3, Option.bind_some, Option.toList_some, Option.toList_none, List.cons_append, List.nil_append, ↓reduceIte, p_138, p_139, decide_eq_true hv, decide_eq_true hl, zi_bI_t, if_neg h40, if_pos h0]
        · have ev : shV x l n = 1 := by unfold shV; rw [if_pos hs, if_neg h40, if_neg h0]
          have hl4 : ¬ l = -4 := fun q => by rw [q] at hl; exact absurd hl.1 (by decide)
          obtain ⟨c, hc, rfl⟩ := nI_ex (b := 4) (by decide) hv.1 hv.2
          obtain ⟨z, hz, ez⟩ := nI_ex' (x := n) (b := 40) (by decide) h0 h40
          have O1 : GO (zh_wi (zh_wi h 205 c l) 204 c n) := (O.wi (wo_p (by decide))).wi (wo_p (by decide))
          have rw : ∃ h', zv 2 23 0 [.ref 203, .int (nI c), .int l, .int n] [] h = some (none, h') ∧ GO h' ∧ Fc (zh_wi (zh_wi h 205 c l) 204 c n) h' := by
            have : c = 0 ∨ c = 1 ∨ c = 2 ∨ c = 3 := by omega
            rcases this with rfl | rfl | rfl | rfl
            · obtain ⟨h', e', O', F', -⟩ := fill_g (a := 207) (n := 40) (v := 0) (by decide) (by decide) 40 0 rfl O1 (by rw [O1.1.k, kx_207]) (by rw [O1.1.n]; decide)
              have e2 : zv 1 241 0 [.ref 207, .int 0, .double 0, .double 0] [] (zh_wi (zh_wi h 205 0 l) 204 0 n) = some (none, h') := by
                rw [b241_0 (by rw [O1.1.k, kx_207]; decide) (by rw [O1.1.n]; decide), O1.1.k, kx_207]; exact e'
              exact ⟨h', by simp +decide only [b23_0, b23_4, b23_7, b23_8, b23_32, S.n, S.k, S.r, hp_n_wi, hp_k_wi, hp_r_wi, hp_n_wl, hp_k_wl, hp_r_wl, hp_n_wb, hp_k_wb, hp_r_wb, zq_rf, kx_0, kx_1, kx_2, kx_3, kx_4, kx_5, kx_6, kx_7, kx_8, kx_9, kx_10, kx_11, kx_12, kx_13, kx_14, kx_15, kx_16, kx_17, kx_33, kx_34, kx_50, kx_66, kx_67, kx_68, kx_69, kx_197, kx_198, kx_199, kx_200, kx_201, kx_202, kx_203, kx_204, kx_205, kx_206, kx_207, kx_208, kx_209, kx_210, rx_0_0, rx_0_1, rx_0_2, rx_0_3, rx_0_4, rx_0_5, rx_0_6, rx_0_7, rx_1_0, rx_1_1, rx_2_3, rx_2_4, rx_2_5, rx_2_6, rx_2_7, rx_2_8, rx_2_9, rx_10_0, rx_10_1, rx_10_2, rx_33_0, rx_33_1, rx_67_0, rx_68_0, rx_197_0, rx_199_5, rx_199_6, rx_199_7, rx_203_0, rx_203_1, rx_203_2, rx_206_0, rx_206_1, rx_206_2, rx_206_3, Option.bind_some, Option.toList_some, Option.toList_none, List.cons_append, List.nil_append, ↓reduceIte, p_138, decide_eq_true hv, zi_bI_t, tc_0, e2], O', F'⟩
            · obtain ⟨h', e', O', F', -⟩ := fill_g (a := 208) (n := 40) (v := 0) (by decide) (by decide) 40 0 rfl O1 (by rw [O1.1.k, kx_208]) (by rw [O1.1.n]; decide)
              have e2 : zv 1 241 0 [.ref 208, .int 0, .double 0, .double 0] [] (zh_wi (zh_wi h 205 1 l) 204 1 n) = some (none, h') := by
                rw [b241_0 (by rw [O1.1.k, kx_208]; decide) (by rw [O1.1.n]; decide), O1.1.k, kx_208]; exact e'
              exact ⟨h', by simp +decide only [b23_0, b23_4, b23_7, b23_8, b23_32, S.n, S.k, S.r, hp_n_wi, hp_k_wi, hp_r_wi, hp_n_wl, hp_k_wl, hp_r_wl, hp_n_wb, hp_k_wb, hp_r_wb, zq_rf, kx_0, kx_1, kx_2, kx_3, kx_4, kx_5, kx_6, kx_7, kx_8, kx_9, kx_10, kx_11, kx_12, kx_13, kx_14, kx_15, kx_16, kx_17, kx_33, kx_34, kx_50, kx_66, kx_67, kx_68, kx_69, kx_197, kx_198, kx_199, kx_200, kx_201, kx_202, kx_203, kx_204, kx_205, kx_206, kx_207, kx_208, kx_209, kx_210, rx_0_0, rx_0_1, rx_0_2, rx_0_3, rx_0_4, rx_0_5, rx_0_6, rx_0_7, rx_1_0, rx_1_1, rx_2_3, rx_2_4, rx_2_5, rx_2_6, rx_2_7, rx_2_8, rx_2_9, rx_10_0, rx_10_1, rx_10_2, rx_33_0, rx_33_1, rx_67_0, rx_68_0, rx_197_0, rx_199_5, rx_199_6, rx_199_7, rx_203_0, rx_203_1, rx_203_2, rx_206_0, rx_206_1, rx_206_2, rx_206_3, Option.bind_some, Option.toList_some, Option.toList_none, List.cons_append, List.nil_append, ↓reduceIte, p_138, decide_eq_true hv, zi_bI_t, tc_1, e2], O', F'⟩
            · obtain ⟨h', e', O', F', -⟩ := fill_g (a := 209) (n := 40) (v := 0) (by decide) (by decide) 40 0 rfl O1 (by rw [O1.1.k, kx_209]) (by rw [O1.1.n]; decide)
              have e2 : zv 1 241 0 [.ref 209, .int 0, .double 0, .double 0] [] (zh_wi (zh_wi h 205 2 l) 204 2 n) = some (none, h') := by
                rw [b241_0 (by rw [O1.1.k, kx_209]; decide) (by rw [O1.1.n]; decide), O1.1.k, kx_209]; exact e'
              exact ⟨h', by simp +decide only [b23_0, b23_4, b23_7, b23_8, b23_32, S.n, S.k, S.r, hp_n_wi, hp_k_wi, hp_r_wi, hp_n_wl, hp_k_wl, hp_r_wl, hp_n_wb, hp_k_wb, hp_r_wb, zq_rf, kx_0, kx_1, kx_2, kx_3, kx_4, kx_5, kx_6, kx_7, kx_8, kx_9, kx_10, kx_11, kx_12, kx_13, kx_14, kx_15, kx_16, kx_17, kx_33, kx_34, kx_50, kx_66, kx_67, kx_68, kx_69, kx_197, kx_198, kx_199, kx_200, kx_201, kx_202, kx_203, kx_204, kx_205, kx_206, kx_207, kx_208, kx_209, kx_210, rx_0_0, rx_0_1, rx_0_2, rx_0_3, rx_0_4, rx_0_5, rx_0_6, rx_0_7, rx_1_0, rx_1_1, rx_2_3, rx_2_4, rx_2_5, rx_2_6, rx_2_7, rx_2_8, rx_2_9, rx_10_0, rx_10_1, rx_10_2, rx_33_0, rx_33_1, rx_67_0, rx_68_0, rx_197_0, rx_199_5, rx_199_6, rx_199_7, rx_203_0, rx_203_1, rx_203_2, rx_206_0, rx_206_1, rx_206_2, rx_206_3, Option.bind_some, Option.toList_some, Option.toList_none, List.cons_append, List.nil_append, ↓reduceIte, p_138, decide_eq_true hv, zi_bI_t, tc_2, e2], O', F'⟩
            · obtain ⟨h', e', O', F', -⟩ := fill_g (a := 210) (n := 40) (v := 0) (by decide) (by decide) 40 0 rfl O1 (by rw [O1.1.k, kx_210]) (by rw [O1.1.n]; decide)
              have e2 : zv 1 241 0 [.ref 210, .int 0, .double 0, .double 0] [] (zh_wi (zh_wi h 205 3 l) 204 3 n) = some (none, h') := by
                rw [b241_0 (by rw [O1.1.k, kx_210]; decide) (by rw [O1.1.n]; decide), O1.1.k, kx_210]; exact e'
              exact ⟨h', by simp +decide only [b23_0, b23_4, b23_7, b23_8, b23_32, S.n, S.k, S.r, hp_n_wi, hp_k_wi, hp_r_wi, hp_n_wl, hp_k_wl, hp_r_wl, hp_n_wb, hp_k_wb, hp_r_wb, zq_rf, kx_0, kx_1, kx_2, kx_3, kx_4, kx_5, kx_6, kx_7, kx_8, kx_9, kx_10, kx_11, kx_12, kx_13, kx_14, kx_15, kx_16, kx_17, kx_33, kx_34, kx_50, kx_66, kx_67, kx_68, kx_69, kx_197, kx_198, kx_199, kx_200, kx_201, kx_202, kx_203, kx_204, kx_205, kx_206, kx_207, kx_208, kx_209, kx_210, rx_0_0, rx_0_1, rx_0_2, rx_0_3, rx_0_4, rx_0_5, rx_0_6, rx_0_7, rx_1_0, rx_1_1, rx_2_3, rx_2_4, rx_2_5, rx_2_6, rx_2_7, rx_2_8, rx_2_9, rx_10_0, rx_10_1, rx_10_2, rx_33_0, rx_33_1, rx_67_0, rx_68_0, rx_197_0, rx_199_5, rx_199_6, rx_199_7, rx_203_0, rx_203_1, rx_203_2, rx_206_0, rx_206_1, rx_206_2, rx_206_3, Option.bind_some, Option.toList_some, Option.toList_none, List.cons_append, List.nil_append, ↓reduceIte, p_138, decide_eq_true hv, zi_bI_t, tc_3, e2], O', F'⟩
          obtain ⟨h', e', O', F'⟩ := rw
          refine ⟨h', by rw [ev]; simp +decide only [b127_0, b127_4, b127_7, b127_11, b127_14, b127_22, b127_29, b127_39, S.n, S.k, S.r, hp_n_wi, hp_k_wi, hp_r_wi, hp_n_wl, hp_k_wl, hp_r_wl, hp_n_wb, hp_k_wb, hp_r_wb, zq_rf, kx_0, kx_1, kx_2, kx_3, kx_4, kx_5, kx_6, kx_7, kx_8, kx_9, kx_10, kx_11, kx_12, kx_13, kx_14, kx_15, kx_16, kx_17, kx_33, kx_34, kx_50, kx_66, kx_67, kx_68, kx_69, kx_197, kx_198, kx_199, kx_200, kx_201, kx_202, kx_203, kx_204, kx_205, kx_206, kx_207, kx_208, kx_209, kx_210, rx_0_0, rx_0_1, rx_0_2, rx_0_3, rx_0_4, rx_0_5, rx_0_6, rx_0_7, rx_1_0, rx_1_1, rx_2_3, rx_2_4, rx_2_5, rx_2_6, rx_2_7, rx_2_8, rx_2_9, rx_10_0, rx_10_1, rx_10_2, rx_33_0, rx_33_1, rx_67_0, rx_68_0, rx_197_0, rx_199_5, rx_199_6, rx_199_7, rx_203_0, rx_203_1, rx_203_2, rx_206_0, rx_206_1, rx_206_2, rx_206_3, Option.bind_some, Option.toList_some, Option.toList_none, List.cons_append, List.nil_append, ↓reduceIte, p_138, p_139, decide_eq_true hv, decide_eq_true hl, zi_bI_t, if_neg h40, if_neg h0, e'], O', ((Fb.wi (by decide)).trans (Fb.wi (by decide))).trans F'.1.1, ?_, Or.inl ⟨c, z, by omega, hz, rfl, ez, hl4, ev, fun j => ⟨?_, ?_⟩⟩⟩
          · rw [F'.2, hp_i_wi, if_neg (by omega), hp_i_wi, if_neg (by omega)]
          · rw [(F'.1.2 j).2, hp_i_wi, if_neg (by omega), hp_i_wi]
            by_cases e : j = c
            · rw [if_pos ⟨rfl, e⟩, if_pos e]
            · rw [if_neg (fun w => e w.2), if_neg e]
          · rw [(F'.1.2 j).1, hp_i_wi]
            by_cases e : j = c
            · rw [if_pos ⟨rfl, e⟩, if_pos e]; exact ez
            · rw [if_neg (fun w => e w.2), if_neg e, hp_i_wi, if_neg (by omega)]
    · have ev : shV x l n = -1 := by unfold shV; rw [if_neg (fun q => hl ((rg (b := 2) (by decide)).mpr q.2))]
      refine no (by rw [ev]; decide) ?_
      rw [ev]
      simp +decide only [b127_0, b127_4, b127_7, b127_11, b127_20, S.n, S.k, S.r, hp_n_wi, hp_k_wi, hp_r_wi, hp_n_wl, hp_k_wl, hp_r_wl, hp_n_wb, hp_k_wb, hp_r_wb, zq_rf, kx_0, kx_1, kx_2, kx_3, kx_4, kx_5, kx_6, kx_7, kx_8, kx_9, kx_10, kx_11, kx_12, kx_13, kx_14, kx_15, kx_16, kx_17, kx_33, kx_34, kx_50, kx_66, kx_67, kx_68, kx_69, kx_197, kx_198, kx_199, kx_200, kx_201, kx_202, kx_203, kx_204, kx_205, kx_206, kx_207, kx_208, kx_209, kx_210, rx_0_0, rx_0_1, rx_0_2, rx_0_3, rx_0_4, rx_0_5, rx_0_6, rx_0_7, rx_1_0, rx_1_1, rx_2_3, rx_2_4, rx_2_5, rx_2_6, rx_2_7, rx_2_8, rx_2_9, rx_10_0, rx_10_1, rx_10_2, rx_33_0, rx_33_1, rx_67_0, rx_68_0, rx_197_0, rx_199_5, rx_199_6, rx_199_7, rx_203_0, rx_203_1, rx_203_2, rx_206_0, rx_206_1, rx_206_2, rx_206_3, Option.bind_some, Option.toList_some, Option.toList_none, List.cons_append, List.nil_append, ↓reduceIte, p_138, p_139, decide_eq_true hv, decide_eq_false hl, zi_bI_t, zi_bI_f]
  · have ev : shV x l n = -1 := by unfold shV; rw [if_neg (fun q => hv ((rg (b := 3) (by decide)).mpr q.1))]
    refine no (by rw [ev]; decide) ?_
    rw [ev]
    simp +decide only [b127_0, b127_4, b127_20, S.n, S.k, S.r, hp_n_wi, hp_k_wi, hp_r_wi, hp_n_wl, hp_k_wl, hp_r_wl, hp_n_wb, hp_k_wb, hp_r_wb, zq_rf, kx_0, kx_1, kx_2, kx_3, kx_4, kx_5, kx_6, kx_7, kx_8, kx_9, kx_10, kx_11, kx_12, kx_13, kx_14, kx_15, kx_16, kx_17, kx_33, kx_34, kx_50, kx_66, kx_67, kx_68, kx_69, kx_197, kx_198, kx_199, kx_200, kx_201, kx_202, kx_203, kx_204, kx_205, kx_206, kx_207, kx_208, kx_209, kx_210, rx_0_0, rx_0_1, rx_0_2, rx_0_3, rx_0_4, rx_0_5, rx_0_6, rx_0_7, rx_1_0, rx_1_1, rx_2_3, rx_2_4, rx_2_5, rx_2_6, rx_2_7, rx_2_8, rx_2_9, rx_10_0, rx_10_1, rx_10_2, rx_33_0, rx_33_1, rx_67_0, rx_68_0, rx_197_0, rx_199_5, rx_199_6, rx_199_7, rx_203_0, rx_203_1, rx_203_2, rx_206_0, rx_206_1, rx_206_2, rx_206_3, Option.bind_some, Option.toList_some, Option.toList_none, List.cons_append, List.nil_append, ↓reduceIte, p_138, decide_eq_false hv, zi_bI_f]
/-- a cell's fault -/
def faV (le la l i : Int32) : Int32 := if le < 0 then 1 else if la = l then (if i < 0 then 2 else if i < le then 0 else 2) else 3
theorem s_fav (O : GO h) {c : Nat} (hc : c < 4) (l i : Int32) : zv 2 24 0 [.ref 203, .int (nI c), .int l, .int i] [] h = some (some (.int (faV (zh_i h 204 c) (zh_i h 205 c) l i)), h) := by
  obtain ⟨S, -⟩ := id O
  have hv : ¬ nI c < 0 ∧ nI c < 4 := ⟨nI_pos (by omega), nI_lt (b := 4) hc (by decide)⟩
  unfold faV
  have : c = 0 ∨ c = 1 ∨ c = 2 ∨ c = 3 := by omega
  rcases this with rfl | rfl | rfl | rfl
  · simp +decide only [b24_0, b24_4, b24_7, b24_16, b24_18, b24_28, b24_30, b24_34, b24_44, b24_48, b24_49, S.n, S.k, S.r, hp_n_wi, hp_k_wi, hp_r_wi, hp_n_wl, hp_k_wl, hp_r_wl, hp_n_wb, hp_k_wb, hp_r_wb, zq_rf, kx_0, kx_1, kx_2, kx_3, kx_4, kx_5, kx_6, kx_7, kx_8, kx_9, kx_10, kx_11, kx_12, kx_13, kx_14, kx_15, kx_16, kx_17, kx_33, kx_34, kx_50, kx_66, kx_67, kx_68, kx_69, kx_197, kx_198, kx_199, kx_200, kx_201, kx_202, kx_203, kx_204, kx_205, kx_206, kx_207, kx_208, kx_209, kx_210, rx_0_0, rx_0_1, rx_0_2, rx_0_3, rx_0_4, rx_0_5, rx_0_6, rx_0_7, rx_1_0, rx_1_1, rx_2_3, rx_2_4, rx_2_5, rx_2_6, rx_2_7, rx_2_8, rx_2_9, rx_10_0, rx_10_1, rx_10_2, rx_33_0, rx_33_1, rx_67_0, rx_68_0, rx_197_0, rx_199_5, rx_199_6, rx_199_7, rx_203_0, rx_203_1, rx_203_2, rx_206_0, rx_206_1, rx_206_2, rx_206_3, Option.bind_some, Option.toList_some, Option.toList_none, List.cons_append, List.nil_append, ↓reduceIte, p_138, decide_eq_true hv, zi_bI_t, tc_0]
    by_cases q1 : zh_i h 204 0 < 0
    · simp only [if_pos q1]
    · by_cases q2 : zh_i h 205 0 = l
      · by_cases q3 : i < 0
        · simp only [if_neg q1, if_pos q2, if_pos q3]
        · by_cases q4 : i < zh_i h 204 0
          · simp only [if_neg q1, if_pos q2, if_neg q3, if_pos q4]
          · simp only [if_neg q1, if_pos q2, if_neg q3, if_neg q4]
      · simp only [if_neg q1, if_neg q2]
  · simp +decide only [b24_0, b24_4, b24_7, b24_16, b24_18, b24_28, b24_30, b24_34, b24_44, b24_48, b24_49, S.n, S.k, S.r, hp_n_wi, hp_k_wi, hp_r_wi, hp_n_wl, hp_k_wl, hp_r_wl, hp_n_wb, hp_k_wb, hp_r_wb, zq_rf, kx_0, kx_1, kx_2, kx_3, kx_4, kx_5, kx_6, kx_7, kx_8, kx_9, kx_10, kx_11, kx_12, kx_13, kx_14, kx_15, kx_16, kx_17, kx_33, kx_34, kx_50, kx_66, kx_67, kx_68, kx_69, kx_197, kx_198, kx_199, kx_200, kx_201, kx_202, kx_203, kx_204, kx_205, kx_206, kx_207, kx_208, kx_209, kx_210, rx_0_0, rx_0_1, rx_0_2, rx_0_3, rx_0_4, rx_0_5, rx_0_6, rx_0_7, rx_1_0, rx_1_1, rx_2_3, rx_2_4, rx_2_5, rx_2_6, rx_2_7, rx_2_8, rx_2_9, rx_10_0, rx_10_1, rx_10_2, rx_33_0, rx_33_1, rx_67_0, rx_68_0, rx_197_0, rx_199_5, rx_199_6, rx_199_7, rx_203_0, rx_203_1, rx_203_2, rx_206_0, rx_206_1, rx_206_2, rx_206_3, Option.bind_some, Option.toList_some, Option.toList_none, List.cons_append, List.nil_append, ↓reduceIte, p_138, decide_eq_true hv, zi_bI_t, tc_1]
    by_cases q1 : zh_i h 204 1 < 0
    · simp only [if_pos q1]
    · by_cases q2 : zh_i h 205 1 = l
      · by_cases q3 : i < 0
        · simp only [if_neg q1, if_pos q2, if_pos q3]
        · by_cases q4 : i < zh_i h 204 1
          · simp only [if_neg q1, if_pos q2, if_neg q3, if_pos q4]
          · simp only [if_neg q1, if_pos q2, if_neg q3, if_neg q4]
      · simp only [if_neg q1, if_neg q2]
  · simp +decide only [b24_0, b24_4, b24_7, b24_16, b24_18, b24_28, b24_30, b24_34, b24_44, b24_48, b24_49, S.n, S.k, S.r, hp_n_wi, hp_k_wi, hp_r_wi, hp_n_wl, hp_k_wl, hp_r_wl, hp_n_wb, hp_k_wb, hp_r_wb, zq_rf, kx_0, kx_1, kx_2, kx_3, kx_4, kx_5, kx_6, kx_7, kx_8, kx_9, kx_10, kx_11, kx_12, kx_13, kx_14, kx_15, kx_16, kx_17, kx_33, kx_34, kx_50, kx_66, kx_67, kx_68, kx_69, kx_197, kx_198, kx_199, kx_200, kx_201, kx_202, kx_203, kx_204, kx_205, kx_206, kx_207, kx_208, kx_209, kx_210, rx_0_0, rx_0_1, rx_0_2, rx_0_3, rx_0_4, rx_0_5, rx_0_6, rx_0_7, rx_1_0, rx_1_1, rx_2_3, rx_2_4, rx_2_5, rx_2_6, rx_2_7, rx_2_8, rx_2_9, rx_10_0, rx_10_1, rx_10_2, rx_33_0, rx_33_1, rx_67_0, rx_68_0, rx_197_0, rx_199_5, rx_199_6, rx_199_7, rx_203_0, rx_203_1, rx_203_2, rx_206_0, rx_206_1, rx_206_2, rx_206_3, Option.bind_some, Option.toList_some, Option.toList_none, List.cons_append, List.nil_append, ↓reduceIte, p_138, decide_eq_true hv, zi_bI_t, tc_2]
    by_cases q1 : zh_i h 204 2 < 0
    · simp only [if_pos q1]
    · by_cases q2 : zh_i h 205 2 = l
      · by_cases q3 : i < 0
        · simp only [if_neg q1, if_pos q2, if_pos q3]
        · by_cases q4 : i < zh_i h 204 2
          · simp only [if_neg q1, if_pos q2, if_neg q3, if_pos q4]
          · simp only [if_neg q1, if_pos q2, if_neg q3, if_neg q4]
      · simp only [if_neg q1, if_neg q2]
  · simp +decide only [b24_0, b24_4, b24_7, b24_16, b24_18, b24_28, b24_30, b24_34, b24_44, b24_48, b24_49, S.n, S.k, S.r, hp_n_wi, hp_k_wi, hp_r_wi, hp_n_wl, hp_k_wl, hp_r_wl, hp_n_wb, hp_k_wb, hp_r_wb, zq_rf, kx_0, kx_1, kx_2, kx_3, kx_4, kx_5, kx_6, kx_7, kx_8, kx_9, kx_10, kx_11, kx_12, kx_13, kx_14, kx_15, kx_16, kx_17, kx_33, kx_34, kx_50, kx_66, kx_67, kx_68, kx_69, kx_197, kx_198, kx_199, kx_200, kx_201, kx_202, kx_203, kx_204, kx_205, kx_206, kx_207, kx_208, kx_209, kx_210, rx_0_0, rx_0_1, rx_0_2, rx_0_3, rx_0_4, rx_0_5, rx_0_6, rx_0_7, rx_1_0, rx_1_1, rx_2_3, rx_2_4, rx_2_5, rx_2_6, rx_2_7, rx_2_8, rx_2_9, rx_10_0, rx_10_1, rx_10_2, rx_33_0, rx_33_1, rx_67_0, rx_68_0, rx_197_0, rx_199_5, rx_199_6, rx_199_7, rx_203_0, rx_203_1, rx_203_2, rx_206_0, rx_206_1, rx_206_2, rx_206_3, Option.bind_some, Option.toList_some, Option.toList_none, List.cons_append, List.nil_append, ↓reduceIte, p_138, decide_eq_true hv, zi_bI_t, tc_3]
    by_cases q1 : zh_i h 204 3 < 0
    · simp only [if_pos q1]
    · by_cases q2 : zh_i h 205 3 = l
      · by_cases q3 : i < 0
        · simp only [if_neg q1, if_pos q2, if_pos q3]
        · by_cases q4 : i < zh_i h 204 3
          · simp only [if_neg q1, if_pos q2, if_neg q3, if_pos q4]
          · simp only [if_neg q1, if_pos q2, if_neg q3, if_neg q4]
      · simp only [if_neg q1, if_neg q2]
theorem s_fa (O : GO h) {c : Nat} (hc : c < 4) (l i : Int32) : ∃ v, zv 2 24 0 [.ref 203, .int (nI c), .int l, .int i] [] h = some (some (.int v), h) := ⟨_, s_fav O hc l i⟩
theorem s_wr (O : GO h) {c : Nat} (hc : c < 4) (i v : Int32) : CV h (zv 2 26 0 [.ref 203, .int (nI c), .int i, .int v] [] h) := by
  obtain ⟨S, -⟩ := id O
  have hv : ¬ nI c < 0 ∧ nI c < 4 := ⟨nI_pos (by omega), nI_lt (b := 4) hc (by decide)⟩
  by_cases h0 : i < 0
  · exact ⟨h, by simp +decide only [b26_0, b26_4, b26_7, b26_17, S.n, S.k, S.r, hp_n_wi, hp_k_wi, hp_r_wi, hp_n_wl, hp_k_wl, hp_r_wl, hp_n_wb, hp_k_wb, hp_r_wb, zq_rf, kx_0, kx_1, kx_2, kx_3, kx_4, kx_5, kx_6, kx_7, kx_8, kx_9, kx_10, kx_11, kx_12, kx_13, kx_14, kx_15, kx_16, kx_17, kx_33, kx_34, kx_50, kx_66, kx_67, kx_68, kx_69, kx_197, kx_198, kx_199, kx_200, kx_201, kx_202, kx_203, kx_204, kx_205, kx_206, kx_207, kx_208, kx_209, kx_210, rx_0_0, rx_0_1, rx_0_2, rx_0_3, rx_0_4, rx_0_5, rx_0_6, rx_0_7, rx_1_0, rx_1_1, rx_2_3, rx_2_4, rx_2_5, rx_2_6, rx_2_7, rx_2_8, rx_2_9, rx_10_0, rx_10_1, rx_10_2, rx_33_0, rx_33_1, rx_67_0, rx_68_0, rx_197_0, rx_199_5, rx_199_6, rx_199_7, rx_203_0, rx_203_1, rx_203_2, rx_206_0, rx_206_1, rx_206_2, rx_206_3, Option.bind_some, Option.toList_some, Option.toList_none, List.cons_append, List.nil_append, ↓reduceIte, p_138, decide_eq_true hv, zi_bI_t, if_pos h0], O, Fc.refl h⟩
  · by_cases h40 : i < 40
    · obtain ⟨j, hj, rfl⟩ := nI_ex (b := 40) (by decide) h0 h40
      have nc : (nI j).toNatClampNeg = j := nI_clamp (by omega)
      have hz : ¬ (nI j < 0 ∨ 40 ≤ j) := by have q := zj_n (N := 40) hj (by decide); rw [nc] at q; exact q
      have key : ∃ w, zv 2 26 0 [.ref 203, .int (nI c), .int (nI j), .int v] [] h = some (none, zh_wi h (207 + c) j w) := by
        have : c = 0 ∨ c = 1 ∨ c = 2 ∨ c = 3 := by omega
        rcases this with rfl | rfl | rfl | rfl
        · simp +decide only [b26_0, b26_4, b26_7, b26_11, b26_17, b26_18, b26_34, b26_39, b26_49, b26_54, b26_55, S.n, S.k, S.r, hp_n_wi, hp_k_wi, hp_r_wi, hp_n_wl, hp_k_wl, hp_r_wl, hp_n_wb, hp_k_wb, hp_r_wb, zq_rf, kx_0, kx_1, kx_2, kx_3, kx_4, kx_5, kx_6, kx_7, kx_8, kx_9, kx_10, kx_11, kx_12, kx_13, kx_14, kx_15, kx_16, kx_17, kx_33, kx_34, kx_50, kx_66, kx_67, kx_68, kx_69, kx_197, kx_198, kx_199, kx_200, kx_201, kx_202, kx_203, kx_204, kx_205, kx_206, kx_207, kx_208, kx_209, kx_210, rx_0_0, rx_0_1, rx_0_2, rx_0_3, rx_0_4, rx_0_5, rx_0_6, rx_0_7, rx_1_0, rx_1_1, rx_2_3, rx_2_4, rx_2_5, rx_2_6, rx_2_7, rx_2_8, rx_2_9, rx_10_0, rx_10_1, rx_10_2, rx_33_0, rx_33_1, rx_67_0, rx_68_0, rx_197_0, rx_199_5, rx_199_6, rx_199_7, rx_203_0, rx_203_1, rx_203_2, rx_206_0, rx_206_1, rx_206_2, rx_206_3, Option.bind_some, Option.toList_some, Option.toList_none, List.cons_append, List.nil_append, ↓reduceIte, p_138, decide_eq_true hv, zi_bI_t, tc_0, if_neg h0, if_pos h40, nc, hz]
          repeat' split
          all_goals exact ⟨_, rfl⟩
        · simp +decide only [b26_0, b26_4, b26_7, b26_11, b26_17, b26_18, b26_34, b26_39, b26_49, b26_54, b26_55, S.n, S.k, S.r, hp_n_wi, hp_k_wi, hp_r_wi, hp_n_wl, hp_k_wl, hp_r_wl, hp_n_wb, hp_k_wb, hp_r_wb, zq_rf, kx_0, kx_1, kx_2, kx_3, kx_4, kx_5, kx_6, kx_7, kx_8, kx_9, kx_10, kx_11, kx_12, kx_13, kx_14, kx_15, kx_16, kx_17, kx_33, kx_34, kx_50, kx_66, kx_67, kx_68, kx_69, kx_197, kx_198, kx_199, kx_200, kx_201, kx_202, kx_203, kx_204, kx_205, kx_206, kx_207, kx_208, kx_209, kx_210, rx_0_0, rx_0_1, rx_0_2, rx_0_3, rx_0_4, rx_0_5, rx_0_6, rx_0_7, rx_1_0, rx_1_1, rx_2_3, rx_2_4, rx_2_5, rx_2_6, rx_2_7, rx_2_8, rx_2_9, rx_10_0, rx_10_1, rx_10_2, rx_33_0, rx_33_1, rx_67_0, rx_68_0, rx_197_0, rx_199_5, rx_199_6, rx_199_7, rx_203_0, rx_203_1, rx_203_2, rx_206_0, rx_206_1, rx_206_2, rx_206_3, Option.bind_some, Option.toList_some, Option.toList_none, List.cons_append, List.nil_append, ↓reduceIte, p_138, decide_eq_true hv, zi_bI_t, tc_1, if_neg h0, if_pos h40, nc, hz]
          repeat' split
          all_goals exact ⟨_, rfl⟩
        · simp +decide only [b26_0, b26_4, b26_7, b26_11, b26_17, b26_18, b26_34, b26_39, b26_49, b26_54, b26_55, S.n, S.k, S.r, hp_n_wi, hp_k_wi, hp_r_wi, hp_n_wl, hp_k_wl, hp_r_wl, hp_n_wb, hp_k_wb, hp_r_wb, zq_rf, kx_0, kx_1, kx_2, kx_3, kx_4, kx_5, kx_6, kx_7, kx_8, kx_9, kx_10, kx_11, kx_12, kx_13, kx_14, kx_15, kx_16, kx_17, kx_33, kx_34, kx_50, kx_66, kx_67, kx_68, kx_69, kx_197, kx_198, kx_199, kx_200, kx_201, kx_202, kx_203, kx_204, kx_205, kx_206, kx_207, kx_208, kx_209, kx_210, rx_0_0, rx_0_1, rx_0_2, rx_0_3, rx_0_4, rx_0_5, rx_0_6, rx_0_7, rx_1_0, rx_1_1, rx_2_3, rx_2_4, rx_2_5, rx_2_6, rx_2_7, rx_2_8, rx_2_9, rx_10_0, rx_10_1, rx_10_2, rx_33_0, rx_33_1, rx_67_0, rx_68_0, rx_197_0, rx_199_5, rx_199_6, rx_199_7, rx_203_0, rx_203_1, rx_203_2, rx_206_0, rx_206_1, rx_206_2, rx_206_3, Option.bind_some, Option.toList_some, Option.toList_none, List.cons_append, List.nil_append, ↓reduceIte, p_138, decide_eq_true hv, zi_bI_t, tc_2, if_neg h0, if_pos h40, nc, hz]
          repeat' split
          all_goals exact ⟨_, rfl⟩
        · simp +decide only [b26_0, b26_4, b26_7, b26_11, b26_17, b26_18, b26_34, b26_39, b26_49, b26_54, b26_55, S.n, S.k, S.r, hp_n_wi, hp_k_wi, hp_r_wi, hp_n_wl, hp_k_wl, hp_r_wl, hp_n_wb, hp_k_wb, hp_r_wb, zq_rf, kx_0, kx_1, kx_2, kx_3, kx_4, kx_5, kx_6, kx_7, kx_8, kx_9, kx_10, kx_11, kx_12, kx_13, kx_14, kx_15, kx_16, kx_17, kx_33, kx_34, kx_50, kx_66, kx_67, kx_68, kx_69, kx_197, kx_198, kx_199, kx_200, kx_201, kx_202, kx_203, kx_204, kx_205, kx_206, kx_207, kx_208, kx_209, kx_210, rx_0_0, rx_0_1, rx_0_2, rx_0_3, rx_0_4, rx_0_5, rx_0_6, rx_0_7, rx_1_0, rx_1_1, rx_2_3, rx_2_4, rx_2_5, rx_2_6, rx_2_7, rx_2_8, rx_2_9, rx_10_0, rx_10_1, rx_10_2, rx_33_0, rx_33_1, rx_67_0, rx_68_0, rx_197_0, rx_199_5, rx_199_6, rx_199_7, rx_203_0, rx_203_1, rx_203_2, rx_206_0, rx_206_1, rx_206_2, rx_206_3, Option.bind_some, Option.toList_some, Option.toList_none, List.cons_append, List.nil_append, ↓reduceIte, p_138, decide_eq_true hv, zi_bI_t, tc_3, if_neg h0, if_pos h40, nc, hz]
          repeat' split
          all_goals exact ⟨_, rfl⟩
      obtain ⟨w, e⟩ := key
      exact ⟨_, e, O.wi (wo_p (by omega)), Fc.wi (by omega)⟩
    · exact ⟨h, by simp +decide only [b26_0, b26_4, b26_7, b26_11, b26_17, S.n, S.k, S.r, hp_n_wi, hp_k_wi, hp_r_wi, hp_n_wl, hp_k_wl, hp_r_wl, hp_n_wb, hp_k_wb, hp_r_wb, zq_rf, kx_0, kx_1, kx_2, kx_3, kx_4, kx_5, kx_6, kx_7, kx_8, kx_9, kx_10, kx_11, kx_12, kx_13, kx_14, kx_15, kx_16, kx_17, kx_33, kx_34, kx_50, kx_66, kx_67, kx_68, kx_69, kx_197, kx_198, kx_199, kx_200, kx_201, kx_202, kx_203, kx_204, kx_205, kx_206, kx_207, kx_208, kx_209, kx_210, rx_0_0, rx_0_1, rx_0_2, rx_0_3, rx_0_4, rx_0_5, rx_0_6, rx_0_7, rx_1_0, rx_1_1, rx_2_3, rx_2_4, rx_2_5, rx_2_6, rx_2_7, rx_2_8, rx_2_9, rx_10_0, rx_10_1, rx_10_2, rx_33_0, rx_33_1, rx_67_0, rx_68_0, rx_197_0, rx_199_5, rx_199_6, rx_199_7, rx_203_0, rx_203_1, rx_203_2, rx_206_0, rx_206_1, rx_206_2, rx_206_3, Option.bind_some, Option.toList_some, Option.toList_none, List.cons_append, List.nil_append, ↓reduceIte, p_138, decide_eq_true hv, zi_bI_t, if_neg h0, if_neg h40], O, Fc.refl h⟩
/-- what lay answers, by lengths -/
def lyC (x y : Int32) (le : Nat → Int32) (v : Int32) : Prop := (¬ (nI 0 ≤ x ∧ x ≤ nI 3) ∧ v = -1) ∨ ∃ k, k ≤ 3 ∧ x = nI k ∧ ((le k < 0 ∧ v = -11) ∨ (¬ le k < 0 ∧ v = if ¬ y < 0 ∧ y < le k then 1 else -12))
theorem c_layv (O : GO h) (x i v : Int32) {u : Value} : ∃ w h', zv 3 128 0 [.ref 0, .int x, .int i, .int v, u] [] h = some (some (.int w), h') ∧ GO h' ∧ Fc h h' ∧ lyC x i (zh_i h 204) w := by
  obtain ⟨S, -⟩ := id O
  by_cases hv : ¬ x < 0 ∧ x < 4
  · obtain ⟨c, hc, rfl⟩ := nI_ex (b := 4) (by decide) hv.1 hv.2
    have go : zv 3 128 0 [.ref 0, .int (nI c), .int i, .int v, u] [] h = (zv 2 24 0 [.ref 203, .int (nI c), .int (zh_i h 205 c), .int i] [] h).bind fun r => zv 3 128 27 [.ref 0, .int (nI c), .int i, .int v, u] (r.1.toList ++ []) r.2 := by
      have : c = 0 ∨ c = 1 ∨ c = 2 ∨ c = 3 := by omega
      rcases this with rfl | rfl | rfl | rfl
      · simp +decide only [b128_0, b128_4, b128_9, S.n, S.k, S.r, hp_n_wi, hp_k_wi, hp_r_wi, hp_n_wl, hp_k_wl, hp_r_wl, hp_n_wb, hp_k_wb, hp_r_wb, zq_rf, kx_0, kx_1, kx_2, kx_3, kx_4, kx_5, kx_6, kx_7, kx_8, kx_9, kx_10, kx_11, kx_12, kx_13, kx_14, kx_15, kx_16, kx_17, kx_33, kx_34, kx_50, kx_66, kx_67, kx_68, kx_69, kx_197, kx_198, kx_199, kx_200, kx_201, kx_202, kx_203, kx_204, kx_205, kx_206, kx_207, kx_208, kx_209, kx_210, rx_0_0, rx_0_1, rx_0_2, rx_0_3, rx_0_4, rx_0_5, rx_0_6, rx_0_7, rx_1_0, rx_1_1, rx_2_3, rx_2_4, rx_2_5, rx_2_6, rx_2_7, rx_2_8, rx_2_9, rx_10_0, rx_10_1, rx_10_2, rx_33_0, rx_33_1, rx_67_0, rx_68_0, rx_197_0, rx_199_5, rx_199_6, rx_199_7, rx_203_0, rx_203_1, rx_203_2, rx_206_0, rx_206_1, rx_206_2, rx_206_3, Option.bind_some, Option.toList_some, Option.toList_none, List.cons_append, List.nil_append, ↓reduceIte, p_138, decide_eq_true hv, zi_bI_t, tc_0]
      · simp +decide only [b128_0, b128_4, b128_9, S.n, S.k, S.r, hp_n_wi, hp_k_wi, hp_r_wi, hp_n_wl, hp_k_wl, hp_r_wl, hp_n_wb, hp_k_wb, hp_r_wb, zq_rf, kx_0, kx_1, kx_2, kx_3, kx_4, kx_5, kx_6, kx_7, kx_8, kx_9, kx_10, kx_11, kx_12, kx_13, kx_14, kx_15, kx_16, kx_17, kx_33, kx_34, kx_50, kx_66, kx_67, kx_68, kx_69, kx_197, kx_198, kx_199, kx_200, kx_201, kx_202, kx_203, kx_204, kx_205, kx_206, kx_207, kx_208, kx_209, kx_210, rx_0_0, rx_0_1, rx_0_2, rx_0_3, rx_0_4, rx_0_5, rx_0_6, rx_0_7, rx_1_0, rx_1_1, rx_2_3, rx_2_4, rx_2_5, rx_2_6, rx_2_7, rx_2_8, rx_2_9, rx_10_0, rx_10_1, rx_10_2, rx_33_0, rx_33_1, rx_67_0, rx_68_0, rx_197_0, rx_199_5, rx_199_6, rx_199_7, rx_203_0, rx_203_1, rx_203_2, rx_206_0, rx_206_1, rx_206_2, rx_206_3, Option.bind_some, Option.toList_some, Option.toList_none, List.cons_append, List.nil_append, ↓reduceIte, p_138, decide_eq_true hv, zi_bI_t, tc_1]
      · simp +decide only [b128_0, b128_4, b128_9, S.n, S.k, S.r, hp_n_wi, hp_k_wi, hp_r_wi, hp_n_wl, hp_k_wl, hp_r_wl, hp_n_wb, hp_k_wb, hp_r_wb, zq_rf, kx_0, kx_1, kx_2, kx_3, kx_4, kx_5, kx_6, kx_7, kx_8, kx_9, kx_10, kx_11, kx_12, kx_13, kx_14, kx_15, kx_16, kx_17, kx_33, kx_34, kx_50, kx_66, kx_67, kx_68, kx_69, kx_197, kx_198, kx_199, kx_200, kx_201, kx_202, kx_203, kx_204, kx_205, kx_206, kx_207, kx_208, kx_209, kx_210, rx_0_0, rx_0_1, rx_0_2, rx_0_3, rx_0_4, rx_0_5, rx_0_6, rx_0_7, rx_1_0, rx_1_1, rx_2_3, rx_2_4, rx_2_5, rx_2_6, rx_2_7, rx_2_8, rx_2_9, rx_10_0, rx_10_1, rx_10_2, rx_33_0, rx_33_1, rx_67_0, rx_68_0, rx_197_0, rx_199_5, rx_199_6, rx_199_7, rx_203_0, rx_203_1, rx_203_2, rx_206_0, rx_206_1, rx_206_2, rx_206_3, Option.bind_some, Option.toList_some, Option.toList_none, List.cons_append, List.nil_append, ↓reduceIte, p_138, decide_eq_true hv, zi_bI_t, tc_2]
      · simp +decide only [b128_0, b128_4, b128_9, S.n, S.k, S.r, hp_n_wi, hp_k_wi, hp_r_wi, hp_n_wl, hp_k_wl, hp_r_wl, hp_n_wb, hp_k_wb, hp_r_wb, zq_rf, kx_0, kx_1, kx_2, kx_3, kx_4, kx_5, kx_6, kx_7, kx_8, kx_9, kx_10, kx_11, kx_12, kx_13, kx_14, kx_15, kx_16, kx_17, kx_33, kx_34, kx_50, kx_66, kx_67, kx_68, kx_69, kx_197, kx_198, kx_199, kx_200, kx_201, kx_202, kx_203, kx_204, kx_205, kx_206, kx_207, kx_208, kx_209, kx_210, rx_0_0, rx_0_1, rx_0_2, rx_0_3, rx_0_4, rx_0_5, rx_0_6, rx_0_7, rx_1_0, rx_1_1, rx_2_3, rx_2_4, rx_2_5, rx_2_6, rx_2_7, rx_2_8, rx_2_9, rx_10_0, rx_10_1, rx_10_2, rx_33_0, rx_33_1, rx_67_0, rx_68_0, rx_197_0, rx_199_5, rx_199_6, rx_199_7, rx_203_0, rx_203_1, rx_203_2, rx_206_0, rx_206_1, rx_206_2, rx_206_3, Option.bind_some, Option.toList_some, Option.toList_none, List.cons_append, List.nil_append, ↓reduceIte, p_138, decide_eq_true hv, zi_bI_t, tc_3]
    obtain ⟨h', e3, O', F'⟩ := s_wr O hc i v
    rw [go, s_fav O hc]
    obtain ⟨w, ew⟩ : ∃ w, w = faV (zh_i h 204 c) (zh_i h 205 c) (zh_i h 205 c) i := ⟨_, rfl⟩
    rw [← ew]
    unfold faV at ew
    rw [if_pos (show zh_i h 205 c = zh_i h 205 c from rfl)] at ew
    by_cases q1 : zh_i h 204 c < 0
    · rw [if_pos q1] at ew
      subst ew
      exact ⟨-11, h, by simp +decide only [b128_27, b128_34, S.n, S.k, S.r, hp_n_wi, hp_k_wi, hp_r_wi, hp_n_wl, hp_k_wl, hp_r_wl, hp_n_wb, hp_k_wb, hp_r_wb, zq_rf, kx_0, kx_1, kx_2, kx_3, kx_4, kx_5, kx_6, kx_7, kx_8, kx_9, kx_10, kx_11, kx_12, kx_13, kx_14, kx_15, kx_16, kx_17, kx_33, kx_34, kx_50, kx_66, kx_67, kx_68, kx_69, kx_197, kx_198, kx_199, kx_200, kx_201, kx_202, kx_203, kx_204, kx_205, kx_206, kx_207, kx_208, kx_209, kx_210, rx_0_0, rx_0_1, rx_0_2, rx_0_3, rx_0_4, rx_0_5, rx_0_6, rx_0_7, rx_1_0, rx_1_1, rx_2_3, rx_2_4, rx_2_5, rx_2_6, rx_2_7, rx_2_8, rx_2_9, rx_10_0, rx_10_1, rx_10_2, rx_33_0, rx_33_1, rx_67_0, rx_68_0, rx_197_0, rx_199_5, rx_199_6, rx_199_7, rx_203_0, rx_203_1, rx_203_2, rx_206_0, rx_206_1, rx_206_2, rx_206_3, Option.bind_some, Option.toList_some, Option.toList_none, List.cons_append, List.nil_append, ↓reduceIte]; rfl, O, Fc.refl h, Or.inr ⟨c, by omega, rfl, Or.inl ⟨q1, rfl⟩⟩⟩
    · rw [if_neg q1] at ew
      by_cases q : ¬ i < 0 ∧ i < zh_i h 204 c
      · rw [if_neg q.1, if_pos q.2] at ew
        subst ew
        exact ⟨1, h', by simp +decide only [b128_27, b128_40, b128_50, S.n, S.k, S.r, hp_n_wi, hp_k_wi, hp_r_wi, hp_n_wl, hp_k_wl, hp_r_wl, hp_n_wb, hp_k_wb, hp_r_wb, zq_rf, kx_0, kx_1, kx_2, kx_3, kx_4, kx_5, kx_6, kx_7, kx_8, kx_9, kx_10, kx_11, kx_12, kx_13, kx_14, kx_15, kx_16, kx_17, kx_33, kx_34, kx_50, kx_66, kx_67, kx_68, kx_69, kx_197, kx_198, kx_199, kx_200, kx_201, kx_202, kx_203, kx_204, kx_205, kx_206, kx_207, kx_208, kx_209, kx_210, rx_0_0, rx_0_1, rx_0_2, rx_0_3, rx_0_4, rx_0_5, rx_0_6, rx_0_7, rx_1_0, rx_1_1, rx_2_3, rx_2_4, rx_2_5, rx_2_6, rx_2_7, rx_2_8, rx_2_9, rx_10_0, rx_10_1, rx_10_2, rx_33_0, rx_33_1, rx_67_0, rx_68_0, rx_197_0, rx_199_5, rx_199_6, rx_199_7, rx_203_0, rx_203_1, rx_203_2, rx_206_0, rx_206_1, rx_206_2, rx_206_3, Option.bind_some, Option.toList_some, Option.toList_none, List.cons_append, List.nil_append, ↓reduceIte, e3], O', F', Or.inr ⟨c, by omega, rfl, Or.inr ⟨q1, by rw [if_pos q]⟩⟩⟩
      · have e2 : w = 2 := by
          rw [ew]
          by_cases q0 : i < 0
          · rw [if_pos q0]
          · rw [if_neg q0, if_neg (fun z => q ⟨q0, z⟩)]
        subst e2
        exact ⟨-12, h, by simp +decide only [b128_27, b128_34, S.n, S.k, S.r, hp_n_wi, hp_k_wi, hp_r_wi, hp_n_wl, hp_k_wl, hp_r_wl, hp_n_wb, hp_k_wb, hp_r_wb, zq_rf, kx_0, kx_1, kx_2, kx_3, kx_4, kx_5, kx_6, kx_7, kx_8, kx_9, kx_10, kx_11, kx_12, kx_13, kx_14, kx_15, kx_16, kx_17, kx_33, kx_34, kx_50, kx_66, kx_67, kx_68, kx_69, kx_197, kx_198, kx_199, kx_200, kx_201, kx_202, kx_203, kx_204, kx_205, kx_206, kx_207, kx_208, kx_209, kx_210, rx_0_0, rx_0_1, rx_0_2, rx_0_3, rx_0_4, rx_0_5, rx_0_6, rx_0_7, rx_1_0, rx_1_1, rx_2_3, rx_2_4, rx_2_5, rx_2_6, rx_2_7, rx_2_8, rx_2_9, rx_10_0, rx_10_1, rx_10_2, rx_33_0, rx_33_1, rx_67_0, rx_68_0, rx_197_0, rx_199_5, rx_199_6, rx_199_7, rx_203_0, rx_203_1, rx_203_2, rx_206_0, rx_206_1, rx_206_2, rx_206_3, Option.bind_some, Option.toList_some, Option.toList_none, List.cons_append, List.nil_append, ↓reduceIte]; rfl, O, Fc.refl h, Or.inr ⟨c, by omega, rfl, Or.inr ⟨q1, by rw [if_neg q]⟩⟩⟩
  · exact ⟨-1, h, by simp +decide only [b128_0, b128_4, b128_7, S.n, S.k, S.r, hp_n_wi, hp_k_wi, hp_r_wi, hp_n_wl, hp_k_wl, hp_r_wl, hp_n_wb, hp_k_wb, hp_r_wb, zq_rf, kx_0, kx_1, kx_2, kx_3, kx_4, kx_5, kx_6, kx_7, kx_8, kx_9, kx_10, kx_11, kx_12, kx_13, kx_14, kx_15, kx_16, kx_17, kx_33, kx_34, kx_50, kx_66, kx_67, kx_68, kx_69, kx_197, kx_198, kx_199, kx_200, kx_201, kx_202, kx_203, kx_204, kx_205, kx_206, kx_207, kx_208, kx_209, kx_210, rx_0_0, rx_0_1, rx_0_2, rx_0_3, rx_0_4, rx_0_5, rx_0_6, rx_0_7, rx_1_0, rx_1_1, rx_2_3, rx_2_4, rx_2_5, rx_2_6, rx_2_7, rx_2_8, rx_2_9, rx_10_0, rx_10_1, rx_10_2, rx_33_0, rx_33_1, rx_67_0, rx_68_0, rx_197_0, rx_199_5, rx_199_6, rx_199_7, rx_203_0, rx_203_1, rx_203_2, rx_206_0, rx_206_1, rx_206_2, rx_206_3, Option.bind_some, Option.toList_some, Option.toList_none, List.cons_append, List.nil_append, ↓reduceIte, p_138, decide_eq_false hv, zi_bI_f], O, Fc.refl h, Or.inl ⟨fun q => hv ((rg (b := 3) (by decide)).mpr q), rfl⟩⟩
theorem c_lay (O : GO h) (x i v : Int32) {u : Value} : CC h (zv 3 128 0 [.ref 0, .int x, .int i, .int v, u] [] h) := by
  obtain ⟨w, h', e, O', F', -⟩ := c_layv O x i v (u := u)
  exact ⟨w, h', e, O', F'⟩
end R33D
