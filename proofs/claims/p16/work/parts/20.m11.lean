section
/-! THE CLASS: tape and sheets -/
section R33D
variable {h : zi_Hp}
theorem c_feed (O : GO h) {t : Nat} (ht : t ≤ 160) (et : zh_i h 197 1 = nI t) (x : Int32) : ∃ v h', zv 2 105 0 [.ref 0, .int x] [] h = some (some (.int v), h') ∧ GO h' ∧ Fy h h' ∧ FD x (zh_i h 197 1) v (zh_i h' 197 1) := by
  obtain ⟨S, -⟩ := id O
  by_cases h0 : x < 0
  · exact ⟨-1, h, by simp +decide only [b105_0, b105_4, b105_10, b105_12, b105_20, b105_23, b105_33, b105_35, S.n, S.k, S.r, hp_n_wi, hp_k_wi, hp_r_wi, hp_n_wl, hp_k_wl, hp_r_wl, hp_n_wb, hp_k_wb, hp_r_wb, zq_rf, kx_0, kx_1, kx_2, kx_3, kx_4, kx_5, kx_6, kx_7, kx_8, kx_9, kx_10, kx_11, kx_12, kx_13, kx_14, kx_15, kx_16, kx_17, kx_33, kx_34, kx_50, kx_66, kx_67, kx_68, kx_69, kx_197, kx_198, kx_199, kx_200, kx_201, kx_202, kx_203, kx_204, kx_205, kx_206, kx_207, kx_208, kx_209, kx_210, rx_0_0, rx_0_1, rx_0_2, rx_0_3, rx_0_4, rx_0_5, rx_0_6, rx_0_7, rx_1_0, rx_1_1, rx_2_3, rx_2_4, rx_2_5, rx_2_6, rx_2_7, rx_2_8, rx_2_9, rx_10_0, rx_10_1, rx_10_2, rx_33_0, rx_33_1, rx_67_0, rx_68_0, rx_197_0, rx_199_5, rx_199_6, rx_199_7, rx_203_0, rx_203_1, rx_203_2, rx_206_0, rx_206_1, rx_206_2, rx_206_3, Option.bind_some, Option.toList_some, Option.toList_none, List.cons_append, List.nil_append, ↓reduceIte, if_pos h0], O, Fy.refl h, Or.inr (Or.inr ⟨fun q => absurd h0 (Int32.not_lt.mpr q.1), rfl, rfl⟩)⟩
  · by_cases h1 : 127 < x
    · exact ⟨-1, h, by simp +decide only [b105_0, b105_4, b105_10, b105_12, b105_20, b105_23, b105_33, b105_35, S.n, S.k, S.r, hp_n_wi, hp_k_wi, hp_r_wi, hp_n_wl, hp_k_wl, hp_r_wl, hp_n_wb, hp_k_wb, hp_r_wb, zq_rf, kx_0, kx_1, kx_2, kx_3, kx_4, kx_5, kx_6, kx_7, kx_8, kx_9, kx_10, kx_11, kx_12, kx_13, kx_14, kx_15, kx_16, kx_17, kx_33, kx_34, kx_50, kx_66, kx_67, kx_68, kx_69, kx_197, kx_198, kx_199, kx_200, kx_201, kx_202, kx_203, kx_204, kx_205, kx_206, kx_207, kx_208, kx_209, kx_210, rx_0_0, rx_0_1, rx_0_2, rx_0_3, rx_0_4, rx_0_5, rx_0_6, rx_0_7, rx_1_0, rx_1_1, rx_2_3, rx_2_4, rx_2_5, rx_2_6, rx_2_7, rx_2_8, rx_2_9, rx_10_0, rx_10_1, rx_10_2, rx_33_0, rx_33_1, rx_67_0, rx_68_0, rx_197_0, rx_199_5, rx_199_6, rx_199_7, rx_203_0, rx_203_1, rx_203_2, rx_206_0, rx_206_1, rx_206_2, rx_206_3, Option.bind_some, Option.toList_some, Option.toList_none, List.cons_append, List.nil_append, ↓reduceIte, if_neg h0, if_pos h1], O, Fy.refl h, Or.inr (Or.inr ⟨fun q => absurd h1 (Int32.not_lt.mpr q.2), rfl, rfl⟩)⟩
    · have hx : (0 : Int32) ≤ x ∧ x ≤ 127 := ⟨Int32.not_lt.mp h0, Int32.not_lt.mp h1⟩
      have p0 : ¬ nI t < 0 := nI_pos (by omega)
      by_cases h160 : t = 160
      · have p1 : ¬ nI t < 160 := by rw [h160]; decide
        exact ⟨-3, h, by simp +decide only [b105_0, b105_4, b105_10, b105_12, b105_20, b105_23, b105_33, b105_35, b28_0, b28_7, b28_17, b28_19, b28_31, S.n, S.k, S.r, hp_n_wi, hp_k_wi, hp_r_wi, hp_n_wl, hp_k_wl, hp_r_wl, hp_n_wb, hp_k_wb, hp_r_wb, zq_rf, kx_0, kx_1, kx_2, kx_3, kx_4, kx_5, kx_6, kx_7, kx_8, kx_9, kx_10, kx_11, kx_12, kx_13, kx_14, kx_15, kx_16, kx_17, kx_33, kx_34, kx_50, kx_66, kx_67, kx_68, kx_69, kx_197, kx_198, kx_199, kx_200, kx_201, kx_202, kx_203, kx_204, kx_205, kx_206, kx_207, kx_208, kx_209, kx_210, rx_0_0, rx_0_1, rx_0_2, rx_0_3, rx_0_4, rx_0_5, rx_0_6, rx_0_7, rx_1_0, rx_1_1, rx_2_3, rx_2_4, rx_2_5, rx_2_6, rx_2_7, rx_2_8, rx_2_9, rx_10_0, rx_10_1, rx_10_2, rx_33_0, rx_33_1, rx_67_0, rx_68_0, rx_197_0, rx_199_5, rx_199_6, rx_199_7, rx_203_0, rx_203_1, rx_203_2, rx_206_0, rx_206_1, rx_206_2, rx_206_3, Option.bind_some, Option.toList_some, Option.toList_none, List.cons_append, List.nil_append, ↓reduceIte, if_neg h0, if_neg h1, et, if_neg p0, if_neg p1], O, Fy.refl h, Or.inl ⟨hx, by rw [et, h160]; rfl, rfl, rfl⟩⟩
      · have p1 : nI t < 160 := nI_lt (b := 160) (by omega) (by decide)
        have hz : ¬ (nI t < 0 ∨ 160 ≤ t) := by
          have q := zj_n (n := t) (N := 160) (by omega) (by decide)
          rw [nI_clamp (by omega)] at q; exact q
        have nc : (nI t).toNatClampNeg = t := nI_clamp (by omega)
        have i1 : zh_i (zh_wi h 198 t x) 197 1 = nI t := by rw [hp_i_wi, if_neg (by omega)]; exact et
        have i2 : zh_i (zh_wi (zh_wi h 198 t x) 197 1 (nI (t + 1))) 197 1 = nI (t + 1) := by rw [hp_i_wi, if_pos ⟨rfl, rfl⟩]
        have O1 : GO (zh_wi (zh_wi h 198 t x) 197 1 (nI (t + 1))) := (O.wi (wo_p (by decide))).wi (wo_p (by decide))
        refine ⟨nI (t + 1), zh_wi (zh_wi h 198 t x) 197 1 (nI (t + 1)), ?_, O1, (Fy.wi (by decide)).trans (Fy.wi (by decide)), Or.inr (Or.inl ⟨hx, fun q => h160 ?_, ?_, ?_⟩)⟩
        · simp +decide only [b105_0, b105_4, b105_10, b105_12, b105_20, b105_23, b105_33, b105_35, b28_0, b28_7, b28_17, b28_19, b28_31, S.n, S.k, S.r, hp_n_wi, hp_k_wi, hp_r_wi, hp_n_wl, hp_k_wl, hp_r_wl, hp_n_wb, hp_k_wb, hp_r_wb, zq_rf, kx_0, kx_1, kx_2, kx_3, kx_4, kx_5, kx_6, kx_7, kx_8, kx_9, kx_10, kx_11, kx_12, kx_13, kx_14, kx_15, kx_16, kx_17, kx_33, kx_34, kx_50, kx_66, kx_67, kx_68, kx_69, kx_197, kx_198, kx_199, kx_200, kx_201, kx_202, kx_203, kx_204, kx_205, kx_206, kx_207, kx_208, kx_209, kx_210, rx_0_0, rx_0_1, rx_0_2, rx_0_3, rx_0_4, rx_0_5, rx_0_6, rx_0_7, rx_1_0, rx_1_1, rx_2_3, rx_2_4, rx_2_5, rx_2_6, rx_2_7, rx_2_8, rx_2_9, rx_10_0, rx_10_1, rx_10_2, rx_33_0, rx_33_1, rx_67_0, rx_68_0, rx_197_0, rx_199_5, rx_199_6, rx_199_7, rx_203_0, rx_203_1, rx_203_2, rx_206_0, rx_206_1, rx_206_2, rx_206_3, Option.bind_some, Option.toList_some, Option.toList_none, List.cons_append, List.nil_append, ↓reduceIte, if_neg h0, if_neg h1, et, if_neg p0, if_pos p1, nc, hz, i1, nI_s, i2]
        · rw [et] at q
          exact (nI_eq (a := t) (b := 160) (by omega) (by decide)).mp q
        · rw [et, nI_s]
        · rw [i2, et, nI_s]
theorem c_end (O : GO h) (x : Int32) {u : Value} : ∃ v h', zv 1 106 0 [.ref 0, .int x, u] [] h = some (some (.int v), h') ∧ GO h' ∧ Fy h h' ∧ ED x (zh_i h 197 1) v (zh_i h' 197 1) := by
  obtain ⟨S, -⟩ := id O
  by_cases h0 : x < 0
  · exact ⟨-1, h, by simp +decide only [b106_0, b106_4, b106_15, b106_17, S.n, S.k, S.r, hp_n_wi, hp_k_wi, hp_r_wi, hp_n_wl, hp_k_wl, hp_r_wl, hp_n_wb, hp_k_wb, hp_r_wb, zq_rf, kx_0, kx_1, kx_2, kx_3, kx_4, kx_5, kx_6, kx_7, kx_8, kx_9, kx_10, kx_11, kx_12, kx_13, kx_14, kx_15, kx_16, kx_17, kx_33, kx_34, kx_50, kx_66, kx_67, kx_68, kx_69, kx_197, kx_198, kx_199, kx_200, kx_201, kx_202, kx_203, kx_204, kx_205, kx_206, kx_207, kx_208, kx_209, kx_210, rx_0_0, rx_0_1, rx_0_2, rx_0_3, rx_0_4, rx_0_5, rx_0_6, rx_0_7, rx_1_0, rx_1_1, rx_2_3, rx_2_4, rx_2_5, rx_2_6, rx_2_7, rx_2_8, rx_2_9, rx_10_0, rx_10_1, rx_10_2, rx_33_0, rx_33_1, rx_67_0, rx_68_0, rx_197_0, rx_199_5, rx_199_6, rx_199_7, rx_203_0, rx_203_1, rx_203_2, rx_206_0, rx_206_1, rx_206_2, rx_206_3, Option.bind_some, Option.toList_some, Option.toList_none, List.cons_append, List.nil_append, ↓reduceIte, if_pos h0], O, Fy.refl h, Or.inr ⟨fun q => absurd h0 (Int32.not_lt.mpr q.1), rfl, rfl⟩⟩
  · by_cases h1 : zh_i h 197 1 < x
    · exact ⟨-1, h, by simp +decide only [b106_0, b106_4, b106_15, b106_17, S.n, S.k, S.r, hp_n_wi, hp_k_wi, hp_r_wi, hp_n_wl, hp_k_wl, hp_r_wl, hp_n_wb, hp_k_wb, hp_r_wb, zq_rf, kx_0, kx_1, kx_2, kx_3, kx_4, kx_5, kx_6, kx_7, kx_8, kx_9, kx_10, kx_11, kx_12, kx_13, kx_14, kx_15, kx_16, kx_17, kx_33, kx_34, kx_50, kx_66, kx_67, kx_68, kx_69, kx_197, kx_198, kx_199, kx_200, kx_201, kx_202, kx_203, kx_204, kx_205, kx_206, kx_207, kx_208, kx_209, kx_210, rx_0_0, rx_0_1, rx_0_2, rx_0_3, rx_0_4, rx_0_5, rx_0_6, rx_0_7, rx_1_0, rx_1_1, rx_2_3, rx_2_4, rx_2_5, rx_2_6, rx_2_7, rx_2_8, rx_2_9, rx_10_0, rx_10_1, rx_10_2, rx_33_0, rx_33_1, rx_67_0, rx_68_0, rx_197_0, rx_199_5, rx_199_6, rx_199_7, rx_203_0, rx_203_1, rx_203_2, rx_206_0, rx_206_1, rx_206_2, rx_206_3, Option.bind_some, Option.toList_some, Option.toList_none, List.cons_append, List.nil_append, ↓reduceIte, if_neg h0, if_pos h1], O, Fy.refl h, Or.inr ⟨fun q => absurd h1 (Int32.not_lt.mpr q.2), rfl, rfl⟩⟩
    · exact ⟨zh_i h 197 1, zh_wi h 197 1 x, by simp +decide only [b106_0, b106_4, b106_15, b106_17, S.n, S.k, S.r, hp_n_wi, hp_k_wi, hp_r_wi, hp_n_wl, hp_k_wl, hp_r_wl, hp_n_wb, hp_k_wb, hp_r_wb, zq_rf, kx_0, kx_1, kx_2, kx_3, kx_4, kx_5, kx_6, kx_7, kx_8, kx_9, kx_10, kx_11, kx_12, kx_13, kx_14, kx_15, kx_16, kx_17, kx_33, kx_34, kx_50, kx_66, kx_67, kx_68, kx_69, kx_197, kx_198, kx_199, kx_200, kx_201, kx_202, kx_203, kx_204, kx_205, kx_206, kx_207, kx_208, kx_209, kx_210, rx_0_0, rx_0_1, rx_0_2, rx_0_3, rx_0_4, rx_0_5, rx_0_6, rx_0_7, rx_1_0, rx_1_1, rx_2_3, rx_2_4, rx_2_5, rx_2_6, rx_2_7, rx_2_8, rx_2_9, rx_10_0, rx_10_1, rx_10_2, rx_33_0, rx_33_1, rx_67_0, rx_68_0, rx_197_0, rx_199_5, rx_199_6, rx_199_7, rx_203_0, rx_203_1, rx_203_2, rx_206_0, rx_206_1, rx_206_2, rx_206_3, Option.bind_some, Option.toList_some, Option.toList_none, List.cons_append, List.nil_append, ↓reduceIte, if_neg h0, if_neg h1], O.wi (wo_p (by decide)), Fy.wi (by decide), Or.inl ⟨⟨Int32.not_lt.mp h0, Int32.not_lt.mp h1⟩, rfl, by rw [hp_i_wi, if_pos ⟨rfl, rfl⟩]⟩⟩
/-- an array is filled -/
theorem fill_g {a n : Nat} {v : Int32} (ha : 197 ≤ a ∧ a < 211 ∧ a ≠ 197 ∧ a ≠ 204 ∧ a ≠ 205) (hn : n < 1000) : ∀ d k, k + d = n → ∀ {h : zi_Hp}, GO h → zh_k h a = (100, n) → a < zh_n h → ∃ h', zv 1 241 5 [.ref a, .int v, .int (nI k), .int (nI n)] [] h = some (none, h') ∧ GO h' ∧ Fc h h' ∧ (∀ c j, c ≠ a → zh_i h' c j = zh_i h c j) ∧ (∀ j, j < k → zh_i h' a j = zh_i h a j) ∧ (∀ j, k ≤ j → j < n → zh_i h' a j = v)
  | 0, k, hk, h, O, ek, el => by
    have e : k = n := by omega
    subst e
    exact ⟨h, by rw [b241_5, if_neg Int32.lt_irrefl, b241_20], O, Fc.refl h, fun _ _ _ => rfl, fun _ _ => rfl, fun j h1 h2 => absurd h2 (by omega)⟩
  | d + 1, k, hk, h, O, ek, el => by
    have O1 : GO (zh_wi h a k v) := O.wi (wo_p ha.1)
    obtain ⟨h', e', O', F', g', z', w'⟩ := fill_g (v := v) ha hn d (k + 1) (by omega) O1 (by rw [hp_k_wi]; exact ek) (by rw [hp_n_wi]; exact el)
    refine ⟨h', ?_, O', (Fc.wi ha.2.1).trans F', fun c j hc => by rw [g' c j hc, hp_i_wi, if_neg (fun q => hc q.1)], fun j hj => by rw [z' j (by omega), hp_i_wi, if_neg (by omega)], fun j h1 h2 => ?_⟩
    · rw [b241_5, if_pos (nI_lt (by omega) (by omega)), b241_10 el (by rw [ek]; exact zj_n (by omega) (by omega)) (by rw [ek]), nI_s, nI_clamp (by omega), e']
    · by_cases ej : j = k
      · subst ej; rw [z' j (by omega), hp_i_wi, if_pos ⟨rfl, rfl⟩]
      · exact w' j (by omega) h2
theorem rg {x : Int32} {b : Nat} (hb : b < 1000) : (¬ x < 0 ∧ x < nI (b + 1)) ↔ (nI 0 ≤ x ∧ x ≤ nI b) := by
  have e1 : (nI (b + 1)).toInt = (b + 1 : Nat) := nI_toInt (by omega)
  have e2 : (nI b).toInt = b := nI_toInt (by omega)
  have e0 : (nI 0).toInt = (0 : Nat) := nI_toInt (by omega)
  have e3 : (0 : Int32).toInt = 0 := rfl
  rw [Int32.lt_iff_toInt_lt, Int32.lt_iff_toInt_lt, Int32.le_iff_toInt_le, Int32.le_iff_toInt_le, e1, e2, e0, e3]
  omega
theorem c_sheet (O : GO h) (x l n : Int32) : ∃ h', zv 3 127 0 [.ref 0, .int x, .int l, .int n] [] h = some (some (.int (shV x l n)), h') ∧ GO h' ∧ Fb h h' ∧ zh_i h' 197 1 = zh_i h 197 1 ∧ shE x l n (zh_i h 205) (zh_i h 204) (zh_i h' 205) (zh_i h' 204) := by
  obtain ⟨S, -⟩ := id O
  have no : ¬ shV x l n = 1 → ∀ {o : Option zi_Rt}, o = some (some (.int (shV x l n)), h) → ∃ h', o = some (some (.int (shV x l n)), h') ∧ GO h' ∧ Fb h h' ∧ zh_i h' 197 1 = zh_i h 197 1 ∧ shE x l n (zh_i h 205) (zh_i h 204) (zh_i h' 205) (zh_i h' 204) := fun q {o} e => ⟨h, e, O, Fb.refl h, rfl, Or.inr ⟨q, fun _ => ⟨rfl, rfl⟩⟩⟩
  by_cases hv : ¬ x < 0 ∧ x < 4
  · by_cases hl : ¬ l < 0 ∧ l < 3
    · have hs : (nI 0 ≤ x ∧ x ≤ nI 3) ∧ (nI 0 ≤ l ∧ l ≤ nI 2) := ⟨(rg (b := 3) (by decide)).mp hv, (rg (b := 2) (by decide)).mp hl⟩
      by_cases h40 : 40 < n
      · have ev : shV x l n = -1 := by unfold shV; rw [if_pos hs, if_pos h40]
        refine no (by rw [ev]; decide) ?_
        rw [ev]
        simp +decide only [b127_0, b127_4, b127_7, b127_11, b127_14, b127_20, S.n, S.k, S.r, hp_n_wi, hp_k_wi, hp_r_wi, hp_n_wl, hp_k_wl, hp_r_wl, hp_n_wb, hp_k_wb, hp_r_wb, zq_rf, kx_0, kx_1, kx_2, kx_3, kx_4, kx_5, kx_6, kx_7, kx_8, kx_9, kx_10, kx_11, kx_12, kx_13, kx_14, kx_15, kx_16, kx_17, kx_33, kx_34, kx_50, kx_66, kx_67, kx_68, kx_69, kx_197, kx_198, kx_199, kx_200, kx_201, kx_202, kx_203, kx_204, kx_205, kx_206, kx_207, kx_208, kx_209, kx_210, rx_0_0, rx_0_1, rx_0_2, rx_0_3, rx_0_4, rx_0_5, rx_0_6, rx_0_7, rx_1_0, rx_1_1, rx_2_3, rx_2_4, rx_2_5, rx_2_6, rx_2_7, rx_2_8, rx_2_9, rx_10_0, rx_10_1, rx_10_2, rx_33_0, rx_33_1, rx_67_0, rx_68_0, rx_197_0, rx_199_5, rx_199_6, rx_199_7, rx_203_0, rx_203_1, rx_203_2, rx_206_0, rx_206_1, rx_206_2, rx_206_3, Option.bind_some, Option.toList_some, Option.toList_none, List.cons_append, List.nil_append, ↓reduceIte, p_138, p_139, decide_eq_true hv, decide_eq_true hl, zi_bI_t, if_pos h40]
      · by_cases h0 : n < 0
        · have ev : shV x l n = -14 := by unfold shV; rw [if_pos hs, if_neg h40, if_pos h0]
          refine no (by rw [ev]; decide) ?_
          rw [ev]
          simp +decide only [b127_0, b127_4, b127_7, b127_11, b127_14, b127_22, b127_26, S.n, S.k, S.r, hp_n_wi, hp_k_wi, hp_r_wi, hp_n_wl, hp_k_wl, hp_r_wl, hp_n_wb, hp_k_wb, hp_r_wb, zq_rf, kx_0, kx_1, kx_2, kx_3, kx_4, kx_5, kx_6, kx_7, kx_8, kx_9, kx_10, kx_11, kx_12, kx_13, kx_14, kx_15, kx_16, kx_17, kx_33, kx_34, kx_50, kx_66, kx_67, kx_68, kx_69, kx_197, kx_198, kx_199, kx_200, kx_201, kx_202, kx_203, kx_204, kx_205, kx_206, kx_207, kx_208, kx_209, kx_210, rx_0_0, rx_0_1, rx_0_2, rx_0_3, rx_0_4, rx_0_5, rx_0_6, rx_0_7, rx_1_0, rx_1_1, rx_2_3, rx_2_4, rx_2_5, rx_2_6, rx_2_7, rx_2_8, rx_2_9, rx_10_0, rx_10_1, rx_10_2, rx_33_0, rx_33_1, rx_67_0, rx_68_0, rx_197_0, rx_199_5, rx_199_6, rx_199_7, rx_203_0, rx_203_1, rx_203_2, rx_206_0, rx_206_1, rx_206_2, rx_206_3, Option.bind_some, Option.toList_some, Option.toList_none, List.cons_append, List.nil_append, ↓reduceIte, p_138, p_139, decide_eq_true hv, decide_eq_true hl, zi_bI_t, if_neg h40, if_pos h0]
        · have ev : shV x l n = 1 := by unfold shV; rw [if_pos hs, if_neg h40, if_neg h0]
          have hl4 : ¬ l = -4 := fun q => by rw [q] at hl; exact absurd hl.1 (by decide)
          obtain ⟨c, hc, rfl⟩ := nI_ex (b := 4) (by decide) hv.1 hv.2
          obtain ⟨z, hz, ez⟩ := nI_ex' (x := n) (b := 40) (by decide) h0 h40
          have O1 : GO (zh_wi (zh_wi h 205 c l) 204 c n) := (O.wi (wo_p (by decide))).wi (wo_p (by decide))
          have rw : ∃ h', zv 2 23 0 [.ref 203, .int (nI c), .int l, .int n] [] h = some (none, h') ∧ GO h' ∧ Fc (zh_wi (zh_wi h 205 c l) 204 c n) h' := by
            have : c = 0 ∨ c = 1 ∨ c = 2 ∨ c = 3 := by omega
            rcases this with rfl | rfl | rfl | rfl
            · obtain ⟨h', e', O', F', -⟩ := fill_g (a := 207) (n := 40) (v := 0) (by decide) (by decide) 40 0 rfl O1 (by rw [O1.1.k, kx_207]) (by rw [O1.1.n]; decide)
              have e2 : zv 1 241 0 [.ref 207, .int 0, .double 0, .double 0] [] (zh_wi (zh_wi h 205 0 l) 204 0 n) = some (none, h') := by
                rw [b241_0 (by rw [O1.1.k, kx_207]; decide) (by rw [O1.1.n]; decide), O1.1.k, kx_207]; exact e'
              exact ⟨h', by simp +decide only [b23_0, b23_4, b23_7, b23_8, b23_32, S.n, S.k, S.r, hp_n_wi, hp_k_wi, hp_r_wi, hp_n_wl, hp_k_wl, hp_r_wl, hp_n_wb, hp_k_wb, hp_r_wb, zq_rf, kx_0, kx_1, kx_2, kx_3, kx_4, kx_5, kx_6, kx_7, kx_8, kx_9, kx_10, kx_11, kx_12, kx_13, kx_14, kx_15, kx_16, kx_17, kx_33, kx_34, kx_50, kx_66, kx_67, kx_68, kx_69, kx_197, kx_198, kx_199, kx_200, kx_201, kx_202, kx_203, kx_204, kx_205, kx_206, kx_207, kx_208, kx_209, kx_210, rx_0_0, rx_0_1, rx_0_2, rx_0_3, rx_0_4, rx_0_5, rx_0_6, rx_0_7, rx_1_0, rx_1_1, rx_2_3, rx_2_4, rx_2_5, rx_2_6, rx_2_7, rx_2_8, rx_2_9, rx_10_0, rx_10_1, rx_10_2, rx_33_0, rx_33_1, rx_67_0, rx_68_0, rx_197_0, rx_199_5, rx_199_6, rx_199_7, rx_203_0, rx_203_1, rx_203_2, rx_206_0, rx_206_1, rx_206_2, rx_206_3, Option.bind_some, Option.toList_some, Option.toList_none, List.cons_append, List.nil_append, ↓reduceIte, p_138, decide_eq_true hv, zi_bI_t, tc_0, e2], O', F'⟩
            · obtain ⟨h', e', O', F', -⟩ := fill_g (a := 208) (n := 40) (v := 0) (by decide) (by decide) 40 0 rfl O1 (by rw [O1.1.k, kx_208]) (by rw [O1.1.n]; decide)
              have e2 : zv 1 241 0 [.ref 208, .int 0, .double 0, .double 0] [] (zh_wi (zh_wi h 205 1 l) 204 1 n) = some (none, h') := by
                rw [b241_0 (by rw [O1.1.k, kx_208]; decide) (by rw [O1.1.n]; decide), O1.1.k, kx_208]; exact e'
              exact ⟨h', by simp +decide only [b23_0, b23_4, b23_7, b23_8, b23_32, S.n, S.k, S.r, hp_n_wi, hp_k_wi, hp_r_wi, hp_n_wl, hp_k_wl, hp_r_wl, hp_n_wb, hp_k_wb, hp_r_wb, zq_rf, kx_0, kx_1, kx_2, kx_3, kx_4, kx_5, kx_6, kx_7, kx_8, kx_9, kx_10, kx_11, kx_12, kx_13, kx_14, kx_15, kx_16, kx_17, kx_33, kx_34, kx_50, kx_66, kx_67, kx_68, kx_69, kx_197, kx_198, kx_199, kx_200, kx_201, kx_202, kx_203, kx_204, kx_205, kx_206, kx_207, kx_208, kx_209, kx_210, rx_0_0, rx_0_1, rx_0_2, rx_0_3, rx_0_4, rx_0_5, rx_0_6, rx_0_7, rx_1_0, rx_1_1, rx_2_3, rx_2_4, rx_2_5, rx_2_6, rx_2_7, rx_2_8, rx_2_9, rx_10_0, rx_10_1, rx_10_2, rx_33_0, rx_33_1, rx_67_0, rx_68_0, rx_197_0, rx_199_5, rx_199_6, rx_199_7, rx_203_0, rx_203_1, rx_203_2, rx_206_0, rx_206_1, rx_206_2, rx_206_3, Option.bind_some, Option.toList_some, Option.toList_none, List.cons_append, List.nil_append, ↓reduceIte, p_138, decide_eq_true hv, zi_bI_t, tc_1, e2], O', F'⟩
            · obtain ⟨h', e', O', F', -⟩ := fill_g (a := 209) (n := 40) (v := 0) (by decide) (by decide) 40 0 rfl O1 (by rw [O1.1.k, kx_209]) (by rw [O1.1.n]; decide)
              have e2 : zv 1 241 0 [.ref 209, .int 0, .double 0, .double 0] [] (zh_wi (zh_wi h 205 2 l) 204 2 n) = some (none, h') := by
                rw [b241_0 (by rw [O1.1.k, kx_209]; decide) (by rw [O1.1.n]; decide), O1.1.k, kx_209]; exact e'
              exact ⟨h', by simp +decide only [b23_0, b23_4, b23_7, b23_8, b23_32, S.n, S.k, S.r, hp_n_wi, hp_k_wi, hp_r_wi, hp_n_wl, hp_k_wl, hp_r_wl, hp_n_wb, hp_k_wb, hp_r_wb, zq_rf, kx_0, kx_1, kx_2, kx_3, kx_4, kx_5, kx_6, kx_7, kx_8, kx_9, kx_10, kx_11, kx_12, kx_13, kx_14, kx_15, kx_16, kx_17, kx_33, kx_34, kx_50, kx_66, kx_67, kx_68, kx_69, kx_197, kx_198, kx_199, kx_200, kx_201, kx_202, kx_203, kx_204, kx_205, kx_206, kx_207, kx_208, kx_209, kx_210, rx_0_0, rx_0_1, rx_0_2, rx_0_3, rx_0_4, rx_0_5, rx_0_6, rx_0_7, rx_1_0, rx_1_1, rx_2_3, rx_2_4, rx_2_5, rx_2_6, rx_2_7, rx_2_8, rx_2_9, rx_10_0, rx_10_1, rx_10_2, rx_33_0, rx_33_1, rx_67_0, rx_68_0, rx_197_0, rx_199_5, rx_199_6, rx_199_7, rx_203_0, rx_203_1, rx_203_2, rx_206_0, rx_206_1, rx_206_2, rx_206_3, Option.bind_some, Option.toList_some, Option.toList_none, List.cons_append, List.nil_append, ↓reduceIte, p_138, decide_eq_true hv, zi_bI_t, tc_2, e2], O', F'⟩
            · obtain ⟨h', e', O', F', -⟩ := fill_g (a := 210) (n := 40) (v := 0) (by decide) (by decide) 40 0 rfl O1 (by rw [O1.1.k, kx_210]) (by rw [O1.1.n]; decide)
              have e2 : zv 1 241 0 [.ref 210, .int 0, .double 0, .double 0] [] (zh_wi (zh_wi h 205 3 l) 204 3 n) = some (none, h') := by
                rw [b241_0 (by rw [O1.1.k, kx_210]; decide) (by rw [O1.1.n]; decide), O1.1.k, kx_210]; exact e'
              exact ⟨h', by simp +decide only [b23_0, b23_4, b23_7, b23_8, b23_32, S.n, S.k, S.r, hp_n_wi, hp_k_wi, hp_r_wi, hp_n_wl, hp_k_wl, hp_r_wl, hp_n_wb, hp_k_wb, hp_r_wb, zq_rf, kx_0, kx_1, kx_2, kx_3, kx_4, kx_5, kx_6, kx_7, kx_8, kx_9, kx_10, kx_11, kx_12, kx_13, kx_14, kx_15, kx_16, kx_17, kx_33, kx_34, kx_50, kx_66, kx_67, kx_68, kx_69, kx_197, kx_198, kx_199, kx_200, kx_201, kx_202, kx_203, kx_204, kx_205, kx_206, kx_207, kx_208, kx_209, kx_210, rx_0_0, rx_0_1, rx_0_2, rx_0_3, rx_0_4, rx_0_5, rx_0_6, rx_0_7, rx_1_0, rx_1_1, rx_2_3, rx_2_4, rx_2_5, rx_2_6, rx_2_7, rx_2_8, rx_2_9, rx_10_0, rx_10_1, rx_10_2, rx_33_0, rx_33_1, rx_67_0, rx_68_0, rx_197_0, rx_199_5, rx_199_6, rx_199_7, rx_203_0, rx_203_1, rx_203_2, rx_206_0, rx_206_1, rx_206_2, rx_206_3, Option.bind_some, Option.toList_some, Option.toList_none, List.cons_append, List.nil_append, ↓reduceIte, p_138, decide_eq_true hv, zi_bI_t, tc_3, e2], O', F'⟩
          obtain ⟨h', e', O', F'⟩ := rw
          refine ⟨h', by rw [ev]; simp +decide only [b127_0, b127_4, b127_7, b127_11, b127_14, b127_22, b127_29, b127_39, S.n, S.k, S.r, hp_n_wi, hp_k_wi, hp_r_wi, hp_n_wl, hp_k_wl, hp_r_wl, hp_n_wb, hp_k_wb, hp_r_wb, zq_rf, kx_0, kx_1, kx_2, kx_3, kx_4, kx_5, kx_6, kx_7, kx_8, kx_9, kx_10, kx_11, kx_12, kx_13, kx_14, kx_15, kx_16, kx_17, kx_33, kx_34, kx_50, kx_66, kx_67, kx_68, kx_69, kx_197, kx_198, kx_199, kx_200, kx_201, kx_202, kx_203, kx_204, kx_205, kx_206, kx_207, kx_208, kx_209, kx_210, rx_0_0, rx_0_1, rx_0_2, rx_0_3, rx_0_4, rx_0_5, rx_0_6, rx_0_7, rx_1_0, rx_1_1, rx_2_3, rx_2_4, rx_2_5, rx_2_6, rx_2_7, rx_2_8, rx_2_9, rx_10_0, rx_10_1, rx_10_2, rx_33_0, rx_33_1, rx_67_0, rx_68_0, rx_197_0, rx_199_5, rx_199_6, rx_199_7, rx_203_0, rx_203_1, rx_203_2, rx_206_0, rx_206_1, rx_206_2, rx_206_3, Option.bind_some, Option.toList_some, Option.toList_none, List.cons_append, List.nil_append, ↓reduceIte, p_138, p_139, decide_eq_true hv, decide_eq_true hl, zi_bI_t, if_neg h40, if_neg h0, e'], O', ((Fb.wi (by decide)).trans (Fb.wi (by decide))).trans F'.1.1, ?_, Or.inl ⟨c, z, by omega, hz, rfl, ez, hl4, ev, fun j => ⟨?_, ?_⟩⟩⟩
          · rw [F'.2, hp_i_wi, if_neg (by omega), hp_i_wi, if_neg (by omega)]
          · rw [(F'.1.2 j).2, hp_i_wi, if_neg (by omega), hp_i_wi]
            by_cases e : j = c
            · rw [if_pos ⟨rfl, e⟩, if_pos e]
            · rw [if_neg (fun w => e w.2), if_neg e]
          · rw [(F'.1.2 j).1, hp_i_wi]
            by_cases e : j = c
            · rw [if_pos ⟨rfl, e⟩, if_pos e]; exact ez
            · rw [if_neg (fun w => e w.2), if_neg e, hp_i_wi, if_neg (by omega)]
    · have ev : shV x l n = -1 := by unfold shV; rw [if_neg (fun q => hl ((rg (b := 2) (by decide)).mpr q.2))]
      refine no (by rw [ev]; decide) ?_
      rw [ev]
      simp +decide only [b127_0, b127_4, b127_7, b127_11, b127_20, S.n, S.k, S.r, hp_n_wi, hp_k_wi, hp_r_wi, hp_n_wl, hp_k_wl, hp_r_wl, hp_n_wb, hp_k_wb, hp_r_wb, zq_rf, kx_0, kx_1, kx_2, kx_3, kx_4, kx_5, kx_6, kx_7, kx_8, kx_9, kx_10, kx_11, kx_12, kx_13, kx_14, kx_15, kx_16, kx_17, kx_33, kx_34, kx_50, kx_66, kx_67, kx_68, kx_69, kx_197, kx_198, kx_199, kx_200, kx_201, kx_202, kx_203, kx_204, kx_205, kx_206, kx_207, kx_208, kx_209, kx_210, rx_0_0, rx_0_1, rx_0_2, rx_0_3, rx_0_4, rx_0_5, rx_0_6, rx_0_7, rx_1_0, rx_1_1, rx_2_3, rx_2_4, rx_2_5, rx_2_6, rx_2_7, rx_2_8, rx_2_9, rx_10_0, rx_10_1, rx_10_2, rx_33_0, rx_33_1, rx_67_0, rx_68_0, rx_197_0, rx_199_5, rx_199_6, rx_199_7, rx_203_0, rx_203_1, rx_203_2, rx_206_0, rx_206_1, rx_206_2, rx_206_3, Option.bind_some, Option.toList_some, Option.toList_none, List.cons_append, List.nil_append, ↓reduceIte, p_138, p_139, decide_eq_true hv, decide_eq_false hl, zi_bI_t, zi_bI_f]
  · have ev : shV x l n = -1 := by unfold shV; rw [if_neg (fun q => hv ((rg (b := 3) (by decide)).mpr q.1))]
    refine no (by rw [ev]; decide) ?_
    rw [ev]
    simp +decide only [b127_0, b127_4, b127_20, S.n, S.k, S.r, hp_n_wi, hp_k_wi, hp_r_wi, hp_n_wl, hp_k_wl, hp_r_wl, hp_n_wb, hp_k_wb, hp_r_wb, zq_rf, kx_0, kx_1, kx_2, kx_3, kx_4, kx_5, kx_6, kx_7, kx_8, kx_9, kx_10, kx_11, kx_12, kx_13, kx_14, kx_15, kx_16, kx_17, kx_33, kx_34, kx_50, kx_66, kx_67, kx_68, kx_69, kx_197, kx_198, kx_199, kx_200, kx_201, kx_202, kx_203, kx_204, kx_205, kx_206, kx_207, kx_208, kx_209, kx_210, rx_0_0, rx_0_1, rx_0_2, rx_0_3, rx_0_4, rx_0_5, rx_0_6, rx_0_7, rx_1_0, rx_1_1, rx_2_3, rx_2_4, rx_2_5, rx_2_6, rx_2_7, rx_2_8, rx_2_9, rx_10_0, rx_10_1, rx_10_2, rx_33_0, rx_33_1, rx_67_0, rx_68_0, rx_197_0, rx_199_5, rx_199_6, rx_199_7, rx_203_0, rx_203_1, rx_203_2, rx_206_0, rx_206_1, rx_206_2, rx_206_3, Option.bind_some, Option.toList_some, Option.toList_none, List.cons_append, List.nil_append, ↓reduceIte, p_138, decide_eq_false hv, zi_bI_f]
/-- a cell's fault -/
def faV (le la l i : Int32) : Int32 := if le < 0 then 1 else if la = l then (if i < 0 then 2 else if i < le then 0 else 2) else 3
theorem s_fav (O : GO h) {c : Nat} (hc : c < 4) (l i : Int32) : zv 2 24 0 [.ref 203, .int (nI c), .int l, .int i] [] h = some (some (.int (faV (zh_i h 204 c) (zh_i h 205 c) l i)), h) := by
  obtain ⟨S, -⟩ := id O
  have hv : ¬ nI c < 0 ∧ nI c < 4 := ⟨nI_pos (by omega), nI_lt (b := 4) hc (by decide)⟩
  unfold faV
  have : c = 0 ∨ c = 1 ∨ c = 2 ∨ c = 3 := by omega
  rcases this with rfl | rfl | rfl | rfl
  · simp +decide only [b24_0, b24_4, b24_7, b24_16, b24_18, b24_28, b24_30, b24_34, b24_44, b24_48, b24_49, S.n, S.k, S.r, hp_n_wi, hp_k_wi, hp_r_wi, hp_n_wl, hp_k_wl, hp_r_wl, hp_n_wb, hp_k_wb, hp_r_wb, zq_rf, kx_0, kx_1, kx_2, kx_3, kx_4, kx_5, kx_6, kx_7, kx_8, kx_9, kx_10, kx_11, kx_12, kx_13, kx_14, kx_15, kx_16, kx_17, kx_33, kx_34, kx_50, kx_66, kx_67, kx_68, kx_69, kx_197, kx_198, kx_199, kx_200, kx_201, kx_202, kx_203, kx_204, kx_205, kx_206, kx_207, kx_208, kx_209, kx_210, rx_0_0, rx_0_1, rx_0_2, rx_0_3, rx_0_4, rx_0_5, rx_0_6, rx_0_7, rx_1_0, rx_1_1, rx_2_3, rx_2_4, rx_2_5, rx_2_6, rx_2_7, rx_2_8, rx_2_9, rx_10_0, rx_10_1, rx_10_2, rx_33_0, rx_33_1, rx_67_0, rx_68_0, rx_197_0, rx_199_5, rx_199_6, rx_199_7, rx_203_0, rx_203_1, rx_203_2, rx_206_0, rx_206_1, rx_206_2, rx_206_3, Option.bind_some, Option.toList_some, Option.toList_none, List.cons_append, List.nil_append, ↓reduceIte, p_138, decide_eq_true hv, zi_bI_t, tc_0]
    by_cases q1 : zh_i h 204 0 < 0
    · simp only [if_pos q1]
    · by_cases q2 : zh_i h 205 0 = l
      · by_cases q3 : i < 0
        · simp only [if_neg q1, if_pos q2, if_pos q3]
        · by_cases q4 : i < zh_i h 204 0
          · simp only [if_neg q1, if_pos q2, if_neg q3, if_pos q4]
          · simp only [if_neg q1, if_pos q2, if_neg q3, if_neg q4]
      · simp only [if_neg q1, if_neg q2]
  · simp +decide only [b24_0, b24_4, b24_7, b24_16, b24_18, b24_28, b24_30, b24_34, b24_44, b24_48, b24_49, S.n, S.k, S.r, hp_n_wi, hp_k_wi, hp_r_wi, hp_n_wl, hp_k_wl, hp_r_wl, hp_n_wb, hp_k_wb, hp_r_wb, zq_rf, kx_0, kx_1, kx_2, kx_3, kx_4, kx_5, kx_6, kx_7, kx_8, kx_9, kx_10, kx_11, kx_12, kx_13, kx_14, kx_15, kx_16, kx_17, kx_33, kx_34, kx_50, kx_66, kx_67, kx_68, kx_69, kx_197, kx_198, kx_199, kx_200, kx_201, kx_202, kx_203, kx_204, kx_205, kx_206, kx_207, kx_208, kx_209, kx_210, rx_0_0, rx_0_1, rx_0_2, rx_0_3, rx_0_4, rx_0_5, rx_0_6, rx_0_7, rx_1_0, rx_1_1, rx_2_3, rx_2_4, rx_2_5, rx_2_6, rx_2_7, rx_2_8, rx_2_9, rx_10_0, rx_10_1, rx_10_2, rx_33_0, rx_33_1, rx_67_0, rx_68_0, rx_197_0, rx_199_5, rx_199_6, rx_199_7, rx_203_0, rx_203_1, rx_203_2, rx_206_0, rx_206_1, rx_206_2, rx_206_3, Option.bind_some, Option.toList_some, Option.toList_none, List.cons_append, List.nil_append, ↓reduceIte, p_138, decide_eq_true hv, zi_bI_t, tc_1]
    by_cases q1 : zh_i h 204 1 < 0
    · simp only [if_pos q1]
    · by_cases q2 : zh_i h 205 1 = l
      · by_cases q3 : i < 0
        · simp only [if_neg q1, if_pos q2, if_pos q3]
        · by_cases q4 : i < zh_i h 204 1
          · simp only [if_neg q1, if_pos q2, if_neg q3, if_pos q4]
          · simp only [if_neg q1, if_pos q2, if_neg q3, if_neg q4]
      · simp only [if_neg q1, if_neg q2]
  · simp +decide only [b24_0, b24_4, b24_7, b24_16, b24_18, b24_28, b24_30, b24_34, b24_44, b24_48, b24_49, S.n, S.k, S.r, hp_n_wi, hp_k_wi, hp_r_wi, hp_n_wl, hp_k_wl, hp_r_wl, hp_n_wb, hp_k_wb, hp_r_wb, zq_rf, kx_0, kx_1, kx_2, kx_3, kx_4, kx_5, kx_6, kx_7, kx_8, kx_9, kx_10, kx_11, kx_12, kx_13, kx_14, kx_15, kx_16, kx_17, kx_33, kx_34, kx_50, kx_66, kx_67, kx_68, kx_69, kx_197, kx_198, kx_199, kx_200, kx_201, kx_202, kx_203, kx_204, kx_205, kx_206, kx_207, kx_208, kx_209, kx_210, rx_0_0, rx_0_1, rx_0_2, rx_0_3, rx_0_4, rx_0_5, rx_0_6, rx_0_7, rx_1_0, rx_1_1, rx_2_3, rx_2_4, rx_2_5, rx_2_6, rx_2_7, rx_2_8, rx_2_9, rx_10_0, rx_10_1, rx_10_2, rx_33_0, rx_33_1, rx_67_0, rx_68_0, rx_197_0, rx_199_5, rx_199_6, rx_199_7, rx_203_0, rx_203_1, rx_203_2, rx_206_0, rx_206_1, rx_206_2, rx_206_3, Option.bind_some, Option.toList_some, Option.toList_none, List.cons_append, List.nil_append, ↓reduceIte, p_138, decide_eq_true hv, zi_bI_t, tc_2]
    by_cases q1 : zh_i h 204 2 < 0
    · simp only [if_pos q1]
    · by_cases q2 : zh_i h 205 2 = l
      · by_cases q3 : i < 0
        · simp only [if_neg q1, if_pos q2, if_pos q3]
        · by_cases q4 : i < zh_i h 204 2
          · simp only [if_neg q1, if_pos q2, if_neg q3, if_pos q4]
          · simp only [if_neg q1, if_pos q2, if_neg q3, if_neg q4]
      · simp only [if_neg q1, if_neg q2]
  · simp +decide only [b24_0, b24_4, b24_7, b24_16, b24_18, b24_28, b24_30, b24_34, b24_44, b24_48, b24_49, S.n, S.k, S.r, hp_n_wi, hp_k_wi, hp_r_wi, hp_n_wl, hp_k_wl, hp_r_wl, hp_n_wb, hp_k_wb, hp_r_wb, zq_rf, kx_0, kx_1, kx_2, kx_3, kx_4, kx_5, kx_6, kx_7, kx_8, kx_9, kx_10, kx_11, kx_12, kx_13, kx_14, kx_15, kx_16, kx_17, kx_33, kx_34, kx_50, kx_66, kx_67, kx_68, kx_69, kx_197, kx_198, kx_199, kx_200, kx_201, kx_202, kx_203, kx_204, kx_205, kx_206, kx_207, kx_208, kx_209, kx_210, rx_0_0, rx_0_1, rx_0_2, rx_0_3, rx_0_4, rx_0_5, rx_0_6, rx_0_7, rx_1_0, rx_1_1, rx_2_3, rx_2_4, rx_2_5, rx_2_6, rx_2_7, rx_2_8, rx_2_9, rx_10_0, rx_10_1, rx_10_2, rx_33_0, rx_33_1, rx_67_0, rx_68_0, rx_197_0, rx_199_5, rx_199_6, rx_199_7, rx_203_0, rx_203_1, rx_203_2, rx_206_0, rx_206_1, rx_206_2, rx_206_3, Option.bind_some, Option.toList_some, Option.toList_none, List.cons_append, List.nil_append, ↓reduceIte, p_138, decide_eq_true hv, zi_bI_t, tc_3]
    by_cases q1 : zh_i h 204 3 < 0
    · simp only [if_pos q1]
    · by_cases q2 : zh_i h 205 3 = l
      · by_cases q3 : i < 0
        · simp only [if_neg q1, if_pos q2, if_pos q3]
        · by_cases q4 : i < zh_i h 204 3
          · simp only [if_neg q1, if_pos q2, if_neg q3, if_pos q4]
          · simp only [if_neg q1, if_pos q2, if_neg q3, if_neg q4]
      · simp only [if_neg q1, if_neg q2]
theorem s_fa (O : GO h) {c : Nat} (hc : c < 4) (l i : Int32) : ∃ v, zv 2 24 0 [.ref 203, .int (nI c), .int l, .int i] [] h = some (some (.int v), h) := ⟨_, s_fav O hc l i⟩
theorem s_wr (O : GO h) {c : Nat} (hc : c < 4) (i v : Int32) : CV h (zv 2 26 0 [.ref 203, .int (nI c), .int i, .int v] [] h) := by
  obtain ⟨S, -⟩ := id O
  have hv : ¬ nI c < 0 ∧ nI c < 4 := ⟨nI_pos (by omega), nI_lt (b := 4) hc (by decide)⟩
  by_cases h0 : i < 0
  · exact ⟨h, by simp +decide only [b26_0, b26_4, b26_7, b26_17, S.n, S.k, S.r, hp_n_wi, hp_k_wi, hp_r_wi, hp_n_wl, hp_k_wl, hp_r_wl, hp_n_wb, hp_k_wb, hp_r_wb, zq_rf, kx_0, kx_1, kx_2, kx_3, kx_4, kx_5, kx_6, kx_7, kx_8, kx_9, kx_10, kx_11, kx_12, kx_13, kx_14, kx_15, kx_16, kx_17, kx_33, kx_34, kx_50, kx_66, kx_67, kx_68, kx_69, kx_197, kx_198, kx_199, kx_200, kx_201, kx_202, kx_203, kx_204, kx_205, kx_206, kx_207, kx_208, kx_209, kx_210, rx_0_0, rx_0_1, rx_0_2, rx_0_3, rx_0_4, rx_0_5, rx_0_6, rx_0_7, rx_1_0, rx_1_1, rx_2_3, rx_2_4, rx_2_5, rx_2_6, rx_2_7, rx_2_8, rx_2_9, rx_10_0, rx_10_1, rx_10_2, rx_33_0, rx_33_1, rx_67_0, rx_68_0, rx_197_0, rx_199_5, rx_199_6, rx_199_7, rx_203_0, rx_203_1, rx_203_2, rx_206_0, rx_206_1, rx_206_2, rx_206_3, Option.bind_some, Option.toList_some, Option.toList_none, List.cons_append, List.nil_append, ↓reduceIte, p_138, decide_eq_true hv, zi_bI_t, if_pos h0], O, Fc.refl h⟩
  · by_cases h40 : i < 40
    · obtain ⟨j, hj, rfl⟩ := nI_ex (b := 40) (by decide) h0 h40
      have nc : (nI j).toNatClampNeg = j := nI_clamp (by omega)
      have hz : ¬ (nI j < 0 ∨ 40 ≤ j) := by have q := zj_n (N := 40) hj (by decide); rw [nc] at q; exact q
      have key : ∃ w, zv 2 26 0 [.ref 203, .int (nI c), .int (nI j), .int v] [] h = some (none, zh_wi h (207 + c) j w) := by
        have : c = 0 ∨ c = 1 ∨ c = 2 ∨ c = 3 := by omega
        rcases this with rfl | rfl | rfl | rfl
        · simp +decide only [b26_0, b26_4, b26_7, b26_11, b26_17, b26_18, b26_34, b26_39, b26_49, b26_54, b26_55, S.n, S.k, S.r, hp_n_wi, hp_k_wi, hp_r_wi, hp_n_wl, hp_k_wl, hp_r_wl, hp_n_wb, hp_k_wb, hp_r_wb, zq_rf, kx_0, kx_1, kx_2, kx_3, kx_4, kx_5, kx_6, kx_7, kx_8, kx_9, kx_10, kx_11, kx_12, kx_13, kx_14, kx_15, kx_16, kx_17, kx_33, kx_34, kx_50, kx_66, kx_67, kx_68, kx_69, kx_197, kx_198, kx_199, kx_200, kx_201, kx_202, kx_203, kx_204, kx_205, kx_206, kx_207, kx_208, kx_209, kx_210, rx_0_0, rx_0_1, rx_0_2, rx_0_3, rx_0_4, rx_0_5, rx_0_6, rx_0_7, rx_1_0, rx_1_1, rx_2_3, rx_2_4, rx_2_5, rx_2_6, rx_2_7, rx_2_8, rx_2_9, rx_10_0, rx_10_1, rx_10_2, rx_33_0, rx_33_1, rx_67_0, rx_68_0, rx_197_0, rx_199_5, rx_199_6, rx_199_7, rx_203_0, rx_203_1, rx_203_2, rx_206_0, rx_206_1, rx_206_2, rx_206_3, Option.bind_some, Option.toList_some, Option.toList_none, List.cons_append, List.nil_append, ↓reduceIte, p_138, decide_eq_true hv, zi_bI_t, tc_0, if_neg h0, if_pos h40, nc, hz]
          repeat' split
          all_goals exact ⟨_, rfl⟩
        · simp +decide only [b26_0, b26_4, b26_7, b26_11, b26_17, b26_18, b26_34, b26_39, b26_49, b26_54, b26_55, S.n, S.k, S.r, hp_n_wi, hp_k_wi, hp_r_wi, hp_n_wl, hp_k_wl, hp_r_wl, hp_n_wb, hp_k_wb, hp_r_wb, zq_rf, kx_0, kx_1, kx_2, kx_3, kx_4, kx_5, kx_6, kx_7, kx_8, kx_9, kx_10, kx_11, kx_12, kx_13, kx_14, kx_15, kx_16, kx_17, kx_33, kx_34, kx_50, kx_66, kx_67, kx_68, kx_69, kx_197, kx_198, kx_199, kx_200, kx_201, kx_202, kx_203, kx_204, kx_205, kx_206, kx_207, kx_208, kx_209, kx_210, rx_0_0, rx_0_1, rx_0_2, rx_0_3, rx_0_4, rx_0_5, rx_0_6, rx_0_7, rx_1_0, rx_1_1, rx_2_3, rx_2_4, rx_2_5, rx_2_6, rx_2_7, rx_2_8, rx_2_9, rx_10_0, rx_10_1, rx_10_2, rx_33_0, rx_33_1, rx_67_0, rx_68_0, rx_197_0, rx_199_5, rx_199_6, rx_199_7, rx_203_0, rx_203_1, rx_203_2, rx_206_0, rx_206_1, rx_206_2, rx_206_3, Option.bind_some, Option.toList_some, Option.toList_none, List.cons_append, List.nil_append, ↓reduceIte, p_138, decide_eq_true hv, zi_bI_t, tc_1, if_neg h0, if_pos h40, nc, hz]
          repeat' split
          all_goals exact ⟨_, rfl⟩
        · simp +decide only [b26_0, b26_4, b26_7, b26_11, b26_17, b26_18, b26_34, b26_39, b26_49, b26_54, b26_55, S.n, S.k, S.r, hp_n_wi, hp_k_wi, hp_r_wi, hp_n_wl, hp_k_wl, hp_r_wl, hp_n_wb, hp_k_wb, hp_r_wb, zq_rf, kx_0, kx_1, kx_2, kx_3, kx_4, kx_5, kx_6, kx_7, kx_8, kx_9, kx_10, kx_11, kx_12, kx_13, kx_14, kx_15, kx_16, kx_17, kx_33, kx_34, kx_50, kx_66, kx_67, kx_68, kx_69, kx_197, kx_198, kx_199, kx_200, kx_201, kx_202, kx_203, kx_204, kx_205, kx_206, kx_207, kx_208, kx_209, kx_210, rx_0_0, rx_0_1, rx_0_2, rx_0_3, rx_0_4, rx_0_5, rx_0_6, rx_0_7, rx_1_0, rx_1_1, rx_2_3, rx_2_4, rx_2_5, rx_2_6, rx_2_7, rx_2_8, rx_2_9, rx_10_0, rx_10_1, rx_10_2, rx_33_0, rx_33_1, rx_67_0, rx_68_0, rx_197_0, rx_199_5, rx_199_6, rx_199_7, rx_203_0, rx_203_1, rx_203_2, rx_206_0, rx_206_1, rx_206_2, rx_206_3, Option.bind_some, Option.toList_some, Option.toList_none, List.cons_append, List.nil_append, ↓reduceIte, p_138, decide_eq_true hv, zi_bI_t, tc_2, if_neg h0, if_pos h40, nc, hz]
          repeat' split
          all_goals exact ⟨_, rfl⟩
        · simp +decide only [b26_0, b26_4, b26_7, b26_11, b26_17, b26_18, b26_34, b26_39, b26_49, b26_54, b26_55, S.n, S.k, S.r, hp_n_wi, hp_k_wi, hp_r_wi, hp_n_wl, hp_k_wl, hp_r_wl, hp_n_wb, hp_k_wb, hp_r_wb, zq_rf, kx_0, kx_1, kx_2, kx_3, kx_4, kx_5, kx_6, kx_7, kx_8, kx_9, kx_10, kx_11, kx_12, kx_13, kx_14, kx_15, kx_16, kx_17, kx_33, kx_34, kx_50, kx_66, kx_67, kx_68, kx_69, kx_197, kx_198, kx_199, kx_200, kx_201, kx_202, kx_203, kx_204, kx_205, kx_206, kx_207, kx_208, kx_209, kx_210, rx_0_0, rx_0_1, rx_0_2, rx_0_3, rx_0_4, rx_0_5, rx_0_6, rx_0_7, rx_1_0, rx_1_1, rx_2_3, rx_2_4, rx_2_5, rx_2_6, rx_2_7, rx_2_8, rx_2_9, rx_10_0, rx_10_1, rx_10_2, rx_33_0, rx_33_1, rx_67_0, rx_68_0, rx_197_0, rx_199_5, rx_199_6, rx_199_7, rx_203_0, rx_203_1, rx_203_2, rx_206_0, rx_206_1, rx_206_2, rx_206_3, Option.bind_some, Option.toList_some, Option.toList_none, List.cons_append, List.nil_append, ↓reduceIte, p_138, decide_eq_true hv, zi_bI_t, tc_3, if_neg h0, if_pos h40, nc, hz]
          repeat' split
          all_goals exact ⟨_, rfl⟩
      obtain ⟨w, e⟩ := key
      exact ⟨_, e, O.wi (wo_p (by omega)), Fc.wi (by omega)⟩
    · exact ⟨h, by simp +decide only [b26_0, b26_4, b26_7, b26_11, b26_17, S.n, S.k, S.r, hp_n_wi, hp_k_wi, hp_r_wi, hp_n_wl, hp_k_wl, hp_r_wl, hp_n_wb, hp_k_wb, hp_r_wb, zq_rf, kx_0, kx_1, kx_2, kx_3, kx_4, kx_5, kx_6, kx_7, kx_8, kx_9, kx_10, kx_11, kx_12, kx_13, kx_14, kx_15, kx_16, kx_17, kx_33, kx_34, kx_50, kx_66, kx_67, kx_68, kx_69, kx_197, kx_198, kx_199, kx_200, kx_201, kx_202, kx_203, kx_204, kx_205, kx_206, kx_207, kx_208, kx_209, kx_210, rx_0_0, rx_0_1, rx_0_2, rx_0_3, rx_0_4, rx_0_5, rx_0_6, rx_0_7, rx_1_0, rx_1_1, rx_2_3, rx_2_4, rx_2_5, rx_2_6, rx_2_7, rx_2_8, rx_2_9, rx_10_0, rx_10_1, rx_10_2, rx_33_0, rx_33_1, rx_67_0, rx_68_0, rx_197_0, rx_199_5, rx_199_6, rx_199_7, rx_203_0, rx_203_1, rx_203_2, rx_206_0, rx_206_1, rx_206_2, rx_206_3, Option.bind_some, Option.toList_some, Option.toList_none, List.cons_append, List.nil_append, ↓reduceIte, p_138, decide_eq_true hv, zi_bI_t, if_neg h0, if_neg h40], O, Fc.refl h⟩
/-- what lay answers, by lengths -/
def lyC (x y : Int32) (le : Nat → Int32) (v : Int32) : Prop := (¬ (nI 0 ≤ x ∧ x ≤ nI 3) ∧ v = -1) ∨ ∃ k, k ≤ 3 ∧ x = nI k ∧ ((le k < 0 ∧ v = -11) ∨ (¬ le k < 0 ∧ v = if ¬ y < 0 ∧ y < le k then 1 else -12))
theorem c_layv (O : GO h) (x i v : Int32) {u : Value} : ∃ w h', zv 3 128 0 [.ref 0, .int x, .int i, .int v, u] [] h = some (some (.int w), h') ∧ GO h' ∧ Fc h h' ∧ lyC x i (zh_i h 204) w := by
  obtain ⟨S, -⟩ := id O
  by_cases hv : ¬ x < 0 ∧ x < 4
  · obtain ⟨c, hc, rfl⟩ := nI_ex (b := 4) (by decide) hv.1 hv.2
    have go : zv 3 128 0 [.ref 0, .int (nI c), .int i, .int v, u] [] h = (zv 2 24 0 [.ref 203, .int (nI c), .int (zh_i h 205 c), .int i] [] h).bind fun r => zv 3 128 27 [.ref 0, .int (nI c), .int i, .int v, u] (r.1.toList ++ []) r.2 := by
      have : c = 0 ∨ c = 1 ∨ c = 2 ∨ c = 3 := by omega
      rcases this with rfl | rfl | rfl | rfl
      · simp +decide only [b128_0, b128_4, b128_9, S.n, S.k, S.r, hp_n_wi, hp_k_wi, hp_r_wi, hp_n_wl, hp_k_wl, hp_r_wl, hp_n_wb, hp_k_wb, hp_r_wb, zq_rf, kx_0, kx_1, kx_2, kx_3, kx_4, kx_5, kx_6, kx_7, kx_8, kx_9, kx_10, kx_11, kx_12, kx_13, kx_14, kx_15, kx_16, kx_17, kx_33, kx_34, kx_50, kx_66, kx_67, kx_68, kx_69, kx_197, kx_198, kx_199, kx_200, kx_201, kx_202, kx_203, kx_204, kx_205, kx_206, kx_207, kx_208, kx_209, kx_210, rx_0_0, rx_0_1, rx_0_2, rx_0_3, rx_0_4, rx_0_5, rx_0_6, rx_0_7, rx_1_0, rx_1_1, rx_2_3, rx_2_4, rx_2_5, rx_2_6, rx_2_7, rx_2_8, rx_2_9, rx_10_0, rx_10_1, rx_10_2, rx_33_0, rx_33_1, rx_67_0, rx_68_0, rx_197_0, rx_199_5, rx_199_6, rx_199_7, rx_203_0, rx_203_1, rx_203_2, rx_206_0, rx_206_1, rx_206_2, rx_206_3, Option.bind_some, Option.toList_some, Option.toList_none, List.cons_append, List.nil_append, ↓reduceIte, p_138, decide_eq_true hv, zi_bI_t, tc_0]
      · simp +decide only [b128_0, b128_4, b128_9, S.n, S.k, S.r, hp_n_wi, hp_k_wi, hp_r_wi, hp_n_wl, hp_k_wl, hp_r_wl, hp_n_wb, hp_k_wb, hp_r_wb, zq_rf, kx_0, kx_1, kx_2, kx_3, kx_4, kx_5, kx_6, kx_7, kx_8, kx_9, kx_10, kx_11, kx_12, kx_13, kx_14, kx_15, kx_16, kx_17, kx_33, kx_34, kx_50, kx_66, kx_67, kx_68, kx_69, kx_197, kx_198, kx_199, kx_200, kx_201, kx_202, kx_203, kx_204, kx_205, kx_206, kx_207, kx_208, kx_209, kx_210, rx_0_0, rx_0_1, rx_0_2, rx_0_3, rx_0_4, rx_0_5, rx_0_6, rx_0_7, rx_1_0, rx_1_1, rx_2_3, rx_2_4, rx_2_5, rx_2_6, rx_2_7, rx_2_8, rx_2_9, rx_10_0, rx_10_1, rx_10_2, rx_33_0, rx_33_1, rx_67_0, rx_68_0, rx_197_0, rx_199_5, rx_199_6, rx_199_7, rx_203_0, rx_203_1, rx_203_2, rx_206_0, rx_206_1, rx_206_2, rx_206_3, Option.bind_some, Option.toList_some, Option.toList_none, List.cons_append, List.nil_append, ↓reduceIte, p_138, decide_eq_true hv, zi_bI_t, tc_1]
      · simp +decide only [b128_0, b128_4, b128_9, S.n, S.k, S.r, hp_n_wi, hp_k_wi, hp_r_wi, hp_n_wl, hp_k_wl, hp_r_wl, hp_n_wb, hp_k_wb, hp_r_wb, zq_rf, kx_0, kx_1, kx_2, kx_3, kx_4, kx_5, kx_6, kx_7, kx_8, kx_9, kx_10, kx_11, kx_12, kx_13, kx_14, kx_15, kx_16, kx_17, kx_33, kx_34, kx_50, kx_66, kx_67, kx_68, kx_69, kx_197, kx_198, kx_199, kx_200, kx_201, kx_202, kx_203, kx_204, kx_205, kx_206, kx_207, kx_208, kx_209, kx_210, rx_0_0, rx_0_1, rx_0_2, rx_0_3, rx_0_4, rx_0_5, rx_0_6, rx_0_7, rx_1_0, rx_1_1, rx_2_3, rx_2_4, rx_2_5, rx_2_6, rx_2_7, rx_2_8, rx_2_9, rx_10_0, rx_10_1, rx_10_2, rx_33_0, rx_33_1, rx_67_0, rx_68_0, rx_197_0, rx_199_5, rx_199_6, rx_199_7, rx_203_0, rx_203_1, rx_203_2, rx_206_0, rx_206_1, rx_206_2, rx_206_3, Option.bind_some, Option.toList_some, Option.toList_none, List.cons_append, List.nil_append, ↓reduceIte, p_138, decide_eq_true hv, zi_bI_t, tc_2]
      · simp +decide only [b128_0, b128_4, b128_9, S.n, S.k, S.r, hp_n_wi, hp_k_wi, hp_r_wi, hp_n_wl, hp_k_wl, hp_r_wl, hp_n_wb, hp_k_wb, hp_r_wb, zq_rf, kx_0, kx_1, kx_2, kx_3, kx_4, kx_5, kx_6, kx_7, kx_8, kx_9, kx_10, kx_11, kx_12, kx_13, kx_14, kx_15, kx_16, kx_17, kx_33, kx_34, kx_50, kx_66, kx_67, kx_68, kx_69, kx_197, kx_198, kx_199, kx_200, kx_201, kx_202, kx_203, kx_204, kx_205, kx_206, kx_207, kx_208, kx_209, kx_210, rx_0_0, rx_0_1, rx_0_2, rx_0_3, rx_0_4, rx_0_5, rx_0_6, rx_0_7, rx_1_0, rx_1_1, rx_2_3, rx_2_4, rx_2_5, rx_2_6, rx_2_7, rx_2_8, rx_2_9, rx_10_0, rx_10_1, rx_10_2, rx_33_0, rx_33_1, rx_67_0, rx_68_0, rx_197_0, rx_199_5, rx_199_6, rx_199_7, rx_203_0, rx_203_1, rx_203_2, rx_206_0, rx_206_1, rx_206_2, rx_206_3, Option.bind_some, Option.toList_some, Option.toList_none, List.cons_append, List.nil_append, ↓reduceIte, p_138, decide_eq_true hv, zi_bI_t, tc_3]
    obtain ⟨h', e3, O', F'⟩ := s_wr O hc i v
    rw [go, s_fav O hc]
    obtain ⟨w, ew⟩ : ∃ w, w = faV (zh_i h 204 c) (zh_i h 205 c) (zh_i h 205 c) i := ⟨_, rfl⟩
    rw [← ew]
    unfold faV at ew
    rw [if_pos (show zh_i h 205 c = zh_i h 205 c from rfl)] at ew
    by_cases q1 : zh_i h 204 c < 0
    · rw [if_pos q1] at ew
      subst ew
      exact ⟨-11, h, by simp +decide only [b128_27, b128_34, S.n, S.k, S.r, hp_n_wi, hp_k_wi, hp_r_wi, hp_n_wl, hp_k_wl, hp_r_wl, hp_n_wb, hp_k_wb, hp_r_wb, zq_rf, kx_0, kx_1, kx_2, kx_3, kx_4, kx_5, kx_6, kx_7, kx_8, kx_9, kx_10, kx_11, kx_12, kx_13, kx_14, kx_15, kx_16, kx_17, kx_33, kx_34, kx_50, kx_66, kx_67, kx_68, kx_69, kx_197, kx_198, kx_199, kx_200, kx_201, kx_202, kx_203, kx_204, kx_205, kx_206, kx_207, kx_208, kx_209, kx_210, rx_0_0, rx_0_1, rx_0_2, rx_0_3, rx_0_4, rx_0_5, rx_0_6, rx_0_7, rx_1_0, rx_1_1, rx_2_3, rx_2_4, rx_2_5, rx_2_6, rx_2_7, rx_2_8, rx_2_9, rx_10_0, rx_10_1, rx_10_2, rx_33_0, rx_33_1, rx_67_0, rx_68_0, rx_197_0, rx_199_5, rx_199_6, rx_199_7, rx_203_0, rx_203_1, rx_203_2, rx_206_0, rx_206_1, rx_206_2, rx_206_3, Option.bind_some, Option.toList_some, Option.toList_none, List.cons_append, List.nil_append, ↓reduceIte]; rfl, O, Fc.refl h, Or.inr ⟨c, by omega, rfl, Or.inl ⟨q1, rfl⟩⟩⟩
    · rw [if_neg q1] at ew
      by_cases q : ¬ i < 0 ∧ i < zh_i h 204 c
      · rw [if_neg q.1, if_pos q.2] at ew
        subst ew
        exact ⟨1, h', by simp +decide only [b128_27, b128_40, b128_50, S.n, S.k, S.r, hp_n_wi, hp_k_wi, hp_r_wi, hp_n_wl, hp_k_wl, hp_r_wl, hp_n_wb, hp_k_wb, hp_r_wb, zq_rf, kx_0, kx_1, kx_2, kx_3, kx_4, kx_5, kx_6, kx_7, kx_8, kx_9, kx_10, kx_11, kx_12, kx_13, kx_14, kx_15, kx_16, kx_17, kx_33, kx_34, kx_50, kx_66, kx_67, kx_68, kx_69, kx_197, kx_198, kx_199, kx_200, kx_201, kx_202, kx_203, kx_204, kx_205, kx_206, kx_207, kx_208, kx_209, kx_210, rx_0_0, rx_0_1, rx_0_2, rx_0_3, rx_0_4, rx_0_5, rx_0_6, rx_0_7, rx_1_0, rx_1_1, rx_2_3, rx_2_4, rx_2_5, rx_2_6, rx_2_7, rx_2_8, rx_2_9, rx_10_0, rx_10_1, rx_10_2, rx_33_0, rx_33_1, rx_67_0, rx_68_0, rx_197_0, rx_199_5, rx_199_6, rx_199_7, rx_203_0, rx_203_1, rx_203_2, rx_206_0, rx_206_1, rx_206_2, rx_206_3, Option.bind_some, Option.toList_some, Option.toList_none, List.cons_append, List.nil_append, ↓reduceIte, e3], O', F', Or.inr ⟨c, by omega, rfl, Or.inr ⟨q1, by rw [if_pos q]⟩⟩⟩
      · have e2 : w = 2 := by
          rw [ew]
          by_cases q0 : i < 0
          · rw [if_pos q0]
          · rw [if_neg q0, if_neg (fun z => q ⟨q0, z⟩)]
        subst e2
        exact ⟨-12, h, by simp +decide only [b128_27, b128_34, S.n, S.k, S.r, hp_n_wi, hp_k_wi, hp_r_wi, hp_n_wl, hp_k_wl, hp_r_wl, hp_n_wb, hp_k_wb, hp_r_wb, zq_rf, kx_0, kx_1, kx_2, kx_3, kx_4, kx_5, kx_6, kx_7, kx_8, kx_9, kx_10, kx_11, kx_12, kx_13, kx_14, kx_15, kx_16, kx_17, kx_33, kx_34, kx_50, kx_66, kx_67, kx_68, kx_69, kx_197, kx_198, kx_199, kx_200, kx_201, kx_202, kx_203, kx_204, kx_205, kx_206, kx_207, kx_208, kx_209, kx_210, rx_0_0, rx_0_1, rx_0_2, rx_0_3, rx_0_4, rx_0_5, rx_0_6, rx_0_7, rx_1_0, rx_1_1, rx_2_3, rx_2_4, rx_2_5, rx_2_6, rx_2_7, rx_2_8, rx_2_9, rx_10_0, rx_10_1, rx_10_2, rx_33_0, rx_33_1, rx_67_0, rx_68_0, rx_197_0, rx_199_5, rx_199_6, rx_199_7, rx_203_0, rx_203_1, rx_203_2, rx_206_0, rx_206_1, rx_206_2, rx_206_3, Option.bind_some, Option.toList_some, Option.toList_none, List.cons_append, List.nil_append, ↓reduceIte]; rfl, O, Fc.refl h, Or.inr ⟨c, by omega, rfl, Or.inr ⟨q1, by rw [if_neg q]⟩⟩⟩
  · exact ⟨-1, h, by simp +decide only [b128_0, b128_4, b128_7, S.n, S.k, S.r, hp_n_wi, hp_k_wi, hp_r_wi, hp_n_wl, hp_k_wl, hp_r_wl, hp_n_wb, hp_k_wb, hp_r_wb, zq_rf, kx_0, kx_1, kx_2, kx_3, kx_4, kx_5, kx_6, kx_7, kx_8, kx_9, kx_10, kx_11, kx_12, kx_13, kx_14, kx_15, kx_16, kx_17, kx_33, kx_34, kx_50, kx_66, kx_67, kx_68, kx_69, kx_197, kx_198, kx_199, kx_200, kx_201, kx_202, kx_203, kx_204, kx_205, kx_206, kx_207, kx_208, kx_209, kx_210, rx_0_0, rx_0_1, rx_0_2, rx_0_3, rx_0_4, rx_0_5, rx_0_6, rx_0_7, rx_1_0, rx_1_1, rx_2_3, rx_2_4, rx_2_5, rx_2_6, rx_2_7, rx_2_8, rx_2_9, rx_10_0, rx_10_1, rx_10_2, rx_33_0, rx_33_1, rx_67_0, rx_68_0, rx_197_0, rx_199_5, rx_199_6, rx_199_7, rx_203_0, rx_203_1, rx_203_2, rx_206_0, rx_206_1, rx_206_2, rx_206_3, Option.bind_some, Option.toList_some, Option.toList_none, List.cons_append, List.nil_append, ↓reduceIte, p_138, decide_eq_false hv, zi_bI_f], O, Fc.refl h, Or.inl ⟨fun q => hv ((rg (b := 3) (by decide)).mpr q), rfl⟩⟩
theorem c_lay (O : GO h) (x i v : Int32) {u : Value} : CC h (zv 3 128 0 [.ref 0, .int x, .int i, .int v, u] [] h) := by
  obtain ⟨w, h', e, O', F', -⟩ := c_layv O x i v (u := u)
  exact ⟨w, h', e, O', F'⟩
end R33D
end
section
/-! THE CLASS: all rows of steps -/
section R33E
variable {h h1 : zi_Hp} {W : Nat}
theorem CV.tr {o : Option zi_Rt} (F : Fc h h1) (c : CV h1 o) : CV h o := by
  obtain ⟨h', e, O', F'⟩ := c
  exact ⟨h', e, O', F.trans F'⟩
theorem w_100 (O : GO h) (V : Wa W) : ∃ v, zv 1 100 0 [.ref W, .double 0, .double 0] [] h = some (some (.int v), h) := by
  have e := k_ar O.1 V (x := wx h W) (y := wy h W) (u1 := .double 0) (u2 := .double 0)
  rw [zC_wx] at e; exact ⟨_, e⟩
theorem w_101 (O : GO h) (V : Wa W) : ∃ v, zv 2 101 0 [.ref W, .double 0] [] h = some (some (.int v), h) := by
  obtain ⟨b, e, -⟩ := k_dn O.1 V (x := wx h W) (y := wy h W) (u1 := .double 0)
  rw [zC_wx] at e; exact ⟨_, e⟩
theorem w_102 (O : GO h) (V : Wa W) : ∃ v, zv 2 102 0 [.ref W, .double 0] [] h = some (some (.int v), h) := by
  obtain ⟨b, e, -⟩ := k_hu O.1 V (x := wx h W) (y := wy h W) (u1 := .double 0)
  rw [zC_wx] at e; exact ⟨_, e⟩
theorem w_103 (O : GO h) (V : Wa W) (c a : Int32) : ∃ v, zv 2 103 0 [.ref W, .int c, .int a] [] h = some (some (.int v), h) := by
  obtain ⟨b, e, -⟩ := k_ha O.1 V (x := wx h W) (y := wy h W) (v := c) (a := a)
  rw [zC_wx] at e; exact ⟨_, e⟩
section
variable {x2 : Int32} {y3 : Int64}
theorem ta_129 (O : GO h) (V : Wa W) : CV h (zv 3 73 129 [.ref 67, .ref W, .int x2, .long y3, .double 1] [] h) := ⟨h, by rw [b73_129], O, Fc.refl h⟩
theorem ta_118 (O : GO h) (V : Wa W) : CV h (zv 3 73 118 [.ref 67, .ref W, .int x2, .long y3, .double 1] [.ref 67] h) := by
  obtain ⟨S, -⟩ := id O
  rw [b73_118 (by first | (rw [S.n]; decide) | (rw [S.k, kx_67]; done) | (rw [S.n]; have := V.lt; omega) | (rw [wk_0 S V]; done) | (rw [wr_0_0 S V, zq_rf]; done) | (rw [wr_0_0 S V, zq_rf, S.n]; have := V.lt; omega) | (rw [wr_0_0 S V, zq_rf, wk_1 S V])) (by first | (rw [S.n]; decide) | (rw [S.k, kx_67]; done) | (rw [S.n]; have := V.lt; omega) | (rw [wk_0 S V]; done) | (rw [wr_0_0 S V, zq_rf]; done) | (rw [wr_0_0 S V, zq_rf, S.n]; have := V.lt; omega) | (rw [wr_0_0 S V, zq_rf, wk_1 S V]))]
  split
  · rw [b73_124 (by first | (rw [S.n]; decide) | (rw [S.k, kx_67]; done) | (rw [S.n]; have := V.lt; omega) | (rw [wk_0 S V]; done) | (rw [wr_0_0 S V, zq_rf]; done) | (rw [wr_0_0 S V, zq_rf, S.n]; have := V.lt; omega) | (rw [wr_0_0 S V, zq_rf, wk_1 S V])) (by first | (rw [S.n]; decide) | (rw [S.k, kx_67]; done) | (rw [S.n]; have := V.lt; omega) | (rw [wk_0 S V]; done) | (rw [wr_0_0 S V, zq_rf]; done) | (rw [wr_0_0 S V, zq_rf, S.n]; have := V.lt; omega) | (rw [wr_0_0 S V, zq_rf, wk_1 S V]))]
    exact (ta_129 (O.wi wo_67) V).tr (Fc.wi (by decide))
  · exact ta_129 O V
theorem ta_94 (O : GO h) (V : Wa W) {v : Int32} : CV h (zv 3 73 94 [.ref 67, .ref W, .int x2, .long y3, .double 1] [.int v] h) := by
  obtain ⟨S, -⟩ := id O
  rw [b73_94]
  split
  · exact ta_129 O V
  · rw [b73_97 (by first | (rw [S.n]; decide) | (rw [S.k, kx_67]; done) | (rw [S.n]; have := V.lt; omega) | (rw [wk_0 S V]; done) | (rw [wr_0_0 S V, zq_rf]; done) | (rw [wr_0_0 S V, zq_rf, S.n]; have := V.lt; omega) | (rw [wr_0_0 S V, zq_rf, wk_1 S V])) (by first | (rw [S.n]; decide) | (rw [S.k, kx_67]; done) | (rw [S.n]; have := V.lt; omega) | (rw [wk_0 S V]; done) | (rw [wr_0_0 S V, zq_rf]; done) | (rw [wr_0_0 S V, zq_rf, S.n]; have := V.lt; omega) | (rw [wr_0_0 S V, zq_rf, wk_1 S V]))]
    have O1 : GO (zh_wi h 67 6 (zh_i h 67 6 + 1)) := O.wi wo_67
    refine CV.tr (h1 := zh_wi h 67 6 (zh_i h 67 6 + 1)) (Fc.wi (by decide)) ?_
    generalize zh_wi h 67 6 (zh_i h 67 6 + 1) = h1 at O1
    obtain ⟨S, -⟩ := id O1
    rw [b73_109 (by first | (rw [S.n]; decide) | (rw [S.k, kx_67]; done) | (rw [S.n]; have := V.lt; omega) | (rw [wk_0 S V]; done) | (rw [wr_0_0 S V, zq_rf]; done) | (rw [wr_0_0 S V, zq_rf, S.n]; have := V.lt; omega) | (rw [wr_0_0 S V, zq_rf, wk_1 S V])) (by first | (rw [S.n]; decide) | (rw [S.k, kx_67]; done) | (rw [S.n]; have := V.lt; omega) | (rw [wk_0 S V]; done) | (rw [wr_0_0 S V, zq_rf]; done) | (rw [wr_0_0 S V, zq_rf, S.n]; have := V.lt; omega) | (rw [wr_0_0 S V, zq_rf, wk_1 S V])) (by first | (rw [S.n]; decide) | (rw [S.k, kx_67]; done) | (rw [S.n]; have := V.lt; omega) | (rw [wk_0 S V]; done) | (rw [wr_0_0 S V, zq_rf]; done) | (rw [wr_0_0 S V, zq_rf, S.n]; have := V.lt; omega) | (rw [wr_0_0 S V, zq_rf, wk_1 S V])) (by first | (rw [S.n]; decide) | (rw [S.k, kx_67]; done) | (rw [S.n]; have := V.lt; omega) | (rw [wk_0 S V]; done) | (rw [wr_0_0 S V, zq_rf]; done) | (rw [wr_0_0 S V, zq_rf, S.n]; have := V.lt; omega) | (rw [wr_0_0 S V, zq_rf, wk_1 S V]))]
    exact (ta_118 O1.wl V).tr (Fc.wl (by decide))
theorem ta_82 (O : GO h) (V : Wa W) : CV h (zv 3 73 82 [.ref 67, .ref W, .int x2, .long y3, .double 1] [] h) := by
  obtain ⟨S, -⟩ := id O
  obtain ⟨v, e⟩ := w_103 O V (zh_i h 67 11) (zh_i h 67 12)
  rw [b73_82 (by first | (rw [S.n]; decide) | (rw [S.k, kx_67]; done) | (rw [S.n]; have := V.lt; omega) | (rw [wk_0 S V]; done) | (rw [wr_0_0 S V, zq_rf]; done) | (rw [wr_0_0 S V, zq_rf, S.n]; have := V.lt; omega) | (rw [wr_0_0 S V, zq_rf, wk_1 S V])) (by first | (rw [S.n]; decide) | (rw [S.k, kx_67]; done) | (rw [S.n]; have := V.lt; omega) | (rw [wk_0 S V]; done) | (rw [wr_0_0 S V, zq_rf]; done) | (rw [wr_0_0 S V, zq_rf, S.n]; have := V.lt; omega) | (rw [wr_0_0 S V, zq_rf, wk_1 S V])) (by first | (rw [S.n]; decide) | (rw [S.k, kx_67]; done) | (rw [S.n]; have := V.lt; omega) | (rw [wk_0 S V]; done) | (rw [wr_0_0 S V, zq_rf]; done) | (rw [wr_0_0 S V, zq_rf, S.n]; have := V.lt; omega) | (rw [wr_0_0 S V, zq_rf, wk_1 S V])) (by first | (rw [S.n]; decide) | (rw [S.k, kx_67]; done) | (rw [S.n]; have := V.lt; omega) | (rw [wk_0 S V]; done) | (rw [wr_0_0 S V, zq_rf]; done) | (rw [wr_0_0 S V, zq_rf, S.n]; have := V.lt; omega) | (rw [wr_0_0 S V, zq_rf, wk_1 S V])), e]
  simp only [Option.bind_some, Option.toList_some, Option.toList_none, List.cons_append, List.nil_append]
  exact ta_94 O V
theorem ta_69 (O : GO h) (V : Wa W) {v : Int32} : CV h (zv 3 73 69 [.ref 67, .ref W, .int x2, .long y3, .double 1] [.int v] h) := by
  obtain ⟨S, -⟩ := id O
  rw [b73_69]
  split
  · exact ta_82 O V
  · rw [b73_72 (by first | (rw [S.n]; decide) | (rw [S.k, kx_67]; done) | (rw [S.n]; have := V.lt; omega) | (rw [wk_0 S V]; done) | (rw [wr_0_0 S V, zq_rf]; done) | (rw [wr_0_0 S V, zq_rf, S.n]; have := V.lt; omega) | (rw [wr_0_0 S V, zq_rf, wk_1 S V])) (by first | (rw [S.n]; decide) | (rw [S.k, kx_67]; done) | (rw [S.n]; have := V.lt; omega) | (rw [wk_0 S V]; done) | (rw [wr_0_0 S V, zq_rf]; done) | (rw [wr_0_0 S V, zq_rf, S.n]; have := V.lt; omega) | (rw [wr_0_0 S V, zq_rf, wk_1 S V]))]
    exact (ta_82 (O.wi wo_67) V).tr (Fc.wi (by decide))
theorem ta_47 (O : GO h) (V : Wa W) : CV h (zv 3 73 47 [.ref 67, .ref W, .int x2, .long y3, .double 1] [.ref 67, .ref 67] h) := by
  obtain ⟨S, -⟩ := id O
  obtain ⟨v, e⟩ := w_100 O V
  rw [b73_47 (by first | (rw [S.n]; decide) | (rw [S.k, kx_67]; done) | (rw [S.n]; have := V.lt; omega) | (rw [wk_0 S V]; done) | (rw [wr_0_0 S V, zq_rf]; done) | (rw [wr_0_0 S V, zq_rf, S.n]; have := V.lt; omega) | (rw [wr_0_0 S V, zq_rf, wk_1 S V])) (by first | (rw [S.n]; decide) | (rw [S.k, kx_67]; done) | (rw [S.n]; have := V.lt; omega) | (rw [wk_0 S V]; done) | (rw [wr_0_0 S V, zq_rf]; done) | (rw [wr_0_0 S V, zq_rf, S.n]; have := V.lt; omega) | (rw [wr_0_0 S V, zq_rf, wk_1 S V])) (by first | (rw [S.n]; decide) | (rw [S.k, kx_67]; done) | (rw [S.n]; have := V.lt; omega) | (rw [wk_0 S V]; done) | (rw [wr_0_0 S V, zq_rf]; done) | (rw [wr_0_0 S V, zq_rf, S.n]; have := V.lt; omega) | (rw [wr_0_0 S V, zq_rf, wk_1 S V])) (by first | (rw [S.n]; decide) | (rw [S.k, kx_67]; done) | (rw [S.n]; have := V.lt; omega) | (rw [wk_0 S V]; done) | (rw [wr_0_0 S V, zq_rf]; done) | (rw [wr_0_0 S V, zq_rf, S.n]; have := V.lt; omega) | (rw [wr_0_0 S V, zq_rf, wk_1 S V])), e]
  simp only [Option.bind_some, Option.toList_some, Option.toList_none, List.cons_append, List.nil_append]
  rw [b73_54 (by first | (rw [S.n]; decide) | (rw [S.k, kx_67]; done) | (rw [S.n]; have := V.lt; omega) | (rw [wk_0 S V]; done) | (rw [wr_0_0 S V, zq_rf]; done) | (rw [wr_0_0 S V, zq_rf, S.n]; have := V.lt; omega) | (rw [wr_0_0 S V, zq_rf, wk_1 S V])) (by first | (rw [S.n]; decide) | (rw [S.k, kx_67]; done) | (rw [S.n]; have := V.lt; omega) | (rw [wk_0 S V]; done) | (rw [wr_0_0 S V, zq_rf]; done) | (rw [wr_0_0 S V, zq_rf, S.n]; have := V.lt; omega) | (rw [wr_0_0 S V, zq_rf, wk_1 S V])) (by first | (rw [S.n]; decide) | (rw [S.k, kx_67]; done) | (rw [S.n]; have := V.lt; omega) | (rw [wk_0 S V]; done) | (rw [wr_0_0 S V, zq_rf]; done) | (rw [wr_0_0 S V, zq_rf, S.n]; have := V.lt; omega) | (rw [wr_0_0 S V, zq_rf, wk_1 S V])) (by first | (rw [S.n]; decide) | (rw [S.k, kx_67]; done) | (rw [S.n]; have := V.lt; omega) | (rw [wk_0 S V]; done) | (rw [wr_0_0 S V, zq_rf]; done) | (rw [wr_0_0 S V, zq_rf, S.n]; have := V.lt; omega) | (rw [wr_0_0 S V, zq_rf, wk_1 S V])) (by first | (rw [S.n]; decide) | (rw [S.k, kx_67]; done) | (rw [S.n]; have := V.lt; omega) | (rw [wk_0 S V]; done) | (rw [wr_0_0 S V, zq_rf]; done) | (rw [wr_0_0 S V, zq_rf, S.n]; have := V.lt; omega) | (rw [wr_0_0 S V, zq_rf, wk_1 S V])) (by first | (rw [S.n]; decide) | (rw [S.k, kx_67]; done) | (rw [S.n]; have := V.lt; omega) | (rw [wk_0 S V]; done) | (rw [wr_0_0 S V, zq_rf]; done) | (rw [wr_0_0 S V, zq_rf, S.n]; have := V.lt; omega) | (rw [wr_0_0 S V, zq_rf, wk_1 S V]))]
  generalize (if zh_i h 67 4 < v - zh_i h 67 10 then v - zh_i h 67 10 else zh_i h 67 4) = w
  have O1 : GO (zh_wi h 67 4 w) := O.wi wo_67
  obtain ⟨v2, e2⟩ := w_102 O1 V
  rw [e2]
  simp only [Option.bind_some, Option.toList_some, Option.toList_none, List.cons_append, List.nil_append]
  exact (ta_69 O1 V).tr (Fc.wi (by decide))
theorem ta_27 (O : GO h) (V : Wa W) : CV h (zv 3 73 27 [.ref 67, .ref W, .int x2, .long y3, .double 1] [] h) := by
  obtain ⟨S, -⟩ := id O
  rw [b73_27 (by first | (rw [S.n]; decide) | (rw [S.k, kx_67]; done) | (rw [S.n]; have := V.lt; omega) | (rw [wk_0 S V]; done) | (rw [wr_0_0 S V, zq_rf]; done) | (rw [wr_0_0 S V, zq_rf, S.n]; have := V.lt; omega) | (rw [wr_0_0 S V, zq_rf, wk_1 S V])) (by first | (rw [S.n]; decide) | (rw [S.k, kx_67]; done) | (rw [S.n]; have := V.lt; omega) | (rw [wk_0 S V]; done) | (rw [wr_0_0 S V, zq_rf]; done) | (rw [wr_0_0 S V, zq_rf, S.n]; have := V.lt; omega) | (rw [wr_0_0 S V, zq_rf, wk_1 S V])) (by first | (rw [S.n]; decide) | (rw [S.k, kx_67]; done) | (rw [S.n]; have := V.lt; omega) | (rw [wk_0 S V]; done) | (rw [wr_0_0 S V, zq_rf]; done) | (rw [wr_0_0 S V, zq_rf, S.n]; have := V.lt; omega) | (rw [wr_0_0 S V, zq_rf, wk_1 S V])) (by first | (rw [S.n]; decide) | (rw [S.k, kx_67]; done) | (rw [S.n]; have := V.lt; omega) | (rw [wk_0 S V]; done) | (rw [wr_0_0 S V, zq_rf]; done) | (rw [wr_0_0 S V, zq_rf, S.n]; have := V.lt; omega) | (rw [wr_0_0 S V, zq_rf, wk_1 S V])) (by first | (rw [S.n]; decide) | (rw [S.k, kx_67]; done) | (rw [S.n]; have := V.lt; omega) | (rw [wk_0 S V]; done) | (rw [wr_0_0 S V, zq_rf]; done) | (rw [wr_0_0 S V, zq_rf, S.n]; have := V.lt; omega) | (rw [wr_0_0 S V, zq_rf, wk_1 S V])) (by first | (rw [S.n]; decide) | (rw [S.k, kx_67]; done) | (rw [S.n]; have := V.lt; omega) | (rw [wk_0 S V]; done) | (rw [wr_0_0 S V, zq_rf]; done) | (rw [wr_0_0 S V, zq_rf, S.n]; have := V.lt; omega) | (rw [wr_0_0 S V, zq_rf, wk_1 S V])) (by first | (rw [S.n]; decide) | (rw [S.k, kx_67]; done) | (rw [S.n]; have := V.lt; omega) | (rw [wk_0 S V]; done) | (rw [wr_0_0 S V, zq_rf]; done) | (rw [wr_0_0 S V, zq_rf, S.n]; have := V.lt; omega) | (rw [wr_0_0 S V, zq_rf, wk_1 S V]))]
  exact (ta_47 (O.wi wo_67) V).tr (Fc.wi (by decide))
theorem ta_0 (O : GO h) (V : Wa W) : CV h (zv 3 73 0 [.ref 67, .ref W, .int x2, .long y3, .double 1] [] h) := by
  obtain ⟨S, -⟩ := id O
  rw [b73_0 (by first | (rw [S.n]; decide) | (rw [S.k, kx_67]; done) | (rw [S.n]; have := V.lt; omega) | (rw [wk_0 S V]; done) | (rw [wr_0_0 S V, zq_rf]; done) | (rw [wr_0_0 S V, zq_rf, S.n]; have := V.lt; omega) | (rw [wr_0_0 S V, zq_rf, wk_1 S V])) (by first | (rw [S.n]; decide) | (rw [S.k, kx_67]; done) | (rw [S.n]; have := V.lt; omega) | (rw [wk_0 S V]; done) | (rw [wr_0_0 S V, zq_rf]; done) | (rw [wr_0_0 S V, zq_rf, S.n]; have := V.lt; omega) | (rw [wr_0_0 S V, zq_rf, wk_1 S V])) (by first | (rw [S.n]; decide) | (rw [S.k, kx_67]; done) | (rw [S.n]; have := V.lt; omega) | (rw [wk_0 S V]; done) | (rw [wr_0_0 S V, zq_rf]; done) | (rw [wr_0_0 S V, zq_rf, S.n]; have := V.lt; omega) | (rw [wr_0_0 S V, zq_rf, wk_1 S V])) (by first | (rw [S.n]; decide) | (rw [S.k, kx_67]; done) | (rw [S.n]; have := V.lt; omega) | (rw [wk_0 S V]; done) | (rw [wr_0_0 S V, zq_rf]; done) | (rw [wr_0_0 S V, zq_rf, S.n]; have := V.lt; omega) | (rw [wr_0_0 S V, zq_rf, wk_1 S V]))]
  have O1 : GO (zh_wi h 67 1 (zh_i h 67 1 + 1)) := O.wi wo_67
  refine CV.tr (h1 := zh_wi h 67 1 (zh_i h 67 1 + 1)) (Fc.wi (by decide)) ?_
  generalize zh_wi h 67 1 (zh_i h 67 1 + 1) = h1 at O1
  obtain ⟨v, e⟩ := w_101 O1 V
  rw [e]
  simp only [Option.bind_some, Option.toList_some, Option.toList_none, List.cons_append, List.nil_append]
  obtain ⟨S, -⟩ := id O1
  rw [b73_14]
  split
  · exact ta_27 O1 V
  · rw [b73_17 (by first | (rw [S.n]; decide) | (rw [S.k, kx_67]; done) | (rw [S.n]; have := V.lt; omega) | (rw [wk_0 S V]; done) | (rw [wr_0_0 S V, zq_rf]; done) | (rw [wr_0_0 S V, zq_rf, S.n]; have := V.lt; omega) | (rw [wr_0_0 S V, zq_rf, wk_1 S V])) (by first | (rw [S.n]; decide) | (rw [S.k, kx_67]; done) | (rw [S.n]; have := V.lt; omega) | (rw [wk_0 S V]; done) | (rw [wr_0_0 S V, zq_rf]; done) | (rw [wr_0_0 S V, zq_rf, S.n]; have := V.lt; omega) | (rw [wr_0_0 S V, zq_rf, wk_1 S V]))]
    exact (ta_27 (O1.wi wo_67) V).tr (Fc.wi (by decide))
end
theorem st_V {d : Nat} (hd : d < 8) : Wa (69 + 16 * d) := by unfold Wa; omega
theorem st_r (S : Sh h) {d : Nat} (hd : d < 8) : zh_r h 68 d = .ref (69 + 16 * d) := by
  have : d = 0 ∨ d = 1 ∨ d = 2 ∨ d = 3 ∨ d = 4 ∨ d = 5 ∨ d = 6 ∨ d = 7 := by omega
  rcases this with rfl | rfl | rfl | rfl | rfl | rfl | rfl | rfl
  · rw [S.r, rx_68_0]
  · rw [S.r, rx_68_1]
  · rw [S.r, rx_68_2]
  · rw [S.r, rx_68_3]
  · rw [S.r, rx_68_4]
  · rw [S.r, rx_68_5]
  · rw [S.r, rx_68_6]
  · rw [S.r, rx_68_7]
theorem bc_0 : zv 1 242 0 [.int 0] [] h = some (some (.int 0), h) := by rw [b242_0]; rfl
theorem bc_e (x : Int32) : ∃ v, zv 1 242 0 [.int x] [] h = some (some (.int v), h) := ⟨_, by rw [b242_0]⟩
theorem i64_nz {x : Int32} (hx : ¬ x = 0) : ¬ x.toInt64 = 0 := fun q => hx (by
  apply Int32.toInt_inj.mp
  have := congrArg Int64.toInt q
  rw [Int32.toInt_toInt64] at this
  exact this)
/-- the stack's world, and the row's end -/
theorem ex_t (O : GO h) {k d : Nat} (hd : d < 8) (hk : 3 < k) {x2 x6 x7 : Int32} {y3 : Int64} {u8 u9 : Value} : CV h (zv k 72 56 [.ref 67, .int (nI d), .int x2, .long y3, .double 1, .ref (69 + 16 * d), .int x6, .int x7, u8, u9] [] h) := by
  obtain ⟨S, -⟩ := id O
  have V := st_V hd
  obtain ⟨h', e, O', F'⟩ := ta_0 O V (x2 := x2) (y3 := y3)
  rw [b72_56 hk (by first | (rw [S.n]; decide) | (rw [S.k, kx_67]; done) | (rw [S.n]; have := V.lt; omega) | (rw [wk_0 S V]; done) | (rw [wr_0_0 S V, zq_rf]; done) | (rw [wr_0_0 S V, zq_rf, S.n]; have := V.lt; omega) | (rw [wr_0_0 S V, zq_rf, wk_1 S V])) (by first | (rw [S.n]; decide) | (rw [S.k, kx_67]; done) | (rw [S.n]; have := V.lt; omega) | (rw [wk_0 S V]; done) | (rw [wr_0_0 S V, zq_rf]; done) | (rw [wr_0_0 S V, zq_rf, S.n]; have := V.lt; omega) | (rw [wr_0_0 S V, zq_rf, wk_1 S V])), e]
  simp only [Option.bind_some, Option.toList_some, Option.toList_none, List.cons_append, List.nil_append]
  exact ⟨h', by rw [b72_64], O', F'⟩
theorem ex_a (S : Sh h) {k d : Nat} (hd : d < 8) {x2 : Int32} {y3 : Int64} {u5 u6 u7 u8 u9 : Value} : zv k 72 0 [.ref 67, .int (nI d), .int x2, .long y3, .double 1, u5, u6, u7, u8, u9] [] h = if nI d < zh_i h 67 9 then zv k 72 27 [.ref 67, .int (nI d), .int x2, .long y3, .double 1, .ref (69 + 16 * d), u6, u7, u8, u9] [] h else zv k 72 41 [.ref 67, .int (nI d), .int x2, .long y3, .double 1, .ref (69 + 16 * d), u6, u7, u8, u9] [] h := by
  have V := st_V hd
  have r0 : zh_r h 67 0 = .ref 68 := by rw [S.r, rx_67_0]
  have k8 : zh_k h 68 = (103, 8) := by rw [S.k, kx_68]
  have nc : (nI d).toNatClampNeg = d := nI_clamp (by omega)
  rw [b72_0, if_neg (nI_pos (by omega)), b72_4, if_neg (fun q => by rw [show (7 : Int32) = nI 7 from rfl, nI_lt' (by omega) (by omega)] at q; omega), b72_11 (by first | (rw [S.n]; decide) | (rw [S.k, kx_67]; done) | (rw [S.n]; have := V.lt; omega) | (rw [wk_0 S V]; done) | (rw [wr_0_0 S V, zq_rf]; done) | (rw [wr_0_0 S V, zq_rf, S.n]; have := V.lt; omega) | (rw [wr_0_0 S V, zq_rf, wk_1 S V])) (by first | (rw [S.n]; decide) | (rw [S.k, kx_67]; done) | (rw [S.n]; have := V.lt; omega) | (rw [wk_0 S V]; done) | (rw [wr_0_0 S V, zq_rf]; done) | (rw [wr_0_0 S V, zq_rf, S.n]; have := V.lt; omega) | (rw [wr_0_0 S V, zq_rf, wk_1 S V])) (by rw [r0, zq_rf]) (by rw [r0, zq_rf, S.n]; decide) (by rw [r0, zq_rf, k8]; exact zj_n hd (by decide)) (by rw [r0, zq_rf, k8]; exact Or.inl rfl) (by rw [r0, zq_rf, nc, st_r S hd, zq_rf]), r0, zq_rf, nc, st_r S hd, zq_rf]
theorem ex_z (O : GO h) {k d : Nat} (hd : d < 8) (hk : 3 < k) {x2 : Int32} {y3 : Int64} {u6 u7 u8 u9 : Value} : CV h (zv k 72 41 [.ref 67, .int (nI d), .int x2, .long y3, .double 1, .ref (69 + 16 * d), u6, u7, u8, u9] [] h) := by
  rw [b72_41, b72_42 (by omega), bc_0]
  simp only [Option.bind_some, Option.toList_some, Option.toList_none, List.cons_append, List.nil_append]
  rw [b72_49, if_pos rfl]
  exact ex_t O hd hk
theorem ex_g : ∀ e d, d + e = 7 → ∀ {h : zi_Hp}, GO h → ∀ {x2 : Int32} {y3 : Int64} {u5 u6 u7 u8 u9 : Value}, CV h (zv (6 + (8 - d)) 72 0 [.ref 67, .int (nI d), .int x2, .long y3, .double 1, u5, u6, u7, u8, u9] [] h)
  | 0, d, hd, h, O, x2, y3, u5, u6, u7, u8, u9 => by
    have e : d = 7 := by omega
    subst e
    rw [ex_a O.1 (by decide)]
    split
    · rw [b72_27, if_neg (by decide)]
      exact ex_z O (by decide) (by decide)
    · exact ex_z O (by decide) (by decide)
  | e + 1, d, hd, h, O, x2, y3, u5, u6, u7, u8, u9 => by
    obtain ⟨S, G⟩ := id O
    have V := st_V (d := d) (by omega)
    have V2 := st_V (d := d + 1) (by omega)
    have r0 : zh_r h 67 0 = .ref 68 := by rw [S.r, rx_67_0]
    have k8 : zh_k h 68 = (103, 8) := by rw [S.k, kx_68]
    have nc : (nI (d + 1)).toNatClampNeg = d + 1 := nI_clamp (by omega)
    have lp : ∀ q c, c + q = 3 → ∀ {h : zi_Hp}, GO h → ∀ {x6 x7 : Int32}, ¬ x7 = 0 → CV h (zv (6 + (8 - d)) 72 78 [.ref 67, .int (nI d), .int x2, .long y3, .double 1, .ref (69 + 16 * d), .int x6, .int x7, .ref (69 + 16 * (d + 1)), .int (nI c)] [] h) := by
      intro q
      induction q with
      | zero =>
        intro c hc h O x6 x7 h7
        have e : c = 3 := by omega
        subst e
        exact ⟨h, by rw [b72_78, if_neg (by decide), b72_134], O, Fc.refl h⟩
      | succ q ih =>
        intro c hc h O x6 x7 h7
        have nx : ∀ {h : zi_Hp}, GO h → CV h (zv (6 + (8 - d)) 72 128 [.ref 67, .int (nI d), .int x2, .long y3, .double 1, .ref (69 + 16 * d), .int x6, .int x7, .ref (69 + 16 * (d + 1)), .int (nI c)] [] h) := fun {h} O => by
          rw [b72_128, nI_s]; exact ih (c + 1) (by omega) O h7
        rw [b72_78, if_pos (show nI c < 3 from nI_lt (b := 3) (by omega) (by decide)), b72_84]
        split
        · exact nx O
        · obtain ⟨h1, e1, O1, F1⟩ := O.copy V2 V (by omega) (u := .double 0)
          obtain ⟨S1, G1⟩ := id O1
          obtain ⟨cd, x', y', e2, G2⟩ := (G1 _ V2).step S1 V2 (c := c) (by omega) (v2 := .double 0) (v3 := .double 0) (v4 := .double 0)
          rw [zC_wx] at e2
          have O2 : GO (zC h1 (69 + 16 * (d + 1)) x' y') := O1.zC V2 G2
          obtain ⟨h3, e3, O3, F3⟩ := ex_g e (d + 1) (by omega) O2 (x2 := x2 * 10 + nI c) (y3 := y3 / x7.toInt64) (u5 := .double 0) (u6 := .double 0) (u7 := .double 0) (u8 := .double 0) (u9 := .double 0)
          have l2 := V2.lt
          rw [b72_94 (by omega) (by rw [O.1.n]; omega) (by rw [wk_0 O.1 V2]), e1]
          simp only [Option.bind_some, Option.toList_some, Option.toList_none, List.cons_append, List.nil_append]
          rw [b72_101 (by omega) (by rw [S1.n]; omega) (by rw [wk_0 S1 V2]), e2]
          simp only [Option.bind_some, Option.toList_some, Option.toList_none, List.cons_append, List.nil_append]
          rw [b72_108 (i64_nz h7) (by rw [nI_s, nc]; omega), nI_s, nc, e3]
          simp only [Option.bind_some, Option.toList_some, Option.toList_none, List.cons_append, List.nil_append]
          exact (nx O3).tr ((F1.trans (Fc.zC V2)).trans F3)
    rw [ex_a S (by omega)]
    split
    · obtain ⟨s, N, R, M, B, L, m, H, r, K, C, f, I, T⟩ := G _ V
      have em := k_mo S V T I (u1 := .double 0) (u2 := .double 0)
      rw [zC_wx] at em
      obtain ⟨w, ew⟩ := bc_e (h := h) (mbF s)
      rw [b72_27, if_pos (show nI d < 7 from nI_lt (b := 7) (by omega) (by decide)), b72_33 (by omega) (by first | (rw [S.n]; decide) | (rw [S.k, kx_67]; done) | (rw [S.n]; have := V.lt; omega) | (rw [wk_0 S V]; done) | (rw [wr_0_0 S V, zq_rf]; done) | (rw [wr_0_0 S V, zq_rf, S.n]; have := V.lt; omega) | (rw [wr_0_0 S V, zq_rf, wk_1 S V])) (by first | (rw [S.n]; decide) | (rw [S.k, kx_67]; done) | (rw [S.n]; have := V.lt; omega) | (rw [wk_0 S V]; done) | (rw [wr_0_0 S V, zq_rf]; done) | (rw [wr_0_0 S V, zq_rf, S.n]; have := V.lt; omega) | (rw [wr_0_0 S V, zq_rf, wk_1 S V])), em]
      simp only [Option.bind_some, Option.toList_some, Option.toList_none, List.cons_append, List.nil_append]
      rw [b72_38, b72_42 (by omega), ew]
      simp only [Option.bind_some, Option.toList_some, Option.toList_none, List.cons_append, List.nil_append]
      rw [b72_49]
      by_cases h7 : w = 0
      · rw [if_pos h7]; exact ex_t O (by omega) (by omega)
      · have r1 : zh_r h 68 (d + 1) = .ref (69 + 16 * (d + 1)) := st_r S (by omega)
        rw [if_neg h7, b72_65 (by first | (rw [S.n]; decide) | (rw [S.k, kx_67]; done) | (rw [S.n]; have := V.lt; omega) | (rw [wk_0 S V]; done) | (rw [wr_0_0 S V, zq_rf]; done) | (rw [wr_0_0 S V, zq_rf, S.n]; have := V.lt; omega) | (rw [wr_0_0 S V, zq_rf, wk_1 S V])) (by first | (rw [S.n]; decide) | (rw [S.k, kx_67]; done) | (rw [S.n]; have := V.lt; omega) | (rw [wk_0 S V]; done) | (rw [wr_0_0 S V, zq_rf]; done) | (rw [wr_0_0 S V, zq_rf, S.n]; have := V.lt; omega) | (rw [wr_0_0 S V, zq_rf, wk_1 S V])) (by rw [r0, zq_rf]) (by rw [r0, zq_rf, S.n]; decide) (by rw [r0, zq_rf, k8, nI_s]; exact zj_n (by omega) (by decide)) (by rw [r0, zq_rf, k8]; exact Or.inl rfl) (by rw [r0, zq_rf, nI_s, nc, r1, zq_rf]), r0, zq_rf, nI_s, nc, r1, zq_rf]
        exact lp 3 0 rfl O h7
    · exact ex_z O (by omega) (by omega)
end R33E
end
section
/-! THE CLASS: its text is read -/
/-- memory with the tape's and the script's cells -/
def zS (h : zi_Hp) (a p A K F : Nat → Int32) (b : Bool) : zi_Hp := (zh_n h, zh_s h, zh_k h, fun c j => if c = 197 then a j else if c = 199 then p j else if c = 200 then A j else if c = 201 then K j else if c = 202 then F j else zh_i h c j, fun c j => if c = 199 ∧ j = 8 then b else zh_b h c j, zh_l h, zh_r h, zh_L h, zh_x h)
section R33F
variable {h : zi_Hp} {a p A K F : Nat → Int32} {b : Bool}
theorem zS_n : zh_n (zS h a p A K F b) = zh_n h := Eq.trans rfl rfl
theorem zS_k (c : Nat) : zh_k (zS h a p A K F b) c = zh_k h c := Eq.trans rfl rfl
theorem zS_r (c j : Nat) : zh_r (zS h a p A K F b) c j = zh_r h c j := Eq.trans rfl rfl
theorem zS_S (S : Sh h) : Sh (zS h a p A K F b) := S
theorem zS_7 (j : Nat) : zh_i (zS h a p A K F b) 197 j = a j := Eq.trans rfl rfl
theorem zS_9 (j : Nat) : zh_i (zS h a p A K F b) 199 j = p j := Eq.trans rfl rfl
theorem zS_8 (j : Nat) : zh_i (zS h a p A K F b) 198 j = zh_i h 198 j := Eq.trans rfl rfl
theorem zS_A (j : Nat) : zh_i (zS h a p A K F b) 200 j = A j := Eq.trans rfl rfl
theorem zS_K (j : Nat) : zh_i (zS h a p A K F b) 201 j = K j := Eq.trans rfl rfl
theorem zS_F (j : Nat) : zh_i (zS h a p A K F b) 202 j = F j := Eq.trans rfl rfl
theorem zS_b : zh_b (zS h a p A K F b) 199 8 = b := Eq.trans rfl rfl
theorem zS_o {c : Nat} (j : Nat) (h1 : c ≠ 197) (h2 : c ≠ 199) (h3 : c ≠ 200) (h4 : c ≠ 201) (h5 : c ≠ 202) : zh_i (zS h a p A K F b) c j = zh_i h c j := by
  show (if c = 197 then a j else if c = 199 then p j else if c = 200 then A j else if c = 201 then K j else if c = 202 then F j else zh_i h c j) = zh_i h c j
  rw [if_neg h1, if_neg h2, if_neg h3, if_neg h4, if_neg h5]
theorem zS_bo {c : Nat} (j : Nat) (h1 : c ≠ 199) : zh_b (zS h a p A K F b) c j = zh_b h c j := by
  show (if c = 199 ∧ j = 8 then b else zh_b h c j) = zh_b h c j
  rw [if_neg (fun q => h1 q.1)]
theorem zS_id : zS h (zh_i h 197) (zh_i h 199) (zh_i h 200) (zh_i h 201) (zh_i h 202) (zh_b h 199 8) = h := by
  refine zh_ext rfl rfl (fun _ => rfl) (fun c j => ?_) (fun c j => ?_) (fun _ _ => rfl) (fun _ _ => rfl) rfl rfl
  · show (if c = 197 then zh_i h 197 j else if c = 199 then zh_i h 199 j else if c = 200 then zh_i h 200 j else if c = 201 then zh_i h 201 j else if c = 202 then zh_i h 202 j else zh_i h c j) = zh_i h c j
    split
    · rename_i e; rw [e]
    · split
      · rename_i e; rw [e]
      · split
        · rename_i e; rw [e]
        · split
          · rename_i e; rw [e]
          · split
            · rename_i e; rw [e]
            · rfl
  · show (if c = 199 ∧ j = 8 then zh_b h 199 8 else zh_b h c j) = zh_b h c j
    split
    · rename_i e; rw [e.1, e.2]
    · rfl
theorem zS_w {c k : Nat} {v : Int32} {a' p' A' K' F' : Nat → Int32} (ea : ∀ j, (if c = 197 ∧ j = k then v else a j) = a' j) (ep : ∀ j, (if c = 199 ∧ j = k then v else p j) = p' j) (eA : ∀ j, (if c = 200 ∧ j = k then v else A j) = A' j) (eK : ∀ j, (if c = 201 ∧ j = k then v else K j) = K' j) (eF : ∀ j, (if c = 202 ∧ j = k then v else F j) = F' j) (hc : c = 197 ∨ c = 199 ∨ c = 200 ∨ c = 201 ∨ c = 202) : zh_wi (zS h a p A K F b) c k v = zS h a' p' A' K' F' b := by
  refine zh_ext rfl rfl (fun _ => rfl) (fun d j => ?_) (fun _ _ => rfl) (fun _ _ => rfl) (fun _ _ => rfl) rfl rfl
  rw [hp_i_wi]
  by_cases d7 : d = 197
  · subst d7; rw [zS_7, zS_7, ← ea j]; by_cases q : c = 197 ∧ j = k
    · rw [if_pos ⟨q.1.symm, q.2⟩, if_pos q]
    · rw [if_neg (fun w => q ⟨w.1.symm, w.2⟩), if_neg q]
  · by_cases d9 : d = 199
    · subst d9; rw [zS_9, zS_9, ← ep j]; by_cases q : c = 199 ∧ j = k
      · rw [if_pos ⟨q.1.symm, q.2⟩, if_pos q]
      · rw [if_neg (fun w => q ⟨w.1.symm, w.2⟩), if_neg q]
    · by_cases dA : d = 200
      · subst dA; rw [zS_A, zS_A, ← eA j]; by_cases q : c = 200 ∧ j = k
        · rw [if_pos ⟨q.1.symm, q.2⟩, if_pos q]
        · rw [if_neg (fun w => q ⟨w.1.symm, w.2⟩), if_neg q]
      · by_cases dK : d = 201
        · subst dK; rw [zS_K, zS_K, ← eK j]; by_cases q : c = 201 ∧ j = k
          · rw [if_pos ⟨q.1.symm, q.2⟩, if_pos q]
          · rw [if_neg (fun w => q ⟨w.1.symm, w.2⟩), if_neg q]
        · by_cases dF : d = 202
          · subst dF; rw [zS_F, zS_F, ← eF j]; by_cases q : c = 202 ∧ j = k
            · rw [if_pos ⟨q.1.symm, q.2⟩, if_pos q]
            · rw [if_neg (fun w => q ⟨w.1.symm, w.2⟩), if_neg q]
          · rw [zS_o j d7 d9 dA dK dF, zS_o j d7 d9 dA dK dF, if_neg (fun q => by omega)]
theorem nif {α : Type} {c d j k : Nat} {v w : α} (hcd : c ≠ d) : (if c = d ∧ j = k then v else w) = w := if_neg (fun q => hcd q.1)
theorem yif {c j k : Nat} {v : Int32} {f : Nat → Int32} : (if c = c ∧ j = k then v else f j) = up f k v j := by
  unfold up
  by_cases q : j = k
  · rw [if_pos ⟨rfl, q⟩, if_pos q]
  · rw [if_neg (fun w => q w.2), if_neg q]
theorem zS_w7 (k : Nat) (v : Int32) : zh_wi (zS h a p A K F b) 197 k v = zS h (up a k v) p A K F b := zS_w (fun _ => yif) (fun _ => nif (by decide)) (fun _ => nif (by decide)) (fun _ => nif (by decide)) (fun _ => nif (by decide)) (by decide)
theorem zS_w9 (k : Nat) (v : Int32) : zh_wi (zS h a p A K F b) 199 k v = zS h a (up p k v) A K F b := zS_w (fun _ => nif (by decide)) (fun _ => yif) (fun _ => nif (by decide)) (fun _ => nif (by decide)) (fun _ => nif (by decide)) (by decide)
theorem zS_wA (k : Nat) (v : Int32) : zh_wi (zS h a p A K F b) 200 k v = zS h a p (up A k v) K F b := zS_w (fun _ => nif (by decide)) (fun _ => nif (by decide)) (fun _ => yif) (fun _ => nif (by decide)) (fun _ => nif (by decide)) (by decide)
theorem zS_wK (k : Nat) (v : Int32) : zh_wi (zS h a p A K F b) 201 k v = zS h a p A (up K k v) F b := zS_w (fun _ => nif (by decide)) (fun _ => nif (by decide)) (fun _ => nif (by decide)) (fun _ => yif) (fun _ => nif (by decide)) (by decide)
theorem zS_wF (k : Nat) (v : Int32) : zh_wi (zS h a p A K F b) 202 k v = zS h a p A K (up F k v) b := zS_w (fun _ => nif (by decide)) (fun _ => nif (by decide)) (fun _ => nif (by decide)) (fun _ => nif (by decide)) (fun _ => yif) (by decide)
theorem zS_wb (v : Bool) : zh_wb (zS h a p A K F b) 199 8 v = zS h a p A K F v := by
  refine zh_ext rfl rfl (fun _ => rfl) (fun _ _ => rfl) (fun c j => ?_) (fun _ _ => rfl) (fun _ _ => rfl) rfl rfl
  rw [hp_b_wb]
  show (if c = 199 ∧ j = 8 then v else if c = 199 ∧ j = 8 then b else zh_b h c j) = if c = 199 ∧ j = 8 then v else zh_b h c j
  split <;> rfl
/-- the tape while it is read: t bytes, n read -/
def TJ (a : Nat → Int32) (t n : Nat) : Prop := t ≤ 160 ∧ a 1 = nI t ∧ n ≤ t ∧ a 5 = nI n
theorem s_by (S : Sh h) (x : Int32) : ∃ v, zv 1 33 0 [.ref 197, .int x] [] (zS h a p A K F b) = some (some (.int v), zS h a p A K F b) := by
  have g0 : (197 : Nat) < zh_n (zS h a p A K F b) := by rw [zS_n, S.n]; decide
  have g1 : (zh_k (zS h a p A K F b) 197).1 = 3 := by rw [zS_k, S.k, kx_197]
  have out : ∀ {x : Int32}, zv 1 33 28 [.ref 197, .int x] [] (zS h a p A K F b) = some (some (.int (-4)), zS h a p A K F b) := fun {x} => by rw [b33_28, b33_30]
  rw [b33_0]
  by_cases h0 : x < 0
  · exact ⟨_, by rw [if_pos h0, out]⟩
  · rw [if_neg h0, b33_4 g0 g1]
    by_cases h1 : x < zh_i (zS h a p A K F b) 197 1
    · rw [if_pos h1, b33_12]
      by_cases h2 : x < 160
      · obtain ⟨n, hn, rfl⟩ := nI_ex (b := 160) (by decide) h0 h2
        exact ⟨_, by rw [if_pos h2, b33_19 g0 g1 (by rw [zS_r, S.r, rx_197_0, zq_rf]) (by rw [zS_r, S.r, rx_197_0, zq_rf, zS_n, S.n]; decide) (by rw [zS_r, S.r, rx_197_0, zq_rf, zS_k, S.k, kx_198]; exact zj_n hn (by decide)) (by rw [zS_r, S.r, rx_197_0, zq_rf, zS_k, S.k, kx_198]), b33_30]⟩
      · exact ⟨_, by rw [if_neg h2, out]⟩
    · exact ⟨_, by rw [if_neg h1, out]⟩
theorem s_le {x : Int32} : ∃ c : Bool, zv 1 34 0 [.int x] [] h = some (some (.int (zi_bI c)), h) := by
  rw [b34_0]
  by_cases h0 : x < 97
  · exact ⟨false, by rw [if_pos h0, b34_16, b34_17 (Or.inl rfl)]; rfl⟩
  · rw [if_neg h0, b34_6]
    by_cases h1 : 122 < x
    · exact ⟨false, by rw [if_pos h1, b34_16, b34_17 (Or.inl rfl)]; rfl⟩
    · exact ⟨true, by rw [if_neg h1, b34_12, b34_17 (Or.inr rfl)]; rfl⟩
theorem s_fi {x : Int32} : zv 1 35 0 [.int x] [] h = some (some (.int (zi_bI (decide (¬ x < 48 ∧ ¬ 57 < x)))), h) := by
  rw [b35_0]
  by_cases h0 : x < 48
  · rw [if_pos h0, b35_16, b35_17 (Or.inl rfl), decide_eq_false (fun q => q.1 h0)]; rfl
  · rw [if_neg h0, b35_6]
    by_cases h1 : 57 < x
    · rw [if_pos h1, b35_16, b35_17 (Or.inl rfl), decide_eq_false (fun q => q.2 h1)]; rfl
    · rw [if_neg h1, b35_12, b35_17 (Or.inr rfl), decide_eq_true ⟨h0, h1⟩]; rfl
end R33F
end
section
/-! THE CLASS: rows, answers, first, chance; read -/
section R33G
variable {h h1 : zi_Hp}
theorem w_sv (O : GO h) (x2 x3 x4 : Int32) : CV h (zv 16 71 0 [.ref 67, .ref 1, .int x2, .int x3, .int x4] [] h) := by
  obtain ⟨S, -⟩ := id O
  have V := V1
  rw [b71_0 (by first | (rw [S.n]; decide) | (rw [S.k, kx_67]; done) | (rw [S.n]; have := V.lt; omega) | (rw [wk_0 S V]; done) | (rw [wr_0_0 S V, zq_rf]; done) | (rw [wr_0_0 S V, zq_rf, S.n]; have := V.lt; omega) | (rw [wr_0_0 S V, zq_rf, wk_1 S V])) (by first | (rw [S.n]; decide) | (rw [S.k, kx_67]; done) | (rw [S.n]; have := V.lt; omega) | (rw [wk_0 S V]; done) | (rw [wr_0_0 S V, zq_rf]; done) | (rw [wr_0_0 S V, zq_rf, S.n]; have := V.lt; omega) | (rw [wr_0_0 S V, zq_rf, wk_1 S V])) (by first | (rw [S.n]; decide) | (rw [S.k, kx_67]; done) | (rw [S.n]; have := V.lt; omega) | (rw [wk_0 S V]; done) | (rw [wr_0_0 S V, zq_rf]; done) | (rw [wr_0_0 S V, zq_rf, S.n]; have := V.lt; omega) | (rw [wr_0_0 S V, zq_rf, wk_1 S V])) (by first | (rw [S.n]; decide) | (rw [S.k, kx_67]; done) | (rw [S.n]; have := V.lt; omega) | (rw [wk_0 S V]; done) | (rw [wr_0_0 S V, zq_rf]; done) | (rw [wr_0_0 S V, zq_rf, S.n]; have := V.lt; omega) | (rw [wr_0_0 S V, zq_rf, wk_1 S V]))]
  obtain ⟨h0, eh0⟩ : ∃ h0, h0 = zh_wi (zh_wl (zh_wi (zh_wi (zh_wi (zh_wi (zh_wi (zh_wi (zh_wi h 67 1 0) 67 2 0) 67 3 0) 67 4 0) 67 5 0) 67 6 0) 67 7 (-4)) 67 8 0) 67 9 (if 7 < x2 then 7 else x2) := ⟨_, rfl⟩
  have O0 : GO h0 := by
    rw [eh0]; exact (((((((((O.wi wo_67).wi wo_67).wi wo_67).wi wo_67).wi wo_67).wi wo_67).wi wo_67).wl).wi wo_67)
  have F0 : Fc h h0 := by
    rw [eh0]
    exact ((((((((Fc.wi (by decide)).trans (Fc.wi (by decide))).trans (Fc.wi (by decide))).trans (Fc.wi (by decide))).trans (Fc.wi (by decide))).trans (Fc.wi (by decide))).trans (Fc.wi (by decide))).trans (Fc.wl (by decide))).trans (Fc.wi (by decide))
  rw [← eh0]
  obtain ⟨v, e⟩ := w_100 O0 V1
  rw [e]
  simp only [Option.bind_some, Option.toList_some, Option.toList_none, List.cons_append, List.nil_append]
  obtain ⟨S0, -⟩ := id O0
  have r0 : zh_r h0 67 0 = .ref 68 := by rw [S0.r, rx_67_0]
  have k8 : zh_k h0 68 = (103, 8) := by rw [S0.k, kx_68]
  have r1 : zh_r h0 68 0 = .ref 69 := by rw [S0.r, rx_68_0]
  have k9 : zh_k h0 69 = (6, 2) := by rw [S0.k, kx_69]
  have n0 : (67 : Nat) < zh_n h0 := by rw [S0.n]; decide
  have k7 : (zh_k h0 67).1 = 5 := by rw [S0.k, kx_67]
  rw [b71_56 n0 k7 n0 k7 (by rw [r0, zq_rf]) (by rw [r0, zq_rf, S0.n]; decide) (by rw [r0, zq_rf, k8]; decide) (by rw [r0, zq_rf, k8]; exact Or.inl rfl) (by rw [r0, zq_rf, r1, zq_rf]) (by rw [r0, zq_rf, r1, zq_rf, S0.n]; decide) (by rw [r0, zq_rf, r1, zq_rf, k9]), r0, zq_rf, r1, zq_rf]
  have O1 : GO (zh_wi (zh_wi (zh_wi h0 67 10 v) 67 11 x3) 67 12 x4) := ((O0.wi wo_67).wi wo_67).wi wo_67
  have F1 : Fc h0 (zh_wi (zh_wi (zh_wi h0 67 10 v) 67 11 x3) 67 12 x4) := ((Fc.wi (by decide)).trans (Fc.wi (by decide))).trans (Fc.wi (by decide))
  obtain ⟨h2, e2, O2, F2⟩ := O1.copy (W := 69) (U := 1) (st_V (d := 0) (by decide)) V1 (by decide) (u := .double 0)
  obtain ⟨h3, e3, O3, F3⟩ := ex_g 7 0 rfl O2 (x2 := 1) (y3 := 279936) (u5 := .double 0) (u6 := .double 0) (u7 := .double 0) (u8 := .double 0) (u9 := .double 0)
  have e3' : zv 14 72 0 [.ref 67, .int 0, .int 1, .long 279936, .double 1, .double 0, .double 0, .double 0, .double 0, .double 0] [] h2 = some (none, h3) := e3
  rw [e2]
  simp only [Option.bind_some, Option.toList_some, Option.toList_none, List.cons_append, List.nil_append]
  rw [b71_80, e3']
  simp only [Option.bind_some, Option.toList_some, Option.toList_none, List.cons_append, List.nil_append]
  exact ⟨h3, by rw [b71_89], O3, ((F0.trans F1).trans F2).trans F3⟩
theorem c_rows (O : GO h) (x w : Int32) : CC h (zv 17 119 0 [.ref 0, .int x, .int w] [] h) := by
  obtain ⟨S, -⟩ := id O
  by_cases hv : ¬ x < 0 ∧ ¬ 7 < x
  · by_cases h0 : w < 0
    · refine CC.same O ?_
      simp +decide only [b119_0, b119_4, b119_7, b119_16, S.n, S.k, S.r, hp_n_wi, hp_k_wi, hp_r_wi, hp_n_wl, hp_k_wl, hp_r_wl, hp_n_wb, hp_k_wb, hp_r_wb, zq_rf, kx_0, kx_1, kx_2, kx_3, kx_4, kx_5, kx_6, kx_7, kx_8, kx_9, kx_10, kx_11, kx_12, kx_13, kx_14, kx_15, kx_16, kx_17, kx_33, kx_34, kx_50, kx_66, kx_67, kx_68, kx_69, kx_197, kx_198, kx_199, kx_200, kx_201, kx_202, kx_203, kx_204, kx_205, kx_206, kx_207, kx_208, kx_209, kx_210, rx_0_0, rx_0_1, rx_0_2, rx_0_3, rx_0_4, rx_0_5, rx_0_6, rx_0_7, rx_1_0, rx_1_1, rx_2_3, rx_2_4, rx_2_5, rx_2_6, rx_2_7, rx_2_8, rx_2_9, rx_10_0, rx_10_1, rx_10_2, rx_33_0, rx_33_1, rx_67_0, rx_68_0, rx_197_0, rx_199_5, rx_199_6, rx_199_7, rx_203_0, rx_203_1, rx_203_2, rx_206_0, rx_206_1, rx_206_2, rx_206_3, Option.bind_some, Option.toList_some, Option.toList_none, List.cons_append, List.nil_append, ↓reduceIte, p_135, decide_eq_true hv, zi_bI_t, if_pos h0]; exact ⟨_, rfl⟩
    · by_cases h4 : 4 < w
      · refine CC.same O ?_
        simp +decide only [b119_0, b119_4, b119_7, b119_11, b119_16, S.n, S.k, S.r, hp_n_wi, hp_k_wi, hp_r_wi, hp_n_wl, hp_k_wl, hp_r_wl, hp_n_wb, hp_k_wb, hp_r_wb, zq_rf, kx_0, kx_1, kx_2, kx_3, kx_4, kx_5, kx_6, kx_7, kx_8, kx_9, kx_10, kx_11, kx_12, kx_13, kx_14, kx_15, kx_16, kx_17, kx_33, kx_34, kx_50, kx_66, kx_67, kx_68, kx_69, kx_197, kx_198, kx_199, kx_200, kx_201, kx_202, kx_203, kx_204, kx_205, kx_206, kx_207, kx_208, kx_209, kx_210, rx_0_0, rx_0_1, rx_0_2, rx_0_3, rx_0_4, rx_0_5, rx_0_6, rx_0_7, rx_1_0, rx_1_1, rx_2_3, rx_2_4, rx_2_5, rx_2_6, rx_2_7, rx_2_8, rx_2_9, rx_10_0, rx_10_1, rx_10_2, rx_33_0, rx_33_1, rx_67_0, rx_68_0, rx_197_0, rx_199_5, rx_199_6, rx_199_7, rx_203_0, rx_203_1, rx_203_2, rx_206_0, rx_206_1, rx_206_2, rx_206_3, Option.bind_some, Option.toList_some, Option.toList_none, List.cons_append, List.nil_append, ↓reduceIte, p_135, decide_eq_true hv, zi_bI_t, if_neg h0, if_pos h4]; exact ⟨_, rfl⟩
      · obtain ⟨h', e, O', F'⟩ := w_sv O x (-4) (-4)
        have go : zv 17 119 0 [.ref 0, .int x, .int w] [] h = zv 17 119 34 [.ref 0, .int x, .int w] [] h' := by
          simp +decide only [b119_0, b119_4, b119_7, b119_11, b119_18, S.n, S.k, S.r, hp_n_wi, hp_k_wi, hp_r_wi, hp_n_wl, hp_k_wl, hp_r_wl, hp_n_wb, hp_k_wb, hp_r_wb, zq_rf, kx_0, kx_1, kx_2, kx_3, kx_4, kx_5, kx_6, kx_7, kx_8, kx_9, kx_10, kx_11, kx_12, kx_13, kx_14, kx_15, kx_16, kx_17, kx_33, kx_34, kx_50, kx_66, kx_67, kx_68, kx_69, kx_197, kx_198, kx_199, kx_200, kx_201, kx_202, kx_203, kx_204, kx_205, kx_206, kx_207, kx_208, kx_209, kx_210, rx_0_0, rx_0_1, rx_0_2, rx_0_3, rx_0_4, rx_0_5, rx_0_6, rx_0_7, rx_1_0, rx_1_1, rx_2_3, rx_2_4, rx_2_5, rx_2_6, rx_2_7, rx_2_8, rx_2_9, rx_10_0, rx_10_1, rx_10_2, rx_33_0, rx_33_1, rx_67_0, rx_68_0, rx_197_0, rx_199_5, rx_199_6, rx_199_7, rx_203_0, rx_203_1, rx_203_2, rx_206_0, rx_206_1, rx_206_2, rx_206_3, Option.bind_some, Option.toList_some, Option.toList_none, List.cons_append, List.nil_append, ↓reduceIte, p_135, decide_eq_true hv, zi_bI_t, if_neg h0, if_neg h4, e]
        rw [go]
        obtain ⟨n, hn, rfl⟩ := nI_ex' (b := 4) (by decide) h0 h4
        have fin : ∃ v, zv 17 119 34 [.ref 0, .int x, .int (nI n)] [] h' = some (some (.int v), h') := by
          obtain ⟨S, -⟩ := id O'
          have : n = 0 ∨ n = 1 ∨ n = 2 ∨ n = 3 ∨ n = 4 := by omega
          rcases this with rfl | rfl | rfl | rfl | rfl
          · rw [b119_34_c0 (x2 := nI 0) rfl]; simp +decide only [b119_64, S.n, S.k, S.r, hp_n_wi, hp_k_wi, hp_r_wi, hp_n_wl, hp_k_wl, hp_r_wl, hp_n_wb, hp_k_wb, hp_r_wb, zq_rf, kx_0, kx_1, kx_2, kx_3, kx_4, kx_5, kx_6, kx_7, kx_8, kx_9, kx_10, kx_11, kx_12, kx_13, kx_14, kx_15, kx_16, kx_17, kx_33, kx_34, kx_50, kx_66, kx_67, kx_68, kx_69, kx_197, kx_198, kx_199, kx_200, kx_201, kx_202, kx_203, kx_204, kx_205, kx_206, kx_207, kx_208, kx_209, kx_210, rx_0_0, rx_0_1, rx_0_2, rx_0_3, rx_0_4, rx_0_5, rx_0_6, rx_0_7, rx_1_0, rx_1_1, rx_2_3, rx_2_4, rx_2_5, rx_2_6, rx_2_7, rx_2_8, rx_2_9, rx_10_0, rx_10_1, rx_10_2, rx_33_0, rx_33_1, rx_67_0, rx_68_0, rx_197_0, rx_199_5, rx_199_6, rx_199_7, rx_203_0, rx_203_1, rx_203_2, rx_206_0, rx_206_1, rx_206_2, rx_206_3, Option.bind_some, Option.toList_some, Option.toList_none, List.cons_append, List.nil_append, ↓reduceIte]; exact ⟨_, rfl⟩
          · rw [b119_34_c1 (x2 := nI 1) rfl]; simp +decide only [b119_72, S.n, S.k, S.r, hp_n_wi, hp_k_wi, hp_r_wi, hp_n_wl, hp_k_wl, hp_r_wl, hp_n_wb, hp_k_wb, hp_r_wb, zq_rf, kx_0, kx_1, kx_2, kx_3, kx_4, kx_5, kx_6, kx_7, kx_8, kx_9, kx_10, kx_11, kx_12, kx_13, kx_14, kx_15, kx_16, kx_17, kx_33, kx_34, kx_50, kx_66, kx_67, kx_68, kx_69, kx_197, kx_198, kx_199, kx_200, kx_201, kx_202, kx_203, kx_204, kx_205, kx_206, kx_207, kx_208, kx_209, kx_210, rx_0_0, rx_0_1, rx_0_2, rx_0_3, rx_0_4, rx_0_5, rx_0_6, rx_0_7, rx_1_0, rx_1_1, rx_2_3, rx_2_4, rx_2_5, rx_2_6, rx_2_7, rx_2_8, rx_2_9, rx_10_0, rx_10_1, rx_10_2, rx_33_0, rx_33_1, rx_67_0, rx_68_0, rx_197_0, rx_199_5, rx_199_6, rx_199_7, rx_203_0, rx_203_1, rx_203_2, rx_206_0, rx_206_1, rx_206_2, rx_206_3, Option.bind_some, Option.toList_some, Option.toList_none, List.cons_append, List.nil_append, ↓reduceIte]; exact ⟨_, rfl⟩
          · rw [b119_34_c2 (x2 := nI 2) rfl]; simp +decide only [b119_80, S.n, S.k, S.r, hp_n_wi, hp_k_wi, hp_r_wi, hp_n_wl, hp_k_wl, hp_r_wl, hp_n_wb, hp_k_wb, hp_r_wb, zq_rf, kx_0, kx_1, kx_2, kx_3, kx_4, kx_5, kx_6, kx_7, kx_8, kx_9, kx_10, kx_11, kx_12, kx_13, kx_14, kx_15, kx_16, kx_17, kx_33, kx_34, kx_50, kx_66, kx_67, kx_68, kx_69, kx_197, kx_198, kx_199, kx_200, kx_201, kx_202, kx_203, kx_204, kx_205, kx_206, kx_207, kx_208, kx_209, kx_210, rx_0_0, rx_0_1, rx_0_2, rx_0_3, rx_0_4, rx_0_5, rx_0_6, rx_0_7, rx_1_0, rx_1_1, rx_2_3, rx_2_4, rx_2_5, rx_2_6, rx_2_7, rx_2_8, rx_2_9, rx_10_0, rx_10_1, rx_10_2, rx_33_0, rx_33_1, rx_67_0, rx_68_0, rx_197_0, rx_199_5, rx_199_6, rx_199_7, rx_203_0, rx_203_1, rx_203_2, rx_206_0, rx_206_1, rx_206_2, rx_206_3, Option.bind_some, Option.toList_some, Option.toList_none, List.cons_append, List.nil_append, ↓reduceIte]; exact ⟨_, rfl⟩
          · rw [b119_34_c3 (x2 := nI 3) rfl]; simp +decide only [b119_88, S.n, S.k, S.r, hp_n_wi, hp_k_wi, hp_r_wi, hp_n_wl, hp_k_wl, hp_r_wl, hp_n_wb, hp_k_wb, hp_r_wb, zq_rf, kx_0, kx_1, kx_2, kx_3, kx_4, kx_5, kx_6, kx_7, kx_8, kx_9, kx_10, kx_11, kx_12, kx_13, kx_14, kx_15, kx_16, kx_17, kx_33, kx_34, kx_50, kx_66, kx_67, kx_68, kx_69, kx_197, kx_198, kx_199, kx_200, kx_201, kx_202, kx_203, kx_204, kx_205, kx_206, kx_207, kx_208, kx_209, kx_210, rx_0_0, rx_0_1, rx_0_2, rx_0_3, rx_0_4, rx_0_5, rx_0_6, rx_0_7, rx_1_0, rx_1_1, rx_2_3, rx_2_4, rx_2_5, rx_2_6, rx_2_7, rx_2_8, rx_2_9, rx_10_0, rx_10_1, rx_10_2, rx_33_0, rx_33_1, rx_67_0, rx_68_0, rx_197_0, rx_199_5, rx_199_6, rx_199_7, rx_203_0, rx_203_1, rx_203_2, rx_206_0, rx_206_1, rx_206_2, rx_206_3, Option.bind_some, Option.toList_some, Option.toList_none, List.cons_append, List.nil_append, ↓reduceIte]; exact ⟨_, rfl⟩
          · rw [b119_34_d (x2 := nI 4) (Or.inr (by decide))]; simp +decide only [b119_96, S.n, S.k, S.r, hp_n_wi, hp_k_wi, hp_r_wi, hp_n_wl, hp_k_wl, hp_r_wl, hp_n_wb, hp_k_wb, hp_r_wb, zq_rf, kx_0, kx_1, kx_2, kx_3, kx_4, kx_5, kx_6, kx_7, kx_8, kx_9, kx_10, kx_11, kx_12, kx_13, kx_14, kx_15, kx_16, kx_17, kx_33, kx_34, kx_50, kx_66, kx_67, kx_68, kx_69, kx_197, kx_198, kx_199, kx_200, kx_201, kx_202, kx_203, kx_204, kx_205, kx_206, kx_207, kx_208, kx_209, kx_210, rx_0_0, rx_0_1, rx_0_2, rx_0_3, rx_0_4, rx_0_5, rx_0_6, rx_0_7, rx_1_0, rx_1_1, rx_2_3, rx_2_4, rx_2_5, rx_2_6, rx_2_7, rx_2_8, rx_2_9, rx_10_0, rx_10_1, rx_10_2, rx_33_0, rx_33_1, rx_67_0, rx_68_0, rx_197_0, rx_199_5, rx_199_6, rx_199_7, rx_203_0, rx_203_1, rx_203_2, rx_206_0, rx_206_1, rx_206_2, rx_206_3, Option.bind_some, Option.toList_some, Option.toList_none, List.cons_append, List.nil_append, ↓reduceIte]; exact ⟨_, rfl⟩
        obtain ⟨v, ev⟩ := fin
        exact ⟨v, h', ev, O', F'⟩
  · refine CC.same O ?_
    simp +decide only [b119_0, b119_4, b119_16, S.n, S.k, S.r, hp_n_wi, hp_k_wi, hp_r_wi, hp_n_wl, hp_k_wl, hp_r_wl, hp_n_wb, hp_k_wb, hp_r_wb, zq_rf, kx_0, kx_1, kx_2, kx_3, kx_4, kx_5, kx_6, kx_7, kx_8, kx_9, kx_10, kx_11, kx_12, kx_13, kx_14, kx_15, kx_16, kx_17, kx_33, kx_34, kx_50, kx_66, kx_67, kx_68, kx_69, kx_197, kx_198, kx_199, kx_200, kx_201, kx_202, kx_203, kx_204, kx_205, kx_206, kx_207, kx_208, kx_209, kx_210, rx_0_0, rx_0_1, rx_0_2, rx_0_3, rx_0_4, rx_0_5, rx_0_6, rx_0_7, rx_1_0, rx_1_1, rx_2_3, rx_2_4, rx_2_5, rx_2_6, rx_2_7, rx_2_8, rx_2_9, rx_10_0, rx_10_1, rx_10_2, rx_33_0, rx_33_1, rx_67_0, rx_68_0, rx_197_0, rx_199_5, rx_199_6, rx_199_7, rx_203_0, rx_203_1, rx_203_2, rx_206_0, rx_206_1, rx_206_2, rx_206_3, Option.bind_some, Option.toList_some, Option.toList_none, List.cons_append, List.nil_append, ↓reduceIte, p_135, decide_eq_false hv, zi_bI_f]; exact ⟨_, rfl⟩
theorem c_answers (O : GO h) (x w z : Int32) : CC h (zv 17 120 0 [.ref 0, .int x, .int w, .int z] [] h) := by
  obtain ⟨S, -⟩ := id O
  by_cases hv : ¬ x < 0 ∧ x < 3
  · by_cases hw : ¬ w < 0 ∧ ¬ 7 < w
    · by_cases hz : z = 0 ∨ z = 1
      · obtain ⟨h', e, O', F'⟩ := w_sv O w x z
        have go : zv 17 120 0 [.ref 0, .int x, .int w, .int z] [] h = zv 17 120 37 [.ref 0, .int x, .int w, .int z] [] h' := by
          simp +decide only [b120_0, b120_4, b120_7, b120_11, b120_14, b120_18, b120_23, S.n, S.k, S.r, hp_n_wi, hp_k_wi, hp_r_wi, hp_n_wl, hp_k_wl, hp_r_wl, hp_n_wb, hp_k_wb, hp_r_wb, zq_rf, kx_0, kx_1, kx_2, kx_3, kx_4, kx_5, kx_6, kx_7, kx_8, kx_9, kx_10, kx_11, kx_12, kx_13, kx_14, kx_15, kx_16, kx_17, kx_33, kx_34, kx_50, kx_66, kx_67, kx_68, kx_69, kx_197, kx_198, kx_199, kx_200, kx_201, kx_202, kx_203, kx_204, kx_205, kx_206, kx_207, kx_208, kx_209, kx_210, rx_0_0, rx_0_1, rx_0_2, rx_0_3, rx_0_4, rx_0_5, rx_0_6, rx_0_7, rx_1_0, rx_1_1, rx_2_3, rx_2_4, rx_2_5, rx_2_6, rx_2_7, rx_2_8, rx_2_9, rx_10_0, rx_10_1, rx_10_2, rx_33_0, rx_33_1, rx_67_0, rx_68_0, rx_197_0, rx_199_5, rx_199_6, rx_199_7, rx_203_0, rx_203_1, rx_203_2, rx_206_0, rx_206_1, rx_206_2, rx_206_3, Option.bind_some, Option.toList_some, Option.toList_none, List.cons_append, List.nil_append, ↓reduceIte, p_133, p_135, p_136, decide_eq_true hv, decide_eq_true hw, decide_eq_true hz, zi_bI_t, e]
        have fin : ∃ v, zv 17 120 37 [.ref 0, .int x, .int w, .int z] [] h' = some (some (.int v), h') := by
          obtain ⟨S, -⟩ := id O'
          simp +decide only [b120_37, S.n, S.k, S.r, hp_n_wi, hp_k_wi, hp_r_wi, hp_n_wl, hp_k_wl, hp_r_wl, hp_n_wb, hp_k_wb, hp_r_wb, zq_rf, kx_0, kx_1, kx_2, kx_3, kx_4, kx_5, kx_6, kx_7, kx_8, kx_9, kx_10, kx_11, kx_12, kx_13, kx_14, kx_15, kx_16, kx_17, kx_33, kx_34, kx_50, kx_66, kx_67, kx_68, kx_69, kx_197, kx_198, kx_199, kx_200, kx_201, kx_202, kx_203, kx_204, kx_205, kx_206, kx_207, kx_208, kx_209, kx_210, rx_0_0, rx_0_1, rx_0_2, rx_0_3, rx_0_4, rx_0_5, rx_0_6, rx_0_7, rx_1_0, rx_1_1, rx_2_3, rx_2_4, rx_2_5, rx_2_6, rx_2_7, rx_2_8, rx_2_9, rx_10_0, rx_10_1, rx_10_2, rx_33_0, rx_33_1, rx_67_0, rx_68_0, rx_197_0, rx_199_5, rx_199_6, rx_199_7, rx_203_0, rx_203_1, rx_203_2, rx_206_0, rx_206_1, rx_206_2, rx_206_3, Option.bind_some, Option.toList_some, Option.toList_none, List.cons_append, List.nil_append, ↓reduceIte]; exact ⟨_, rfl⟩
        obtain ⟨v, ev⟩ := fin
        exact ⟨v, h', by rw [go, ev], O', F'⟩
      · refine CC.same O ?_
        simp +decide only [b120_0, b120_4, b120_7, b120_11, b120_14, b120_18, b120_21, S.n, S.k, S.r, hp_n_wi, hp_k_wi, hp_r_wi, hp_n_wl, hp_k_wl, hp_r_wl, hp_n_wb, hp_k_wb, hp_r_wb, zq_rf, kx_0, kx_1, kx_2, kx_3, kx_4, kx_5, kx_6, kx_7, kx_8, kx_9, kx_10, kx_11, kx_12, kx_13, kx_14, kx_15, kx_16, kx_17, kx_33, kx_34, kx_50, kx_66, kx_67, kx_68, kx_69, kx_197, kx_198, kx_199, kx_200, kx_201, kx_202, kx_203, kx_204, kx_205, kx_206, kx_207, kx_208, kx_209, kx_210, rx_0_0, rx_0_1, rx_0_2, rx_0_3, rx_0_4, rx_0_5, rx_0_6, rx_0_7, rx_1_0, rx_1_1, rx_2_3, rx_2_4, rx_2_5, rx_2_6, rx_2_7, rx_2_8, rx_2_9, rx_10_0, rx_10_1, rx_10_2, rx_33_0, rx_33_1, rx_67_0, rx_68_0, rx_197_0, rx_199_5, rx_199_6, rx_199_7, rx_203_0, rx_203_1, rx_203_2, rx_206_0, rx_206_1, rx_206_2, rx_206_3, Option.bind_some, Option.toList_some, Option.toList_none, List.cons_append, List.nil_append, ↓reduceIte, p_133, p_135, p_136, decide_eq_true hv, decide_eq_true hw, decide_eq_false hz, zi_bI_t, zi_bI_f]; exact ⟨_, rfl⟩
    · refine CC.same O ?_
      simp +decide only [b120_0, b120_4, b120_7, b120_11, b120_21, S.n, S.k, S.r, hp_n_wi, hp_k_wi, hp_r_wi, hp_n_wl, hp_k_wl, hp_r_wl, hp_n_wb, hp_k_wb, hp_r_wb, zq_rf, kx_0, kx_1, kx_2, kx_3, kx_4, kx_5, kx_6, kx_7, kx_8, kx_9, kx_10, kx_11, kx_12, kx_13, kx_14, kx_15, kx_16, kx_17, kx_33, kx_34, kx_50, kx_66, kx_67, kx_68, kx_69, kx_197, kx_198, kx_199, kx_200, kx_201, kx_202, kx_203, kx_204, kx_205, kx_206, kx_207, kx_208, kx_209, kx_210, rx_0_0, rx_0_1, rx_0_2, rx_0_3, rx_0_4, rx_0_5, rx_0_6, rx_0_7, rx_1_0, rx_1_1, rx_2_3, rx_2_4, rx_2_5, rx_2_6, rx_2_7, rx_2_8, rx_2_9, rx_10_0, rx_10_1, rx_10_2, rx_33_0, rx_33_1, rx_67_0, rx_68_0, rx_197_0, rx_199_5, rx_199_6, rx_199_7, rx_203_0, rx_203_1, rx_203_2, rx_206_0, rx_206_1, rx_206_2, rx_206_3, Option.bind_some, Option.toList_some, Option.toList_none, List.cons_append, List.nil_append, ↓reduceIte, p_133, p_135, decide_eq_true hv, decide_eq_false hw, zi_bI_t, zi_bI_f]; exact ⟨_, rfl⟩
  · refine CC.same O ?_
    simp +decide only [b120_0, b120_4, b120_21, S.n, S.k, S.r, hp_n_wi, hp_k_wi, hp_r_wi, hp_n_wl, hp_k_wl, hp_r_wl, hp_n_wb, hp_k_wb, hp_r_wb, zq_rf, kx_0, kx_1, kx_2, kx_3, kx_4, kx_5, kx_6, kx_7, kx_8, kx_9, kx_10, kx_11, kx_12, kx_13, kx_14, kx_15, kx_16, kx_17, kx_33, kx_34, kx_50, kx_66, kx_67, kx_68, kx_69, kx_197, kx_198, kx_199, kx_200, kx_201, kx_202, kx_203, kx_204, kx_205, kx_206, kx_207, kx_208, kx_209, kx_210, rx_0_0, rx_0_1, rx_0_2, rx_0_3, rx_0_4, rx_0_5, rx_0_6, rx_0_7, rx_1_0, rx_1_1, rx_2_3, rx_2_4, rx_2_5, rx_2_6, rx_2_7, rx_2_8, rx_2_9, rx_10_0, rx_10_1, rx_10_2, rx_33_0, rx_33_1, rx_67_0, rx_68_0, rx_197_0, rx_199_5, rx_199_6, rx_199_7, rx_203_0, rx_203_1, rx_203_2, rx_206_0, rx_206_1, rx_206_2, rx_206_3, Option.bind_some, Option.toList_some, Option.toList_none, List.cons_append, List.nil_append, ↓reduceIte, p_133, decide_eq_false hv, zi_bI_f]; exact ⟨_, rfl⟩
theorem c_first (O : GO h) (x w z : Int32) : CC h (zv 17 121 0 [.ref 0, .int x, .int w, .int z] [] h) := by
  obtain ⟨S, -⟩ := id O
  by_cases hv : ¬ x < 0 ∧ x < 3
  · by_cases hw : ¬ w < 0 ∧ ¬ 7 < w
    · by_cases hz : z = 0 ∨ z = 1
      · obtain ⟨h', e, O', F'⟩ := w_sv O w x z
        have go : zv 17 121 0 [.ref 0, .int x, .int w, .int z] [] h = zv 17 121 37 [.ref 0, .int x, .int w, .int z] [] h' := by
          simp +decide only [b121_0, b121_4, b121_7, b121_11, b121_14, b121_18, b121_23, S.n, S.k, S.r, hp_n_wi, hp_k_wi, hp_r_wi, hp_n_wl, hp_k_wl, hp_r_wl, hp_n_wb, hp_k_wb, hp_r_wb, zq_rf, kx_0, kx_1, kx_2, kx_3, kx_4, kx_5, kx_6, kx_7, kx_8, kx_9, kx_10, kx_11, kx_12, kx_13, kx_14, kx_15, kx_16, kx_17, kx_33, kx_34, kx_50, kx_66, kx_67, kx_68, kx_69, kx_197, kx_198, kx_199, kx_200, kx_201, kx_202, kx_203, kx_204, kx_205, kx_206, kx_207, kx_208, kx_209, kx_210, rx_0_0, rx_0_1, rx_0_2, rx_0_3, rx_0_4, rx_0_5, rx_0_6, rx_0_7, rx_1_0, rx_1_1, rx_2_3, rx_2_4, rx_2_5, rx_2_6, rx_2_7, rx_2_8, rx_2_9, rx_10_0, rx_10_1, rx_10_2, rx_33_0, rx_33_1, rx_67_0, rx_68_0, rx_197_0, rx_199_5, rx_199_6, rx_199_7, rx_203_0, rx_203_1, rx_203_2, rx_206_0, rx_206_1, rx_206_2, rx_206_3, Option.bind_some, Option.toList_some, Option.toList_none, List.cons_append, List.nil_append, ↓reduceIte, p_133, p_135, p_136, decide_eq_true hv, decide_eq_true hw, decide_eq_true hz, zi_bI_t, e]
        have fin : ∃ v, zv 17 121 37 [.ref 0, .int x, .int w, .int z] [] h' = some (some (.int v), h') := by
          obtain ⟨S, -⟩ := id O'
          simp +decide only [b121_37, S.n, S.k, S.r, hp_n_wi, hp_k_wi, hp_r_wi, hp_n_wl, hp_k_wl, hp_r_wl, hp_n_wb, hp_k_wb, hp_r_wb, zq_rf, kx_0, kx_1, kx_2, kx_3, kx_4, kx_5, kx_6, kx_7, kx_8, kx_9, kx_10, kx_11, kx_12, kx_13, kx_14, kx_15, kx_16, kx_17, kx_33, kx_34, kx_50, kx_66, kx_67, kx_68, kx_69, kx_197, kx_198, kx_199, kx_200, kx_201, kx_202, kx_203, kx_204, kx_205, kx_206, kx_207, kx_208, kx_209, kx_210, rx_0_0, rx_0_1, rx_0_2, rx_0_3, rx_0_4, rx_0_5, rx_0_6, rx_0_7, rx_1_0, rx_1_1, rx_2_3, rx_2_4, rx_2_5, rx_2_6, rx_2_7, rx_2_8, rx_2_9, rx_10_0, rx_10_1, rx_10_2, rx_33_0, rx_33_1, rx_67_0, rx_68_0, rx_197_0, rx_199_5, rx_199_6, rx_199_7, rx_203_0, rx_203_1, rx_203_2, rx_206_0, rx_206_1, rx_206_2, rx_206_3, Option.bind_some, Option.toList_some, Option.toList_none, List.cons_append, List.nil_append, ↓reduceIte]; exact ⟨_, rfl⟩
        obtain ⟨v, ev⟩ := fin
        exact ⟨v, h', by rw [go, ev], O', F'⟩
      · refine CC.same O ?_
        simp +decide only [b121_0, b121_4, b121_7, b121_11, b121_14, b121_18, b121_21, S.n, S.k, S.r, hp_n_wi, hp_k_wi, hp_r_wi, hp_n_wl, hp_k_wl, hp_r_wl, hp_n_wb, hp_k_wb, hp_r_wb, zq_rf, kx_0, kx_1, kx_2, kx_3, kx_4, kx_5, kx_6, kx_7, kx_8, kx_9, kx_10, kx_11, kx_12, kx_13, kx_14, kx_15, kx_16, kx_17, kx_33, kx_34, kx_50, kx_66, kx_67, kx_68, kx_69, kx_197, kx_198, kx_199, kx_200, kx_201, kx_202, kx_203, kx_204, kx_205, kx_206, kx_207, kx_208, kx_209, kx_210, rx_0_0, rx_0_1, rx_0_2, rx_0_3, rx_0_4, rx_0_5, rx_0_6, rx_0_7, rx_1_0, rx_1_1, rx_2_3, rx_2_4, rx_2_5, rx_2_6, rx_2_7, rx_2_8, rx_2_9, rx_10_0, rx_10_1, rx_10_2, rx_33_0, rx_33_1, rx_67_0, rx_68_0, rx_197_0, rx_199_5, rx_199_6, rx_199_7, rx_203_0, rx_203_1, rx_203_2, rx_206_0, rx_206_1, rx_206_2, rx_206_3, Option.bind_some, Option.toList_some, Option.toList_none, List.cons_append, List.nil_append, ↓reduceIte, p_133, p_135, p_136, decide_eq_true hv, decide_eq_true hw, decide_eq_false hz, zi_bI_t, zi_bI_f]; exact ⟨_, rfl⟩
    · refine CC.same O ?_
      simp +decide only [b121_0, b121_4, b121_7, b121_11, b121_21, S.n, S.k, S.r, hp_n_wi, hp_k_wi, hp_r_wi, hp_n_wl, hp_k_wl, hp_r_wl, hp_n_wb, hp_k_wb, hp_r_wb, zq_rf, kx_0, kx_1, kx_2, kx_3, kx_4, kx_5, kx_6, kx_7, kx_8, kx_9, kx_10, kx_11, kx_12, kx_13, kx_14, kx_15, kx_16, kx_17, kx_33, kx_34, kx_50, kx_66, kx_67, kx_68, kx_69, kx_197, kx_198, kx_199, kx_200, kx_201, kx_202, kx_203, kx_204, kx_205, kx_206, kx_207, kx_208, kx_209, kx_210, rx_0_0, rx_0_1, rx_0_2, rx_0_3, rx_0_4, rx_0_5, rx_0_6, rx_0_7, rx_1_0, rx_1_1, rx_2_3, rx_2_4, rx_2_5, rx_2_6, rx_2_7, rx_2_8, rx_2_9, rx_10_0, rx_10_1, rx_10_2, rx_33_0, rx_33_1, rx_67_0, rx_68_0, rx_197_0, rx_199_5, rx_199_6, rx_199_7, rx_203_0, rx_203_1, rx_203_2, rx_206_0, rx_206_1, rx_206_2, rx_206_3, Option.bind_some, Option.toList_some, Option.toList_none, List.cons_append, List.nil_append, ↓reduceIte, p_133, p_135, decide_eq_true hv, decide_eq_false hw, zi_bI_t, zi_bI_f]; exact ⟨_, rfl⟩
  · refine CC.same O ?_
    simp +decide only [b121_0, b121_4, b121_21, S.n, S.k, S.r, hp_n_wi, hp_k_wi, hp_r_wi, hp_n_wl, hp_k_wl, hp_r_wl, hp_n_wb, hp_k_wb, hp_r_wb, zq_rf, kx_0, kx_1, kx_2, kx_3, kx_4, kx_5, kx_6, kx_7, kx_8, kx_9, kx_10, kx_11, kx_12, kx_13, kx_14, kx_15, kx_16, kx_17, kx_33, kx_34, kx_50, kx_66, kx_67, kx_68, kx_69, kx_197, kx_198, kx_199, kx_200, kx_201, kx_202, kx_203, kx_204, kx_205, kx_206, kx_207, kx_208, kx_209, kx_210, rx_0_0, rx_0_1, rx_0_2, rx_0_3, rx_0_4, rx_0_5, rx_0_6, rx_0_7, rx_1_0, rx_1_1, rx_2_3, rx_2_4, rx_2_5, rx_2_6, rx_2_7, rx_2_8, rx_2_9, rx_10_0, rx_10_1, rx_10_2, rx_33_0, rx_33_1, rx_67_0, rx_68_0, rx_197_0, rx_199_5, rx_199_6, rx_199_7, rx_203_0, rx_203_1, rx_203_2, rx_206_0, rx_206_1, rx_206_2, rx_206_3, Option.bind_some, Option.toList_some, Option.toList_none, List.cons_append, List.nil_append, ↓reduceIte, p_133, decide_eq_false hv, zi_bI_f]; exact ⟨_, rfl⟩
theorem w_gd {y0 y2 : Int64} : ∀ d i, i + d = 100 → ∀ {y4 y6 : Int64} {u9 u10 : Value}, ∃ v : Int64, zv 1 140 9 [.long y0, .double 1, .long y2, .double 1, .long y4, .double 1, .long y6, .double 1, .int (nI i), u9, u10] [] h = some (some (.long v), h)
  | 0, i, hi, y4, y6, u9, u10 => by
    have e : i = 100 := by omega
    subst e
    exact ⟨y4, by rw [b140_9, if_neg (by decide), b140_44]⟩
  | d + 1, i, hi, y4, y6, u9, u10 => by
    rw [b140_9, if_pos (show nI i < 100 from nI_lt (b := 100) (by omega) (by decide)), b140_16]
    by_cases q : lg_cmp y6 0 = 0
    · exact ⟨y4, by rw [if_pos q, b140_44]⟩
    · rw [if_neg q, b140_23 (fun w => q (by rw [w]; rfl)), nI_s]
      exact w_gd d (i + 1) (by omega)
def CL (h : zi_Hp) (o : Option zi_Rt) : Prop := ∃ (v : Int64) (h' : zi_Hp), o = some (some (.long v), h') ∧ GO h' ∧ Fc h h'
theorem c_chance (O : GO h) (x w z t : Int32) {u5 u6 : Value} : CL h (zv 17 122 0 [.ref 0, .int x, .int w, .int z, .int t, u5, u6] [] h) := by
  obtain ⟨S, -⟩ := id O
  by_cases hv : ¬ x < 0 ∧ x < 3
  · by_cases hw : ¬ w < 0 ∧ ¬ 7 < w
    · by_cases hz : z = 0 ∨ z = 1
      · by_cases ht : t = 0 ∨ t = 1
        · obtain ⟨h', e, O', F'⟩ := w_sv O w x z
          have go : zv 17 122 0 [.ref 0, .int x, .int w, .int z, .int t, u5, u6] [] h = zv 17 122 47 [.ref 0, .int x, .int w, .int z, .int t, u5, u6] [] h' := by
            simp +decide only [b122_0, b122_4, b122_7, b122_11, b122_14, b122_18, b122_21, b122_26, b122_33, S.n, S.k, S.r, hp_n_wi, hp_k_wi, hp_r_wi, hp_n_wl, hp_k_wl, hp_r_wl, hp_n_wb, hp_k_wb, hp_r_wb, zq_rf, kx_0, kx_1, kx_2, kx_3, kx_4, kx_5, kx_6, kx_7, kx_8, kx_9, kx_10, kx_11, kx_12, kx_13, kx_14, kx_15, kx_16, kx_17, kx_33, kx_34, kx_50, kx_66, kx_67, kx_68, kx_69, kx_197, kx_198, kx_199, kx_200, kx_201, kx_202, kx_203, kx_204, kx_205, kx_206, kx_207, kx_208, kx_209, kx_210, rx_0_0, rx_0_1, rx_0_2, rx_0_3, rx_0_4, rx_0_5, rx_0_6, rx_0_7, rx_1_0, rx_1_1, rx_2_3, rx_2_4, rx_2_5, rx_2_6, rx_2_7, rx_2_8, rx_2_9, rx_10_0, rx_10_1, rx_10_2, rx_33_0, rx_33_1, rx_67_0, rx_68_0, rx_197_0, rx_199_5, rx_199_6, rx_199_7, rx_203_0, rx_203_1, rx_203_2, rx_206_0, rx_206_1, rx_206_2, rx_206_3, Option.bind_some, Option.toList_some, Option.toList_none, List.cons_append, List.nil_append, ↓reduceIte, p_133, p_135, p_136, decide_eq_true hv, decide_eq_true hw, decide_eq_true hz, decide_eq_true ht, zi_bI_t, e]
          obtain ⟨S, -⟩ := id O'
          obtain ⟨g, eg⟩ : ∃ g : Int64, zv 1 140 0 [.long (zh_l h' 67 8), .double 1, .long 279936, .double 1, .double 0, .double 0, .double 0, .double 0, .double 0, .double 0, .double 0] [] h' = some (some (.long g), h') := by
            rw [b140_0]; exact w_gd 100 0 rfl
          have go2 : zv 17 122 47 [.ref 0, .int x, .int w, .int z, .int t, u5, u6] [] h' = if 0 < lg_cmp g 0 then zv 17 122 73 [.ref 0, .int x, .int w, .int z, .int t, .long g, .double 1] [] h' else zv 17 122 69 [.ref 0, .int x, .int w, .int z, .int t, .long g, .double 1] [] h' := by
            simp +decide only [b122_47, b122_60, S.n, S.k, S.r, hp_n_wi, hp_k_wi, hp_r_wi, hp_n_wl, hp_k_wl, hp_r_wl, hp_n_wb, hp_k_wb, hp_r_wb, zq_rf, kx_0, kx_1, kx_2, kx_3, kx_4, kx_5, kx_6, kx_7, kx_8, kx_9, kx_10, kx_11, kx_12, kx_13, kx_14, kx_15, kx_16, kx_17, kx_33, kx_34, kx_50, kx_66, kx_67, kx_68, kx_69, kx_197, kx_198, kx_199, kx_200, kx_201, kx_202, kx_203, kx_204, kx_205, kx_206, kx_207, kx_208, kx_209, kx_210, rx_0_0, rx_0_1, rx_0_2, rx_0_3, rx_0_4, rx_0_5, rx_0_6, rx_0_7, rx_1_0, rx_1_1, rx_2_3, rx_2_4, rx_2_5, rx_2_6, rx_2_7, rx_2_8, rx_2_9, rx_10_0, rx_10_1, rx_10_2, rx_33_0, rx_33_1, rx_67_0, rx_68_0, rx_197_0, rx_199_5, rx_199_6, rx_199_7, rx_203_0, rx_203_1, rx_203_2, rx_206_0, rx_206_1, rx_206_2, rx_206_3, Option.bind_some, Option.toList_some, Option.toList_none, List.cons_append, List.nil_append, ↓reduceIte, eg]
          rw [go, go2]
          by_cases q : 0 < lg_cmp g 0
          · have hg : ¬ g = 0 := fun q2 => by rw [q2] at q; exact absurd q (by decide)
            rw [if_pos q, b122_73]
            by_cases q0 : t = 0
            · refine ⟨zh_l h' 67 8 / g, h', ?_, O', F'⟩
              simp +decide only [if_pos q0, b122_78, b122_91 hg, S.n, S.k, S.r, hp_n_wi, hp_k_wi, hp_r_wi, hp_n_wl, hp_k_wl, hp_r_wl, hp_n_wb, hp_k_wb, hp_r_wb, zq_rf, kx_0, kx_1, kx_2, kx_3, kx_4, kx_5, kx_6, kx_7, kx_8, kx_9, kx_10, kx_11, kx_12, kx_13, kx_14, kx_15, kx_16, kx_17, kx_33, kx_34, kx_50, kx_66, kx_67, kx_68, kx_69, kx_197, kx_198, kx_199, kx_200, kx_201, kx_202, kx_203, kx_204, kx_205, kx_206, kx_207, kx_208, kx_209, kx_210, rx_0_0, rx_0_1, rx_0_2, rx_0_3, rx_0_4, rx_0_5, rx_0_6, rx_0_7, rx_1_0, rx_1_1, rx_2_3, rx_2_4, rx_2_5, rx_2_6, rx_2_7, rx_2_8, rx_2_9, rx_10_0, rx_10_1, rx_10_2, rx_33_0, rx_33_1, rx_67_0, rx_68_0, rx_197_0, rx_199_5, rx_199_6, rx_199_7, rx_203_0, rx_203_1, rx_203_2, rx_206_0, rx_206_1, rx_206_2, rx_206_3, Option.bind_some, Option.toList_some, Option.toList_none, List.cons_append, List.nil_append, ↓reduceIte]
            · exact ⟨279936 / g, h', by rw [if_neg q0, b122_88, b122_91 hg], O', F'⟩
          · exact ⟨-1, h', by rw [if_neg q, b122_69], O', F'⟩
        · exact ⟨-1, h, by simp +decide only [b122_0, b122_4, b122_7, b122_11, b122_14, b122_18, b122_21, b122_26, b122_29, S.n, S.k, S.r, hp_n_wi, hp_k_wi, hp_r_wi, hp_n_wl, hp_k_wl, hp_r_wl, hp_n_wb, hp_k_wb, hp_r_wb, zq_rf, kx_0, kx_1, kx_2, kx_3, kx_4, kx_5, kx_6, kx_7, kx_8, kx_9, kx_10, kx_11, kx_12, kx_13, kx_14, kx_15, kx_16, kx_17, kx_33, kx_34, kx_50, kx_66, kx_67, kx_68, kx_69, kx_197, kx_198, kx_199, kx_200, kx_201, kx_202, kx_203, kx_204, kx_205, kx_206, kx_207, kx_208, kx_209, kx_210, rx_0_0, rx_0_1, rx_0_2, rx_0_3, rx_0_4, rx_0_5, rx_0_6, rx_0_7, rx_1_0, rx_1_1, rx_2_3, rx_2_4, rx_2_5, rx_2_6, rx_2_7, rx_2_8, rx_2_9, rx_10_0, rx_10_1, rx_10_2, rx_33_0, rx_33_1, rx_67_0, rx_68_0, rx_197_0, rx_199_5, rx_199_6, rx_199_7, rx_203_0, rx_203_1, rx_203_2, rx_206_0, rx_206_1, rx_206_2, rx_206_3, Option.bind_some, Option.toList_some, Option.toList_none, List.cons_append, List.nil_append, ↓reduceIte, p_133, p_135, p_136, decide_eq_true hv, decide_eq_true hw, decide_eq_true hz, decide_eq_false ht, zi_bI_t, zi_bI_f], O, Fc.refl h⟩
      · exact ⟨-1, h, by simp +decide only [b122_0, b122_4, b122_7, b122_11, b122_14, b122_18, b122_29, S.n, S.k, S.r, hp_n_wi, hp_k_wi, hp_r_wi, hp_n_wl, hp_k_wl, hp_r_wl, hp_n_wb, hp_k_wb, hp_r_wb, zq_rf, kx_0, kx_1, kx_2, kx_3, kx_4, kx_5, kx_6, kx_7, kx_8, kx_9, kx_10, kx_11, kx_12, kx_13, kx_14, kx_15, kx_16, kx_17, kx_33, kx_34, kx_50, kx_66, kx_67, kx_68, kx_69, kx_197, kx_198, kx_199, kx_200, kx_201, kx_202, kx_203, kx_204, kx_205, kx_206, kx_207, kx_208, kx_209, kx_210, rx_0_0, rx_0_1, rx_0_2, rx_0_3, rx_0_4, rx_0_5, rx_0_6, rx_0_7, rx_1_0, rx_1_1, rx_2_3, rx_2_4, rx_2_5, rx_2_6, rx_2_7, rx_2_8, rx_2_9, rx_10_0, rx_10_1, rx_10_2, rx_33_0, rx_33_1, rx_67_0, rx_68_0, rx_197_0, rx_199_5, rx_199_6, rx_199_7, rx_203_0, rx_203_1, rx_203_2, rx_206_0, rx_206_1, rx_206_2, rx_206_3, Option.bind_some, Option.toList_some, Option.toList_none, List.cons_append, List.nil_append, ↓reduceIte, p_133, p_135, p_136, decide_eq_true hv, decide_eq_true hw, decide_eq_false hz, zi_bI_t, zi_bI_f], O, Fc.refl h⟩
    · exact ⟨-1, h, by simp +decide only [b122_0, b122_4, b122_7, b122_11, b122_29, S.n, S.k, S.r, hp_n_wi, hp_k_wi, hp_r_wi, hp_n_wl, hp_k_wl, hp_r_wl, hp_n_wb, hp_k_wb, hp_r_wb, zq_rf, kx_0, kx_1, kx_2, kx_3, kx_4, kx_5, kx_6, kx_7, kx_8, kx_9, kx_10, kx_11, kx_12, kx_13, kx_14, kx_15, kx_16, kx_17, kx_33, kx_34, kx_50, kx_66, kx_67, kx_68, kx_69, kx_197, kx_198, kx_199, kx_200, kx_201, kx_202, kx_203, kx_204, kx_205, kx_206, kx_207, kx_208, kx_209, kx_210, rx_0_0, rx_0_1, rx_0_2, rx_0_3, rx_0_4, rx_0_5, rx_0_6, rx_0_7, rx_1_0, rx_1_1, rx_2_3, rx_2_4, rx_2_5, rx_2_6, rx_2_7, rx_2_8, rx_2_9, rx_10_0, rx_10_1, rx_10_2, rx_33_0, rx_33_1, rx_67_0, rx_68_0, rx_197_0, rx_199_5, rx_199_6, rx_199_7, rx_203_0, rx_203_1, rx_203_2, rx_206_0, rx_206_1, rx_206_2, rx_206_3, Option.bind_some, Option.toList_some, Option.toList_none, List.cons_append, List.nil_append, ↓reduceIte, p_133, p_135, decide_eq_true hv, decide_eq_false hw, zi_bI_t, zi_bI_f], O, Fc.refl h⟩
  · exact ⟨-1, h, by simp +decide only [b122_0, b122_4, b122_29, S.n, S.k, S.r, hp_n_wi, hp_k_wi, hp_r_wi, hp_n_wl, hp_k_wl, hp_r_wl, hp_n_wb, hp_k_wb, hp_r_wb, zq_rf, kx_0, kx_1, kx_2, kx_3, kx_4, kx_5, kx_6, kx_7, kx_8, kx_9, kx_10, kx_11, kx_12, kx_13, kx_14, kx_15, kx_16, kx_17, kx_33, kx_34, kx_50, kx_66, kx_67, kx_68, kx_69, kx_197, kx_198, kx_199, kx_200, kx_201, kx_202, kx_203, kx_204, kx_205, kx_206, kx_207, kx_208, kx_209, kx_210, rx_0_0, rx_0_1, rx_0_2, rx_0_3, rx_0_4, rx_0_5, rx_0_6, rx_0_7, rx_1_0, rx_1_1, rx_2_3, rx_2_4, rx_2_5, rx_2_6, rx_2_7, rx_2_8, rx_2_9, rx_10_0, rx_10_1, rx_10_2, rx_33_0, rx_33_1, rx_67_0, rx_68_0, rx_197_0, rx_199_5, rx_199_6, rx_199_7, rx_203_0, rx_203_1, rx_203_2, rx_206_0, rx_206_1, rx_206_2, rx_206_3, Option.bind_some, Option.toList_some, Option.toList_none, List.cons_append, List.nil_append, ↓reduceIte, p_133, decide_eq_false hv, zi_bI_f], O, Fc.refl h⟩
/-- one cell is put -/
theorem r_put (O : GO h) (k : Int32) : CC h (zv 7 132 0 [.ref 0, .int k] [] h) := by
  obtain ⟨S, G⟩ := id O
  by_cases hv : ¬ k < 0 ∧ k < 100
  · obtain ⟨n, hn, rfl⟩ := nI_ex (b := 100) (by decide) hv.1 hv.2
    obtain ⟨v, x', y', e, G'⟩ := (G 1 V1).carry S V1 (a := 1) (by decide) (k := n) (by omega) (u3 := .double 0) (u4 := .double 0)
    rw [zC_wx] at e
    have e' : zv 6 78 0 [.ref 1, .int 1, .int (nI n), .double 0, .double 0] [] h = some (some (.int v), zC h 1 x' y') := e
    by_cases q : v = -3
    · exact ⟨0, zC h 1 x' y', by simp +decide only [b132_0, b132_4, b132_7, b132_16, b132_25, b132_26, S.n, S.k, S.r, hp_n_wi, hp_k_wi, hp_r_wi, hp_n_wl, hp_k_wl, hp_r_wl, hp_n_wb, hp_k_wb, hp_r_wb, zq_rf, kx_0, kx_1, kx_2, kx_3, kx_4, kx_5, kx_6, kx_7, kx_8, kx_9, kx_10, kx_11, kx_12, kx_13, kx_14, kx_15, kx_16, kx_17, kx_33, kx_34, kx_50, kx_66, kx_67, kx_68, kx_69, kx_197, kx_198, kx_199, kx_200, kx_201, kx_202, kx_203, kx_204, kx_205, kx_206, kx_207, kx_208, kx_209, kx_210, rx_0_0, rx_0_1, rx_0_2, rx_0_3, rx_0_4, rx_0_5, rx_0_6, rx_0_7, rx_1_0, rx_1_1, rx_2_3, rx_2_4, rx_2_5, rx_2_6, rx_2_7, rx_2_8, rx_2_9, rx_10_0, rx_10_1, rx_10_2, rx_33_0, rx_33_1, rx_67_0, rx_68_0, rx_197_0, rx_199_5, rx_199_6, rx_199_7, rx_203_0, rx_203_1, rx_203_2, rx_206_0, rx_206_1, rx_206_2, rx_206_3, Option.bind_some, Option.toList_some, Option.toList_none, List.cons_append, List.nil_append, ↓reduceIte, p_134, decide_eq_true hv, zi_bI_t, e', if_pos q], O.zC V1 G', Fc.zC V1⟩
    · exact ⟨1, zC h 1 x' y', by simp +decide only [b132_0, b132_4, b132_7, b132_16, b132_21, b132_26, S.n, S.k, S.r, hp_n_wi, hp_k_wi, hp_r_wi, hp_n_wl, hp_k_wl, hp_r_wl, hp_n_wb, hp_k_wb, hp_r_wb, zq_rf, kx_0, kx_1, kx_2, kx_3, kx_4, kx_5, kx_6, kx_7, kx_8, kx_9, kx_10, kx_11, kx_12, kx_13, kx_14, kx_15, kx_16, kx_17, kx_33, kx_34, kx_50, kx_66, kx_67, kx_68, kx_69, kx_197, kx_198, kx_199, kx_200, kx_201, kx_202, kx_203, kx_204, kx_205, kx_206, kx_207, kx_208, kx_209, kx_210, rx_0_0, rx_0_1, rx_0_2, rx_0_3, rx_0_4, rx_0_5, rx_0_6, rx_0_7, rx_1_0, rx_1_1, rx_2_3, rx_2_4, rx_2_5, rx_2_6, rx_2_7, rx_2_8, rx_2_9, rx_10_0, rx_10_1, rx_10_2, rx_33_0, rx_33_1, rx_67_0, rx_68_0, rx_197_0, rx_199_5, rx_199_6, rx_199_7, rx_203_0, rx_203_1, rx_203_2, rx_206_0, rx_206_1, rx_206_2, rx_206_3, Option.bind_some, Option.toList_some, Option.toList_none, List.cons_append, List.nil_append, ↓reduceIte, p_134, decide_eq_true hv, zi_bI_t, e', if_neg q], O.zC V1 G', Fc.zC V1⟩
  · exact ⟨0, h, by simp +decide only [b132_0, b132_4, b132_25, b132_26, S.n, S.k, S.r, hp_n_wi, hp_k_wi, hp_r_wi, hp_n_wl, hp_k_wl, hp_r_wl, hp_n_wb, hp_k_wb, hp_r_wb, zq_rf, kx_0, kx_1, kx_2, kx_3, kx_4, kx_5, kx_6, kx_7, kx_8, kx_9, kx_10, kx_11, kx_12, kx_13, kx_14, kx_15, kx_16, kx_17, kx_33, kx_34, kx_50, kx_66, kx_67, kx_68, kx_69, kx_197, kx_198, kx_199, kx_200, kx_201, kx_202, kx_203, kx_204, kx_205, kx_206, kx_207, kx_208, kx_209, kx_210, rx_0_0, rx_0_1, rx_0_2, rx_0_3, rx_0_4, rx_0_5, rx_0_6, rx_0_7, rx_1_0, rx_1_1, rx_2_3, rx_2_4, rx_2_5, rx_2_6, rx_2_7, rx_2_8, rx_2_9, rx_10_0, rx_10_1, rx_10_2, rx_33_0, rx_33_1, rx_67_0, rx_68_0, rx_197_0, rx_199_5, rx_199_6, rx_199_7, rx_203_0, rx_203_1, rx_203_2, rx_206_0, rx_206_1, rx_206_2, rx_206_3, Option.bind_some, Option.toList_some, Option.toList_none, List.cons_append, List.nil_append, ↓reduceIte, p_134, decide_eq_false hv, zi_bI_f], O, Fc.refl h⟩
theorem r_ce (O : GO h) {c : Nat} (hc : c < 4) (i : Int32) : ∃ v, zv 2 25 0 [.ref 203, .int (nI c), .int i] [] h = some (some (.int v), h) := by
  obtain ⟨S, -⟩ := id O
  have hv : ¬ nI c < 0 ∧ nI c < 4 := ⟨nI_pos (by omega), nI_lt (b := 4) hc (by decide)⟩
  by_cases h0 : i < 0
  · exact ⟨-4, by simp +decide only [b25_0, b25_4, b25_7, b25_28, b25_30, S.n, S.k, S.r, hp_n_wi, hp_k_wi, hp_r_wi, hp_n_wl, hp_k_wl, hp_r_wl, hp_n_wb, hp_k_wb, hp_r_wb, zq_rf, kx_0, kx_1, kx_2, kx_3, kx_4, kx_5, kx_6, kx_7, kx_8, kx_9, kx_10, kx_11, kx_12, kx_13, kx_14, kx_15, kx_16, kx_17, kx_33, kx_34, kx_50, kx_66, kx_67, kx_68, kx_69, kx_197, kx_198, kx_199, kx_200, kx_201, kx_202, kx_203, kx_204, kx_205, kx_206, kx_207, kx_208, kx_209, kx_210, rx_0_0, rx_0_1, rx_0_2, rx_0_3, rx_0_4, rx_0_5, rx_0_6, rx_0_7, rx_1_0, rx_1_1, rx_2_3, rx_2_4, rx_2_5, rx_2_6, rx_2_7, rx_2_8, rx_2_9, rx_10_0, rx_10_1, rx_10_2, rx_33_0, rx_33_1, rx_67_0, rx_68_0, rx_197_0, rx_199_5, rx_199_6, rx_199_7, rx_203_0, rx_203_1, rx_203_2, rx_206_0, rx_206_1, rx_206_2, rx_206_3, Option.bind_some, Option.toList_some, Option.toList_none, List.cons_append, List.nil_append, ↓reduceIte, p_138, decide_eq_true hv, zi_bI_t, if_pos h0]⟩
  · by_cases h40 : i < 40
    · obtain ⟨j, hj, rfl⟩ := nI_ex (b := 40) (by decide) h0 h40
      have nc : (nI j).toNatClampNeg = j := nI_clamp (by omega)
      have hz : ¬ (nI j < 0 ∨ 40 ≤ j) := by have q := zj_n (N := 40) hj (by decide); rw [nc] at q; exact q
      have : c = 0 ∨ c = 1 ∨ c = 2 ∨ c = 3 := by omega
      rcases this with rfl | rfl | rfl | rfl
      · simp +decide only [b25_0, b25_4, b25_7, b25_11, b25_17, b25_30, S.n, S.k, S.r, hp_n_wi, hp_k_wi, hp_r_wi, hp_n_wl, hp_k_wl, hp_r_wl, hp_n_wb, hp_k_wb, hp_r_wb, zq_rf, kx_0, kx_1, kx_2, kx_3, kx_4, kx_5, kx_6, kx_7, kx_8, kx_9, kx_10, kx_11, kx_12, kx_13, kx_14, kx_15, kx_16, kx_17, kx_33, kx_34, kx_50, kx_66, kx_67, kx_68, kx_69, kx_197, kx_198, kx_199, kx_200, kx_201, kx_202, kx_203, kx_204, kx_205, kx_206, kx_207, kx_208, kx_209, kx_210, rx_0_0, rx_0_1, rx_0_2, rx_0_3, rx_0_4, rx_0_5, rx_0_6, rx_0_7, rx_1_0, rx_1_1, rx_2_3, rx_2_4, rx_2_5, rx_2_6, rx_2_7, rx_2_8, rx_2_9, rx_10_0, rx_10_1, rx_10_2, rx_33_0, rx_33_1, rx_67_0, rx_68_0, rx_197_0, rx_199_5, rx_199_6, rx_199_7, rx_203_0, rx_203_1, rx_203_2, rx_206_0, rx_206_1, rx_206_2, rx_206_3, Option.bind_some, Option.toList_some, Option.toList_none, List.cons_append, List.nil_append, ↓reduceIte, p_138, decide_eq_true hv, zi_bI_t, tc_0, if_neg h0, if_pos h40, nc, hz]; exact ⟨_, rfl⟩
      · simp +decide only [b25_0, b25_4, b25_7, b25_11, b25_17, b25_30, S.n, S.k, S.r, hp_n_wi, hp_k_wi, hp_r_wi, hp_n_wl, hp_k_wl, hp_r_wl, hp_n_wb, hp_k_wb, hp_r_wb, zq_rf, kx_0, kx_1, kx_2, kx_3, kx_4, kx_5, kx_6, kx_7, kx_8, kx_9, kx_10, kx_11, kx_12, kx_13, kx_14, kx_15, kx_16, kx_17, kx_33, kx_34, kx_50, kx_66, kx_67, kx_68, kx_69, kx_197, kx_198, kx_199, kx_200, kx_201, kx_202, kx_203, kx_204, kx_205, kx_206, kx_207, kx_208, kx_209, kx_210, rx_0_0, rx_0_1, rx_0_2, rx_0_3, rx_0_4, rx_0_5, rx_0_6, rx_0_7, rx_1_0, rx_1_1, rx_2_3, rx_2_4, rx_2_5, rx_2_6, rx_2_7, rx_2_8, rx_2_9, rx_10_0, rx_10_1, rx_10_2, rx_33_0, rx_33_1, rx_67_0, rx_68_0, rx_197_0, rx_199_5, rx_199_6, rx_199_7, rx_203_0, rx_203_1, rx_203_2, rx_206_0, rx_206_1, rx_206_2, rx_206_3, Option.bind_some, Option.toList_some, Option.toList_none, List.cons_append, List.nil_append, ↓reduceIte, p_138, decide_eq_true hv, zi_bI_t, tc_1, if_neg h0, if_pos h40, nc, hz]; exact ⟨_, rfl⟩
      · simp +decide only [b25_0, b25_4, b25_7, b25_11, b25_17, b25_30, S.n, S.k, S.r, hp_n_wi, hp_k_wi, hp_r_wi, hp_n_wl, hp_k_wl, hp_r_wl, hp_n_wb, hp_k_wb, hp_r_wb, zq_rf, kx_0, kx_1, kx_2, kx_3, kx_4, kx_5, kx_6, kx_7, kx_8, kx_9, kx_10, kx_11, kx_12, kx_13, kx_14, kx_15, kx_16, kx_17, kx_33, kx_34, kx_50, kx_66, kx_67, kx_68, kx_69, kx_197, kx_198, kx_199, kx_200, kx_201, kx_202, kx_203, kx_204, kx_205, kx_206, kx_207, kx_208, kx_209, kx_210, rx_0_0, rx_0_1, rx_0_2, rx_0_3, rx_0_4, rx_0_5, rx_0_6, rx_0_7, rx_1_0, rx_1_1, rx_2_3, rx_2_4, rx_2_5, rx_2_6, rx_2_7, rx_2_8, rx_2_9, rx_10_0, rx_10_1, rx_10_2, rx_33_0, rx_33_1, rx_67_0, rx_68_0, rx_197_0, rx_199_5, rx_199_6, rx_199_7, rx_203_0, rx_203_1, rx_203_2, rx_206_0, rx_206_1, rx_206_2, rx_206_3, Option.bind_some, Option.toList_some, Option.toList_none, List.cons_append, List.nil_append, ↓reduceIte, p_138, decide_eq_true hv, zi_bI_t, tc_2, if_neg h0, if_pos h40, nc, hz]; exact ⟨_, rfl⟩
      · simp +decide only [b25_0, b25_4, b25_7, b25_11, b25_17, b25_30, S.n, S.k, S.r, hp_n_wi, hp_k_wi, hp_r_wi, hp_n_wl, hp_k_wl, hp_r_wl, hp_n_wb, hp_k_wb, hp_r_wb, zq_rf, kx_0, kx_1, kx_2, kx_3, kx_4, kx_5, kx_6, kx_7, kx_8, kx_9, kx_10, kx_11, kx_12, kx_13, kx_14, kx_15, kx_16, kx_17, kx_33, kx_34, kx_50, kx_66, kx_67, kx_68, kx_69, kx_197, kx_198, kx_199, kx_200, kx_201, kx_202, kx_203, kx_204, kx_205, kx_206, kx_207, kx_208, kx_209, kx_210, rx_0_0, rx_0_1, rx_0_2, rx_0_3, rx_0_4, rx_0_5, rx_0_6, rx_0_7, rx_1_0, rx_1_1, rx_2_3, rx_2_4, rx_2_5, rx_2_6, rx_2_7, rx_2_8, rx_2_9, rx_10_0, rx_10_1, rx_10_2, rx_33_0, rx_33_1, rx_67_0, rx_68_0, rx_197_0, rx_199_5, rx_199_6, rx_199_7, rx_203_0, rx_203_1, rx_203_2, rx_206_0, rx_206_1, rx_206_2, rx_206_3, Option.bind_some, Option.toList_some, Option.toList_none, List.cons_append, List.nil_append, ↓reduceIte, p_138, decide_eq_true hv, zi_bI_t, tc_3, if_neg h0, if_pos h40, nc, hz]; exact ⟨_, rfl⟩
    · exact ⟨-4, by simp +decide only [b25_0, b25_4, b25_7, b25_11, b25_28, b25_30, S.n, S.k, S.r, hp_n_wi, hp_k_wi, hp_r_wi, hp_n_wl, hp_k_wl, hp_r_wl, hp_n_wb, hp_k_wb, hp_r_wb, zq_rf, kx_0, kx_1, kx_2, kx_3, kx_4, kx_5, kx_6, kx_7, kx_8, kx_9, kx_10, kx_11, kx_12, kx_13, kx_14, kx_15, kx_16, kx_17, kx_33, kx_34, kx_50, kx_66, kx_67, kx_68, kx_69, kx_197, kx_198, kx_199, kx_200, kx_201, kx_202, kx_203, kx_204, kx_205, kx_206, kx_207, kx_208, kx_209, kx_210, rx_0_0, rx_0_1, rx_0_2, rx_0_3, rx_0_4, rx_0_5, rx_0_6, rx_0_7, rx_1_0, rx_1_1, rx_2_3, rx_2_4, rx_2_5, rx_2_6, rx_2_7, rx_2_8, rx_2_9, rx_10_0, rx_10_1, rx_10_2, rx_33_0, rx_33_1, rx_67_0, rx_68_0, rx_197_0, rx_199_5, rx_199_6, rx_199_7, rx_203_0, rx_203_1, rx_203_2, rx_206_0, rx_206_1, rx_206_2, rx_206_3, Option.bind_some, Option.toList_some, Option.toList_none, List.cons_append, List.nil_append, ↓reduceIte, p_138, decide_eq_true hv, zi_bI_t, if_neg h0, if_neg h40]⟩
theorem r_lp {c n : Nat} (hc : c < 4) (hn : n ≤ 40) {l f : Int32} : ∀ d i, i + d = n → ∀ {h : zi_Hp} {u6 : Value}, GO h → CC h (zv 8 129 70 [.ref 0, .int (nI c), .int l, .int f, .int (nI n), .int (nI i), u6] [] h)
  | 0, i, hi, h, u6, O => by
    obtain ⟨S, -⟩ := id O
    have e : i = n := by omega
    subst e
    have lt : ¬ nI i < nI i := Int32.lt_irrefl
    exact ⟨nI i, zh_wi h 0 8 0, by simp +decide only [b129_70, b129_148, S.n, S.k, S.r, hp_n_wi, hp_k_wi, hp_r_wi, hp_n_wl, hp_k_wl, hp_r_wl, hp_n_wb, hp_k_wb, hp_r_wb, zq_rf, kx_0, kx_1, kx_2, kx_3, kx_4, kx_5, kx_6, kx_7, kx_8, kx_9, kx_10, kx_11, kx_12, kx_13, kx_14, kx_15, kx_16, kx_17, kx_33, kx_34, kx_50, kx_66, kx_67, kx_68, kx_69, kx_197, kx_198, kx_199, kx_200, kx_201, kx_202, kx_203, kx_204, kx_205, kx_206, kx_207, kx_208, kx_209, kx_210, rx_0_0, rx_0_1, rx_0_2, rx_0_3, rx_0_4, rx_0_5, rx_0_6, rx_0_7, rx_1_0, rx_1_1, rx_2_3, rx_2_4, rx_2_5, rx_2_6, rx_2_7, rx_2_8, rx_2_9, rx_10_0, rx_10_1, rx_10_2, rx_33_0, rx_33_1, rx_67_0, rx_68_0, rx_197_0, rx_199_5, rx_199_6, rx_199_7, rx_203_0, rx_203_1, rx_203_2, rx_206_0, rx_206_1, rx_206_2, rx_206_3, Option.bind_some, Option.toList_some, Option.toList_none, List.cons_append, List.nil_append, ↓reduceIte, if_neg lt], O.wi wo_0, Fc.wi (by decide)⟩
  | d + 1, i, hi, h, u6, O => by
    obtain ⟨S, -⟩ := id O
    obtain ⟨w, ew⟩ := s_fa O hc l (f + nI i)
    have lt : nI i < nI n := nI_lt (by omega) (by omega)
    by_cases q : w = 0
    · obtain ⟨ce, ec⟩ := r_ce O hc (f + nI i)
      obtain ⟨v, h1, e1, O1, F1⟩ := r_put O ce
      have go : zv 8 129 70 [.ref 0, .int (nI c), .int l, .int f, .int (nI n), .int (nI i), u6] [] h = if v = 0 then zv 8 129 125 [.ref 0, .int (nI c), .int l, .int f, .int (nI n), .int (nI i), .int w] [] h1 else zv 8 129 142 [.ref 0, .int (nI c), .int l, .int f, .int (nI n), .int (nI i), .int w] [] h1 := by
        simp +decide only [b129_70, b129_77, b129_90, b129_106, b129_119, b129_122, S.n, S.k, S.r, hp_n_wi, hp_k_wi, hp_r_wi, hp_n_wl, hp_k_wl, hp_r_wl, hp_n_wb, hp_k_wb, hp_r_wb, zq_rf, kx_0, kx_1, kx_2, kx_3, kx_4, kx_5, kx_6, kx_7, kx_8, kx_9, kx_10, kx_11, kx_12, kx_13, kx_14, kx_15, kx_16, kx_17, kx_33, kx_34, kx_50, kx_66, kx_67, kx_68, kx_69, kx_197, kx_198, kx_199, kx_200, kx_201, kx_202, kx_203, kx_204, kx_205, kx_206, kx_207, kx_208, kx_209, kx_210, rx_0_0, rx_0_1, rx_0_2, rx_0_3, rx_0_4, rx_0_5, rx_0_6, rx_0_7, rx_1_0, rx_1_1, rx_2_3, rx_2_4, rx_2_5, rx_2_6, rx_2_7, rx_2_8, rx_2_9, rx_10_0, rx_10_1, rx_10_2, rx_33_0, rx_33_1, rx_67_0, rx_68_0, rx_197_0, rx_199_5, rx_199_6, rx_199_7, rx_203_0, rx_203_1, rx_203_2, rx_206_0, rx_206_1, rx_206_2, rx_206_3, Option.bind_some, Option.toList_some, Option.toList_none, List.cons_append, List.nil_append, ↓reduceIte, if_pos lt, ew, if_pos q, ec, e1]
      rw [go]
      by_cases q0 : v = 0
      · obtain ⟨h2, e2, O2, F2⟩ := O1.copy V1 V17 (by decide) (u := .double 0)
        obtain ⟨S1, -⟩ := id O1
        have fin : zv 8 129 125 [.ref 0, .int (nI c), .int l, .int f, .int (nI n), .int (nI i), .int w] [] h1 = some (some (.int (-20 - nI i)), h2) := by
          have S := S1
          simp +decide only [b129_125, b129_136, S.n, S.k, S.r, hp_n_wi, hp_k_wi, hp_r_wi, hp_n_wl, hp_k_wl, hp_r_wl, hp_n_wb, hp_k_wb, hp_r_wb, zq_rf, kx_0, kx_1, kx_2, kx_3, kx_4, kx_5, kx_6, kx_7, kx_8, kx_9, kx_10, kx_11, kx_12, kx_13, kx_14, kx_15, kx_16, kx_17, kx_33, kx_34, kx_50, kx_66, kx_67, kx_68, kx_69, kx_197, kx_198, kx_199, kx_200, kx_201, kx_202, kx_203, kx_204, kx_205, kx_206, kx_207, kx_208, kx_209, kx_210, rx_0_0, rx_0_1, rx_0_2, rx_0_3, rx_0_4, rx_0_5, rx_0_6, rx_0_7, rx_1_0, rx_1_1, rx_2_3, rx_2_4, rx_2_5, rx_2_6, rx_2_7, rx_2_8, rx_2_9, rx_10_0, rx_10_1, rx_10_2, rx_33_0, rx_33_1, rx_67_0, rx_68_0, rx_197_0, rx_199_5, rx_199_6, rx_199_7, rx_203_0, rx_203_1, rx_203_2, rx_206_0, rx_206_1, rx_206_2, rx_206_3, Option.bind_some, Option.toList_some, Option.toList_none, List.cons_append, List.nil_append, ↓reduceIte, e2]
        exact ⟨_, h2, by rw [if_pos q0, fin], O2, F1.trans F2⟩
      · rw [if_neg q0, b129_142, nI_s]
        obtain ⟨v3, h3, e3, O3, F3⟩ := r_lp hc hn (l := l) (f := f) d (i + 1) (by omega) (u6 := .int w) O1
        exact ⟨v3, h3, e3, O3, F1.trans F3⟩
    · exact ⟨nI i, zh_wi h 0 8 w, by simp +decide only [b129_70, b129_77, b129_90, b129_97, S.n, S.k, S.r, hp_n_wi, hp_k_wi, hp_r_wi, hp_n_wl, hp_k_wl, hp_r_wl, hp_n_wb, hp_k_wb, hp_r_wb, zq_rf, kx_0, kx_1, kx_2, kx_3, kx_4, kx_5, kx_6, kx_7, kx_8, kx_9, kx_10, kx_11, kx_12, kx_13, kx_14, kx_15, kx_16, kx_17, kx_33, kx_34, kx_50, kx_66, kx_67, kx_68, kx_69, kx_197, kx_198, kx_199, kx_200, kx_201, kx_202, kx_203, kx_204, kx_205, kx_206, kx_207, kx_208, kx_209, kx_210, rx_0_0, rx_0_1, rx_0_2, rx_0_3, rx_0_4, rx_0_5, rx_0_6, rx_0_7, rx_1_0, rx_1_1, rx_2_3, rx_2_4, rx_2_5, rx_2_6, rx_2_7, rx_2_8, rx_2_9, rx_10_0, rx_10_1, rx_10_2, rx_33_0, rx_33_1, rx_67_0, rx_68_0, rx_197_0, rx_199_5, rx_199_6, rx_199_7, rx_203_0, rx_203_1, rx_203_2, rx_206_0, rx_206_1, rx_206_2, rx_206_3, Option.bind_some, Option.toList_some, Option.toList_none, List.cons_append, List.nil_append, ↓reduceIte, if_pos lt, ew, if_neg q], O.wi wo_0, Fc.wi (by decide)⟩
theorem c_read (O : GO h) (x l f n : Int32) {u5 u6 : Value} : CC h (zv 8 129 0 [.ref 0, .int x, .int l, .int f, .int n, u5, u6] [] h) := by
  obtain ⟨S, G⟩ := id O
  by_cases hv : ¬ x < 0 ∧ x < 4
  · by_cases hl : ¬ l < 0 ∧ l < 3
    · by_cases h0 : n < 0
      · refine CC.same O ?_
        simp +decide only [b129_0, b129_4, b129_7, b129_11, b129_14, b129_26, S.n, S.k, S.r, hp_n_wi, hp_k_wi, hp_r_wi, hp_n_wl, hp_k_wl, hp_r_wl, hp_n_wb, hp_k_wb, hp_r_wb, zq_rf, kx_0, kx_1, kx_2, kx_3, kx_4, kx_5, kx_6, kx_7, kx_8, kx_9, kx_10, kx_11, kx_12, kx_13, kx_14, kx_15, kx_16, kx_17, kx_33, kx_34, kx_50, kx_66, kx_67, kx_68, kx_69, kx_197, kx_198, kx_199, kx_200, kx_201, kx_202, kx_203, kx_204, kx_205, kx_206, kx_207, kx_208, kx_209, kx_210, rx_0_0, rx_0_1, rx_0_2, rx_0_3, rx_0_4, rx_0_5, rx_0_6, rx_0_7, rx_1_0, rx_1_1, rx_2_3, rx_2_4, rx_2_5, rx_2_6, rx_2_7, rx_2_8, rx_2_9, rx_10_0, rx_10_1, rx_10_2, rx_33_0, rx_33_1, rx_67_0, rx_68_0, rx_197_0, rx_199_5, rx_199_6, rx_199_7, rx_203_0, rx_203_1, rx_203_2, rx_206_0, rx_206_1, rx_206_2, rx_206_3, Option.bind_some, Option.toList_some, Option.toList_none, List.cons_append, List.nil_append, ↓reduceIte, p_138, p_139, decide_eq_true hv, decide_eq_true hl, zi_bI_t, if_pos h0]; exact ⟨_, rfl⟩
      · by_cases h40 : 40 < n
        · refine CC.same O ?_
          simp +decide only [b129_0, b129_4, b129_7, b129_11, b129_14, b129_19, b129_26, S.n, S.k, S.r, hp_n_wi, hp_k_wi, hp_r_wi, hp_n_wl, hp_k_wl, hp_r_wl, hp_n_wb, hp_k_wb, hp_r_wb, zq_rf, kx_0, kx_1, kx_2, kx_3, kx_4, kx_5, kx_6, kx_7, kx_8, kx_9, kx_10, kx_11, kx_12, kx_13, kx_14, kx_15, kx_16, kx_17, kx_33, kx_34, kx_50, kx_66, kx_67, kx_68, kx_69, kx_197, kx_198, kx_199, kx_200, kx_201, kx_202, kx_203, kx_204, kx_205, kx_206, kx_207, kx_208, kx_209, kx_210, rx_0_0, rx_0_1, rx_0_2, rx_0_3, rx_0_4, rx_0_5, rx_0_6, rx_0_7, rx_1_0, rx_1_1, rx_2_3, rx_2_4, rx_2_5, rx_2_6, rx_2_7, rx_2_8, rx_2_9, rx_10_0, rx_10_1, rx_10_2, rx_33_0, rx_33_1, rx_67_0, rx_68_0, rx_197_0, rx_199_5, rx_199_6, rx_199_7, rx_203_0, rx_203_1, rx_203_2, rx_206_0, rx_206_1, rx_206_2, rx_206_3, Option.bind_some, Option.toList_some, Option.toList_none, List.cons_append, List.nil_append, ↓reduceIte, p_138, p_139, decide_eq_true hv, decide_eq_true hl, zi_bI_t, if_neg h0, if_pos h40]; exact ⟨_, rfl⟩
        · obtain ⟨c, hc, rfl⟩ := nI_ex (b := 4) (by decide) hv.1 hv.2
          obtain ⟨m, hm, rfl⟩ := nI_ex' (b := 40) (by decide) h0 h40
          obtain ⟨s, N, R, M, B, L, m', H, r, K, C, ff, I, T⟩ := G 1 V1
          obtain ⟨eN, h1, hN, hM, hR⟩ := T.tr I
          obtain ⟨lo, e98⟩ : ∃ lo : Int32, zv 3 98 0 [.ref 1, .double 0, .double 0] [] h = some (some (.int lo), h) := by
            have e := k_lo S V1 (x := wx h 1) (y := wy h 1) eN hN (u1 := .double 0) (u2 := .double 0)
            rw [zC_wx] at e; exact ⟨_, e⟩
          by_cases q0 : zh_i h 11 0 = 0
          · by_cases q1 : 0 < lo
            · refine CC.same O ?_
              simp +decide only [b129_0, b129_4, b129_7, b129_11, b129_14, b129_19, b129_28, b129_43, b129_50, b129_53, S.n, S.k, S.r, hp_n_wi, hp_k_wi, hp_r_wi, hp_n_wl, hp_k_wl, hp_r_wl, hp_n_wb, hp_k_wb, hp_r_wb, zq_rf, kx_0, kx_1, kx_2, kx_3, kx_4, kx_5, kx_6, kx_7, kx_8, kx_9, kx_10, kx_11, kx_12, kx_13, kx_14, kx_15, kx_16, kx_17, kx_33, kx_34, kx_50, kx_66, kx_67, kx_68, kx_69, kx_197, kx_198, kx_199, kx_200, kx_201, kx_202, kx_203, kx_204, kx_205, kx_206, kx_207, kx_208, kx_209, kx_210, rx_0_0, rx_0_1, rx_0_2, rx_0_3, rx_0_4, rx_0_5, rx_0_6, rx_0_7, rx_1_0, rx_1_1, rx_2_3, rx_2_4, rx_2_5, rx_2_6, rx_2_7, rx_2_8, rx_2_9, rx_10_0, rx_10_1, rx_10_2, rx_33_0, rx_33_1, rx_67_0, rx_68_0, rx_197_0, rx_199_5, rx_199_6, rx_199_7, rx_203_0, rx_203_1, rx_203_2, rx_206_0, rx_206_1, rx_206_2, rx_206_3, Option.bind_some, Option.toList_some, Option.toList_none, List.cons_append, List.nil_append, ↓reduceIte, p_138, p_139, decide_eq_true hv, decide_eq_true hl, zi_bI_t, if_neg h0, if_neg h40, if_pos q0, e98, if_pos q1]; exact ⟨_, rfl⟩
            · obtain ⟨h2, e2, O2, F2⟩ := O.copy V17 V1 (by decide) (u := .double 0)
              obtain ⟨v3, h3, e3, O3, F3⟩ := r_lp hc hm (l := l) (f := f) m 0 (Nat.zero_add _) (u6 := u6) O2
              have e3' : zv 8 129 70 [.ref 0, .int (nI c), .int l, .int f, .int (nI m), .int 0, u6] [] h2 = some (some (.int v3), h3) := e3
              exact ⟨v3, h3, by simp +decide only [b129_0, b129_4, b129_7, b129_11, b129_14, b129_19, b129_28, b129_43, b129_50, b129_56, b129_67, S.n, S.k, S.r, hp_n_wi, hp_k_wi, hp_r_wi, hp_n_wl, hp_k_wl, hp_r_wl, hp_n_wb, hp_k_wb, hp_r_wb, zq_rf, kx_0, kx_1, kx_2, kx_3, kx_4, kx_5, kx_6, kx_7, kx_8, kx_9, kx_10, kx_11, kx_12, kx_13, kx_14, kx_15, kx_16, kx_17, kx_33, kx_34, kx_50, kx_66, kx_67, kx_68, kx_69, kx_197, kx_198, kx_199, kx_200, kx_201, kx_202, kx_203, kx_204, kx_205, kx_206, kx_207, kx_208, kx_209, kx_210, rx_0_0, rx_0_1, rx_0_2, rx_0_3, rx_0_4, rx_0_5, rx_0_6, rx_0_7, rx_1_0, rx_1_1, rx_2_3, rx_2_4, rx_2_5, rx_2_6, rx_2_7, rx_2_8, rx_2_9, rx_10_0, rx_10_1, rx_10_2, rx_33_0, rx_33_1, rx_67_0, rx_68_0, rx_197_0, rx_199_5, rx_199_6, rx_199_7, rx_203_0, rx_203_1, rx_203_2, rx_206_0, rx_206_1, rx_206_2, rx_206_3, Option.bind_some, Option.toList_some, Option.toList_none, List.cons_append, List.nil_append, ↓reduceIte, p_138, p_139, decide_eq_true hv, decide_eq_true hl, zi_bI_t, if_neg h0, if_neg h40, if_pos q0, e98, if_neg q1, e2, e3'], O3, F2.trans F3⟩
          · refine CC.same O ?_
            simp +decide only [b129_0, b129_4, b129_7, b129_11, b129_14, b129_19, b129_28, b129_53, S.n, S.k, S.r, hp_n_wi, hp_k_wi, hp_r_wi, hp_n_wl, hp_k_wl, hp_r_wl, hp_n_wb, hp_k_wb, hp_r_wb, zq_rf, kx_0, kx_1, kx_2, kx_3, kx_4, kx_5, kx_6, kx_7, kx_8, kx_9, kx_10, kx_11, kx_12, kx_13, kx_14, kx_15, kx_16, kx_17, kx_33, kx_34, kx_50, kx_66, kx_67, kx_68, kx_69, kx_197, kx_198, kx_199, kx_200, kx_201, kx_202, kx_203, kx_204, kx_205, kx_206, kx_207, kx_208, kx_209, kx_210, rx_0_0, rx_0_1, rx_0_2, rx_0_3, rx_0_4, rx_0_5, rx_0_6, rx_0_7, rx_1_0, rx_1_1, rx_2_3, rx_2_4, rx_2_5, rx_2_6, rx_2_7, rx_2_8, rx_2_9, rx_10_0, rx_10_1, rx_10_2, rx_33_0, rx_33_1, rx_67_0, rx_68_0, rx_197_0, rx_199_5, rx_199_6, rx_199_7, rx_203_0, rx_203_1, rx_203_2, rx_206_0, rx_206_1, rx_206_2, rx_206_3, Option.bind_some, Option.toList_some, Option.toList_none, List.cons_append, List.nil_append, ↓reduceIte, p_138, p_139, decide_eq_true hv, decide_eq_true hl, zi_bI_t, if_neg h0, if_neg h40, if_neg q0]; exact ⟨_, rfl⟩
    · refine CC.same O ?_
      simp +decide only [b129_0, b129_4, b129_7, b129_11, b129_26, S.n, S.k, S.r, hp_n_wi, hp_k_wi, hp_r_wi, hp_n_wl, hp_k_wl, hp_r_wl, hp_n_wb, hp_k_wb, hp_r_wb, zq_rf, kx_0, kx_1, kx_2, kx_3, kx_4, kx_5, kx_6, kx_7, kx_8, kx_9, kx_10, kx_11, kx_12, kx_13, kx_14, kx_15, kx_16, kx_17, kx_33, kx_34, kx_50, kx_66, kx_67, kx_68, kx_69, kx_197, kx_198, kx_199, kx_200, kx_201, kx_202, kx_203, kx_204, kx_205, kx_206, kx_207, kx_208, kx_209, kx_210, rx_0_0, rx_0_1, rx_0_2, rx_0_3, rx_0_4, rx_0_5, rx_0_6, rx_0_7, rx_1_0, rx_1_1, rx_2_3, rx_2_4, rx_2_5, rx_2_6, rx_2_7, rx_2_8, rx_2_9, rx_10_0, rx_10_1, rx_10_2, rx_33_0, rx_33_1, rx_67_0, rx_68_0, rx_197_0, rx_199_5, rx_199_6, rx_199_7, rx_203_0, rx_203_1, rx_203_2, rx_206_0, rx_206_1, rx_206_2, rx_206_3, Option.bind_some, Option.toList_some, Option.toList_none, List.cons_append, List.nil_append, ↓reduceIte, p_138, p_139, decide_eq_true hv, decide_eq_false hl, zi_bI_t, zi_bI_f]; exact ⟨_, rfl⟩
  · refine CC.same O ?_
    simp +decide only [b129_0, b129_4, b129_26, S.n, S.k, S.r, hp_n_wi, hp_k_wi, hp_r_wi, hp_n_wl, hp_k_wl, hp_r_wl, hp_n_wb, hp_k_wb, hp_r_wb, zq_rf, kx_0, kx_1, kx_2, kx_3, kx_4, kx_5, kx_6, kx_7, kx_8, kx_9, kx_10, kx_11, kx_12, kx_13, kx_14, kx_15, kx_16, kx_17, kx_33, kx_34, kx_50, kx_66, kx_67, kx_68, kx_69, kx_197, kx_198, kx_199, kx_200, kx_201, kx_202, kx_203, kx_204, kx_205, kx_206, kx_207, kx_208, kx_209, kx_210, rx_0_0, rx_0_1, rx_0_2, rx_0_3, rx_0_4, rx_0_5, rx_0_6, rx_0_7, rx_1_0, rx_1_1, rx_2_3, rx_2_4, rx_2_5, rx_2_6, rx_2_7, rx_2_8, rx_2_9, rx_10_0, rx_10_1, rx_10_2, rx_33_0, rx_33_1, rx_67_0, rx_68_0, rx_197_0, rx_199_5, rx_199_6, rx_199_7, rx_203_0, rx_203_1, rx_203_2, rx_206_0, rx_206_1, rx_206_2, rx_206_3, Option.bind_some, Option.toList_some, Option.toList_none, List.cons_append, List.nil_append, ↓reduceIte, p_138, decide_eq_false hv, zi_bI_f]; exact ⟨_, rfl⟩
end R33G
end
section
/-! THE CLASS: its text is read, a token at a time -/
section R33H
variable {h : zi_Hp} {a p A K F : Nat → Int32} {b : Bool} {t n : Nat}
theorem s_g0 (S : Sh h) : (197 : Nat) < zh_n (zS h a p A K F b) := by rw [zS_n, S.n]; decide
theorem s_g1 (S : Sh h) : (zh_k (zS h a p A K F b) 197).1 = 3 := by rw [zS_k, S.k, kx_197]
theorem s_g2 (S : Sh h) : (199 : Nat) < zh_n (zS h a p A K F b) := by rw [zS_n, S.n]; decide
theorem s_g3 (S : Sh h) : (zh_k (zS h a p A K F b) 199).1 = 1 := by rw [zS_k, S.k, kx_199]
def TS (a : Nat → Int32) (t : Nat) : Prop := (∃ n, TJ a t n) ∧ (a 2 = 3 → ∃ v, a 4 = nI v ∧ v ≤ 99)
theorem TJ.u1 (T : TJ a t n) {k : Nat} {v : Int32} (h1 : k ≠ 1) (h5 : k ≠ 5) : TJ (up a k v) t n := ⟨T.1, by rw [up_n _ _ (Ne.symm h1)]; exact T.2.1, T.2.2.1, by rw [up_n _ _ (Ne.symm h5)]; exact T.2.2.2⟩
theorem TJ.nx (T : TJ a t n) {k : Nat} (hk : k ≤ t) : TJ (up a 5 (nI k)) t k := ⟨T.1, by rw [up_n _ _ (by decide)]; exact T.2.1, hk, up_s _ _ _⟩
theorem s_end (S : Sh h) {x : Int32} : zv 3 30 162 [.ref 197, .int x] [] (zS h a p A K F b) = some (none, zS h a p A K F b) := by rw [b30_162]
/-- letters -/
theorem s_lt (S : Sh h) {x : Int32} : ∀ d n a, n + d = t → TJ a t n → ∃ n', n ≤ n' ∧ zv 3 30 85 [.ref 197, .int x] [] (zS h a p A K F b) = some (none, zS h (up a 5 (nI n')) p A K F b) ∧ n' ≤ t
  | 0, n, a, hn, T => by
    have e : n = t := by omega
    subst e
    refine ⟨n, Nat.le_refl _, ?_, Nat.le_refl _⟩
    rw [b30_85 (s_g0 S) (s_g1 S), zS_7, zS_7, T.2.1, T.2.2.2, if_neg Int32.lt_irrefl, s_end S, up_id a 5 T.2.2.2.symm]
  | d + 1, n, a, hn, T => by
    have ht := T.1
    obtain ⟨v, ev⟩ := s_by S (a := a) (p := p) (A := A) (K := K) (F := F) (b := b) (nI n)
    obtain ⟨c, ec⟩ := s_le (h := zS h a p A K F b) (x := v)
    have go : zv 3 30 85 [.ref 197, .int x] [] (zS h a p A K F b) = if zi_bI c = 0 then zv 3 30 162 [.ref 197, .int x] [] (zS h a p A K F b) else zv 3 30 110 [.ref 197, .int x] [] (zS h a p A K F b) := by
      rw [b30_85 (s_g0 S) (s_g1 S), zS_7, zS_7, T.2.1, T.2.2.2, if_pos (nI_lt (by omega) (by omega)), b30_96 (s_g0 S) (s_g1 S), zS_7, T.2.2.2, ev]
      simp only [Option.bind_some, Option.toList_some, Option.toList_none, List.cons_append, List.nil_append]
      rw [b30_104, ec]
      simp only [Option.bind_some, Option.toList_some, Option.toList_none, List.cons_append, List.nil_append]
      rw [b30_107]
    cases c with
    | false => exact ⟨n, Nat.le_refl _, by rw [go, zi_bI_f, if_pos rfl, s_end S, up_id a 5 T.2.2.2.symm], by omega⟩
    | true =>
      obtain ⟨n', h1, e, h2⟩ := s_lt S (x := x) d (n + 1) (up a 5 (nI (n + 1))) (by omega) (T.nx (by omega))
      refine ⟨n', by omega, ?_, h2⟩
      rw [go, zi_bI_t, if_neg (by decide), b30_110 (s_g0 S) (s_g1 S), zS_7, T.2.2.2, nI_s, zS_w7, e]
      congr 3
      funext j
      unfold up
      by_cases q : j = 5
      · rw [if_pos q, if_pos q]
      · rw [if_neg q, if_neg q, if_neg q]
theorem nI_n10 {c i : Nat} : nI c * (10 : Int32) + nI i = nI (10 * c + i) := by
  show Int32.ofNat c * Int32.ofNat 10 + Int32.ofNat i = Int32.ofNat (10 * c + i)
  rw [Int32.ofNat_add, Int32.ofNat_mul, Int32.mul_comm]
/-- figures -/
theorem s_fg (S : Sh h) {st : Nat} : ∀ d n a, n + d = t → TJ a t n → a 3 = nI st → st ≤ n → (n - st ≤ 2 → ∃ w, a 4 = nI w ∧ (n - st = 0 → w = 0) ∧ (n - st ≤ 1 → w ≤ 9) ∧ w ≤ 99) → ∃ a' n', zv 2 31 5 [.ref 197] [] (zS h a p A K F b) = zv 2 31 66 [.ref 197] [] (zS h a' p A K F b) ∧ TJ a' t n' ∧ a' 3 = nI st ∧ st ≤ n' ∧ (n' - st ≤ 2 → ∃ w, a' 4 = nI w ∧ w ≤ 99)
  | 0, n, a, hn, T, e3, hs, hw => by
    have e : n = t := by omega
    subst e
    refine ⟨a, n, ?_, T, e3, hs, fun q => ?_⟩
    · rw [b31_5 (s_g0 S) (s_g1 S), zS_7, zS_7, T.2.1, T.2.2.2, if_neg Int32.lt_irrefl]
    · obtain ⟨w, w1, -, -, w4⟩ := hw q; exact ⟨w, w1, w4⟩
  | d + 1, n, a, hn, T, e3, hs, hw => by
    have ht := T.1
    obtain ⟨v, ev⟩ := s_by S (a := a) (p := p) (A := A) (K := K) (F := F) (b := b) (nI n)
    have go : zv 2 31 5 [.ref 197] [] (zS h a p A K F b) = if zi_bI (decide (¬ v < 48 ∧ ¬ 57 < v)) = 0 then zv 2 31 66 [.ref 197] [] (zS h a p A K F b) else zv 2 31 30 [.ref 197] [] (zS h a p A K F b) := by
      rw [b31_5 (s_g0 S) (s_g1 S), zS_7, zS_7, T.2.1, T.2.2.2, if_pos (nI_lt (by omega) (by omega)), b31_16 (s_g0 S) (s_g1 S), zS_7, T.2.2.2, ev]
      simp only [Option.bind_some, Option.toList_some, Option.toList_none, List.cons_append, List.nil_append]
      rw [b31_24, s_fi]
      simp only [Option.bind_some, Option.toList_some, Option.toList_none, List.cons_append, List.nil_append]
      rw [b31_27]
    by_cases q : ¬ v < 48 ∧ ¬ 57 < v
    · obtain ⟨k, hk, rfl⟩ := nI_ex' (x := v) (b := 57) (by decide) (fun q2 => q.1 (Int32.lt_trans q2 (by decide))) q.2
      have k48 : 48 ≤ k := by
        have := q.1
        rw [show (48 : Int32) = nI 48 from rfl, nI_lt' (by omega) (by omega)] at this; omega
      obtain ⟨a1, ea1⟩ : ∃ a1, a1 = up (up a 4 (a 4 * 10 + nI k - 48)) 5 (nI (n + 1)) := ⟨_, rfl⟩
      have T1 : TJ a1 t (n + 1) := by rw [ea1]; exact (T.u1 (k := 4) (by decide) (by decide)).nx (by omega)
      obtain ⟨a', n', e, T', e3', hs', hw'⟩ := s_fg S (st := st) d (n + 1) a1 (by omega) T1 (by rw [ea1, up_n _ _ (by decide), up_n _ _ (by decide)]; exact e3) (by omega) (fun q2 => by
        obtain ⟨w, w1, w2, w3, w4⟩ := hw (by omega)
        have hw9 : w ≤ 9 := w3 (by omega)
        refine ⟨10 * w + k - 48, ?_, fun q3 => absurd q3 (by omega), fun q3 => ?_, by omega⟩
        · rw [ea1, up_n _ _ (by decide), up_s, w1, nI_n10, show (48 : Int32) = nI 48 from rfl, nI_sub (by omega)]
        · have := w2 (by omega); omega)
      refine ⟨a', n', ?_, T', e3', hs', hw'⟩
      rw [go, decide_eq_true q, zi_bI_t, if_neg (by decide), b31_30 (s_g0 S) (s_g1 S), zS_7, zS_7, T.2.2.2, ev]
      simp only [Option.bind_some, Option.toList_some, Option.toList_none, List.cons_append, List.nil_append]
      rw [b31_46 (s_g0 S) (s_g1 S), zS_w7, b31_55 (s_g0 S) (s_g1 S) (s_g0 S) (s_g1 S), zS_7, up_n _ _ (by decide), T.2.2.2, nI_s, zS_w7, ← ea1, e]
    · refine ⟨a, n, by rw [go, decide_eq_false q, zi_bI_f, if_pos rfl], T, e3, hs, fun q2 => ?_⟩
      obtain ⟨w, w1, -, -, w4⟩ := hw q2; exact ⟨w, w1, w4⟩
theorem s_nu (S : Sh h) (T : TJ a t n) (e3 : a 3 = nI n) : ∃ a', zv 2 31 0 [.ref 197] [] (zS h a p A K F b) = some (none, zS h a' p A K F b) ∧ TS a' t := by
  have ht := T.1
  have hn := T.2.2.1
  obtain ⟨a', n', e, T', e3', hs', hw'⟩ := s_fg S (p := p) (A := A) (K := K) (F := F) (b := b) (st := n) (t - n) n (up a 4 0) (by omega) (T.u1 (by decide) (by decide)) (by rw [up_n _ _ (by decide)]; exact e3) (Nat.le_refl _) (fun _ => ⟨0, up_s _ _ _, fun _ => rfl, fun _ => by omega, by omega⟩)
  have hn' := T'.2.2.1
  have go : zv 2 31 0 [.ref 197] [] (zS h a p A K F b) = if 2 < nI (n' - n) then some (none, zS h (up a' 2 0) p A K F b) else some (none, zS h (up a' 2 3) p A K F b) := by
    rw [b31_0 (s_g0 S) (s_g1 S), zS_w7, e, b31_66 (s_g0 S) (s_g1 S), zS_7, zS_7, T'.2.2.2, e3', nI_sub hs']
    by_cases q : 2 < nI (n' - n)
    · rw [if_pos q, if_pos q, b31_80, b31_85 (s_g0 S) (s_g1 S), zS_w7]
    · rw [if_neg q, if_neg q, b31_84, b31_85 (s_g0 S) (s_g1 S), zS_w7]
  by_cases q : 2 < nI (n' - n)
  · exact ⟨_, by rw [go, if_pos q], ⟨n', T'.u1 (by decide) (by decide)⟩, fun w => by rw [up_s] at w; exact absurd w (by decide)⟩
  · refine ⟨_, by rw [go, if_neg q], ⟨n', T'.u1 (by decide) (by decide)⟩, fun _ => ?_⟩
    rw [show (2 : Int32) = nI 2 from rfl, nI_lt' (by omega) (by omega)] at q
    rw [up_n _ _ (by decide)]
    exact hw' (by omega)
/-- blanks, then a token -/
theorem s_sc (S : Sh h) : ∀ d n a, n + d = t → TJ a t n → ∀ {u : Value}, ∃ a', zv 3 30 0 [.ref 197, u] [] (zS h a p A K F b) = some (none, zS h a' p A K F b) ∧ TS a' t := by
  have tok : ∀ n a, TJ a t n → ∀ {u : Value}, ∃ a', zv 3 30 37 [.ref 197, u] [] (zS h a p A K F b) = some (none, zS h a' p A K F b) ∧ TS a' t := fun n a T {u} => by
    have ht := T.1
    have hn := T.2.2.1
    obtain ⟨a1, ea1⟩ : ∃ a1, a1 = up a 3 (nI n) := ⟨_, rfl⟩
    have T1 : TJ a1 t n := by rw [ea1]; exact T.u1 (by decide) (by decide)
    have e3 : a1 3 = nI n := by rw [ea1, up_s]
    obtain ⟨v, ev⟩ := s_by S (a := a1) (p := p) (A := A) (K := K) (F := F) (b := b) (nI n)
    have go : zv 3 30 37 [.ref 197, u] [] (zS h a p A K F b) = if nI n < nI t then zv 3 30 73 [.ref 197, .int v] [] (zS h a1 p A K F b) else zv 3 30 65 [.ref 197, .int v] [] (zS h a1 p A K F b) := by
      rw [b30_37 (s_g0 S) (s_g1 S), zS_7, T.2.2.2, zS_w7, ← ea1, b30_47 (s_g0 S) (s_g1 S) (s_g0 S) (s_g1 S), zS_7, e3, ev]
      simp only [Option.bind_some, Option.toList_some, Option.toList_none, List.cons_append, List.nil_append]
      rw [b30_53 (s_g0 S) (s_g1 S), zS_7, zS_7, e3, T1.2.1]
    by_cases q : nI n < nI t
    · have hnt : n < t := by rw [nI_lt' (by omega) (by omega)] at q; exact q
      obtain ⟨c, ec⟩ := s_le (h := zS h a1 p A K F b) (x := v)
      rw [go, if_pos q, b30_73, ec]
      simp only [Option.bind_some, Option.toList_some, Option.toList_none, List.cons_append, List.nil_append]
      rw [b30_77]
      cases c with
      | true =>
        obtain ⟨n', h1, e, h2⟩ := s_lt S (p := p) (A := A) (K := K) (F := F) (b := b) (x := v) (t - n) n (up a1 2 2) (by omega) (T1.u1 (by decide) (by decide))
        refine ⟨_, by rw [zi_bI_t, if_neg (by decide), b30_80 (s_g0 S) (s_g1 S), zS_w7, e], ⟨n', (T1.u1 (by decide) (by decide)).nx h2⟩, fun w => ?_⟩
        rw [up_n _ _ (by decide), up_s] at w; exact absurd w (by decide)
      | false =>
        rw [zi_bI_f, if_pos rfl, b30_123, s_fi]
        simp only [Option.bind_some, Option.toList_some, Option.toList_none, List.cons_append, List.nil_append]
        rw [b30_127]
        by_cases qf : ¬ v < 48 ∧ ¬ 57 < v
        · obtain ⟨a', e, T'⟩ := s_nu S (p := p) (A := A) (K := K) (F := F) (b := b) T1 e3
          refine ⟨a', ?_, T'⟩
          rw [decide_eq_true qf, zi_bI_t, if_neg (by decide), b30_130 (s_g0 S) (s_g1 S), e]
          simp only [Option.bind_some, Option.toList_some, Option.toList_none, List.cons_append, List.nil_append]
          rw [b30_134, s_end S]
        · have fin : ∀ w : Int32, ¬ w = 3 → ∃ a', zv 3 30 149 [.ref 197, .int v] [.int w, .ref 197] (zS h a1 p A K F b) = some (none, zS h a' p A K F b) ∧ TS a' t := fun w hw => by
            refine ⟨up (up a1 2 w) 5 (nI (n + 1)), ?_, ⟨n + 1, (T1.u1 (by decide) (by decide)).nx (by omega)⟩, fun z => ?_⟩
            · rw [b30_149 (s_g0 S) (s_g1 S), zS_w7, b30_154 (s_g0 S) (s_g1 S) (s_g0 S) (s_g1 S), zS_7, up_n _ _ (by decide), T1.2.2.2, nI_s, zS_w7, s_end S]
            · rw [up_n _ _ (by decide), up_s] at z; exact absurd z hw
          rw [decide_eq_false qf, zi_bI_f, if_pos rfl, b30_137]
          by_cases q9 : v = 59
          · rw [if_pos q9, b30_144]; exact fin 4 (by decide)
          · rw [if_neg q9, b30_148]; exact fin 0 (by decide)
    · refine ⟨up a1 2 1, by rw [go, if_neg q, b30_65 (s_g0 S) (s_g1 S), zS_w7, s_end S], ⟨n, T1.u1 (by decide) (by decide)⟩, fun w => ?_⟩
      rw [up_s] at w; exact absurd w (by decide)
  intro d
  induction d with
  | zero =>
    intro n a hn T u
    have e : n = t := by omega
    subst e
    rw [b30_0 (s_g0 S) (s_g1 S), zS_7, zS_7, T.2.1, T.2.2.2, if_neg Int32.lt_irrefl]
    exact tok _ _ T
  | succ d ih =>
    intro n a hn T u
    have ht := T.1
    obtain ⟨v, ev⟩ := s_by S (a := a) (p := p) (A := A) (K := K) (F := F) (b := b) (nI n)
    rw [b30_0 (s_g0 S) (s_g1 S), zS_7, zS_7, T.2.1, T.2.2.2, if_pos (nI_lt (by omega) (by omega)), b30_11 (s_g0 S) (s_g1 S), zS_7, T.2.2.2, ev]
    simp only [Option.bind_some, Option.toList_some, Option.toList_none, List.cons_append, List.nil_append]
    rw [b30_19]
    by_cases q : v = 32
    · rw [if_pos q, b30_24 (s_g0 S) (s_g1 S), zS_7, T.2.2.2, nI_s, zS_w7]
      exact ih (n + 1) _ (by omega) (T.nx (by omega))
    · rw [if_neg q]; exact tok _ _ T
theorem TS.sc (S : Sh h) (T : TS a t) {u : Value} : ∃ a', zv 3 30 0 [.ref 197, u] [] (zS h a p A K F b) = some (none, zS h a' p A K F b) ∧ TS a' t := by
  obtain ⟨⟨n, T⟩, -⟩ := T
  exact s_sc S (t - n) n a (by have := T.2.2.1; omega) T
end R33H
end
section
/-! THE CLASS: lines of a text -/
section R33I
variable {h : zi_Hp} {a p A K F : Nat → Int32} {b : Bool} {t n : Nat}
def PP (p A K F : Nat → Int32) : Prop := (∃ v, p 1 = nI v ∧ 2 ≤ v ∧ v ≤ 4) ∧ (∃ k, p 2 = nI k ∧ k ≤ 40 ∧ ∀ i, i < k → (∃ a, A i = nI a ∧ a ≤ 2) ∧ ∃ q, K i = nI q ∧ q ≤ 99) ∧ ∀ c, c < 3 → F c < 0 ∨ ∃ q, F c = nI q ∧ q ≤ 99
theorem PP.u (P : PP p A K F) {k : Nat} {v : Int32} (h1 : k ≠ 1) (h2 : k ≠ 2) : PP (up p k v) A K F := by
  obtain ⟨⟨v, e, q⟩, ⟨k, e2, q2⟩, f⟩ := P
  exact ⟨⟨v, by rw [up_n _ _ (Ne.symm h1)]; exact e, q⟩, ⟨k, by rw [up_n _ _ (Ne.symm h2)]; exact e2, q2⟩, f⟩
/-- a memory while lines are read -/
def ZI (h : zi_Hp) (t : Nat) (m : zi_Hp) : Prop := ∃ a p A K F b, m = zS h a p A K F b ∧ TS a t ∧ PP p A K F
/-- a truth is answered -/
def ZB (h : zi_Hp) (t : Nat) (o : Option zi_Rt) : Prop := ∃ (v : Bool) (m : zi_Hp), o = some (some (.int (zi_bI v)), m) ∧ ZI h t m
theorem s_re (S : Sh h) {w : Int32} : zv 1 21 0 [.ref 199, .ref 197, .int w] [] (zS h a p A K F b) = some (some (.int 0), zS h a (up (up p 3 w) 4 (a 3)) A K F b) := by
  rw [b21_0 (s_g2 S) (s_g3 S), zS_w9, b21_7 (s_g0 S) (s_g1 S) (s_g2 S) (s_g3 S), zS_7, zS_w9]
theorem s_ref (S : Sh h) (T : TS a t) (P : PP p A K F) {w : Int32} : ZB h t (zv 1 21 0 [.ref 199, .ref 197, .int w] [] (zS h a p A K F b)) := ⟨false, _, s_re S, a, _, A, K, F, b, rfl, T, (P.u (by decide) (by decide)).u (by decide) (by decide)⟩
theorem s_nw (S : Sh h) (P : PP p A K F) {w : Int32} : ∃ (v : Bool) (p' : Nat → Int32), zv 2 20 0 [.ref 199, .ref 197, .int w] [] (zS h a p A K F b) = some (some (.int (zi_bI v)), zS h a p' A K F b) ∧ PP p' A K F ∧ (v = true → a 2 = w ∧ p' = p) := by
  rw [b20_0 (s_g0 S) (s_g1 S), zS_7]
  by_cases q : a 2 = w
  · rw [if_pos q, b20_28, b20_33 (Or.inr rfl)]
    exact ⟨true, p, rfl, P, fun _ => ⟨q, rfl⟩⟩
  · have go : ∀ {x : Int32}, zv 2 20 22 [.ref 199, .ref 197, .int w] [.int x, .ref 197, .ref 199] (zS h a p A K F b) = some (some (.int 0), zS h a (up (up p 3 x) 4 (a 3)) A K F b) := fun {x} => by
      rw [b20_22 (s_g2 S) (s_g3 S), s_re S]
      simp only [Option.bind_some, Option.toList_some, Option.toList_none, List.cons_append, List.nil_append]
      rw [b20_25, if_pos rfl, b20_32, b20_33 (Or.inl rfl)]
    rw [if_neg q, b20_8 (s_g0 S) (s_g1 S), zS_7]
    by_cases q0 : a 2 = 0
    · rw [if_pos q0, b20_17, go]
      exact ⟨false, _, rfl, (P.u (by decide) (by decide)).u (by decide) (by decide), fun z => absurd z (by decide)⟩
    · rw [if_neg q0, b20_21, go]
      exact ⟨false, _, rfl, (P.u (by decide) (by decide)).u (by decide) (by decide), fun z => absurd z (by decide)⟩
theorem s_ts (S : Sh h) (T : TS a t) (P : PP p A K F) : ZB h t (zv 4 19 0 [.ref 199, .ref 197] [] (zS h a p A K F b)) := by
  obtain ⟨a', e, T'⟩ := T.sc S (p := p) (A := A) (K := K) (F := F) (b := b) (u := .double 0)
  obtain ⟨v, p', e2, P', -⟩ := s_nw S (a := a') (b := b) P (w := 4)
  refine ⟨v, _, ?_, a', p', A, K, F, b, rfl, T', P'⟩
  rw [b19_0 (s_g0 S) (s_g1 S), e]
  simp only [Option.bind_some, Option.toList_some, Option.toList_none, List.cons_append, List.nil_append]
  rw [b19_4 (s_g2 S) (s_g3 S), e2]
  simp only [Option.bind_some, Option.toList_some, Option.toList_none, List.cons_append, List.nil_append]
  rw [b19_10 (zi_bI_01 v)]
theorem s_tn (S : Sh h) (T : TS a t) (P : PP p A K F) {lo hi : Int32} : ∃ (v : Bool) (a' p' : Nat → Int32), zv 4 18 0 [.ref 199, .ref 197, .int lo, .int hi] [] (zS h a p A K F b) = some (some (.int (zi_bI v)), zS h a' p' A K F b) ∧ TS a' t ∧ PP p' A K F ∧ (v = true → (∃ w, a' 4 = nI w ∧ w ≤ 99) ∧ ¬ a' 4 < lo ∧ ¬ hi < a' 4) := by
  obtain ⟨a', e, T'⟩ := T.sc S (p := p) (A := A) (K := K) (F := F) (b := b) (u := .double 0)
  obtain ⟨v, p', e2, P', hv⟩ := s_nw S (a := a') (b := b) P (w := 3)
  have go : zv 4 18 0 [.ref 199, .ref 197, .int lo, .int hi] [] (zS h a p A K F b) = if zi_bI v = 0 then zv 4 18 13 [.ref 199, .ref 197, .int lo, .int hi] [] (zS h a' p' A K F b) else zv 4 18 15 [.ref 199, .ref 197, .int lo, .int hi] [] (zS h a' p' A K F b) := by
    rw [b18_0 (s_g0 S) (s_g1 S), e]
    simp only [Option.bind_some, Option.toList_some, Option.toList_none, List.cons_append, List.nil_append]
    rw [b18_4 (s_g2 S) (s_g3 S), e2]
    simp only [Option.bind_some, Option.toList_some, Option.toList_none, List.cons_append, List.nil_append]
    rw [b18_10]
  have bad : zv 4 18 31 [.ref 199, .ref 197, .int lo, .int hi] [] (zS h a' p' A K F b) = some (some (.int 0), zS h a' (up (up p' 3 3) 4 (a' 3)) A K F b) := by
    rw [b18_31 (s_g2 S) (s_g3 S), s_re S]
    simp only [Option.bind_some, Option.toList_some, Option.toList_none, List.cons_append, List.nil_append]
    rw [b18_37, if_pos rfl, b18_44, b18_45 (Or.inl rfl)]
  cases v with
  | false => exact ⟨false, a', p', by rw [go, zi_bI_f, if_pos rfl, b18_13], T', P', fun z => absurd z (by decide)⟩
  | true =>
    rw [go, zi_bI_t, if_neg (by decide), b18_15 (s_g0 S) (s_g1 S), zS_7]
    by_cases q1 : a' 4 < lo
    · rw [if_pos q1, bad]
      exact ⟨false, a', _, rfl, T', (P'.u (by decide) (by decide)).u (by decide) (by decide), fun z => absurd z (by decide)⟩
    · rw [if_neg q1, b18_23 (s_g0 S) (s_g1 S), zS_7]
      by_cases q2 : hi < a' 4
      · rw [if_pos q2, bad]
        exact ⟨false, a', _, rfl, T', (P'.u (by decide) (by decide)).u (by decide) (by decide), fun z => absurd z (by decide)⟩
      · rw [if_neg q2, b18_40, b18_45 (Or.inr rfl)]
        exact ⟨true, a', p', rfl, T', P', fun _ => ⟨T'.2 (hv rfl).1, q1, q2⟩⟩
theorem s_ro (S : Sh h) (T : TS a t) (P : PP p A K F) : ZB h t (zv 5 15 0 [.ref 199, .ref 197] [] (zS h a p A K F b)) := by
  rw [b15_0 (s_g2 S) (s_g3 S), zS_b]
  cases b with
  | true =>
    obtain ⟨v, m, e, Z⟩ := s_ref S (b := true) T P (w := 4)
    rw [zi_bI_t, if_neg (by decide), b15_7 (s_g2 S) (s_g3 S), e]
    simp only [Option.bind_some, Option.toList_some, Option.toList_none, List.cons_append, List.nil_append]
    exact ⟨v, m, by rw [b15_13 (zi_bI_01 v)], Z⟩
  | false =>
    obtain ⟨v, a', p', e, T', P', hv⟩ := s_tn S (b := false) T P (lo := 2) (hi := 4)
    rw [zi_bI_f, if_pos rfl, b15_14 (s_g2 S) (s_g3 S), e]
    simp only [Option.bind_some, Option.toList_some, Option.toList_none, List.cons_append, List.nil_append]
    rw [b15_21]
    cases v with
    | false => exact ⟨false, _, by rw [zi_bI_f, if_pos rfl, b15_24], a', p', A, K, F, false, rfl, T', P'⟩
    | true =>
      obtain ⟨⟨w, ew, hw⟩, q1, q2⟩ := hv rfl
      rw [zi_bI_t, if_neg (by decide), b15_26 (s_g2 S) (s_g3 S), zS_wb, b15_33 (s_g0 S) (s_g1 S) (s_g2 S) (s_g3 S) (s_g2 S) (s_g3 S), zS_7, ew, zS_w9]
      rw [ew, show (2 : Int32) = nI 2 from rfl, nI_lt' (by omega) (by omega)] at q1
      rw [ew, show (4 : Int32) = nI 4 from rfl, nI_lt' (by omega) (by omega)] at q2
      have P2 : PP (up p' 1 (nI w)) A K F := by
        obtain ⟨-, ⟨k, e2, q⟩, f⟩ := P'
        exact ⟨⟨w, up_s _ _ _, by omega, by omega⟩, ⟨k, by rw [up_n _ _ (by decide)]; exact e2, q⟩, f⟩
      obtain ⟨v, m, e2, Z⟩ := s_ts S (b := true) T' P2
      rw [e2]
      simp only [Option.bind_some, Option.toList_some, Option.toList_none, List.cons_append, List.nil_append]
      exact ⟨v, m, by rw [b15_44 (zi_bI_01 v)], Z⟩
theorem s_fd (S : Sh h) (T : TS a t) (P : PP p A K F) {u : Value} : ZB h t (zv 5 17 0 [.ref 199, .ref 197, u] [] (zS h a p A K F b)) := by
  obtain ⟨v, a', p', e, T', P', hv⟩ := s_tn S (b := b) T P (lo := 0) (hi := 2)
  rw [b17_0 (s_g2 S) (s_g3 S), e]
  simp only [Option.bind_some, Option.toList_some, Option.toList_none, List.cons_append, List.nil_append]
  rw [b17_7]
  cases v with
  | false => exact ⟨false, _, by rw [zi_bI_f, if_pos rfl, b17_10], a', p', A, K, F, b, rfl, T', P'⟩
  | true =>
    obtain ⟨⟨c, ec, hc⟩, q1, q2⟩ := hv rfl
    rw [ec, show (2 : Int32) = nI 2 from rfl, nI_lt' (by omega) (by omega)] at q2
    have hv3 : ¬ nI c < 0 ∧ nI c < 3 := ⟨nI_pos (by omega), nI_lt (b := 3) (by omega) (by decide)⟩
    have r7 : zh_r (zS h a' p' A K F b) 199 7 = .ref 202 := by rw [zS_r, S.r, rx_199_7]
    have nc : (nI c).toNatClampNeg = c := nI_clamp (by omega)
    rw [zi_bI_t, if_neg (by decide), b17_12 (s_g0 S) (s_g1 S), zS_7, ec, p_133, decide_eq_true hv3]
    simp only [Option.bind_some, Option.toList_some, Option.toList_none, List.cons_append, List.nil_append]
    rw [b17_21, zi_bI_t, if_neg (by decide), b17_24 (s_g2 S) (s_g3 S) (by rw [r7, zq_rf]) (by rw [r7, zq_rf, zS_n, S.n]; decide) (by rw [r7, zq_rf, zS_k, S.k, kx_202]; exact zj_n (by omega) (by decide)) (by rw [r7, zq_rf, zS_k, S.k, kx_202]), r7, zq_rf, nc, zS_F]
    by_cases q : F c < 0
    · obtain ⟨v, a2, p2, e2, T2, P2, hv2⟩ := s_tn S (b := b) T' P' (lo := 0) (hi := 99)
      rw [if_pos q, b17_40 (s_g2 S) (s_g3 S), e2]
      simp only [Option.bind_some, Option.toList_some, Option.toList_none, List.cons_append, List.nil_append]
      rw [b17_48]
      cases v with
      | false => exact ⟨false, _, by rw [zi_bI_f, if_pos rfl, b17_51], a2, p2, A, K, F, b, rfl, T2, P2⟩
      | true =>
        obtain ⟨⟨w, ew, hw⟩, -, -⟩ := hv2 rfl
        have r7' : zh_r (zS h a2 p2 A K F b) 199 7 = .ref 202 := by rw [zS_r, S.r, rx_199_7]
        have P3 : PP p2 A K (up F c (nI w)) := ⟨P2.1, P2.2.1, fun d hd => by
          by_cases z : d = c
          · subst z; exact Or.inr ⟨w, up_s _ _ _, hw⟩
          · rw [up_n _ _ z]; exact P2.2.2 d hd⟩
        obtain ⟨v, m, e3, Z⟩ := s_ts S (b := b) T2 P3
        rw [zi_bI_t, if_neg (by decide), b17_53 (s_g2 S) (s_g3 S) (by rw [r7', zq_rf]) (s_g0 S) (s_g1 S) (by rw [r7', zq_rf, zS_n, S.n]; decide) (by rw [r7', zq_rf, zS_k, S.k, kx_202]; exact zj_n (by omega) (by decide)) (by rw [r7', zq_rf, zS_k, S.k, kx_202]), r7', zq_rf, nc, zS_7, ew, zS_wF, e3]
        simp only [Option.bind_some, Option.toList_some, Option.toList_none, List.cons_append, List.nil_append]
        exact ⟨v, m, by rw [b17_68 (zi_bI_01 v)], Z⟩
    · obtain ⟨v, m, e2, Z⟩ := s_ref S (b := b) T' P' (w := 4)
      rw [if_neg q, b17_33 (s_g2 S) (s_g3 S), e2]
      simp only [Option.bind_some, Option.toList_some, Option.toList_none, List.cons_append, List.nil_append]
      exact ⟨v, m, by rw [b17_39 (zi_bI_01 v)], Z⟩
theorem s_kl (S : Sh h) {act : Nat} (ha : act ≤ 2) : ∀ d i, i + d = 41 → ∀ {a p A K F : Nat → Int32} {b : Bool}, TS a t → PP p A K F → ZB h t (zv 4 16 6 [.ref 199, .ref 197, .int (nI act), .int (nI i)] [] (zS h a p A K F b))
  | 0, i, hi, a, p, A, K, F, b, T, P => by
    have e : i = 41 := by omega
    subst e
    obtain ⟨v, m, e2, Z⟩ := s_ref S (b := b) T P (w := 5)
    rw [b16_6, if_pos (by decide), b16_132 (s_g2 S) (s_g3 S), e2]
    simp only [Option.bind_some, Option.toList_some, Option.toList_none, List.cons_append, List.nil_append]
    exact ⟨v, m, by rw [b16_138 (zi_bI_01 v)], Z⟩
  | d + 1, i, hi, a, p, A, K, F, b, T, P => by
    have bad : ∀ {w : Int32}, ZB h t (zv 4 16 41 [.ref 199, .ref 197, .int (nI act), .int (nI i)] [.int w, .ref 197, .ref 199] (zS h a p A K F b)) := fun {w} => by
      obtain ⟨v, m, e2, Z⟩ := s_ref S (b := b) T P (w := w)
      rw [b16_41 (s_g2 S) (s_g3 S), e2]
      simp only [Option.bind_some, Option.toList_some, Option.toList_none, List.cons_append, List.nil_append]
      exact ⟨v, m, by rw [b16_44 (zi_bI_01 v)], Z⟩
    have bad27 : ZB h t (zv 4 16 27 [.ref 199, .ref 197, .int (nI act), .int (nI i)] [] (zS h a p A K F b)) := by
      rw [b16_27 (s_g0 S) (s_g1 S)]
      split
      · rw [b16_36]; exact bad
      · rw [b16_40]; exact bad
    rw [b16_6, if_neg (fun q => by rw [show (40 : Int32) = nI 40 from rfl, nI_lt' (by omega) (by omega)] at q; omega), b16_12 (s_g0 S) (s_g1 S), zS_7]
    by_cases q0 : a 2 = 0
    · rw [if_pos q0]; exact bad27
    · rw [if_neg q0, b16_19 (s_g0 S) (s_g1 S), zS_7]
      by_cases q1 : a 2 = 1
      · rw [if_pos q1]; exact bad27
      · obtain ⟨⟨sv, esv⟩, ⟨k, ek, hk, hik⟩, hf⟩ := id P
        rw [if_neg q1, b16_45 (s_g2 S) (s_g3 S), zS_9, ek, if_neg (nI_pos (by omega)), b16_52 (s_g2 S) (s_g3 S), zS_9, ek]
        by_cases q4 : nI k < 40
        · have hk4 : k < 40 := by rw [show (40 : Int32) = nI 40 from rfl, nI_lt' (by omega) (by omega)] at q4; exact q4
          obtain ⟨v, p', e2, P', hv⟩ := s_nw S (a := a) (b := b) P (w := 3)
          rw [if_pos q4, b16_68 (s_g2 S) (s_g3 S), e2]
          simp only [Option.bind_some, Option.toList_some, Option.toList_none, List.cons_append, List.nil_append]
          rw [b16_74]
          cases v with
          | false => exact ⟨false, _, by rw [zi_bI_f, if_pos rfl, b16_77], a, p', A, K, F, b, rfl, T, P'⟩
          | true =>
            obtain ⟨w, ew, hw⟩ := T.2 (hv rfl).1
            have ep : p' = p := (hv rfl).2
            subst ep
            have r5 : ∀ {A K : Nat → Int32}, zh_r (zS h a p' A K F b) 199 5 = .ref 200 := fun {A K} => by rw [zS_r, S.r, rx_199_5]
            have r6 : ∀ {A K : Nat → Int32}, zh_r (zS h a p' A K F b) 199 6 = .ref 201 := fun {A K} => by rw [zS_r, S.r, rx_199_6]
            have zz : ¬ (nI k < 0 ∨ 40 ≤ (nI k).toNatClampNeg) := zj_n hk4 (by decide)
            have nc : (nI k).toNatClampNeg = k := nI_clamp (by omega)
            obtain ⟨A2, eA2⟩ : ∃ A2, A2 = up A k (nI act) := ⟨_, rfl⟩
            obtain ⟨K2, eK2⟩ : ∃ K2, K2 = up K k (nI w) := ⟨_, rfl⟩
            obtain ⟨p2, ep2⟩ : ∃ p2, p2 = up p' 2 (nI (k + 1)) := ⟨_, rfl⟩
            have P2 : PP p2 A2 K2 F := by
              refine ⟨?_, ⟨k + 1, by rw [ep2, up_s], by omega, fun j hj => ?_⟩, hf⟩
              · obtain ⟨e, q⟩ := esv
                exact ⟨sv, by rw [ep2, up_n _ _ (by decide)]; exact e, q⟩
              · by_cases z : j = k
                · subst z; exact ⟨⟨act, by rw [eA2, up_s], ha⟩, w, by rw [eK2, up_s], hw⟩
                · obtain ⟨⟨a3, e3, h3⟩, q3, e4, h4⟩ := hik j (by omega)
                  exact ⟨⟨a3, by rw [eA2, up_n _ _ z]; exact e3, h3⟩, q3, by rw [eK2, up_n _ _ z]; exact e4, h4⟩
            obtain ⟨a2, e5, T2⟩ := T.sc S (p := p2) (A := A2) (K := K2) (F := F) (b := b) (u := .double 0)
            have go : zv 4 16 79 [.ref 199, .ref 197, .int (nI act), .int (nI i)] [] (zS h a p' A K F b) = if a2 2 = 4 then zv 4 16 124 [.ref 199, .ref 197, .int (nI act), .int (nI i)] [] (zS h a2 p2 A2 K2 F b) else zv 4 16 126 [.ref 199, .ref 197, .int (nI act), .int (nI i)] [] (zS h a2 p2 A2 K2 F b) := by
              rw [b16_79 (s_g2 S) (s_g3 S) (by rw [r5, zq_rf]) (by rw [r5, zq_rf, zS_n, S.n]; decide) (by rw [r5, zq_rf, zS_k, S.k, kx_200, zS_9, ek]; exact zz) (by rw [r5, zq_rf, zS_k, S.k, kx_200]) (by rw [r6, zq_rf]), r5, r6, zq_rf, zq_rf, zS_9, ek, nc, zS_wA, ← eA2, b16_94 (s_g2 S) (s_g3 S) (s_g0 S) (s_g1 S) (by rw [zS_n, S.n]; decide) (by rw [zS_k, S.k, kx_201, zS_9, ek]; exact zz) (by rw [zS_k, S.k, kx_201]), zS_9, ek, nc, zS_7, ew, zS_wK, ← eK2, b16_104 (s_g2 S) (s_g3 S) (s_g2 S) (s_g3 S) (s_g0 S) (s_g1 S), zS_9, ek, nI_s, zS_w9, ← ep2, e5]
              simp only [Option.bind_some, Option.toList_some, Option.toList_none, List.cons_append, List.nil_append]
              rw [b16_116 (s_g0 S) (s_g1 S), zS_7]
            rw [zi_bI_t, if_neg (by decide), go]
            by_cases q6 : a2 2 = 4
            · rw [if_pos q6, b16_124]
              exact ⟨true, _, rfl, a2, p2, A2, K2, F, b, rfl, T2, P2⟩
            · rw [if_neg q6, b16_126, nI_s]
              exact s_kl S ha d (i + 1) (by omega) T2 P2
        · obtain ⟨v, m, e2, Z⟩ := s_ref S (b := b) T P (w := 5)
          rw [if_neg q4, b16_61 (s_g2 S) (s_g3 S), e2]
          simp only [Option.bind_some, Option.toList_some, Option.toList_none, List.cons_append, List.nil_append]
          exact ⟨v, m, by rw [b16_67 (zi_bI_01 v)], Z⟩
end R33I
end
section
/-! THE CLASS: a whole text -/
section R33J
variable {h : zi_Hp} {a p A K F : Nat → Int32} {b : Bool} {t n : Nat}
theorem sl_4 {k : Nat} (hk : 1 ≤ k ∧ k < 5) : zi_sl k ≤ 4 := by
  have : k = 1 ∨ k = 2 ∨ k = 3 ∨ k = 4 := by omega
  rcases this with rfl | rfl | rfl | rfl <;> decide
theorem s_nm (S : Sh h) {k : Nat} (hk : 1 ≤ k ∧ k < 5) {u : Value} : ∃ v : Bool, zv 2 32 0 [.ref 197, .retAddr k, u] [] (zS h a p A K F b) = some (some (.int (zi_bI v)), zS h a p A K F b) := by
  have h4 := sl_4 hk
  have lp : ∀ d i, i + d = zi_sl k → ∃ v : Bool, zv 2 32 28 [.ref 197, .retAddr k, .int (nI i)] [] (zS h a p A K F b) = some (some (.int (zi_bI v)), zS h a p A K F b) := by
    intro d
    induction d with
    | zero =>
      intro i hi
      have e : i = zi_sl k := by omega
      refine ⟨true, ?_⟩
      rw [b32_28 hk, if_neg (by rw [e]; exact Int32.lt_irrefl), b32_62]; rfl
    | succ d ih =>
      intro i hi
      obtain ⟨v, ev⟩ := s_by S (a := a) (p := p) (A := A) (K := K) (F := F) (b := b) (a 3 + nI i)
      have nc : (nI i).toNatClampNeg = i := nI_clamp (by omega)
      rw [b32_28 hk, if_pos (show nI i < Int32.ofNat (zi_sl k) from nI_lt (b := zi_sl k) (by omega) (by omega)), b32_36 (s_g0 S) (s_g1 S), zS_7, ev]
      simp only [Option.bind_some, Option.toList_some, Option.toList_none, List.cons_append, List.nil_append]
      rw [b32_46 hk (zj_n (by omega) (by omega))]
      split
      · rw [b32_56, nI_s]; exact ih (i + 1) (by omega)
      · rw [b32_54]; exact ⟨false, rfl⟩
  rw [b32_0 (s_g0 S) (s_g1 S)]
  split
  · rw [b32_8 (s_g0 S) (s_g1 S) hk]
    split
    · rw [b32_26]; exact lp (zi_sl k) 0 (Nat.zero_add _)
    · rw [b32_24]; exact ⟨false, rfl⟩
  · rw [b32_24]; exact ⟨false, rfl⟩
theorem s_ky (S : Sh h) (T : TS a t) (P : PP p A K F) {act : Nat} (ha : act ≤ 2) {u : Value} : ZB h t (zv 4 16 0 [.ref 199, .ref 197, .int (nI act), u] [] (zS h a p A K F b)) := by
  obtain ⟨a', e, T'⟩ := T.sc S (p := p) (A := A) (K := K) (F := F) (b := b) (u := .double 0)
  rw [b16_0 (s_g0 S) (s_g1 S), e]
  simp only [Option.bind_some, Option.toList_some, Option.toList_none, List.cons_append, List.nil_append]
  rw [b16_4]
  exact s_kl S ha 41 0 rfl T' P
theorem s_li (S : Sh h) (T : TS a t) (P : PP p A K F) : ZB h t (zv 6 14 0 [.ref 199, .ref 197] [] (zS h a p A K F b)) := by
  obtain ⟨v1, e1⟩ := s_nm S (a := a) (p := p) (A := A) (K := K) (F := F) (b := b) (k := 1) (by decide) (u := .double 0)
  obtain ⟨v2, e2⟩ := s_nm S (a := a) (p := p) (A := A) (K := K) (F := F) (b := b) (k := 2) (by decide) (u := .double 0)
  obtain ⟨v3, e3⟩ := s_nm S (a := a) (p := p) (A := A) (K := K) (F := F) (b := b) (k := 3) (by decide) (u := .double 0)
  obtain ⟨v4, e4⟩ := s_nm S (a := a) (p := p) (A := A) (K := K) (F := F) (b := b) (k := 4) (by decide) (u := .double 0)
  rw [b14_0 (s_g0 S) (s_g1 S), e1]
  simp only [Option.bind_some, Option.toList_some, Option.toList_none, List.cons_append, List.nil_append]
  rw [b14_6]
  cases v1 with
  | true =>
    obtain ⟨v, m, e, Z⟩ := s_ro S (b := b) T P
    rw [zi_bI_t, if_neg (by decide), b14_9 (s_g2 S) (s_g3 S), e]
    simp only [Option.bind_some, Option.toList_some, Option.toList_none, List.cons_append, List.nil_append]
    exact ⟨v, m, by rw [b14_14 (zi_bI_01 v)], Z⟩
  | false =>
    rw [zi_bI_f, if_pos rfl, b14_15 (s_g0 S) (s_g1 S), e2]
    simp only [Option.bind_some, Option.toList_some, Option.toList_none, List.cons_append, List.nil_append]
    rw [b14_21]
    cases v2 with
    | true =>
      obtain ⟨v, m, e, Z⟩ := s_ky S (b := b) T P (act := 1) (by decide) (u := .double 0)
      have e' : zv 4 16 0 [.ref 199, .ref 197, .int 1, .double 0] [] (zS h a p A K F b) = some (some (.int (zi_bI v)), m) := e
      rw [zi_bI_t, if_neg (by decide), b14_24 (s_g2 S) (s_g3 S), e']
      simp only [Option.bind_some, Option.toList_some, Option.toList_none, List.cons_append, List.nil_append]
      exact ⟨v, m, by rw [b14_30 (zi_bI_01 v)], Z⟩
    | false =>
      rw [zi_bI_f, if_pos rfl, b14_31 (s_g0 S) (s_g1 S), e3]
      simp only [Option.bind_some, Option.toList_some, Option.toList_none, List.cons_append, List.nil_append]
      rw [b14_37]
      cases v3 with
      | true =>
        obtain ⟨v, m, e, Z⟩ := s_ky S (b := b) T P (act := 2) (by decide) (u := .double 0)
        have e' : zv 4 16 0 [.ref 199, .ref 197, .int 2, .double 0] [] (zS h a p A K F b) = some (some (.int (zi_bI v)), m) := e
        rw [zi_bI_t, if_neg (by decide), b14_40 (s_g2 S) (s_g3 S), e']
        simp only [Option.bind_some, Option.toList_some, Option.toList_none, List.cons_append, List.nil_append]
        exact ⟨v, m, by rw [b14_46 (zi_bI_01 v)], Z⟩
      | false =>
        rw [zi_bI_f, if_pos rfl, b14_47 (s_g0 S) (s_g1 S), e4]
        simp only [Option.bind_some, Option.toList_some, Option.toList_none, List.cons_append, List.nil_append]
        rw [b14_53]
        cases v4 with
        | true =>
          obtain ⟨v, m, e, Z⟩ := s_fd S (b := b) T P (u := .double 0)
          rw [zi_bI_t, if_neg (by decide), b14_56 (s_g2 S) (s_g3 S), e]
          simp only [Option.bind_some, Option.toList_some, Option.toList_none, List.cons_append, List.nil_append]
          exact ⟨v, m, by rw [b14_61 (zi_bI_01 v)], Z⟩
        | false =>
          have bad : ∀ {w : Int32}, ZB h t (zv 6 14 76 [.ref 199, .ref 197] [.int w, .ref 197, .ref 199] (zS h a p A K F b)) := fun {w} => by
            obtain ⟨v, m, e, Z⟩ := s_ref S (b := b) T P (w := w)
            rw [b14_76 (s_g2 S) (s_g3 S), e]
            simp only [Option.bind_some, Option.toList_some, Option.toList_none, List.cons_append, List.nil_append]
            exact ⟨v, m, by rw [b14_79 (zi_bI_01 v)], Z⟩
          rw [zi_bI_f, if_pos rfl, b14_62 (s_g0 S) (s_g1 S)]
          split
          · rw [b14_71]; exact bad
          · rw [b14_75]; exact bad
/-- lines until the end -/
theorem s_pl (S : Sh h) : ∀ d i, i + d = 160 → ∀ {a p A K F : Nat → Int32} {b : Bool}, TS a t → PP p A K F → ∃ m, zv 7 13 49 [.ref 199, .ref 197, .int (nI i)] [] (zS h a p A K F b) = some (none, m) ∧ ZI h t m
  | 0, i, hi, a, p, A, K, F, b, T, P => by
    have e : i = 160 := by omega
    subst e
    exact ⟨_, by rw [b13_49, if_neg (by decide), b13_93], a, p, A, K, F, b, rfl, T, P⟩
  | d + 1, i, hi, a, p, A, K, F, b, T, P => by
    rw [b13_49, if_pos (show nI i < 160 from nI_lt (b := 160) (by omega) (by decide)), b13_56 (s_g0 S) (s_g1 S), zS_7]
    by_cases q : a 2 = 1
    · exact ⟨_, by rw [if_pos q, b13_93], a, p, A, K, F, b, rfl, T, P⟩
    · obtain ⟨v, m, e, a2, p2, A2, K2, F2, b2, rfl, T2, P2⟩ := s_li S (b := b) T P
      rw [if_neg q, b13_64 (s_g2 S) (s_g3 S), e]
      simp only [Option.bind_some, Option.toList_some, Option.toList_none, List.cons_append, List.nil_append]
      rw [b13_69]
      cases v with
      | false => exact ⟨_, by rw [zi_bI_f, if_pos rfl, b13_72], a2, p2, A2, K2, F2, b2, rfl, T2, P2⟩
      | true =>
        obtain ⟨a3, e3, T3⟩ := T2.sc S (p := up p2 0 (p2 0 + 1)) (A := A2) (K := K2) (F := F2) (b := b2) (u := .double 0)
        rw [zi_bI_t, if_neg (by decide), b13_73 (s_g2 S) (s_g3 S) (s_g0 S) (s_g1 S), zS_9, zS_w9, e3]
        simp only [Option.bind_some, Option.toList_some, Option.toList_none, List.cons_append, List.nil_append]
        rw [b13_87, nI_s]
        exact s_pl S d (i + 1) (by omega) T3 (P2.u (by decide) (by decide))
theorem GO.zS (O : GO h) : GO (zS h a p A K F b) := O.of (zS_S O.1) (fun W V o j ho => by
  have := V.l2
  exact ⟨zS_o _ (by omega) (by omega) (by omega) (by omega) (by omega), zS_bo _ (by omega)⟩)
theorem Fy.zS : Fy h (zS h a p A K F b) := ⟨⟨fun c j hc => ⟨zS_o _ (by omega) (by omega) (by omega) (by omega) (by omega), zS_bo _ (by omega), rfl⟩, rfl, rfl⟩, fun k => ⟨zS_o _ (by decide) (by decide) (by decide) (by decide) (by decide), zS_o _ (by decide) (by decide) (by decide) (by decide) (by decide)⟩⟩
theorem s_pa (O : GO h) (ht : t ≤ 160) (et : zh_i h 197 1 = nI t) {u : Value} : ∃ h1 m, zv 7 13 0 [.ref 199, .ref 197, u] [] h = some (none, m) ∧ GO h1 ∧ Fc h h1 ∧ ZI h1 t m := by
  obtain ⟨S, -⟩ := id O
  have k9 : zh_k h 199 = (1, 9) := by rw [S.k, kx_199]
  have r7 : zh_r h 199 7 = .ref 202 := by rw [S.r, rx_199_7]
  have n9 : (199 : Nat) < zh_n h := by rw [S.n]; decide
  obtain ⟨h0, eh0⟩ : ∃ h0, h0 = zh_wi (zh_wi (zh_wi (zh_wb (zh_wi (zh_wi h 199 0 0) 199 1 3) 199 8 false) 199 2 0) 199 3 0) 199 4 0 := ⟨_, rfl⟩
  have O0 : GO h0 := by
    rw [eh0]; exact ((((((O.wi (wo_p (by decide))).wi (wo_p (by decide))).wb (wo_p (by decide))).wi (wo_p (by decide))).wi (wo_p (by decide))).wi (wo_p (by decide)))
  have F0 : Fc h h0 := by
    rw [eh0]
    exact (((((Fc.wi (by decide)).trans (Fc.wi (by decide))).trans (Fc.wb (by decide))).trans (Fc.wi (by decide))).trans (Fc.wi (by decide))).trans (Fc.wi (by decide))
  obtain ⟨S0, -⟩ := id O0
  obtain ⟨h1, e1, O1, F1, g1, -, w1⟩ := fill_g (a := 202) (n := 3) (v := -4) (by decide) (by decide) 3 0 rfl O0 (by rw [S0.k, kx_202]) (by rw [S0.n]; decide)
  have e1' : zv 1 241 0 [.ref 202, .int (-4), .double 0, .double 0] [] h0 = some (none, h1) := by
    rw [b241_0 (by rw [S0.k, kx_202]; decide) (by rw [S0.n]; decide), S0.k, kx_202]; exact e1
  obtain ⟨S1, -⟩ := id O1
  have p1 : zh_i h1 199 1 = nI 3 := by
    rw [g1 _ _ (by decide), eh0, hp_i_wi, if_neg (by decide), hp_i_wi, if_neg (by decide), hp_i_wi, if_neg (by decide), hp_i_wb, hp_i_wi, if_pos ⟨rfl, rfl⟩]; rfl
  have p2 : zh_i h1 199 2 = nI 0 := by
    rw [g1 _ _ (by decide), eh0, hp_i_wi, if_neg (by decide), hp_i_wi, if_neg (by decide), hp_i_wi, if_pos ⟨rfl, rfl⟩]; rfl
  have P1 : PP (zh_i h1 199) (zh_i h1 200) (zh_i h1 201) (zh_i h1 202) := ⟨⟨3, p1, by decide, by decide⟩, ⟨0, p2, by decide, fun i hi => absurd hi (Nat.not_lt_zero _)⟩, fun c hc => Or.inl (by rw [w1 c (Nat.zero_le _) hc]; decide)⟩
  have T1 : TJ (up (zh_i h1 197) 5 (nI 0)) t 0 := ⟨ht, by rw [up_n _ _ (by decide), (F0.trans F1).2]; exact et, Nat.zero_le _, up_s _ _ _⟩
  obtain ⟨a2, e2, T2⟩ := s_sc S1 (p := zh_i h1 199) (A := zh_i h1 200) (K := zh_i h1 201) (F := zh_i h1 202) (b := zh_b h1 199 8) t 0 _ (Nat.zero_add _) T1 (u := .double 0)
  obtain ⟨m, e3, Z3⟩ := s_pl S1 160 0 rfl (b := zh_b h1 199 8) T2 P1
  have ew : zh_wi h1 197 5 0 = zS h1 (up (zh_i h1 197) 5 (nI 0)) (zh_i h1 199) (zh_i h1 200) (zh_i h1 201) (zh_i h1 202) (zh_b h1 199 8) := by
    have q := zS_w7 (h := h1) (a := zh_i h1 197) (p := zh_i h1 199) (A := zh_i h1 200) (K := zh_i h1 201) (F := zh_i h1 202) (b := zh_b h1 199 8) 5 0
    rw [zS_id] at q; exact q
  have e29 : zv 1 29 0 [.ref 197] [] h1 = some (none, zh_wi h1 197 5 0) := by rw [b29_0 (by rw [S1.n]; decide) (by rw [S1.k, kx_197])]
  have e3' : zv 7 13 49 [.ref 199, .ref 197, .int 0] [] (zS h1 a2 (zh_i h1 199) (zh_i h1 200) (zh_i h1 201) (zh_i h1 202) (zh_b h1 199 8)) = some (none, m) := e3
  refine ⟨h1, m, ?_, O1, F0.trans F1, Z3⟩
  have go : zv 7 13 0 [.ref 199, .ref 197, u] [] h = (zv 1 241 0 [.ref 202, .int (-4), .double 0, .double 0] [] h0).bind fun r => zv 7 13 39 [.ref 199, .ref 197, u] (r.1.toList ++ []) r.2 := by
    simp +decide only [b13_0, S.n, S.k, S.r, hp_n_wi, hp_k_wi, hp_r_wi, hp_n_wl, hp_k_wl, hp_r_wl, hp_n_wb, hp_k_wb, hp_r_wb, zq_rf, kx_0, kx_1, kx_2, kx_3, kx_4, kx_5, kx_6, kx_7, kx_8, kx_9, kx_10, kx_11, kx_12, kx_13, kx_14, kx_15, kx_16, kx_17, kx_33, kx_34, kx_50, kx_66, kx_67, kx_68, kx_69, kx_197, kx_198, kx_199, kx_200, kx_201, kx_202, kx_203, kx_204, kx_205, kx_206, kx_207, kx_208, kx_209, kx_210, rx_0_0, rx_0_1, rx_0_2, rx_0_3, rx_0_4, rx_0_5, rx_0_6, rx_0_7, rx_1_0, rx_1_1, rx_2_3, rx_2_4, rx_2_5, rx_2_6, rx_2_7, rx_2_8, rx_2_9, rx_10_0, rx_10_1, rx_10_2, rx_33_0, rx_33_1, rx_67_0, rx_68_0, rx_197_0, rx_199_5, rx_199_6, rx_199_7, rx_203_0, rx_203_1, rx_203_2, rx_206_0, rx_206_1, rx_206_2, rx_206_3, Option.bind_some, Option.toList_some, Option.toList_none, List.cons_append, List.nil_append, ↓reduceIte]
    rw [← eh0]
  rw [go, e1']
  simp only [Option.bind_some, Option.toList_some, Option.toList_none, List.cons_append, List.nil_append]
  rw [b13_39 (by rw [S1.n]; decide) (by rw [S1.k, kx_197]), e29]
  simp only [Option.bind_some, Option.toList_some, Option.toList_none, List.cons_append, List.nil_append]
  rw [ew, b13_43 (s_g0 S1) (s_g1 S1), e2]
  simp only [Option.bind_some, Option.toList_some, Option.toList_none, List.cons_append, List.nil_append]
  rw [b13_47, e3']
theorem c_text (O : GO h) (ht : t ≤ 160) (et : zh_i h 197 1 = nI t) : ∃ v h', zv 8 107 0 [.ref 0] [] h = some (some (.int v), h') ∧ GO h' ∧ Fy h h' ∧ zh_i h' 197 1 = 0 := by
  obtain ⟨S, -⟩ := id O
  obtain ⟨h1, m, e1, O1, F1, a, p, A, K, F, b, rfl, T, P⟩ := s_pa O ht et (u := .double 0)
  obtain ⟨S1, -⟩ := id O1
  obtain ⟨h2, eh2⟩ : ∃ h2, h2 = zS h1 (up a 1 0) p A K F b := ⟨_, rfl⟩
  have O2 : GO h2 := by rw [eh2]; exact O1.zS
  have F2 : Fy h h2 := by rw [eh2]; exact F1.1.trans Fy.zS
  have l2 : zh_i h2 197 1 = 0 := by rw [eh2, zS_7, up_s]
  have ew : zh_wi (zS h1 a p A K F b) 197 1 0 = h2 := by rw [eh2, zS_w7]
  have O1' : GO (zS h1 a p A K F b) := O1.zS
  have go : zv 8 107 0 [.ref 0] [] h = zv 8 107 23 [.ref 0] [.ref 199] h2 := by
    have g1 : zv 8 107 0 [.ref 0] [] h = zv 8 107 11 [.ref 0] [] (zS h1 a p A K F b) := by
      simp +decide only [b107_0, S.n, S.k, S.r, hp_n_wi, hp_k_wi, hp_r_wi, hp_n_wl, hp_k_wl, hp_r_wl, hp_n_wb, hp_k_wb, hp_r_wb, zq_rf, kx_0, kx_1, kx_2, kx_3, kx_4, kx_5, kx_6, kx_7, kx_8, kx_9, kx_10, kx_11, kx_12, kx_13, kx_14, kx_15, kx_16, kx_17, kx_33, kx_34, kx_50, kx_66, kx_67, kx_68, kx_69, kx_197, kx_198, kx_199, kx_200, kx_201, kx_202, kx_203, kx_204, kx_205, kx_206, kx_207, kx_208, kx_209, kx_210, rx_0_0, rx_0_1, rx_0_2, rx_0_3, rx_0_4, rx_0_5, rx_0_6, rx_0_7, rx_1_0, rx_1_1, rx_2_3, rx_2_4, rx_2_5, rx_2_6, rx_2_7, rx_2_8, rx_2_9, rx_10_0, rx_10_1, rx_10_2, rx_33_0, rx_33_1, rx_67_0, rx_68_0, rx_197_0, rx_199_5, rx_199_6, rx_199_7, rx_203_0, rx_203_1, rx_203_2, rx_206_0, rx_206_1, rx_206_2, rx_206_3, Option.bind_some, Option.toList_some, Option.toList_none, List.cons_append, List.nil_append, ↓reduceIte, e1]
    rw [g1]
    have S := O1'.1
    simp +decide only [b107_11, S.n, S.k, S.r, hp_n_wi, hp_k_wi, hp_r_wi, hp_n_wl, hp_k_wl, hp_r_wl, hp_n_wb, hp_k_wb, hp_r_wb, zq_rf, kx_0, kx_1, kx_2, kx_3, kx_4, kx_5, kx_6, kx_7, kx_8, kx_9, kx_10, kx_11, kx_12, kx_13, kx_14, kx_15, kx_16, kx_17, kx_33, kx_34, kx_50, kx_66, kx_67, kx_68, kx_69, kx_197, kx_198, kx_199, kx_200, kx_201, kx_202, kx_203, kx_204, kx_205, kx_206, kx_207, kx_208, kx_209, kx_210, rx_0_0, rx_0_1, rx_0_2, rx_0_3, rx_0_4, rx_0_5, rx_0_6, rx_0_7, rx_1_0, rx_1_1, rx_2_3, rx_2_4, rx_2_5, rx_2_6, rx_2_7, rx_2_8, rx_2_9, rx_10_0, rx_10_1, rx_10_2, rx_33_0, rx_33_1, rx_67_0, rx_68_0, rx_197_0, rx_199_5, rx_199_6, rx_199_7, rx_203_0, rx_203_1, rx_203_2, rx_206_0, rx_206_1, rx_206_2, rx_206_3, Option.bind_some, Option.toList_some, Option.toList_none, List.cons_append, List.nil_append, ↓reduceIte]
    rw [ew]
  rw [go]
  obtain ⟨S2, G2⟩ := id O2
  have go2 : zv 8 107 23 [.ref 0] [.ref 199] h2 = if zh_i h2 199 3 = 0 then zv 8 107 40 [.ref 0] [] h2 else zv 8 107 29 [.ref 0] [] h2 := by
    have S := S2
    simp +decide only [b107_23, S.n, S.k, S.r, hp_n_wi, hp_k_wi, hp_r_wi, hp_n_wl, hp_k_wl, hp_r_wl, hp_n_wb, hp_k_wb, hp_r_wb, zq_rf, kx_0, kx_1, kx_2, kx_3, kx_4, kx_5, kx_6, kx_7, kx_8, kx_9, kx_10, kx_11, kx_12, kx_13, kx_14, kx_15, kx_16, kx_17, kx_33, kx_34, kx_50, kx_66, kx_67, kx_68, kx_69, kx_197, kx_198, kx_199, kx_200, kx_201, kx_202, kx_203, kx_204, kx_205, kx_206, kx_207, kx_208, kx_209, kx_210, rx_0_0, rx_0_1, rx_0_2, rx_0_3, rx_0_4, rx_0_5, rx_0_6, rx_0_7, rx_1_0, rx_1_1, rx_2_3, rx_2_4, rx_2_5, rx_2_6, rx_2_7, rx_2_8, rx_2_9, rx_10_0, rx_10_1, rx_10_2, rx_33_0, rx_33_1, rx_67_0, rx_68_0, rx_197_0, rx_199_5, rx_199_6, rx_199_7, rx_203_0, rx_203_1, rx_203_2, rx_206_0, rx_206_1, rx_206_2, rx_206_3, Option.bind_some, Option.toList_some, Option.toList_none, List.cons_append, List.nil_append, ↓reduceIte]
  rw [go2]
  by_cases q : zh_i h2 199 3 = 0
  · have PS2 : PS h2 := by
      rw [eh2]
      obtain ⟨⟨v, ev, v2, v4⟩, ⟨k, ek, hk, hi⟩, hf⟩ := P
      exact ⟨⟨v, by rw [zS_9]; exact ev, v2, v4⟩, ⟨k, by rw [zS_9]; exact ek, hk, fun i hi2 => by rw [zS_A, zS_K]; exact hi i hi2⟩, fun c hc => by rw [zS_F]; exact hf c hc⟩
    obtain ⟨x', y', e3, G3⟩ := k_pf S2 V1 PS2 (x := wx h2 1) (y := wy h2 1) (u2' := .double 0)
    rw [zC_wx] at e3
    have O3 : GO (zC h2 1 x' y') := O2.zC V1 G3
    obtain ⟨h3, eh3⟩ : ∃ h3, h3 = zC h2 1 x' y' := ⟨_, rfl⟩
    rw [← eh3] at e3 O3
    have F3 : Fc h2 h3 := by rw [eh3]; exact Fc.zC V1
    have g3 : zv 8 107 40 [.ref 0] [] h2 = zv 8 107 51 [.ref 0] [] h3 := by
      have S := S2
      simp +decide only [b107_40, S.n, S.k, S.r, hp_n_wi, hp_k_wi, hp_r_wi, hp_n_wl, hp_k_wl, hp_r_wl, hp_n_wb, hp_k_wb, hp_r_wb, zq_rf, kx_0, kx_1, kx_2, kx_3, kx_4, kx_5, kx_6, kx_7, kx_8, kx_9, kx_10, kx_11, kx_12, kx_13, kx_14, kx_15, kx_16, kx_17, kx_33, kx_34, kx_50, kx_66, kx_67, kx_68, kx_69, kx_197, kx_198, kx_199, kx_200, kx_201, kx_202, kx_203, kx_204, kx_205, kx_206, kx_207, kx_208, kx_209, kx_210, rx_0_0, rx_0_1, rx_0_2, rx_0_3, rx_0_4, rx_0_5, rx_0_6, rx_0_7, rx_1_0, rx_1_1, rx_2_3, rx_2_4, rx_2_5, rx_2_6, rx_2_7, rx_2_8, rx_2_9, rx_10_0, rx_10_1, rx_10_2, rx_33_0, rx_33_1, rx_67_0, rx_68_0, rx_197_0, rx_199_5, rx_199_6, rx_199_7, rx_203_0, rx_203_1, rx_203_2, rx_206_0, rx_206_1, rx_206_2, rx_206_3, Option.bind_some, Option.toList_some, Option.toList_none, List.cons_append, List.nil_append, ↓reduceIte, e3]
    have O4 : GO (zh_wb (zh_wb h3 66 0 false) 66 1 false) := (O3.wb wo_66).wb wo_66
    have F4 : Fc h3 (zh_wb (zh_wb h3 66 0 false) 66 1 false) := (Fc.wb (by decide)).trans (Fc.wb (by decide))
    have g4 : ∃ v, zv 8 107 51 [.ref 0] [] h3 = some (some (.int v), zh_wb (zh_wb h3 66 0 false) 66 1 false) := by
      have S := O3.1
      simp +decide only [b107_51, b107_69, S.n, S.k, S.r, hp_n_wi, hp_k_wi, hp_r_wi, hp_n_wl, hp_k_wl, hp_r_wl, hp_n_wb, hp_k_wb, hp_r_wb, zq_rf, kx_0, kx_1, kx_2, kx_3, kx_4, kx_5, kx_6, kx_7, kx_8, kx_9, kx_10, kx_11, kx_12, kx_13, kx_14, kx_15, kx_16, kx_17, kx_33, kx_34, kx_50, kx_66, kx_67, kx_68, kx_69, kx_197, kx_198, kx_199, kx_200, kx_201, kx_202, kx_203, kx_204, kx_205, kx_206, kx_207, kx_208, kx_209, kx_210, rx_0_0, rx_0_1, rx_0_2, rx_0_3, rx_0_4, rx_0_5, rx_0_6, rx_0_7, rx_1_0, rx_1_1, rx_2_3, rx_2_4, rx_2_5, rx_2_6, rx_2_7, rx_2_8, rx_2_9, rx_10_0, rx_10_1, rx_10_2, rx_33_0, rx_33_1, rx_67_0, rx_68_0, rx_197_0, rx_199_5, rx_199_6, rx_199_7, rx_203_0, rx_203_1, rx_203_2, rx_206_0, rx_206_1, rx_206_2, rx_206_3, Option.bind_some, Option.toList_some, Option.toList_none, List.cons_append, List.nil_append, ↓reduceIte]
      exact ⟨_, rfl⟩
    obtain ⟨v, e4⟩ := g4
    exact ⟨v, _, by rw [if_pos q, g3, e4], O4, (F2.trans F3.1).trans F4.1, (F4.2.trans F3.2).trans l2⟩
  · have g3 : ∃ v, zv 8 107 29 [.ref 0] [] h2 = some (some (.int v), h2) := by
      have S := S2
      simp +decide only [b107_29, S.n, S.k, S.r, hp_n_wi, hp_k_wi, hp_r_wi, hp_n_wl, hp_k_wl, hp_r_wl, hp_n_wb, hp_k_wb, hp_r_wb, zq_rf, kx_0, kx_1, kx_2, kx_3, kx_4, kx_5, kx_6, kx_7, kx_8, kx_9, kx_10, kx_11, kx_12, kx_13, kx_14, kx_15, kx_16, kx_17, kx_33, kx_34, kx_50, kx_66, kx_67, kx_68, kx_69, kx_197, kx_198, kx_199, kx_200, kx_201, kx_202, kx_203, kx_204, kx_205, kx_206, kx_207, kx_208, kx_209, kx_210, rx_0_0, rx_0_1, rx_0_2, rx_0_3, rx_0_4, rx_0_5, rx_0_6, rx_0_7, rx_1_0, rx_1_1, rx_2_3, rx_2_4, rx_2_5, rx_2_6, rx_2_7, rx_2_8, rx_2_9, rx_10_0, rx_10_1, rx_10_2, rx_33_0, rx_33_1, rx_67_0, rx_68_0, rx_197_0, rx_199_5, rx_199_6, rx_199_7, rx_203_0, rx_203_1, rx_203_2, rx_206_0, rx_206_1, rx_206_2, rx_206_3, Option.bind_some, Option.toList_some, Option.toList_none, List.cons_append, List.nil_append, ↓reduceIte]
      exact ⟨_, rfl⟩
    obtain ⟨v, e4⟩ := g3
    exact ⟨v, h2, by rw [if_neg q, e4], O2, F2, l2⟩
end R33J
end
