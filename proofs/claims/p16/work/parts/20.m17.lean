section
/-! BOTH SIDES: chance -/
section R34Z4
variable {h h1 hc hr : zi_Hp} {L : Nat}
theorem nL_sub {a b : Nat} (hab : b ≤ a) : nL a - nL b = nL (a - b) := by
  have e : nL a = nL (a - b) + nL b := by rw [nL_add, Nat.sub_add_cancel hab]
  rw [e, Int64.add_sub_cancel]
theorem nL_rem {a b : Nat} (ha : a < 2 ^ 62) (hb : b < 2 ^ 62) : nL a - nL a / nL b * nL b = nL (a % b) := by
  have h1 := Nat.div_add_mod a b
  have h2 : a / b * b = b * (a / b) := Nat.mul_comm _ _
  rw [nL_div ha hb, nL_mul, nL_sub (Nat.div_mul_le_self a b)]
  congr 1
  omega
theorem gcd_st (a b : Nat) : Nat.gcd a b = Nat.gcd b (a % b) := by
  rw [Nat.gcd_comm a b, Nat.gcd_rec b a, Nat.gcd_comm]
theorem lg_0 {b : Nat} (hb : b < 2 ^ 62) : lg_cmp (nL b) 0 = 0 ↔ b = 0 := by
  rw [lg_cmp_eq]
  constructor
  · intro q
    by_cases z : b = 0
    · exact z
    · exact absurd q (nL_nz hb (by omega))
  · intro q; rw [q]; rfl
theorem lg_p {g : Nat} (hg : g < 2 ^ 62) (h0 : 0 < g) : 0 < lg_cmp (nL g) 0 := by
  have q : nL g > 0 := by
    show 0 < nL g
    rw [Int64.lt_iff_toInt_lt, nL_toInt hg]
    have z : (0 : Int64).toInt = 0 := rfl
    rw [z]; omega
  unfold lg_cmp
  rw [if_pos q]; decide
section
variable {y0 y2 : Int64} {u9 u10 : Value}
theorem gd_0 {a i : Nat} (hi : i ≤ 100) : ∀ {u9 u10 : Value}, zv 1 140 9 [.long y0, .double 1, .long y2, .double 1, .long (nL a), .double 1, .long (nL 0), .double 1, .int (nI i), u9, u10] [] h = some (some (.long (nL a)), h) := fun {u9 u10} => by
  rw [b140_9]
  by_cases q : nI i < 100
  · rw [if_pos q, b140_16, if_pos (by decide), b140_44]
  · rw [if_neg q, b140_44]
theorem gd_s {a b i : Nat} (hi : i < 100) (ha : a < 2 ^ 62) (hb : b < 2 ^ 62) (h0 : 0 < b) : ∀ {u9 u10 : Value}, ∃ v9 v10, zv 1 140 9 [.long y0, .double 1, .long y2, .double 1, .long (nL a), .double 1, .long (nL b), .double 1, .int (nI i), u9, u10] [] h = zv 1 140 9 [.long y0, .double 1, .long y2, .double 1, .long (nL b), .double 1, .long (nL (a % b)), .double 1, .int (nI (i + 1)), v9, v10] [] h := fun {u9 u10} => by
  have nz : ¬ nL b = 0 := nL_nz hb h0
  refine ⟨.long (nL (a % b)), .double 1, ?_⟩
  rw [b140_9, if_pos (show nI i < 100 from nI_lt (b := 100) hi (by decide)), b140_16, if_neg (fun q => by have := (lg_0 hb).mp q; omega), b140_23 nz, nI_s, nL_rem ha hb]
theorem gd_j : ∀ j a b i, b < 2 ^ j → i + 2 * j ≤ 100 → a < 2 ^ 62 → b < 2 ^ 62 → ∀ {u9 u10 : Value}, zv 1 140 9 [.long y0, .double 1, .long y2, .double 1, .long (nL a), .double 1, .long (nL b), .double 1, .int (nI i), u9, u10] [] h = some (some (.long (nL (Nat.gcd a b))), h)
  | 0, a, b, i, hb, hi, ha, hb2, u9, u10 => by
    have : b = 0 := by omega
    subst this
    rw [gd_0 (by omega), Nat.gcd_zero_right]
  | j + 1, a, b, i, hb, hi, ha, hb2, u9, u10 => by
    by_cases z : b = 0
    · subst z
      rw [gd_0 (by omega), Nat.gcd_zero_right]
    · have rl : a % b < b := Nat.mod_lt _ (by omega)
      obtain ⟨v9, v10, e⟩ := gd_s (h := h) (y0 := y0) (y2 := y2) (i := i) (a := a) (b := b) (by omega) ha hb2 (by omega) (u9 := u9) (u10 := u10)
      rw [e, gcd_st]
      by_cases z2 : a % b = 0
      · rw [z2, gd_0 (by omega), Nat.gcd_zero_right]
      · obtain ⟨w9, w10, e2⟩ := gd_s (h := h) (y0 := y0) (y2 := y2) (i := i + 1) (a := b) (b := a % b) (by omega) hb2 (by omega) (by omega) (u9 := v9) (u10 := v10)
        have r2 : b % (a % b) < a % b := Nat.mod_lt _ (by omega)
        have d1 := Nat.div_add_mod b (a % b)
        have d2 : 0 < b / (a % b) := Nat.div_pos (by omega) (by omega)
        have d3 : a % b ≤ (a % b) * (b / (a % b)) := Nat.le_mul_of_pos_right _ d2
        have p2 : 2 ^ (j + 1) = 2 ^ j * 2 := Nat.pow_succ _ _
        rw [e2, gcd_st b]
        generalize b % (a % b) = r at *
        generalize a % b = q at *
        generalize q * (b / q) = s at *
        exact gd_j j q r (i + 1 + 1) (by omega) (by omega) (by omega) (by omega)
theorem gc_o : ∀ k a b, b < k → a < 2 ^ 62 → b < 2 ^ 62 → ∀ {u8 u9 : Value}, zv 1 222 6 [.long y0, .double 1, .long y2, .double 1, .long (nL a), .double 1, .long (nL b), .double 1, u8, u9] [] h = some (some (.long (nL (Nat.gcd a b))), h)
  | 0, a, b, hk, _, _, u8, u9 => by omega
  | k + 1, a, b, hk, ha, hb, u8, u9 => by
    rw [b222_6]
    by_cases z : b = 0
    · subst z
      rw [if_pos (by decide), b222_31, Nat.gcd_zero_right]
    · have rl : a % b < b := Nat.mod_lt _ (by omega)
      rw [if_neg (fun q => z ((lg_0 hb).mp q)), b222_13 (nL_nz hb (by omega)), nL_rem ha hb, gcd_st]
      exact gc_o k b (a % b) (by omega) hb (by omega)
end
theorem c_ch0 (S : Sh h) {x w z t : Int32} (A : ¬ (AV x w z ∧ (t = 0 ∨ t = 1))) {u5 u6 : Value} : zv 17 122 0 [.ref 0, .int x, .int w, .int z, .int t, u5, u6] [] h = some (some (.long (-1)), h) := by
  by_cases hv : ¬ x < 0 ∧ x < 3
  · by_cases hw : ¬ w < 0 ∧ ¬ 7 < w
    · by_cases hz : z = 0 ∨ z = 1
      · have ht : ¬ (t = 0 ∨ t = 1) := fun q => A ⟨⟨hv, hw, hz⟩, q⟩
        simp +decide only [b122_0, b122_4, b122_7, b122_11, b122_14, b122_18, b122_21, b122_26, b122_29, S.n, S.k, S.r, hp_n_wi, hp_k_wi, hp_r_wi, hp_n_wl, hp_k_wl, hp_r_wl, hp_n_wb, hp_k_wb, hp_r_wb, zq_rf, kx_0, kx_1, kx_2, kx_3, kx_4, kx_5, kx_6, kx_7, kx_8, kx_9, kx_10, kx_11, kx_12, kx_13, kx_14, kx_15, kx_16, kx_17, kx_33, kx_34, kx_50, kx_66, kx_67, kx_68, kx_69, kx_197, kx_198, kx_199, kx_200, kx_201, kx_202, kx_203, kx_204, kx_205, kx_206, kx_207, kx_208, kx_209, kx_210, rx_0_0, rx_0_1, rx_0_2, rx_0_3, rx_0_4, rx_0_5, rx_0_6, rx_0_7, rx_1_0, rx_1_1, rx_2_3, rx_2_4, rx_2_5, rx_2_6, rx_2_7, rx_2_8, rx_2_9, rx_10_0, rx_10_1, rx_10_2, rx_33_0, rx_33_1, rx_67_0, rx_68_0, rx_197_0, rx_199_5, rx_199_6, rx_199_7, rx_203_0, rx_203_1, rx_203_2, rx_206_0, rx_206_1, rx_206_2, rx_206_3, Option.bind_some, Option.toList_some, Option.toList_none, List.cons_append, List.nil_append, ↓reduceIte, p_133, p_135, p_136, decide_eq_true hv, decide_eq_true hw, decide_eq_true hz, decide_eq_false ht, zi_bI_t, zi_bI_f]
      · simp +decide only [b122_0, b122_4, b122_7, b122_11, b122_14, b122_18, b122_29, S.n, S.k, S.r, hp_n_wi, hp_k_wi, hp_r_wi, hp_n_wl, hp_k_wl, hp_r_wl, hp_n_wb, hp_k_wb, hp_r_wb, zq_rf, kx_0, kx_1, kx_2, kx_3, kx_4, kx_5, kx_6, kx_7, kx_8, kx_9, kx_10, kx_11, kx_12, kx_13, kx_14, kx_15, kx_16, kx_17, kx_33, kx_34, kx_50, kx_66, kx_67, kx_68, kx_69, kx_197, kx_198, kx_199, kx_200, kx_201, kx_202, kx_203, kx_204, kx_205, kx_206, kx_207, kx_208, kx_209, kx_210, rx_0_0, rx_0_1, rx_0_2, rx_0_3, rx_0_4, rx_0_5, rx_0_6, rx_0_7, rx_1_0, rx_1_1, rx_2_3, rx_2_4, rx_2_5, rx_2_6, rx_2_7, rx_2_8, rx_2_9, rx_10_0, rx_10_1, rx_10_2, rx_33_0, rx_33_1, rx_67_0, rx_68_0, rx_197_0, rx_199_5, rx_199_6, rx_199_7, rx_203_0, rx_203_1, rx_203_2, rx_206_0, rx_206_1, rx_206_2, rx_206_3, Option.bind_some, Option.toList_some, Option.toList_none, List.cons_append, List.nil_append, ↓reduceIte, p_133, p_135, p_136, decide_eq_true hv, decide_eq_true hw, decide_eq_false hz, zi_bI_t, zi_bI_f]
    · simp +decide only [b122_0, b122_4, b122_7, b122_11, b122_29, S.n, S.k, S.r, hp_n_wi, hp_k_wi, hp_r_wi, hp_n_wl, hp_k_wl, hp_r_wl, hp_n_wb, hp_k_wb, hp_r_wb, zq_rf, kx_0, kx_1, kx_2, kx_3, kx_4, kx_5, kx_6, kx_7, kx_8, kx_9, kx_10, kx_11, kx_12, kx_13, kx_14, kx_15, kx_16, kx_17, kx_33, kx_34, kx_50, kx_66, kx_67, kx_68, kx_69, kx_197, kx_198, kx_199, kx_200, kx_201, kx_202, kx_203, kx_204, kx_205, kx_206, kx_207, kx_208, kx_209, kx_210, rx_0_0, rx_0_1, rx_0_2, rx_0_3, rx_0_4, rx_0_5, rx_0_6, rx_0_7, rx_1_0, rx_1_1, rx_2_3, rx_2_4, rx_2_5, rx_2_6, rx_2_7, rx_2_8, rx_2_9, rx_10_0, rx_10_1, rx_10_2, rx_33_0, rx_33_1, rx_67_0, rx_68_0, rx_197_0, rx_199_5, rx_199_6, rx_199_7, rx_203_0, rx_203_1, rx_203_2, rx_206_0, rx_206_1, rx_206_2, rx_206_3, Option.bind_some, Option.toList_some, Option.toList_none, List.cons_append, List.nil_append, ↓reduceIte, p_133, p_135, decide_eq_true hv, decide_eq_false hw, zi_bI_t, zi_bI_f]
  · simp +decide only [b122_0, b122_4, b122_29, S.n, S.k, S.r, hp_n_wi, hp_k_wi, hp_r_wi, hp_n_wl, hp_k_wl, hp_r_wl, hp_n_wb, hp_k_wb, hp_r_wb, zq_rf, kx_0, kx_1, kx_2, kx_3, kx_4, kx_5, kx_6, kx_7, kx_8, kx_9, kx_10, kx_11, kx_12, kx_13, kx_14, kx_15, kx_16, kx_17, kx_33, kx_34, kx_50, kx_66, kx_67, kx_68, kx_69, kx_197, kx_198, kx_199, kx_200, kx_201, kx_202, kx_203, kx_204, kx_205, kx_206, kx_207, kx_208, kx_209, kx_210, rx_0_0, rx_0_1, rx_0_2, rx_0_3, rx_0_4, rx_0_5, rx_0_6, rx_0_7, rx_1_0, rx_1_1, rx_2_3, rx_2_4, rx_2_5, rx_2_6, rx_2_7, rx_2_8, rx_2_9, rx_10_0, rx_10_1, rx_10_2, rx_33_0, rx_33_1, rx_67_0, rx_68_0, rx_197_0, rx_199_5, rx_199_6, rx_199_7, rx_203_0, rx_203_1, rx_203_2, rx_206_0, rx_206_1, rx_206_2, rx_206_3, Option.bind_some, Option.toList_some, Option.toList_none, List.cons_append, List.nil_append, ↓reduceIte, p_133, decide_eq_false hv, zi_bI_f]
theorem j_chance (O : GO hc) (S : Sh hr) (G : Gs (wx hc 1) (wy hc 1) (zh_i hr 212)) (x w z t : Int32) {u5 u6 u7 u8 : Value} : ∃ (v : Int64) (hc' hr' : zi_Hp), zv 17 122 0 [.ref 0, .int x, .int w, .int z, .int t, u5, u6] [] hc = some (some (.long v), hc') ∧ zv 8 223 0 [.ref 211, .int x, .int w, .int z, .int t, u7, u8] [] hr = some (some (.long v), hr') := by
  by_cases B : AV x w z ∧ (t = 0 ∨ t = 1)
  · obtain ⟨A, ht⟩ := B
    obtain ⟨c0, n, a0, h1, h2, h3, rfl, rfl, rfl⟩ := AV.ex A
    obtain ⟨hv, hw, hz⟩ := A
    obtain ⟨hc', hr', sm, e, Sc', er, Sr', -, -, hsm, t8, t229, t226⟩ := j_wk O S G h2 h1 h3
    have p7 : 6 ^ (7 - n) * 6 ^ n = 279936 := by rw [← Nat.pow_add, show 7 - n + n = 7 by omega]
    have pK : 0 < 6 ^ (7 - n) := Nat.pow_pos (by decide)
    have p6 : 0 < 6 ^ n := Nat.pow_pos (by decide)
    generalize 6 ^ (7 - n) = K at *
    generalize 6 ^ n = Q at *
    have l1 : Q ≤ K * Q := Nat.le_mul_of_pos_left _ pK
    have l2 : K * sm ≤ K * Q := Nat.mul_le_mul_left _ hsm
    obtain ⟨g, eg⟩ : ∃ g, g = Nat.gcd Q sm := ⟨_, rfl⟩
    have gp : 0 < g := by rw [eg]; exact Nat.gcd_pos_of_pos_left _ p6
    have gl : g ≤ Q := by rw [eg]; exact Nat.gcd_le_left _ p6
    have l3 : K * g ≤ K * Q := Nat.mul_le_mul_left _ gl
    have kg : 0 < K * g := Nat.mul_pos pK gp
    have eG : Nat.gcd (K * sm) 279936 = K * g := by rw [← p7, Nat.gcd_mul_left, eg, Nat.gcd_comm]
    have dv : ∀ y, y ≤ Q → nL (K * y) / nL (K * g) = nL (y / g) := fun y hy => by
      have := Nat.mul_le_mul_left K hy
      rw [nL_div (by omega) (by omega), Nat.mul_div_mul_left _ _ pK]
    have hz7 : (279936 : Int64) = nL (K * Q) := by rw [p7]; rfl
    have ng : ¬ nL g = 0 := nL_nz (by omega) gp
    have nkg : ¬ nL (K * g) = 0 := nL_nz (by omega) kg
    refine ⟨if t = 0 then nL (sm / g) else nL (Q / g), hc', hr', ?_, ?_⟩
    · have S := O.1
      have go : zv 17 122 0 [.ref 0, .int (nI c0), .int (nI n), .int (nI a0), .int t, u5, u6] [] hc = zv 17 122 47 [.ref 0, .int (nI c0), .int (nI n), .int (nI a0), .int t, u5, u6] [] hc' := by
        simp +decide only [b122_0, b122_4, b122_7, b122_11, b122_14, b122_18, b122_21, b122_26, b122_33, S.n, S.k, S.r, hp_n_wi, hp_k_wi, hp_r_wi, hp_n_wl, hp_k_wl, hp_r_wl, hp_n_wb, hp_k_wb, hp_r_wb, zq_rf, kx_0, kx_1, kx_2, kx_3, kx_4, kx_5, kx_6, kx_7, kx_8, kx_9, kx_10, kx_11, kx_12, kx_13, kx_14, kx_15, kx_16, kx_17, kx_33, kx_34, kx_50, kx_66, kx_67, kx_68, kx_69, kx_197, kx_198, kx_199, kx_200, kx_201, kx_202, kx_203, kx_204, kx_205, kx_206, kx_207, kx_208, kx_209, kx_210, rx_0_0, rx_0_1, rx_0_2, rx_0_3, rx_0_4, rx_0_5, rx_0_6, rx_0_7, rx_1_0, rx_1_1, rx_2_3, rx_2_4, rx_2_5, rx_2_6, rx_2_7, rx_2_8, rx_2_9, rx_10_0, rx_10_1, rx_10_2, rx_33_0, rx_33_1, rx_67_0, rx_68_0, rx_197_0, rx_199_5, rx_199_6, rx_199_7, rx_203_0, rx_203_1, rx_203_2, rx_206_0, rx_206_1, rx_206_2, rx_206_3, Option.bind_some, Option.toList_some, Option.toList_none, List.cons_append, List.nil_append, ↓reduceIte, p_133, p_135, p_136, decide_eq_true hv, decide_eq_true hw, decide_eq_true hz, decide_eq_true ht, zi_bI_t, e]
      have S := Sc'
      have g14 : zv 1 140 0 [.long (zh_l hc' 67 8), .double 1, .long 279936, .double 1, .double 0, .double 0, .double 0, .double 0, .double 0, .double 0, .double 0] [] hc' = some (some (.long (nL (K * g))), hc') := by
        have q := gd_j (h := hc') (y0 := nL (K * sm)) (y2 := 279936) 19 (K * sm) 279936 0 (by decide) (by decide) (by omega) (by decide) (u9 := .double 0) (u10 := .double 0)
        rw [eG] at q
        rw [b140_0, t8]
        exact q
      have go2 : zv 17 122 47 [.ref 0, .int (nI c0), .int (nI n), .int (nI a0), .int t, u5, u6] [] hc' = if 0 < lg_cmp (nL (K * g)) 0 then zv 17 122 73 [.ref 0, .int (nI c0), .int (nI n), .int (nI a0), .int t, .long (nL (K * g)), .double 1] [] hc' else zv 17 122 69 [.ref 0, .int (nI c0), .int (nI n), .int (nI a0), .int t, .long (nL (K * g)), .double 1] [] hc' := by
        simp +decide only [b122_47, b122_60, S.n, S.k, S.r, hp_n_wi, hp_k_wi, hp_r_wi, hp_n_wl, hp_k_wl, hp_r_wl, hp_n_wb, hp_k_wb, hp_r_wb, zq_rf, kx_0, kx_1, kx_2, kx_3, kx_4, kx_5, kx_6, kx_7, kx_8, kx_9, kx_10, kx_11, kx_12, kx_13, kx_14, kx_15, kx_16, kx_17, kx_33, kx_34, kx_50, kx_66, kx_67, kx_68, kx_69, kx_197, kx_198, kx_199, kx_200, kx_201, kx_202, kx_203, kx_204, kx_205, kx_206, kx_207, kx_208, kx_209, kx_210, rx_0_0, rx_0_1, rx_0_2, rx_0_3, rx_0_4, rx_0_5, rx_0_6, rx_0_7, rx_1_0, rx_1_1, rx_2_3, rx_2_4, rx_2_5, rx_2_6, rx_2_7, rx_2_8, rx_2_9, rx_10_0, rx_10_1, rx_10_2, rx_33_0, rx_33_1, rx_67_0, rx_68_0, rx_197_0, rx_199_5, rx_199_6, rx_199_7, rx_203_0, rx_203_1, rx_203_2, rx_206_0, rx_206_1, rx_206_2, rx_206_3, Option.bind_some, Option.toList_some, Option.toList_none, List.cons_append, List.nil_append, ↓reduceIte, g14]
      rw [go, go2, if_pos (lg_p (by omega) kg), b122_73]
      by_cases q0 : t = 0
      · rw [if_pos q0, if_pos q0, ← dv sm hsm, ← t8]
        simp +decide only [b122_78, b122_91 nkg, S.n, S.k, S.r, hp_n_wi, hp_k_wi, hp_r_wi, hp_n_wl, hp_k_wl, hp_r_wl, hp_n_wb, hp_k_wb, hp_r_wb, zq_rf, kx_0, kx_1, kx_2, kx_3, kx_4, kx_5, kx_6, kx_7, kx_8, kx_9, kx_10, kx_11, kx_12, kx_13, kx_14, kx_15, kx_16, kx_17, kx_33, kx_34, kx_50, kx_66, kx_67, kx_68, kx_69, kx_197, kx_198, kx_199, kx_200, kx_201, kx_202, kx_203, kx_204, kx_205, kx_206, kx_207, kx_208, kx_209, kx_210, rx_0_0, rx_0_1, rx_0_2, rx_0_3, rx_0_4, rx_0_5, rx_0_6, rx_0_7, rx_1_0, rx_1_1, rx_2_3, rx_2_4, rx_2_5, rx_2_6, rx_2_7, rx_2_8, rx_2_9, rx_10_0, rx_10_1, rx_10_2, rx_33_0, rx_33_1, rx_67_0, rx_68_0, rx_197_0, rx_199_5, rx_199_6, rx_199_7, rx_203_0, rx_203_1, rx_203_2, rx_206_0, rx_206_1, rx_206_2, rx_206_3, Option.bind_some, Option.toList_some, Option.toList_none, List.cons_append, List.nil_append, ↓reduceIte]
      · rw [if_neg q0, if_neg q0, b122_88, b122_91 nkg, hz7, dv Q (Nat.le_refl _)]
    · have hz : True := trivial
      have hy : ¬ (nI (2 * c0 + a0) < 0 ∨ 6 ≤ (nI (2 * c0 + a0)).toNatClampNeg) := zj_n (by omega) (by decide)
      have htv : (0 : Int32) ≤ t ∧ t ≤ 1 := by rcases ht with rfl | rfl <;> decide
      rw [b223_0, q_asV h1 h2 h3]
      simp only [Option.bind_some, Option.toList_some, Option.toList_none, List.cons_append, List.nil_append]
      rw [b223_6, if_neg (by decide), b223_9, b196_0, show (0 : Int64) = (0 : Int32).toInt64 from rfl, show (1 : Int64) = (1 : Int32).toInt64 from rfl, c_inI]
      simp only [Option.bind_some, Option.toList_some, Option.toList_none, List.cons_append, List.nil_append]
      rw [if_pos htv, b196_7 (Or.inr rfl)]
      simp only [Option.bind_some, Option.toList_some, Option.toList_none, List.cons_append, List.nil_append]
      rw [b223_14, if_neg (by decide), b223_21 (S_g0 S) (S_g1 S), er]
      simp only [Option.bind_some, Option.toList_some, Option.toList_none, List.cons_append, List.nil_append]
      have S := Sr'
      have r26 : zh_r hr' 211 26 = .ref 226 := by rw [S.r, rx_211_26]
      have r34 : zh_r hr' 211 34 = .ref 229 := by rw [S.r, rx_211_34]
      have q := gc_o (h := hr') (y0 := nL Q) (y2 := nL sm) (sm + 1) Q sm (Nat.lt_succ_self _) (by omega) (by omega) (u8 := .double 0) (u9 := .double 0)
      rw [← eg] at q
      rw [b223_26 (by simp +decide only [S.n, S.k, S.r, hp_n_wi, hp_k_wi, hp_r_wi, hp_n_wl, hp_k_wl, hp_r_wl, zq_rf, kx_211, kx_212, kx_221, kx_222, kx_223, kx_224, kx_225, kx_226, kx_227, kx_228, kx_229, rx_211_0, rx_211_21, rx_211_22, rx_211_23, rx_211_24, rx_211_25, rx_211_26, rx_211_32, rx_211_33, rx_211_34, hz, hy]) (by simp +decide only [S.n, S.k, S.r, hp_n_wi, hp_k_wi, hp_r_wi, hp_n_wl, hp_k_wl, hp_r_wl, zq_rf, kx_211, kx_212, kx_221, kx_222, kx_223, kx_224, kx_225, kx_226, kx_227, kx_228, kx_229, rx_211_0, rx_211_21, rx_211_22, rx_211_23, rx_211_24, rx_211_25, rx_211_26, rx_211_32, rx_211_33, rx_211_34, hz, hy]) (by simp +decide only [S.n, S.k, S.r, hp_n_wi, hp_k_wi, hp_r_wi, hp_n_wl, hp_k_wl, hp_r_wl, zq_rf, kx_211, kx_212, kx_221, kx_222, kx_223, kx_224, kx_225, kx_226, kx_227, kx_228, kx_229, rx_211_0, rx_211_21, rx_211_22, rx_211_23, rx_211_24, rx_211_25, rx_211_26, rx_211_32, rx_211_33, rx_211_34, hz, hy]) (by simp +decide only [S.n, S.k, S.r, hp_n_wi, hp_k_wi, hp_r_wi, hp_n_wl, hp_k_wl, hp_r_wl, zq_rf, kx_211, kx_212, kx_221, kx_222, kx_223, kx_224, kx_225, kx_226, kx_227, kx_228, kx_229, rx_211_0, rx_211_21, rx_211_22, rx_211_23, rx_211_24, rx_211_25, rx_211_26, rx_211_32, rx_211_33, rx_211_34, hz, hy]) (by simp +decide only [S.n, S.k, S.r, hp_n_wi, hp_k_wi, hp_r_wi, hp_n_wl, hp_k_wl, hp_r_wl, zq_rf, kx_211, kx_212, kx_221, kx_222, kx_223, kx_224, kx_225, kx_226, kx_227, kx_228, kx_229, rx_211_0, rx_211_21, rx_211_22, rx_211_23, rx_211_24, rx_211_25, rx_211_26, rx_211_32, rx_211_33, rx_211_34, hz, hy]) (by simp +decide only [S.n, S.k, S.r, hp_n_wi, hp_k_wi, hp_r_wi, hp_n_wl, hp_k_wl, hp_r_wl, zq_rf, kx_211, kx_212, kx_221, kx_222, kx_223, kx_224, kx_225, kx_226, kx_227, kx_228, kx_229, rx_211_0, rx_211_21, rx_211_22, rx_211_23, rx_211_24, rx_211_25, rx_211_26, rx_211_32, rx_211_33, rx_211_34, hz, hy]) (by simp +decide only [S.n, S.k, S.r, hp_n_wi, hp_k_wi, hp_r_wi, hp_n_wl, hp_k_wl, hp_r_wl, zq_rf, kx_211, kx_212, kx_221, kx_222, kx_223, kx_224, kx_225, kx_226, kx_227, kx_228, kx_229, rx_211_0, rx_211_21, rx_211_22, rx_211_23, rx_211_24, rx_211_25, rx_211_26, rx_211_32, rx_211_33, rx_211_34, hz, hy]) (by simp +decide only [S.n, S.k, S.r, hp_n_wi, hp_k_wi, hp_r_wi, hp_n_wl, hp_k_wl, hp_r_wl, zq_rf, kx_211, kx_212, kx_221, kx_222, kx_223, kx_224, kx_225, kx_226, kx_227, kx_228, kx_229, rx_211_0, rx_211_21, rx_211_22, rx_211_23, rx_211_24, rx_211_25, rx_211_26, rx_211_32, rx_211_33, rx_211_34, hz, hy]) (by rw [nI_i2]; exact (by simp +decide only [S.n, S.k, S.r, hp_n_wi, hp_k_wi, hp_r_wi, hp_n_wl, hp_k_wl, hp_r_wl, zq_rf, kx_211, kx_212, kx_221, kx_222, kx_223, kx_224, kx_225, kx_226, kx_227, kx_228, kx_229, rx_211_0, rx_211_21, rx_211_22, rx_211_23, rx_211_24, rx_211_25, rx_211_26, rx_211_32, rx_211_33, rx_211_34, hz, hy])) (by simp +decide only [S.n, S.k, S.r, hp_n_wi, hp_k_wi, hp_r_wi, hp_n_wl, hp_k_wl, hp_r_wl, zq_rf, kx_211, kx_212, kx_221, kx_222, kx_223, kx_224, kx_225, kx_226, kx_227, kx_228, kx_229, rx_211_0, rx_211_21, rx_211_22, rx_211_23, rx_211_24, rx_211_25, rx_211_26, rx_211_32, rx_211_33, rx_211_34, hz, hy]), r26, r34, zq_rf, zq_rf, nI_i2, nI_clamp (n := 2 * c0 + a0) (by omega), t226, t229, b222_0, q]
      simp only [Option.bind_some, Option.toList_some, Option.toList_none, List.cons_append, List.nil_append]
      rw [b223_45]
      by_cases q0 : t = 0
      · rw [if_pos q0, if_pos q0, b223_52 (by simp +decide only [S.n, S.k, S.r, hp_n_wi, hp_k_wi, hp_r_wi, hp_n_wl, hp_k_wl, hp_r_wl, zq_rf, kx_211, kx_212, kx_221, kx_222, kx_223, kx_224, kx_225, kx_226, kx_227, kx_228, kx_229, rx_211_0, rx_211_21, rx_211_22, rx_211_23, rx_211_24, rx_211_25, rx_211_26, rx_211_32, rx_211_33, rx_211_34, hz, hy]) (by simp +decide only [S.n, S.k, S.r, hp_n_wi, hp_k_wi, hp_r_wi, hp_n_wl, hp_k_wl, hp_r_wl, zq_rf, kx_211, kx_212, kx_221, kx_222, kx_223, kx_224, kx_225, kx_226, kx_227, kx_228, kx_229, rx_211_0, rx_211_21, rx_211_22, rx_211_23, rx_211_24, rx_211_25, rx_211_26, rx_211_32, rx_211_33, rx_211_34, hz, hy]) (by simp +decide only [S.n, S.k, S.r, hp_n_wi, hp_k_wi, hp_r_wi, hp_n_wl, hp_k_wl, hp_r_wl, zq_rf, kx_211, kx_212, kx_221, kx_222, kx_223, kx_224, kx_225, kx_226, kx_227, kx_228, kx_229, rx_211_0, rx_211_21, rx_211_22, rx_211_23, rx_211_24, rx_211_25, rx_211_26, rx_211_32, rx_211_33, rx_211_34, hz, hy]) (by simp +decide only [S.n, S.k, S.r, hp_n_wi, hp_k_wi, hp_r_wi, hp_n_wl, hp_k_wl, hp_r_wl, zq_rf, kx_211, kx_212, kx_221, kx_222, kx_223, kx_224, kx_225, kx_226, kx_227, kx_228, kx_229, rx_211_0, rx_211_21, rx_211_22, rx_211_23, rx_211_24, rx_211_25, rx_211_26, rx_211_32, rx_211_33, rx_211_34, hz, hy]) (by rw [nI_i2]; exact (by simp +decide only [S.n, S.k, S.r, hp_n_wi, hp_k_wi, hp_r_wi, hp_n_wl, hp_k_wl, hp_r_wl, zq_rf, kx_211, kx_212, kx_221, kx_222, kx_223, kx_224, kx_225, kx_226, kx_227, kx_228, kx_229, rx_211_0, rx_211_21, rx_211_22, rx_211_23, rx_211_24, rx_211_25, rx_211_26, rx_211_32, rx_211_33, rx_211_34, hz, hy])) (by simp +decide only [S.n, S.k, S.r, hp_n_wi, hp_k_wi, hp_r_wi, hp_n_wl, hp_k_wl, hp_r_wl, zq_rf, kx_211, kx_212, kx_221, kx_222, kx_223, kx_224, kx_225, kx_226, kx_227, kx_228, kx_229, rx_211_0, rx_211_21, rx_211_22, rx_211_23, rx_211_24, rx_211_25, rx_211_26, rx_211_32, rx_211_33, rx_211_34, hz, hy]) ng, b223_77, r34, zq_rf, nI_i2, nI_clamp (n := 2 * c0 + a0) (by omega), t229, nL_div (by omega) (by omega)]
      · rw [if_neg q0, if_neg q0, b223_68 (by simp +decide only [S.n, S.k, S.r, hp_n_wi, hp_k_wi, hp_r_wi, hp_n_wl, hp_k_wl, hp_r_wl, zq_rf, kx_211, kx_212, kx_221, kx_222, kx_223, kx_224, kx_225, kx_226, kx_227, kx_228, kx_229, rx_211_0, rx_211_21, rx_211_22, rx_211_23, rx_211_24, rx_211_25, rx_211_26, rx_211_32, rx_211_33, rx_211_34, hz, hy]) (by simp +decide only [S.n, S.k, S.r, hp_n_wi, hp_k_wi, hp_r_wi, hp_n_wl, hp_k_wl, hp_r_wl, zq_rf, kx_211, kx_212, kx_221, kx_222, kx_223, kx_224, kx_225, kx_226, kx_227, kx_228, kx_229, rx_211_0, rx_211_21, rx_211_22, rx_211_23, rx_211_24, rx_211_25, rx_211_26, rx_211_32, rx_211_33, rx_211_34, hz, hy]) (by simp +decide only [S.n, S.k, S.r, hp_n_wi, hp_k_wi, hp_r_wi, hp_n_wl, hp_k_wl, hp_r_wl, zq_rf, kx_211, kx_212, kx_221, kx_222, kx_223, kx_224, kx_225, kx_226, kx_227, kx_228, kx_229, rx_211_0, rx_211_21, rx_211_22, rx_211_23, rx_211_24, rx_211_25, rx_211_26, rx_211_32, rx_211_33, rx_211_34, hz, hy]) (by simp +decide only [S.n, S.k, S.r, hp_n_wi, hp_k_wi, hp_r_wi, hp_n_wl, hp_k_wl, hp_r_wl, zq_rf, kx_211, kx_212, kx_221, kx_222, kx_223, kx_224, kx_225, kx_226, kx_227, kx_228, kx_229, rx_211_0, rx_211_21, rx_211_22, rx_211_23, rx_211_24, rx_211_25, rx_211_26, rx_211_32, rx_211_33, rx_211_34, hz, hy]) (by simp +decide only [S.n, S.k, S.r, hp_n_wi, hp_k_wi, hp_r_wi, hp_n_wl, hp_k_wl, hp_r_wl, zq_rf, kx_211, kx_212, kx_221, kx_222, kx_223, kx_224, kx_225, kx_226, kx_227, kx_228, kx_229, rx_211_0, rx_211_21, rx_211_22, rx_211_23, rx_211_24, rx_211_25, rx_211_26, rx_211_32, rx_211_33, rx_211_34, hz, hy]) (by simp +decide only [S.n, S.k, S.r, hp_n_wi, hp_k_wi, hp_r_wi, hp_n_wl, hp_k_wl, hp_r_wl, zq_rf, kx_211, kx_212, kx_221, kx_222, kx_223, kx_224, kx_225, kx_226, kx_227, kx_228, kx_229, rx_211_0, rx_211_21, rx_211_22, rx_211_23, rx_211_24, rx_211_25, rx_211_26, rx_211_32, rx_211_33, rx_211_34, hz, hy]) ng, b223_77, r26, zq_rf, t226, nL_div (by omega) (by omega)]
  · refine ⟨-1, hc, hr, c_ch0 O.1 B, ?_⟩
    by_cases A : AV x w z
    · obtain ⟨c0, n, a0, h1, h2, h3, rfl, rfl, rfl⟩ := AV.ex A
      have ht : ¬ ((0 : Int32) ≤ t ∧ t ≤ 1) := fun q => B ⟨A, by
        obtain ⟨k, hk, rfl⟩ := nI_ex' (b := 1) (by decide) (Int32.not_lt.mpr q.1) (Int32.not_lt.mpr q.2)
        have : k = 0 ∨ k = 1 := by omega
        rcases this with rfl | rfl
        · exact Or.inl rfl
        · exact Or.inr rfl⟩
      rw [b223_0, q_asV h1 h2 h3]
      simp only [Option.bind_some, Option.toList_some, Option.toList_none, List.cons_append, List.nil_append]
      rw [b223_6, if_neg (by decide), b223_9, b196_0, show (0 : Int64) = (0 : Int32).toInt64 from rfl, show (1 : Int64) = (1 : Int32).toInt64 from rfl, c_inI]
      simp only [Option.bind_some, Option.toList_some, Option.toList_none, List.cons_append, List.nil_append]
      rw [if_neg ht, b196_7 (Or.inl rfl)]
      simp only [Option.bind_some, Option.toList_some, Option.toList_none, List.cons_append, List.nil_append]
      rw [b223_14, if_pos rfl, b223_17]
      rfl
    · rw [b223_0, q_asN A]
      simp only [Option.bind_some, Option.toList_some, Option.toList_none, List.cons_append, List.nil_append]
      rw [b223_6, if_pos rfl, b223_17]
theorem rt_4 {v v' : Int64} {a b : zi_Hp} (e : (some (some (.long v), a) : Option zi_Rt) = some (some (.long v'), b)) : v = v' := by injection e with e; injection e with e; injection e with e; injection e
theorem a_chancex (R : R3 L h) (x w z t : Int32) {u5 u6 u7 u8 : Value} : AlL L h (zv 17 122 0 [.ref 0, .int x, .int w, .int z, .int t, u5, u6] [] h) (fun m => zv 8 223 0 [.ref 211, .int x, .int w, .int z, .int t, u7, u8] [] m) := by
  obtain ⟨v, h1, e1, O1, F1⟩ := c_chanw R.2.1 x w z t (u5 := u5) (u6 := u6)
  obtain ⟨v2, h2, e2, O2, F2⟩ := o_chancq (R.1.fc O1.1 F1.1.1.1) x w z t (u5 := u7) (u6 := u8)
  obtain ⟨S1, l1, x1, R2⟩ := R.wk0 O1 F1 O2 F2
  obtain ⟨v3, hc', hr', e3, e4⟩ := j_chance (hr := h1) R.2.1 O1.1 (R.2.2.1.congr (fun j _ => (F1.1.1.1.1 212 j (by decide)).1)) x w z t (u5 := u5) (u6 := u6) (u7 := u7) (u8 := u8)
  rw [e1] at e3
  rw [e2] at e4
  have q1 := rt_4 e3
  have q2 := rt_4 e4
  refine ⟨v, h1, h2, e1, S1, l1, x1, ?_, R2⟩
  show zv 8 223 0 _ _ h1 = _
  rw [e2, q1, q2]
end R34Z4
end
section
/-! WHO IS IDLE KEEPS ITS RIGHTS: the class's step once more, with a mark -/
/-- a client is the same; who is idle has its mark -/
def KG (x : Nat → Nat → Int32) (y : Nat → Nat → Bool) (s : Nat → Int32) (c : Nat) : Prop :=
  x (10 + 2 * c) 0 = s (315 + 24 * c) ∧ (¬ s (315 + 24 * c) = 0 → ∀ w, 1 ≤ w → w ≤ 7 → x (10 + 2 * c) w = s (315 + 24 * c + w)) ∧
  (s (315 + 24 * c) = 3 ∨ s (315 + 24 * c) = 4 → x (10 + 2 * c) 8 = s (315 + 24 * c + 8) ∧ x (10 + 2 * c) 9 = s (315 + 24 * c + 10) ∧ x (10 + 2 * c) 10 = s (315 + 24 * c + 9) ∧ y (10 + 2 * c) 11 = decide (s (315 + 24 * c + 11) = 1)) ∧
  (¬ s (315 + 24 * c) = 0 → ¬ s (315 + 24 * c) = 5 → ∀ l, l < 12 → x (11 + 2 * c) l = s (315 + 24 * c + (12 + l))) ∧
  (s (315 + 24 * c) = 0 → x (10 + 2 * c) 7 = s (2000 + c))
/-- the mark left out -/
def KZ (x : Nat → Nat → Int32) (y : Nat → Nat → Bool) (s : Nat → Int32) (c : Nat) : Prop :=
  x (10 + 2 * c) 0 = s (315 + 24 * c) ∧ (¬ s (315 + 24 * c) = 0 → ∀ w, 1 ≤ w → w ≤ 7 → x (10 + 2 * c) w = s (315 + 24 * c + w)) ∧
  (s (315 + 24 * c) = 3 ∨ s (315 + 24 * c) = 4 → x (10 + 2 * c) 8 = s (315 + 24 * c + 8) ∧ x (10 + 2 * c) 9 = s (315 + 24 * c + 10) ∧ x (10 + 2 * c) 10 = s (315 + 24 * c + 9) ∧ y (10 + 2 * c) 11 = decide (s (315 + 24 * c + 11) = 1)) ∧
  (¬ s (315 + 24 * c) = 0 → ¬ s (315 + 24 * c) = 5 → ∀ l, l < 12 → x (11 + 2 * c) l = s (315 + 24 * c + (12 + l)))
def CG (x : Nat → Nat → Int32) (y : Nat → Nat → Bool) (s : Nat → Int32) (N : Nat) (m : Nat → Nat) : Prop := CN x y s N m ∧ (∀ c, c < 3 → KG x y s c) ∧ SB s
section R31A
variable {x : Nat → Nat → Int32} {y : Nat → Nat → Bool} {s : Nat → Int32} {N R M B c n : Nat} {L m H r : Nat → Nat} {K C : Nat → Nat → Nat} {f : Nat → Nat}
theorem KG.hold (k : KG x y s c) (v : Int32) : ((x (10 + 2 * c) 0 = 2 ∨ x (10 + 2 * c) 0 = 4) ∧ x (10 + 2 * c) 3 = v) ↔ ((s (315 + 24 * c) = 2 ∨ s (315 + 24 * c) = 4) ∧ s (315 + 24 * c + 3) = v) := by
  obtain ⟨k0, k1, -, -⟩ := k
  rw [k0]
  constructor
  · rintro ⟨h1, h2⟩
    have h0 : ¬ s (315 + 24 * c) = 0 := fun w => by rw [w] at h1; rcases h1 with q | q <;> exact absurd q (by decide)
    exact ⟨h1, by rw [← k1 h0 3 (by decide) (by decide)]; exact h2⟩
  · rintro ⟨h1, h2⟩
    have h0 : ¬ s (315 + 24 * c) = 0 := fun w => by rw [w] at h1; rcases h1 with q | q <;> exact absurd q (by decide)
    exact ⟨h1, by rw [k1 h0 3 (by decide) (by decide)]; exact h2⟩
theorem CG.ho (R : CG x y s N m) (v : Int32) : hoK x v = lkB s v := by
  have k0 := (R.2.1 0 (by decide)).hold v
  have k1 := (R.2.1 1 (by decide)).hold v
  have k2 := (R.2.1 2 (by decide)).hold v
  unfold hoK lkB
  by_cases e0 : lkO s 0 v
  · rw [if_pos (k0.mpr e0), if_pos e0]
  · rw [if_neg (fun q => e0 (k0.mp q)), if_neg e0]
    by_cases e1 : lkO s 1 v
    · rw [if_pos (k1.mpr e1), if_pos e1]
    · rw [if_neg (fun q => e1 (k1.mp q)), if_neg e1]
      by_cases e2 : lkO s 2 v
      · rw [if_pos (k2.mpr e2), if_pos e2]
      · rw [if_neg (fun q => e2 (k2.mp q)), if_neg e2]
/-- both sides may step alike -/
theorem CG.mv (T : CG x y s N m) (I : InvG s N R M B L m H r K C f) (hc : c < 3) (ea : (¬ s (315 + 24 * c) = 0 ∧ ¬ s (315 + 24 * c) = 5) → s (315 + 24 * c + 3) = nI n ∧ n < N) : mvK x y c n = msF s c := by
  obtain ⟨k0, k1, k2, -⟩ := T.2.1 c hc
  obtain ⟨⟨a1, a2, a3⟩, ⟨b1, b2⟩, -, G, -⟩ := I.1
  unfold mvK msF
  rw [k0]
  by_cases hu : ¬ s (315 + 24 * c) = 0 ∧ ¬ s (315 + 24 * c) = 5
  · obtain ⟨e3, hn⟩ := ea hu
    have ho : onB s c = true := by unfold onB; exact decide_eq_true hu
    rw [decide_eq_true hu, ho, e3, b1, nI_clamp (by omega), nI_clamp (by omega), T.ho]
    obtain ⟨⟨t2, t3, t4, t5, t6⟩, -⟩ := T.1.2 n hn
    have gl := (G n hn).1.1
    have gd := (G n hn).2.2.1
    have w1 := k1 hu.1 1 (by decide) (by decide)
    have w2 := k1 hu.1 2 (by decide) (by decide)
    have key : (wlK x y c n && decide (¬ lkB s (nI n) < 0)) = sbF s c n R := by
      unfold wlK sbF
      rw [k0]
      by_cases h1 : s (315 + 24 * c) = 1
      · rw [if_pos h1, if_pos h1, w1, w2, t2, t4, t6, ← Bool.decide_and, decide_eq_decide, decide_eq_false_iff_not, lk_neg]
        constructor
        · rintro ⟨⟨p1, ⟨p2, p3⟩, p4⟩, p5⟩
          exact ⟨gd.elim id (fun q => absurd q.1 p3), p4, p2, p1, p5⟩
        · rintro ⟨p1, p2, p3, p4, p5⟩
          exact ⟨⟨p4, ⟨p3, fun q => by rw [p1] at q; exact absurd q (by decide)⟩, p2⟩, p5⟩
      · rw [if_neg h1, if_neg h1, ← Bool.decide_and, decide_eq_decide, lk_neg]
        by_cases h3 : s (315 + 24 * c) = 3
        · obtain ⟨w8, w9, -, -⟩ := k2 (Or.inl h3)
          rw [w8, w9, t2, t4]
          constructor
          · rintro ⟨⟨p1, p2, p3⟩, p5⟩
            refine ⟨p1, ?_, p2, p3, p5⟩
            rw [← p2, gl, (G R b2).1.1]
            have hLR := (G n hn).2.2.2.2.2.2.1
            have := I.lv b2
            exact nI_nlt hLR (by omega)
          · rintro ⟨p1, p2, p3, p4, p5⟩
            exact ⟨⟨p1, p3, p4⟩, p5⟩
        · constructor
          · rintro ⟨⟨p1, -⟩, -⟩; exact absurd p1 h3
          · rintro ⟨p1, -⟩; exact absurd p1 h3
    rw [key]
  · have ho : onB s c = false := by unfold onB; exact decide_eq_false hu
    rw [decide_eq_false hu, ho]; rfl
end R31A
section R31C
variable {x x1 : Nat → Nat → Int32} {y y1 : Nat → Nat → Bool} {s s1 : Nat → Int32} {N R M B c n : Nat} {L m H r : Nat → Nat} {K C : Nat → Nat → Nat} {f : Nat → Nat}
theorem gst_id (T : CG x y s N m) (I : InvG s N R M B L m H r K C f) (hc : c < 3) {cd : Int32} (h0 : 0 < cd) (e : ∀ k, k < 315 + 24 * c ∨ 315 + 24 * c + 24 ≤ k → s1 k = s k) (e2 : s1 (315 + 24 * c + 2) = s (315 + 24 * c + 2)) (e5 : s1 (315 + 24 * c + 5) = s (315 + 24 * c + 5)) : stF s s1 c cd = tdF s1 c cd := by
  have tn : ∀ k, k < 315 → tdF s1 c cd k = s k := fun k hk => by
    unfold tdF
    rw [up_n _ _ (by omega), up_n _ _ (by omega), e k (by omega)]
  have t2 : ∀ k, k < 3 → tdF s1 c cd (315 + 24 * k + 2) = s (315 + 24 * k + 2) := fun k hk => by
    unfold tdF
    rw [up_n _ _ (by omega), up_n _ _ (by omega)]
    by_cases w : k = c
    · subst w; exact e2
    · exact e _ (by omega)
  have t5 : ∀ k, k < 3 → tdF s1 c cd (315 + 24 * k + 5) = s (315 + 24 * k + 5) := fun k hk => by
    unfold tdF
    rw [up_n _ _ (by omega), up_n _ _ (by omega)]
    by_cases w : k = c
    · subst w; exact e5
    · exact e _ (by omega)
  have nn : ∀ k, k < 3 → onB s k = true → tdF s1 c cd (315 + 24 * k + 5) ||| (1 <<< (zi_bI (thA (tdF s1 c cd) (tdF s1 c cd (315 + 24 * k + 2))) &&& 31)) = tdF s1 c cd (315 + 24 * k + 5) := fun k hk ho => by
    rw [t2 k hk, t5 k hk, thA_cl I tn]
    exact T.2.2 k hk ho
  have q0 : seF (onB s 0) 0 (tdF s1 c cd) = tdF s1 c cd := se_id (nn 0 (by decide))
  have q1 : seF (onB s 1) 1 (tdF s1 c cd) = tdF s1 c cd := se_id (nn 1 (by decide))
  have q2 : seF (onB s 2) 2 (tdF s1 c cd) = tdF s1 c cd := se_id (nn 2 (by decide))
  unfold stF
  rw [if_pos h0, q0, q1, q2]
/-- the relation behind such a step -/
theorem gsim_cl (T : CG x y s N m) (I : InvG s N R M B L m H r K C f) (hc : c < 3) {cd : Int32} (h0 : 0 < cd) (hon : onB s c = true) (e : ∀ k, k < 315 + 24 * c ∨ 315 + 24 * c + 24 ≤ k → s1 k = s k) (e2 : s1 (315 + 24 * c + 2) = s (315 + 24 * c + 2)) (e5 : s1 (315 + 24 * c + 5) = s (315 + 24 * c + 5)) (ex : ∀ o j, o ≠ 10 + 2 * c → o ≠ 11 + 2 * c → x1 o j = x o j) (ey : ∀ o j, o ≠ 10 + 2 * c → y1 o j = y o j) (k : KZ x1 y1 s1 c) (hs : ¬ s1 (315 + 24 * c) = 0) : CG (tdK x1 c cd) y1 (stF s s1 c cd) N m := by
  have hN := I.1.1.2.2
  have hm : ∀ n, n < N → m n ≤ 4 := fun n hn => by
    have := (I.1.2.2.2.1 n hn).2.2.2.2.2.2.2.1
    have := I.1.2.2.1.2.2
    omega
  have tx : ∀ o j, o ≠ 10 + 2 * c → tdK x1 c cd o j = x1 o j := fun o j ho => by
    unfold tdK
    split
    · rw [u2_n _ _ (Or.inl ho), u2_n _ _ (Or.inl ho)]
    · rw [u2_n _ _ (Or.inl ho)]
  have tj : ∀ j, j ≠ 6 → j ≠ 7 → tdK x1 c cd (10 + 2 * c) j = x1 (10 + 2 * c) j := fun j h6 h7 => by
    unfold tdK
    split
    · rw [u2_n _ _ (Or.inr h7), u2_n _ _ (Or.inr h6)]
    · rw [u2_n _ _ (Or.inr h6)]
  have t6 : tdK x1 c cd (10 + 2 * c) 6 = x1 (10 + 2 * c) 6 + 1 := by
    unfold tdK
    split
    · rw [u2_n _ _ (Or.inr (by decide)), u2_s]
    · rw [u2_s]
  have t7 : tdK x1 c cd (10 + 2 * c) 7 = x1 (10 + 2 * c) 7 + (if cd = 1 then 1 else 0) := by
    unfold tdK
    by_cases h1 : cd = 1
    · rw [if_pos h1, if_pos h1, u2_s]
    · rw [if_neg h1, if_neg h1, u2_n _ _ (Or.inr (by decide)), Int32.add_zero]
  rw [gst_id T I hc h0 e e2 e5]
  have so : ∀ k, k ≠ 315 + 24 * c + 6 → k ≠ 315 + 24 * c + 7 → tdF s1 c cd k = s1 k := fun k h6 h7 => by unfold tdF; rw [up_n _ _ h7, up_n _ _ h6]
  have s6 : tdF s1 c cd (315 + 24 * c + 6) = s1 (315 + 24 * c + 6) + 1 := by unfold tdF; rw [up_n _ _ (by omega), up_s]
  have s7 : tdF s1 c cd (315 + 24 * c + 7) = s1 (315 + 24 * c + 7) + (if cd = 1 then 1 else 0) := by unfold tdF; rw [up_s]
  have sn : ∀ k, k < 315 → tdF s1 c cd k = s k := fun k hk => by rw [so _ (by omega) (by omega), e k (by omega)]
  refine ⟨T.1.cl hN hm (fun o j ho => by rw [tx _ _ (by omega), ex _ _ (by omega) (by omega)]) (fun j => ey _ _ (by omega)) sn, fun d hd => ?_, fun d hd ho => ?_⟩
  · by_cases hdc : d = c
    · subst hdc
      obtain ⟨k0, k1, k2, k3⟩ := k
      have z0 : tdF s1 d cd (315 + 24 * d) = s1 (315 + 24 * d) := so _ (by omega) (by omega)
      unfold KG
      rw [z0]
      refine ⟨by rw [tj 0 (by decide) (by decide)]; exact k0, fun _ w w1 w7 => ?_, fun h34 => ?_, fun h1 h2 l hl => ?_, fun z => absurd z hs⟩
      · by_cases e6 : w = 6
        · subst e6; rw [t6, s6, k1 hs 6 (by decide) (by decide)]
        · by_cases e7 : w = 7
          · subst e7; rw [t7, s7, k1 hs 7 (by decide) (by decide)]
          · rw [tj w e6 e7, so _ (by omega) (by omega)]; exact k1 hs w w1 w7
      · rw [tj 8 (by decide) (by decide), tj 9 (by decide) (by decide), tj 10 (by decide) (by decide), so _ (by omega) (by omega), so _ (by omega) (by omega), so _ (by omega) (by omega), so _ (by omega) (by omega)]
        exact k2 h34
      · rw [tx _ _ (by omega), so _ (by omega) (by omega)]; exact k3 h1 h2 l hl
    · obtain ⟨k0, k1, k2, k3, k4⟩ := T.2.1 d hd
      have ez : ∀ w, w < 24 → tdF s1 c cd (315 + 24 * d + w) = s (315 + 24 * d + w) := fun w hw => by rw [so _ (by omega) (by omega), e _ (by omega)]
      have ez0 : tdF s1 c cd (315 + 24 * d) = s (315 + 24 * d) := ez 0 (by decide)
      have exd : ∀ j, tdK x1 c cd (10 + 2 * d) j = x (10 + 2 * d) j := fun j => by rw [tx _ _ (by omega), ex _ _ (by omega) (by omega)]
      have exp : ∀ j, tdK x1 c cd (11 + 2 * d) j = x (11 + 2 * d) j := fun j => by rw [tx _ _ (by omega), ex _ _ (by omega) (by omega)]
      unfold KG
      rw [ez0, exd 0, exd 8, exd 9, exd 10, ez 8 (by decide), ez 9 (by decide), ez 10 (by decide), ez 11 (by decide), ey _ _ (by omega)]
      exact ⟨k0, fun h1 w w1 w7 => by rw [exd, ez w (by omega)]; exact k1 h1 w w1 w7, k2, fun h1 h2 l hl => by rw [exp, ez (12 + l) (by omega)]; exact k3 h1 h2 l hl, fun z => by
        rw [exd, show tdF s1 c cd (2000 + d) = s (2000 + d) from by rw [so _ (by omega) (by omega), e _ (by omega)]]
        exact k4 z⟩
  · have z2 : tdF s1 c cd (315 + 24 * d + 2) = s (315 + 24 * d + 2) := by
      rw [so _ (by omega) (by omega)]
      by_cases w : d = c
      · subst w; exact e2
      · exact e _ (by omega)
    have z5 : tdF s1 c cd (315 + 24 * d + 5) = s (315 + 24 * d + 5) := by
      rw [so _ (by omega) (by omega)]
      by_cases w : d = c
      · subst w; exact e5
      · exact e _ (by omega)
    rw [z2, z5, thA_cl I sn]
    refine T.2.2 d hd ?_
    by_cases w : d = c
    · subst w; exact hon
    · have z0 : tdF s1 c cd (315 + 24 * d) = s (315 + 24 * d) := by rw [so _ (by omega) (by omega), e _ (by omega)]
      unfold onB at ho ⊢
      rw [z0] at ho
      exact ho
end R31C
section R31D
variable {h : zi_Hp} {W : Nat} {x x1 : Nat → Nat → Int32} {y y1 : Nat → Nat → Bool} {s s1 : Nat → Int32} {N R M B c n : Nat} {L m H r : Nat → Nat} {K C : Nat → Nat → Nat} {f : Nat → Nat}
/-- a client that stands DOWN: what both sides know -/
theorem gsim_1 (S : Sh h) (V : Wa W) (T : CG x y s N m) (I : InvG s N R M B L m H r K C f) (hc : c < 3) (h1 : s (315 + 24 * c) = 1) (hmv : msF s c = true) {cd : Int32} (D : StD s c cd s1) {v2 v3 v4 : Value} : ∃ x' y', zv 5 80 0 [.ref W, .int (nI c), v2, v3, v4] [] (zC h W x y) = some (some (.int cd), zC h W x' y') ∧ CG x' y' (stF s s1 c cd) N m := by
  obtain ⟨⟨a1, a2, a3⟩, ⟨b1, b2⟩, ⟨d1, d2, d3⟩, G, o, z⟩ := id I.1
  have hx0 : ¬ cd = 0 := ms_x I hc hmv (Or.inl ⟨h1, D⟩)
  have hon : onB s c = true := by unfold onB; rw [h1]; decide
  obtain ⟨a, ha, ea⟩ := I.at hc hon
  obtain ⟨k0, k1, k2, k3, k4⟩ := T.2.1 c hc
  have hs0 : ¬ s (315 + 24 * c) = 0 := by rw [h1]; decide
  have hs5 : ¬ s (315 + 24 * c) = 5 := by rw [h1]; decide
  have w1 := k1 hs0 1 (by decide) (by decide)
  have w2 := k1 hs0 2 (by decide) (by decide)
  have w3 := k1 hs0 3 (by decide) (by decide)
  have eN : x 1 0 = nI N := by rw [T.1.1.1]; exact a1
  have xa : x (10 + 2 * c) 3 = nI a := by rw [w3]; exact ea
  have go : zv 5 80 0 [.ref W, .int (nI c), v2, v3, v4] [] (zC h W x y) = zv 5 80 60 [.ref W, .int (nI c), .ref (W + (10 + 2 * c)), .int 0, v4] [] (zC h W x y) := by
    rw [adv_go S V hc eN a3 (n := a) (fun _ => ⟨xa, ha⟩) (by rw [T.mv I hc (fun _ => ⟨ea, ha⟩)]; exact hmv), b80_30_c1 (by first | (simp only [zC_n, zC_k, zC_r, S.n, wk_0 S V, wk_1 S V, wr_0_0 S V, wr_0_1 S V, wk_9 S V, cl_k S V hc, cl_r S V hc, cl_p S V hc, cl_q S V hc, zq_rf]; done) | (simp only [zC_n, zC_r, S.n, wr_0_0 S V, wr_0_1 S V, cl_r S V hc, cl_p S V hc, zq_rf]; have := V.lt; omega)) (by first | (simp only [zC_n, zC_k, zC_r, S.n, wk_0 S V, wk_1 S V, wr_0_0 S V, wr_0_1 S V, wk_9 S V, cl_k S V hc, cl_r S V hc, cl_p S V hc, cl_q S V hc, zq_rf]; done) | (simp only [zC_n, zC_r, S.n, wr_0_0 S V, wr_0_1 S V, cl_r S V hc, cl_p S V hc, zq_rf]; have := V.lt; omega)) (by rw [zC_i (by omega), k0]; exact h1), k0, h1, decide_eq_false (by decide), zi_bI_f]
  -- the tail behind a method's answer
  have fin : ∀ {x1 : Nat → Nat → Int32} {y1 : Nat → Nat → Bool}, zv 4 85 0 [.ref W, .ref (W + (10 + 2 * c)), .double 0] [] (zC h W x y) = some (some (.int cd), zC h W x1 y1) → CG (tdK x1 c cd) y1 (stF s s1 c cd) N m → ∃ x' y', zv 5 80 0 [.ref W, .int (nI c), v2, v3, v4] [] (zC h W x y) = some (some (.int cd), zC h W x' y') ∧ CG x' y' (stF s s1 c cd) N m := fun {x1 y1} e1 e2 => by
    refine ⟨tdK x1 c cd, y1, ?_, e2⟩
    rw [go, b80_60 (by first | (simp only [zC_n, zC_k, zC_r, S.n, wk_0 S V, wk_1 S V, wr_0_0 S V, wr_0_1 S V, wk_9 S V, cl_k S V hc, cl_r S V hc, cl_p S V hc, cl_q S V hc, zq_rf]; done) | (simp only [zC_n, zC_r, S.n, wr_0_0 S V, wr_0_1 S V, cl_r S V hc, cl_p S V hc, zq_rf]; have := V.lt; omega)) (by first | (simp only [zC_n, zC_k, zC_r, S.n, wk_0 S V, wk_1 S V, wr_0_0 S V, wr_0_1 S V, wk_9 S V, cl_k S V hc, cl_r S V hc, cl_p S V hc, cl_q S V hc, zq_rf]; done) | (simp only [zC_n, zC_r, S.n, wr_0_0 S V, wr_0_1 S V, cl_r S V hc, cl_p S V hc, zq_rf]; have := V.lt; omega)), e1]
    simp only [Option.bind_some, Option.toList_some, Option.toList_none, List.cons_append, List.nil_append]
    rw [b80_65, adv_t S V hc hx0]
  obtain ⟨n, hn24, en, D⟩ := D
  have hna : n = a := by rw [ea] at en; exact ((nI_eq' (by omega) (by omega)).mp en).symm
  subst hna
  obtain ⟨⟨g1, g2, g3⟩, g4, g5, g6, g7, g8, g9, g10, g11, g12⟩ := G n ha
  obtain ⟨⟨t2, t3, t4, t5, t6⟩, tk⟩ := T.1.2 n ha
  have em : x 3 n = nI (m n) := by rw [t3]; exact g2
  have r0 : ∀ {o j : Nat} {v : Int32}, o ≠ 10 + 2 * c → u2 x (10 + 2 * c) j v o = x o := fun {o j v} ho => by funext k; exact u2_n _ _ (Or.inl ho)
  rcases D with ⟨hd, rfl, rfl⟩ | ⟨hd, hk, ⟨t, j, ht0, ht, et, hj4, hlt, hge, rfl, rfl⟩ | ⟨hl0, ⟨hact, mm, hmm, emm, rfl, rfl⟩ | ⟨hact, hlk, rfl, rfl⟩ | ⟨hact, hlk, rfl, rfl⟩⟩⟩
  · -- to the right
    have hR : s (13 * n + 3) = nI (r n) ∧ r n < N := by
      obtain ⟨k, kk1, kk2, kk3⟩ := I.2.1.1 c hc
      have hk1 : k = 1 := by rw [h1] at kk1; exact ((nI_eq' (a := 1) (by decide) (by omega)).mp kk1).symm
      subst hk1
      obtain ⟨-, ⟨ke, ke1, ke2⟩, -⟩ := kk3 (by decide) (by decide)
      rcases g4 with ⟨q1, q2⟩ | q
      · rcases hd with w | w
        · rcases g5 with w2 | ⟨-, w2, -⟩
          · rw [w2] at w; exact absurd w (by decide)
          · exact absurd q1 w2
        · rw [g3, ke1, nI_lt' (by omega) (by omega)] at w
          omega
      · exact ⟨q.1, q.2.1⟩
    refine fin (d_r S V hc eN a3 xa ha ?_ ?_) (gsim_cl T I hc (by decide) hon (fun k hk => up_n _ _ (by omega)) (uc_cc _ _ (by decide)) (uc_cc _ _ (by decide)) (fun o j h9 _ => u2_n _ _ (Or.inl h9)) (fun _ _ _ => rfl) ⟨?_, fun _ w h1w h7w => ?_, fun q => ?_, fun _ _ l hl => ?_⟩ ?_)
    · rcases hd with w | w
      · exact Or.inl (by rw [t6]; exact decide_eq_true w)
      · exact Or.inr (by rw [t4, w2]; exact w)
    · rw [t5, hR.1]; exact nI_pos (by omega)
    · rw [u2_n _ _ (Or.inr (by decide)), uc_c0 _ _ (by decide)]; exact k0
    · by_cases e3 : w = 3
      · subst e3; rw [u2_s, up_s, t5]
      · rw [u2_n _ _ (Or.inr e3), uc_cc _ _ e3]; exact k1 hs0 w h1w h7w
    · rw [uc_c0 _ _ (by decide), h1] at q; rcases q with q | q <;> exact absurd q (by decide)
    · rw [u2_n _ _ (Or.inl (by omega)), uc_cc _ _ (by omega)]; exact k3 hs0 hs5 l hl
    · rw [uc_c0 _ _ (by decide)]; exact hs0
  · -- to a child
    have ln := I.lv ha
    have hLt : L n = t := by rw [g1] at et; exact (nI_eq' (by omega) (by omega)).mp et
    obtain ⟨m0, mK, mC, mB⟩ := g8 (by omega)
    have hj : j < m n := by
      refine Nat.not_le.mp (fun w => ?_)
      have h9 := hlt (m n - 1) (by omega)
      refine absurd (?_ : s (13 * n + 2) < s (315 + 24 * c + 2)) hk
      rw [(g6 (m n - 1) (by omega)).1, mK] at h9
      rw [g3]; exact h9
    obtain ⟨q1, q2, q3⟩ := mC j hj
    have hs13 : 0 < s (13 * n) := by rw [et]; exact nI_lt (a := 0) ht0 (by omega)
    have x8 : x 8 (5 * n + j) = s (13 * n + (9 + j)) := (tk j hj).2 hs13
    refine fin (d_c S V hc eN a3 xa ha (by rw [t6]; exact decide_eq_false hd) (by rw [t4, w2]; exact hk) (t := t) (by rw [t2]; exact et) ht0 (by omega) em (by omega) hj (fun i hi => by rw [(tk i (by omega)).1, w2]; exact hlt i hi) (by rw [(tk j hj).1, w2]; exact hge) (by rw [x8, q1]; exact nI_pos (by omega))) (gsim_cl T I hc (by decide) hon (fun k hk => by rw [up_n _ _ (by omega), up_n _ _ (by omega)]) (by rw [uc_cc _ _ (by decide), uc_cc _ _ (by omega)]) (by rw [uc_cc _ _ (by decide), uc_cc _ _ (by omega)]) (fun o j h9 h10 => by rw [u2_n _ _ (Or.inl h9), u2_n _ _ (Or.inl h10)]) (fun _ _ _ => rfl) ⟨?_, fun _ w h1w h7w => ?_, fun q => ?_, fun _ _ l hl => ?_⟩ ?_)
    · rw [u2_n _ _ (Or.inr (by decide)), u2_n _ _ (Or.inl (by omega)), uc_c0 _ _ (by decide), uc_c0 _ _ (by omega)]; exact k0
    · by_cases e3 : w = 3
      · subst e3; rw [u2_s, up_s, x8]
      · rw [u2_n _ _ (Or.inr e3), u2_n _ _ (Or.inl (by omega)), uc_cc _ _ e3, uc_cc _ _ (by omega)]; exact k1 hs0 w h1w h7w
    · rw [uc_c0 _ _ (by decide), uc_c0 _ _ (by omega), h1] at q; rcases q with q | q <;> exact absurd q (by decide)
    · rw [u2_n _ _ (Or.inl (by omega)), uc_cc _ _ (by omega)]
      by_cases e3 : l = t
      · subst e3; rw [u2_s, up_s]
      · rw [u2_n _ _ (Or.inr e3), uc_cc _ _ (by omega)]; exact k3 hs0 hs5 l hl
    · rw [uc_c0 _ _ (by decide), uc_c0 _ _ (by omega)]; exact hs0
  · -- FIND
    have hmm' : mm = m n := by rw [g2] at emm; exact ((nI_eq' (by omega) (by omega)).mp emm).symm
    subst hmm'
    obtain ⟨j, j1, j2, j3⟩ := fst_ex (fun i => ¬ s (13 * n + (5 + i)) < s (315 + 24 * c + 2)) (m n)
    have jl : ∀ i, i < j → s (13 * n + (5 + i)) < s (315 + 24 * c + 2) := fun i hi => Decidable.not_not.mp (j2 i hi)
    have hke : ∃ ke, s (315 + 24 * c + 2) = nI ke ∧ ke ≤ 99 := by
      obtain ⟨k, kk1, kk2, kk3⟩ := I.2.1.1 c hc
      have hk1 : k = 1 := by rw [h1] at kk1; exact ((nI_eq' (a := 1) (by decide) (by omega)).mp kk1).symm
      subst hk1
      obtain ⟨-, q, -⟩ := kk3 (by decide) (by decide)
      exact q
    obtain ⟨ke, eke, hke⟩ := hke
    have same : decide ((if j < m n then x 7 (5 * n + j) else -4) = x (10 + 2 * c) 2) = hkF s n (s (315 + 24 * c + 2)) (m n) := by
      rw [Bool.eq_iff_iff, decide_eq_true_eq, hkF_iff, w2]
      constructor
      · intro q
        by_cases hj : j < m n
        · rw [if_pos hj, (tk j hj).1] at q; exact ⟨j, hj, q⟩
        · rw [if_neg hj, eke] at q; exact absurd q.symm (nI_n4 ke (by omega))
      · rintro ⟨i, hi, q⟩
        have hij : ¬ i < j := fun w => by have := jl i w; rw [q] at this; exact absurd this Int32.lt_irrefl
        have hj : j < m n := by omega
        rw [if_pos hj, (tk j hj).1]
        by_cases e3 : i = j
        · subst e3; exact q
        · have hr := rise_lt g7 (i := j) (j := i) (by omega) hi
          have hg := j3 hj
          rw [(g6 i hi).1, eke, nI_eq' (by have := (g6 i hi).2; omega) (by omega)] at q
          exact absurd (by rw [(g6 j hj).1, eke]; exact nI_lt (by omega) (by omega)) hg
    refine fin (d_f S V hc eN a3 xa ha (by rw [t6]; exact decide_eq_false hd) (by rw [t4, w2]; exact hk) (by rw [t2]; exact hl0) (by rw [w1]; exact hact) em (by omega) j1 (fun i hi => by rw [(tk i (by omega)).1, w2]; exact jl i hi) (fun hj => by rw [(tk j hj).1, w2]; exact j3 hj)) ?_
    rw [same]
    refine gsim_cl T I hc (by decide) hon (fun k hk => by rw [up_n _ _ (by omega), up_n _ _ (by omega)]) (by rw [uc_0c _ _ (by decide), uc_cc _ _ (by decide)]) (by rw [uc_0c _ _ (by decide), uc_cc _ _ (by decide)]) (fun o j h9 _ => by rw [u2_n _ _ (Or.inl h9), u2_n _ _ (Or.inl h9)]) (fun _ _ _ => rfl) ⟨?_, fun _ w h1w h7w => ?_, fun q => ?_, fun _ q l hl => ?_⟩ ?_
    · rw [u2_s, up_s]
    · rw [u2_n _ _ (Or.inr (by omega)), uc_0c _ _ (by omega)]
      by_cases e4 : w = 4
      · subst e4; rw [u2_s, up_s]
      · rw [u2_n _ _ (Or.inr e4), uc_cc _ _ e4]; exact k1 hs0 w h1w h7w
    · rw [up_s] at q; rcases q with q | q <;> exact absurd q (by decide)
    · rw [up_s] at q; exact absurd rfl q
    · rw [up_s]; decide
  · -- it is held
    refine fin (d_l S V hc eN a3 xa ha (by rw [t6]; exact decide_eq_false hd) (by rw [t4, w2]; exact hk) (by rw [t2]; exact hl0) (by rw [w1]; exact hact)) (gsim_cl T I hc (by decide) hon (fun k hk => up_n _ _ (by omega)) (uc_0c _ _ (by decide)) (uc_0c _ _ (by decide)) (fun o j h9 _ => u2_n _ _ (Or.inl h9)) (fun _ _ _ => rfl) ⟨?_, fun _ w h1w h7w => ?_, fun q => ?_, fun _ _ l hl => ?_⟩ ?_)
    · rw [u2_s, up_s]
    · rw [u2_n _ _ (Or.inr (by omega)), uc_0c _ _ (by omega)]; exact k1 hs0 w h1w h7w
    · rw [up_s] at q; rcases q with q | q <;> exact absurd q (by decide)
    · rw [u2_n _ _ (Or.inl (by omega)), uc_0c _ _ (by omega)]; exact k3 hs0 hs5 l hl
    · rw [up_s]; decide
  · exact absurd rfl hx0
end R31D
section R31E
variable {h : zi_Hp} {W : Nat} {x x1 : Nat → Nat → Int32} {y y1 : Nat → Nat → Bool} {s s1 : Nat → Int32} {N R M B c n : Nat} {L m H r : Nat → Nat} {K C : Nat → Nat → Nat} {f : Nat → Nat}
theorem gsim_3 (S : Sh h) (V : Wa W) (T : CG x y s N m) (I : InvG s N R M B L m H r K C f) (hc : c < 3) (h3 : s (315 + 24 * c) = 3) (hmv : msF s c = true) {cd : Int32} (D : StO s c cd s1) (h7 : ¬ cd = 7) {v2 v3 v4 : Value} : ∃ x' y', zv 5 80 0 [.ref W, .int (nI c), v2, v3, v4] [] (zC h W x y) = some (some (.int cd), zC h W x' y') ∧ CG x' y' (stF s s1 c cd) N m := by
  obtain ⟨⟨a1, a2, a3⟩, ⟨b1, b2⟩, ⟨d1, d2, d3⟩, G, o, z⟩ := id I.1
  have hx0 : ¬ cd = 0 := ms_x I hc hmv (Or.inr (Or.inr (Or.inr (Or.inl ⟨h3, D⟩))))
  have hon : onB s c = true := by unfold onB; rw [h3]; decide
  obtain ⟨k0, k1, k2, k3, k4⟩ := T.2.1 c hc
  obtain ⟨-, -, a, ea, ha, -, md, p, t, w8, w9, w10, hmd, hp, ht1, ht2, w11, -⟩ := at_3 I hc (k0 := 3) (Or.inl rfl) h3
  have hs0 : ¬ s (315 + 24 * c) = 0 := by rw [h3]; decide
  have hs5 : ¬ s (315 + 24 * c) = 5 := by rw [h3]; decide
  have w3 := k1 hs0 3 (by decide) (by decide)
  obtain ⟨y8, y9, y10, y11⟩ := k2 (Or.inl h3)
  have eN : x 1 0 = nI N := by rw [T.1.1.1]; exact a1
  have eR : x 1 1 = nI R := by rw [T.1.1.2.1]; exact b1
  have xa : x (10 + 2 * c) 3 = nI a := by rw [w3]; exact ea
  have go : zv 5 80 0 [.ref W, .int (nI c), v2, v3, v4] [] (zC h W x y) = zv 5 80 96 [.ref W, .int (nI c), .ref (W + (10 + 2 * c)), .int 0, v4] [] (zC h W x y) := by
    rw [adv_go S V hc eN a3 (n := a) (fun _ => ⟨xa, ha⟩) (by rw [T.mv I hc (fun _ => ⟨ea, ha⟩)]; exact hmv), b80_30_c3 (by first | (simp only [zC_n, zC_k, zC_r, S.n, wk_0 S V, wk_1 S V, wr_0_0 S V, wr_0_1 S V, wk_9 S V, cl_k S V hc, cl_r S V hc, cl_p S V hc, cl_q S V hc, zq_rf]; done) | (simp only [zC_n, zC_r, S.n, wr_0_0 S V, wr_0_1 S V, cl_r S V hc, cl_p S V hc, zq_rf]; have := V.lt; omega)) (by first | (simp only [zC_n, zC_k, zC_r, S.n, wk_0 S V, wk_1 S V, wr_0_0 S V, wr_0_1 S V, wk_9 S V, cl_k S V hc, cl_r S V hc, cl_p S V hc, cl_q S V hc, zq_rf]; done) | (simp only [zC_n, zC_r, S.n, wr_0_0 S V, wr_0_1 S V, cl_r S V hc, cl_p S V hc, zq_rf]; have := V.lt; omega)) (by rw [zC_i (by omega), k0]; exact h3), k0, h3, decide_eq_false (by decide), zi_bI_f]
  have fin : ∀ {x1 : Nat → Nat → Int32} {y1 : Nat → Nat → Bool}, zv 4 90 0 [.ref W, .ref (W + (10 + 2 * c)), .double 0] [] (zC h W x y) = some (some (.int cd), zC h W x1 y1) → CG (tdK x1 c cd) y1 (stF s s1 c cd) N m → ∃ x' y', zv 5 80 0 [.ref W, .int (nI c), v2, v3, v4] [] (zC h W x y) = some (some (.int cd), zC h W x' y') ∧ CG x' y' (stF s s1 c cd) N m := fun {x1 y1} e1 e2 => by
    refine ⟨tdK x1 c cd, y1, ?_, e2⟩
    rw [go, b80_96 (by first | (simp only [zC_n, zC_k, zC_r, S.n, wk_0 S V, wk_1 S V, wr_0_0 S V, wr_0_1 S V, wk_9 S V, cl_k S V hc, cl_r S V hc, cl_p S V hc, cl_q S V hc, zq_rf]; done) | (simp only [zC_n, zC_r, S.n, wr_0_0 S V, wr_0_1 S V, cl_r S V hc, cl_p S V hc, zq_rf]; have := V.lt; omega)) (by first | (simp only [zC_n, zC_k, zC_r, S.n, wk_0 S V, wk_1 S V, wr_0_0 S V, wr_0_1 S V, wk_9 S V, cl_k S V hc, cl_r S V hc, cl_p S V hc, cl_q S V hc, zq_rf]; done) | (simp only [zC_n, zC_r, S.n, wr_0_0 S V, wr_0_1 S V, cl_r S V hc, cl_p S V hc, zq_rf]; have := V.lt; omega)), e1]
    simp only [Option.bind_some, Option.toList_some, Option.toList_none, List.cons_append, List.nil_append]
    rw [b80_101, adv_t S V hc hx0]
  -- another place, and nothing else
  have move : ∀ {v : Int32}, 0 < cd → s1 = up s (315 + 24 * c + 3) v → CG (tdK (u2 x (10 + 2 * c) 3 v) c cd) y (stF s s1 c cd) N m := fun {v} hcd e1 => by
    subst e1
    refine gsim_cl T I hc hcd hon (fun k hk => up_n _ _ (by omega)) (uc_cc _ _ (by decide)) (uc_cc _ _ (by decide)) (fun o j h9 _ => u2_n _ _ (Or.inl h9)) (fun _ _ _ => rfl) ⟨?_, fun _ w h1w h7w => ?_, fun q => ?_, fun _ _ l hl => ?_⟩ ?_
    · rw [u2_n _ _ (Or.inr (by decide)), uc_c0 _ _ (by decide)]; exact k0
    · by_cases e3 : w = 3
      · subst e3; rw [u2_s, up_s]
      · rw [u2_n _ _ (Or.inr e3), uc_cc _ _ e3]; exact k1 hs0 w h1w h7w
    · rw [u2_n _ _ (Or.inr (by decide)), u2_n _ _ (Or.inr (by decide)), u2_n _ _ (Or.inr (by decide)), uc_cc _ _ (by decide), uc_cc _ _ (by decide), uc_cc _ _ (by decide), uc_cc _ _ (by decide)]; exact ⟨y8, y9, y10, y11⟩
    · rw [u2_n _ _ (Or.inl (by omega)), uc_cc _ _ (by omega)]; exact k3 hs0 hs5 l hl
    · rw [uc_c0 _ _ (by decide)]; exact hs0
  -- another state, and nothing else
  have state : ∀ {v : Int32}, 0 < cd → (v = 5 ∨ v = 4) → s1 = up s (315 + 24 * c) v → CG (tdK (u2 x (10 + 2 * c) 0 v) c cd) y (stF s s1 c cd) N m := fun {v} hcd hv e1 => by
    subst e1
    refine gsim_cl T I hc hcd hon (fun k hk => up_n _ _ (by omega)) (uc_0c _ _ (by decide)) (uc_0c _ _ (by decide)) (fun o j h9 _ => u2_n _ _ (Or.inl h9)) (fun _ _ _ => rfl) ⟨?_, fun _ w h1w h7w => ?_, fun q => ?_, fun _ _ l hl => ?_⟩ ?_
    · rw [u2_s, up_s]
    · rw [u2_n _ _ (Or.inr (by omega)), uc_0c _ _ (by omega)]; exact k1 hs0 w h1w h7w
    · rw [u2_n _ _ (Or.inr (by decide)), u2_n _ _ (Or.inr (by decide)), u2_n _ _ (Or.inr (by decide)), uc_0c _ _ (by decide), uc_0c _ _ (by decide), uc_0c _ _ (by decide), uc_0c _ _ (by decide)]; exact ⟨y8, y9, y10, y11⟩
    · rw [u2_n _ _ (Or.inl (by omega)), uc_0c _ _ (by omega)]; exact k3 hs0 hs5 l hl
    · rw [up_s]; rcases hv with rfl | rfl <;> decide
  obtain ⟨n, rr, hn24, hr24, en, er, D⟩ := D
  have hna : n = a := by rw [ea] at en; exact ((nI_eq' (by omega) (by omega)).mp en).symm
  have hrr : rr = R := by rw [b1] at er; exact ((nI_eq' (by omega) (by omega)).mp er).symm
  subst hna hrr
  obtain ⟨⟨g1, g2, g3⟩, g4, g5, g6, g7, g8, g9, g10, g11, g12⟩ := G n ha
  obtain ⟨⟨t2, t3, t4, t5, t6⟩, tk⟩ := T.1.2 n ha
  have tR := (T.1.2 rr b2).1.1
  have em : x 3 n = nI (m n) := by rw [t3]; exact g2
  rcases D with ⟨hl, ⟨hd, rfl, e1⟩ | ⟨hd, v, hv, ev, rfl, e1⟩⟩ | ⟨hl, ⟨h1, rfl, e1⟩ | ⟨h1, ⟨h2, rfl, e1⟩ | ⟨h2, ⟨h4, j, hj4, hlt, hge, rfl, e1⟩ | ⟨h4, hlk, rfl, e1⟩ | ⟨h4, hlk, rfl, e1⟩⟩⟩⟩
  · refine fin ?_ (state (v := 5) (by decide) (Or.inl rfl) e1)
    rw [p_top S V hc eN a3 eR b2 (by rw [tR, y9]; exact hl), if_pos ?_]
    rcases hd with q | q
    · exact Or.inl (by rw [y11]; exact decide_eq_true q)
    · exact Or.inr (by rw [a1] at q; exact (nI_eq' (b := 24) (by omega) (by decide)).mp q)
  · exact absurd rfl h7
  · refine fin ?_ (move (v := nI rr) (by decide) e1)
    rw [p_low S V hc eN a3 eR b2 (by rw [tR, y9]; exact hl) xa ha, if_pos (by rw [t2, y9]; exact h1), eR]
  · have hR : s (13 * n + 3) = nI (r n) ∧ r n < N := by
      rcases g4 with ⟨q1, q2⟩ | q
      · rw [g3, w8, nI_lt' (by omega) (by omega)] at h2
        omega
      · exact ⟨q.1, q.2.1⟩
    refine fin ?_ (move (v := x 5 n) (by decide) (by rw [t5]; exact e1))
    rw [p_low S V hc eN a3 eR b2 (by rw [tR, y9]; exact hl) xa ha, if_neg (by rw [t2, y9]; exact h1), if_pos (by rw [t4, y8]; exact h2), p_r S V hc eN a3 xa ha (by rw [t5, hR.1]; exact nI_pos (by omega))]
  · have ln := I.lv ha
    have lr := I.lv b2
    have hL : t < L n := by rw [w10, g1, nI_lt' (by omega) (by omega)] at h4; exact h4
    obtain ⟨m0, mK, mC, mB⟩ := g8 (by omega)
    have hj : j < m n := by
      refine Nat.not_le.mp (fun w => ?_)
      have h9 := hlt (m n - 1) (by omega)
      refine absurd (?_ : s (13 * n + 2) < s (315 + 24 * c + 8)) h2
      rw [(g6 (m n - 1) (by omega)).1, mK] at h9
      rw [g3]; exact h9
    obtain ⟨q1, q2, q3⟩ := mC j hj
    have hs13 : 0 < s (13 * n) := by rw [g1]; exact nI_lt (a := 0) (by omega) (by omega)
    have x8 : x 8 (5 * n + j) = s (13 * n + (9 + j)) := (tk j hj).2 hs13
    refine fin ?_ (move (v := x 8 (5 * n + j)) (by decide) (by rw [x8]; exact e1))
    rw [p_low S V hc eN a3 eR b2 (by rw [tR, y9]; exact hl) xa ha, if_neg (by rw [t2, y9]; exact h1), if_neg (by rw [t4, y8]; exact h2), if_pos (by rw [t2, y9]; exact h4), p_c S V hc eN a3 xa ha em (by omega) hj (fun i hi => by rw [(tk i (by omega)).1, y8]; exact hlt i hi) (by rw [(tk j hj).1, y8]; exact hge) (by rw [t2]; exact hs13) (by rw [x8, q1]; exact nI_pos (by omega))]
  · refine fin ?_ (state (v := 4) (by decide) (Or.inr rfl) e1)
    rw [p_low S V hc eN a3 eR b2 (by rw [tR, y9]; exact hl) xa ha, if_neg (by rw [t2, y9]; exact h1), if_neg (by rw [t4, y8]; exact h2), if_neg (by rw [t2, y9]; exact h4)]
  · exact absurd rfl hx0
end R31E
section R31F
variable {x x1 : Nat → Nat → Int32} {y y1 : Nat → Nat → Bool} {s s1 : Nat → Int32} {N R M B c n : Nat} {L m H r : Nat → Nat} {K C : Nat → Nat → Nat} {f : Nat → Nat}
theorem gst_idn (T : CG x y s N m) {N' R' M' B' : Nat} {L' m' H' r' : Nat → Nat} {K' C' : Nat → Nat → Nat} {f' : Nat → Nat} (J : InvG s1 N' R' M' B' L' m' H' r' K' C' f') (hth : ∀ key, thA s1 key = thA s key) (hc : c < 3) {cd : Int32} (h0 : 0 < cd) (e : ∀ k, 315 ≤ k → (k < 315 + 24 * c ∨ 315 + 24 * c + 24 ≤ k) → s1 k = s k) (e2 : s1 (315 + 24 * c + 2) = s (315 + 24 * c + 2)) (e5 : s1 (315 + 24 * c + 5) = s (315 + 24 * c + 5)) : stF s s1 c cd = tdF s1 c cd := by
  have tn : ∀ k, k < 315 → tdF s1 c cd k = s1 k := fun k hk => by
    unfold tdF
    rw [up_n _ _ (by omega), up_n _ _ (by omega)]
  have t2 : ∀ k, k < 3 → tdF s1 c cd (315 + 24 * k + 2) = s (315 + 24 * k + 2) := fun k hk => by
    unfold tdF
    rw [up_n _ _ (by omega), up_n _ _ (by omega)]
    by_cases w : k = c
    · subst w; exact e2
    · exact e _ (by omega) (by omega)
  have t5 : ∀ k, k < 3 → tdF s1 c cd (315 + 24 * k + 5) = s (315 + 24 * k + 5) := fun k hk => by
    unfold tdF
    rw [up_n _ _ (by omega), up_n _ _ (by omega)]
    by_cases w : k = c
    · subst w; exact e5
    · exact e _ (by omega) (by omega)
  have nn : ∀ k, k < 3 → onB s k = true → tdF s1 c cd (315 + 24 * k + 5) ||| (1 <<< (zi_bI (thA (tdF s1 c cd) (tdF s1 c cd (315 + 24 * k + 2))) &&& 31)) = tdF s1 c cd (315 + 24 * k + 5) := fun k hk ho => by
    rw [t2 k hk, t5 k hk, thA_cl J tn, hth]
    exact T.2.2 k hk ho
  have q0 : seF (onB s 0) 0 (tdF s1 c cd) = tdF s1 c cd := se_id (nn 0 (by decide))
  have q1 : seF (onB s 1) 1 (tdF s1 c cd) = tdF s1 c cd := se_id (nn 1 (by decide))
  have q2 : seF (onB s 2) 2 (tdF s1 c cd) = tdF s1 c cd := se_id (nn 2 (by decide))
  unfold stF
  rw [if_pos h0, q0, q1, q2]
/-- the relation behind such a step -/
theorem gsim_n (T : CG x y s N m) {N' R' M' B' : Nat} {L' m' H' r' : Nat → Nat} {K' C' : Nat → Nat → Nat} {f' : Nat → Nat} (J : InvG s1 N' R' M' B' L' m' H' r' K' C' f') (hth : ∀ key, thA s1 key = thA s key) (Z : CN x1 y1 s1 N' m') (hc : c < 3) {cd : Int32} (h0 : 0 < cd) (hon : onB s c = true) (e : ∀ k, 315 ≤ k → (k < 315 + 24 * c ∨ 315 + 24 * c + 24 ≤ k) → s1 k = s k) (e2 : s1 (315 + 24 * c + 2) = s (315 + 24 * c + 2)) (e5 : s1 (315 + 24 * c + 5) = s (315 + 24 * c + 5)) (ex : ∀ o j, 10 ≤ o → o ≠ 10 + 2 * c → o ≠ 11 + 2 * c → x1 o j = x o j) (ey : ∀ o j, 10 ≤ o → o ≠ 10 + 2 * c → y1 o j = y o j) (k : KZ x1 y1 s1 c) (hs : ¬ s1 (315 + 24 * c) = 0) : CG (tdK x1 c cd) y1 (stF s s1 c cd) N' m' := by
  have hN := J.1.1.2.2
  have hm : ∀ n, n < N' → m' n ≤ 4 := fun n hn => by
    have := (J.1.2.2.2.1 n hn).2.2.2.2.2.2.2.1
    have := J.1.2.2.1.2.2
    omega
  have tx : ∀ o j, o ≠ 10 + 2 * c → tdK x1 c cd o j = x1 o j := fun o j ho => by
    unfold tdK
    split
    · rw [u2_n _ _ (Or.inl ho), u2_n _ _ (Or.inl ho)]
    · rw [u2_n _ _ (Or.inl ho)]
  have tj : ∀ j, j ≠ 6 → j ≠ 7 → tdK x1 c cd (10 + 2 * c) j = x1 (10 + 2 * c) j := fun j h6 h7 => by
    unfold tdK
    split
    · rw [u2_n _ _ (Or.inr h7), u2_n _ _ (Or.inr h6)]
    · rw [u2_n _ _ (Or.inr h6)]
  have t6 : tdK x1 c cd (10 + 2 * c) 6 = x1 (10 + 2 * c) 6 + 1 := by
    unfold tdK
    split
    · rw [u2_n _ _ (Or.inr (by decide)), u2_s]
    · rw [u2_s]
  have t7 : tdK x1 c cd (10 + 2 * c) 7 = x1 (10 + 2 * c) 7 + (if cd = 1 then 1 else 0) := by
    unfold tdK
    by_cases h1 : cd = 1
    · rw [if_pos h1, if_pos h1, u2_s]
    · rw [if_neg h1, if_neg h1, u2_n _ _ (Or.inr (by decide)), Int32.add_zero]
  rw [gst_idn T J hth hc h0 e e2 e5]
  have so : ∀ k, k ≠ 315 + 24 * c + 6 → k ≠ 315 + 24 * c + 7 → tdF s1 c cd k = s1 k := fun k h6 h7 => by unfold tdF; rw [up_n _ _ h7, up_n _ _ h6]
  have s6 : tdF s1 c cd (315 + 24 * c + 6) = s1 (315 + 24 * c + 6) + 1 := by unfold tdF; rw [up_n _ _ (by omega), up_s]
  have s7 : tdF s1 c cd (315 + 24 * c + 7) = s1 (315 + 24 * c + 7) + (if cd = 1 then 1 else 0) := by unfold tdF; rw [up_s]
  have sn : ∀ k, k < 315 → tdF s1 c cd k = s1 k := fun k hk => by rw [so _ (by omega) (by omega)]
  refine ⟨Z.cl hN hm (fun o j ho => by rw [tx _ _ (by omega)]) (fun j => rfl) sn, fun d hd => ?_, fun d hd ho => ?_⟩
  · by_cases hdc : d = c
    · subst hdc
      obtain ⟨k0, k1, k2, k3⟩ := k
      have z0 : tdF s1 d cd (315 + 24 * d) = s1 (315 + 24 * d) := so _ (by omega) (by omega)
      unfold KG
      rw [z0]
      refine ⟨by rw [tj 0 (by decide) (by decide)]; exact k0, fun _ w w1 w7 => ?_, fun h34 => ?_, fun h1 h2 l hl => ?_, fun z => absurd z hs⟩
      · by_cases e6 : w = 6
        · subst e6; rw [t6, s6, k1 hs 6 (by decide) (by decide)]
        · by_cases e7 : w = 7
          · subst e7; rw [t7, s7, k1 hs 7 (by decide) (by decide)]
          · rw [tj w e6 e7, so _ (by omega) (by omega)]; exact k1 hs w w1 w7
      · rw [tj 8 (by decide) (by decide), tj 9 (by decide) (by decide), tj 10 (by decide) (by decide), so _ (by omega) (by omega), so _ (by omega) (by omega), so _ (by omega) (by omega), so _ (by omega) (by omega)]
        exact k2 h34
      · rw [tx _ _ (by omega), so _ (by omega) (by omega)]; exact k3 h1 h2 l hl
    · obtain ⟨k0, k1, k2, k3, k4⟩ := T.2.1 d hd
      have ez : ∀ w, w < 24 → tdF s1 c cd (315 + 24 * d + w) = s (315 + 24 * d + w) := fun w hw => by rw [so _ (by omega) (by omega), e _ (by omega) (by omega)]
      have ez0 : tdF s1 c cd (315 + 24 * d) = s (315 + 24 * d) := ez 0 (by decide)
      have exd : ∀ j, tdK x1 c cd (10 + 2 * d) j = x (10 + 2 * d) j := fun j => by rw [tx _ _ (by omega), ex _ _ (by omega) (by omega) (by omega)]
      have exp : ∀ j, tdK x1 c cd (11 + 2 * d) j = x (11 + 2 * d) j := fun j => by rw [tx _ _ (by omega), ex _ _ (by omega) (by omega) (by omega)]
      unfold KG
      rw [ez0, exd 0, exd 8, exd 9, exd 10, ez 8 (by decide), ez 9 (by decide), ez 10 (by decide), ez 11 (by decide), ey _ _ (by omega) (by omega)]
      exact ⟨k0, fun h1 w w1 w7 => by rw [exd, ez w (by omega)]; exact k1 h1 w w1 w7, k2, fun h1 h2 l hl => by rw [exp, ez (12 + l) (by omega)]; exact k3 h1 h2 l hl, fun z => by
        rw [exd, show tdF s1 c cd (2000 + d) = s (2000 + d) from by rw [so _ (by omega) (by omega), e _ (by omega) (by omega)]]
        exact k4 z⟩
  · have z2 : tdF s1 c cd (315 + 24 * d + 2) = s (315 + 24 * d + 2) := by
      rw [so _ (by omega) (by omega)]
      by_cases w : d = c
      · subst w; exact e2
      · exact e _ (by omega) (by omega)
    have z5 : tdF s1 c cd (315 + 24 * d + 5) = s (315 + 24 * d + 5) := by
      rw [so _ (by omega) (by omega)]
      by_cases w : d = c
      · subst w; exact e5
      · exact e _ (by omega) (by omega)
    rw [z2, z5, thA_cl J sn, hth]
    refine T.2.2 d hd ?_
    by_cases w : d = c
    · subst w; exact hon
    · have z0 : tdF s1 c cd (315 + 24 * d) = s (315 + 24 * d) := by rw [so _ (by omega) (by omega), e _ (by omega) (by omega)]
      unfold onB at ho ⊢
      rw [z0] at ho
      exact ho
end R31F
section R31H
variable {h : zi_Hp} {W : Nat} {x x1 : Nat → Nat → Int32} {y y1 : Nat → Nat → Bool} {s s1 : Nat → Int32} {N R M B c n : Nat} {L m H r : Nat → Nat} {K C : Nat → Nat → Nat} {f : Nat → Nat}
theorem gsim_4X (S : Sh h) (V : Wa W) (T : CG x y s N m) (I : InvG s N R M B L m H r K C f) (hc : c < 3) (h4 : s (315 + 24 * c) = 4) (hdd : s (315 + 24 * c + 11) = 1) (hmv : msF s c = true) {cd : Int32} (D : StX s c cd s1) {N' R' M' B' : Nat} {L' m' H' r' : Nat → Nat} {K' C' : Nat → Nat → Nat} {f' : Nat → Nat} (J : InvG s1 N' R' M' B' L' m' H' r' K' C' f') {v2 v3 v4 : Value} : ∃ x' y', zv 5 80 0 [.ref W, .int (nI c), v2, v3, v4] [] (zC h W x y) = some (some (.int cd), zC h W x' y') ∧ CG x' y' (stF s s1 c cd) N' m' := by
  obtain ⟨⟨a1, a2, a3⟩, ⟨b1, b2⟩, ⟨d1, d2, d3⟩, G, o, z⟩ := id I.1
  have hx0 : ¬ cd = 0 := ms_x I hc hmv (Or.inr (Or.inr (Or.inr (Or.inr (Or.inl ⟨h4, hdd, D⟩)))))
  have hon : onB s c = true := by unfold onB; rw [h4]; decide
  obtain ⟨k0, k1, k2, k3, k4⟩ := T.2.1 c hc
  obtain ⟨-, -, a, ea, ha, -, md, p, t, w8, w9, w10, hmd, hp, ht1, ht2, w11, w4⟩ := at_3 I hc (k0 := 4) (Or.inr rfl) h4
  obtain ⟨hLt, hmH⟩ := w4 rfl
  have hs0 : ¬ s (315 + 24 * c) = 0 := by rw [h4]; decide
  have hs5 : ¬ s (315 + 24 * c) = 5 := by rw [h4]; decide
  have w3 := k1 hs0 3 (by decide) (by decide)
  obtain ⟨y8, y9, y10, y11⟩ := k2 (Or.inr h4)
  have eN : x 1 0 = nI N := by rw [T.1.1.1]; exact a1
  have xa : x (10 + 2 * c) 3 = nI a := by rw [w3]; exact ea
  have go : zv 5 80 0 [.ref W, .int (nI c), v2, v3, v4] [] (zC h W x y) = zv 5 80 113 [.ref W, .int (nI c), .ref (W + (10 + 2 * c)), .int 0, v4] [] (zC h W x y) := by
    rw [adv_go S V hc eN a3 (n := a) (fun _ => ⟨xa, ha⟩) (by rw [T.mv I hc (fun _ => ⟨ea, ha⟩)]; exact hmv), b80_30_d (by first | (simp only [zC_n, zC_k, zC_r, S.n, wk_0 S V, wk_1 S V, wr_0_0 S V, wr_0_1 S V, wk_9 S V, cl_k S V hc, cl_r S V hc, cl_p S V hc, cl_q S V hc, zq_rf]; done) | (simp only [zC_n, zC_r, S.n, wr_0_0 S V, wr_0_1 S V, cl_r S V hc, cl_p S V hc, zq_rf]; have := V.lt; omega)) (by first | (simp only [zC_n, zC_k, zC_r, S.n, wk_0 S V, wk_1 S V, wr_0_0 S V, wr_0_1 S V, wk_9 S V, cl_k S V hc, cl_r S V hc, cl_p S V hc, cl_q S V hc, zq_rf]; done) | (simp only [zC_n, zC_r, S.n, wr_0_0 S V, wr_0_1 S V, cl_r S V hc, cl_p S V hc, zq_rf]; have := V.lt; omega)) (by rw [zC_i (by omega), k0, h4]; exact Or.inr (by decide)), k0, h4, decide_eq_false (by decide), zi_bI_f, b80_106 (by first | (simp only [zC_n, zC_k, zC_r, S.n, wk_0 S V, wk_1 S V, wr_0_0 S V, wr_0_1 S V, wk_9 S V, cl_k S V hc, cl_r S V hc, cl_p S V hc, cl_q S V hc, zq_rf]; done) | (simp only [zC_n, zC_r, S.n, wr_0_0 S V, wr_0_1 S V, cl_r S V hc, cl_p S V hc, zq_rf]; have := V.lt; omega)) (by first | (simp only [zC_n, zC_k, zC_r, S.n, wk_0 S V, wk_1 S V, wr_0_0 S V, wr_0_1 S V, wk_9 S V, cl_k S V hc, cl_r S V hc, cl_p S V hc, cl_q S V hc, zq_rf]; done) | (simp only [zC_n, zC_r, S.n, wr_0_0 S V, wr_0_1 S V, cl_r S V hc, cl_p S V hc, zq_rf]; have := V.lt; omega)), zC_b (by omega), y11, hdd, decide_eq_true rfl, zi_bI_t, if_neg (by decide)]
  have fin : ∀ {x1 : Nat → Nat → Int32} {y1 : Nat → Nat → Bool}, zv 3 93 0 [.ref W, .ref (W + (10 + 2 * c)), .double 0, .double 0] [] (zC h W x y) = some (some (.int cd), zC h W x1 y1) → CG (tdK x1 c cd) y1 (stF s s1 c cd) N' m' → ∃ x' y', zv 5 80 0 [.ref W, .int (nI c), v2, v3, v4] [] (zC h W x y) = some (some (.int cd), zC h W x' y') ∧ CG x' y' (stF s s1 c cd) N' m' := fun {x1 y1} e1 e2 => by
    refine ⟨tdK x1 c cd, y1, ?_, e2⟩
    rw [go, b80_113 (by first | (simp only [zC_n, zC_k, zC_r, S.n, wk_0 S V, wk_1 S V, wr_0_0 S V, wr_0_1 S V, wk_9 S V, cl_k S V hc, cl_r S V hc, cl_p S V hc, cl_q S V hc, zq_rf]; done) | (simp only [zC_n, zC_r, S.n, wr_0_0 S V, wr_0_1 S V, cl_r S V hc, cl_p S V hc, zq_rf]; have := V.lt; omega)) (by first | (simp only [zC_n, zC_k, zC_r, S.n, wk_0 S V, wk_1 S V, wr_0_0 S V, wr_0_1 S V, wk_9 S V, cl_k S V hc, cl_r S V hc, cl_p S V hc, cl_q S V hc, zq_rf]; done) | (simp only [zC_n, zC_r, S.n, wr_0_0 S V, wr_0_1 S V, cl_r S V hc, cl_p S V hc, zq_rf]; have := V.lt; omega)), e1]
    simp only [Option.bind_some, Option.toList_some, Option.toList_none, List.cons_append, List.nil_append]
    rw [b80_118, b80_126, adv_t S V hc hx0]
  obtain ⟨n, mm, j, hn24, hmm, hj, en, emm, hlt, hge, D⟩ := D
  have hna : n = a := by rw [ea] at en; exact ((nI_eq' (by omega) (by omega)).mp en).symm
  subst hna
  obtain ⟨⟨g1, g2, g3⟩, g4, g5, g6, g7, g8, g9, g10, g11, g12⟩ := G n ha
  obtain ⟨⟨t2, t3, t4, t5, t6⟩, tk⟩ := T.1.2 n ha
  have hmm' : mm = m n := by rw [g2] at emm; exact ((nI_eq' (by omega) (by omega)).mp emm).symm
  subst hmm'
  have ln := I.lv ha
  have em : x 3 n = nI (m n) := by rw [t3]; exact g2
  have hs13 : 0 < s (13 * n) := by rw [g1]; exact nI_lt (a := 0) (by omega) (by omega)
  have cls := a_d S V hc (y := y) eN a3 xa ha em (by omega) hj (fun i hi => by rw [(tk i (by omega)).1, y8]; exact hlt i hi) (by rw [(tk j hj).1, y8]; exact hge) (by rw [t2]; exact hs13) (fun i hi => by rw [(tk i hi).1, (g6 i hi).1]; exact nI_pos (by have := (g6 i hi).2; omega)) (v2 := .double 0) (v3 := .double 0)
  rw [(tk j hj).1, (tk j hj).2 hs13, y8, y10] at cls
  have kr : ∀ {x1 : Nat → Nat → Int32} {s1 : Nat → Int32}, (∀ w, x1 (10 + 2 * c) w = if w = 0 then 5 else x (10 + 2 * c) w) → s1 (315 + 24 * c) = 5 → (∀ w, 1 ≤ w → w < 24 → s1 (315 + 24 * c + w) = s (315 + 24 * c + w)) → KZ x1 y s1 c := fun {x1 s1} e1 e2 e3 => by
    unfold KZ
    rw [e2]
    refine ⟨by rw [e1]; rfl, fun _ w h1 h7 => by rw [e1, if_neg (by omega), e3 w h1 (by omega)]; exact k1 hs0 w h1 h7, fun q => ?_, fun _ q => absurd rfl q⟩
    rcases q with q | q <;> exact absurd q (by decide)
  rcases D with ⟨hno, rfl, e1⟩ | ⟨hj2, x1', x2', rfl, e1⟩
  · have hN' : N' = N := nI_Neq J (by omega) (by rw [e1, up_n _ _ (by omega)]; exact a1)
    subst hN'
    have so : ∀ k, k ≠ 315 + 24 * c → s1 k = s k := fun k hk => by rw [e1, up_n _ _ hk]
    refine fin (x1 := u2 x (10 + 2 * c) 0 5) (y1 := y) ?_ (gsim_n T J (fun key => thA_cl I (fun k hk => so k (by omega)) key) ?_ hc (by decide) hon (fun k _ hk => so k (by omega)) (so _ (by omega)) (so _ (by omega)) (fun o j _ h9 _ => u2_n _ _ (Or.inl h9)) (fun _ _ _ _ => rfl) (kr (fun w => ?_) (by rw [e1, up_s]) (fun w _ _ => so _ (by omega))) (by rw [e1, up_s]; decide))
    · rw [cls, if_neg (fun q => by
        rcases hno with w | w | w
        · exact w q.1
        · exact w q.2.1
        · omega)]
    · have hm' : ∀ b, b < N' → m' b = m b := fun b hb => mI_eq J hb (by have := (G b hb).2.2.2.2.2.2.2.1; omega) (by rw [so _ (by omega)]; exact (G b hb).1.2.1)
      have q := T.1.cl (x' := u2 x (10 + 2 * c) 0 5) (y' := y) (s' := s1) a3 (fun b hb => by have := (G b hb).2.2.2.2.2.2.2.1; omega) (fun o j ho => u2_n _ _ (Or.inl (by omega))) (fun _ => rfl) (fun k hk => so k (by omega))
      exact ⟨q.1, fun b hb => ⟨(q.2 b hb).1, fun i hi => (q.2 b hb).2 i (by rw [← hm' b hb]; exact hi)⟩⟩
    · by_cases e0 : w = 0
      · subst e0; rw [u2_s]; rfl
      · rw [u2_n _ _ (Or.inr e0), if_neg e0]
  · have eo : ∀ k, k < 315 → s1 k = nH s n (rmF s n 5 j) (rmF s n 9 j) (m n - 1) k := fun k hk => by rw [e1, up_n _ _ (by omega)]
    have hN' : N' = N := nI_Neq J (by omega) (by rw [eo _ (by decide), nH_o (by omega) (by omega)]; exact a1)
    subst hN'
    have so : ∀ k, 315 ≤ k → k ≠ 315 + 24 * c → s1 k = s k := fun k h3 hk => by rw [e1, up_n _ _ hk, nH_o (by omega) (by omega)]
    have ro : ∀ o k, o ≠ 3 → o ≠ 7 → o ≠ 8 → trF x n j (m n) o k = x o k := fun o k h1 h2 h3 => by
      unfold trF slF
      rw [u2_n _ _ (Or.inl h1), if_neg (fun q => by omega)]
    refine fin (x1 := u2 (trF x n j (m n)) (10 + 2 * c) 0 5) (y1 := y) (by rw [cls, if_pos ⟨x1', x2', hj2⟩]) (gsim_n T J (thA_node I ha (by omega) (by omega) J eo) (T.1.node I ha (by omega) J eo (fun o k ho h1 h2 => ?_) ?_ (fun i hi => ?_)) hc (by decide) hon (fun k h3 hk => so k h3 (by omega)) (so _ (by omega) (by omega)) (so _ (by omega) (by omega)) (fun o k h10 h9 _ => by rw [u2_n _ _ (Or.inl h9), ro _ _ (by omega) (by omega) (by omega)]) (fun _ _ _ _ => rfl) (kr (fun w => ?_) (by rw [e1, up_s]) (fun w _ _ => so _ (by omega) (by omega))) (by rw [e1, up_s]; decide))
    · rw [u2_n _ _ (Or.inl (by omega))]
      unfold trF slF
      rw [u2_n _ _ h1, if_neg (fun q => by omega)]
    · rw [u2_n _ _ (Or.inl (by omega))]; unfold trF; rw [u2_s]
    · rw [u2_n _ _ (Or.inl (by omega)), u2_n _ _ (Or.inl (by omega))]
      unfold trF slF rmF
      rw [u2_n _ _ (Or.inl (by decide)), u2_n _ _ (Or.inl (by decide))]
      by_cases q : i < j
      · rw [if_neg (show ¬ ((7 = 7 ∨ 7 = 8) ∧ 5 * n + j ≤ 5 * n + i ∧ 5 * n + i < 5 * n + (m n - 1)) by omega), if_neg (show ¬ ((8 = 7 ∨ 8 = 8) ∧ 5 * n + j ≤ 5 * n + i ∧ 5 * n + i < 5 * n + (m n - 1)) by omega), if_pos q, if_pos q]; exact tk i (by omega)
      · rw [if_pos (show (7 = 7 ∨ 7 = 8) ∧ 5 * n + j ≤ 5 * n + i ∧ 5 * n + i < 5 * n + (m n - 1) by omega), if_pos (show (8 = 7 ∨ 8 = 8) ∧ 5 * n + j ≤ 5 * n + i ∧ 5 * n + i < 5 * n + (m n - 1) by omega), if_neg q, if_neg q]; exact tk (i + 1) (by omega)
    · by_cases e0 : w = 0
      · subst e0; rw [u2_s]; rfl
      · rw [u2_n _ _ (Or.inr e0), if_neg e0, ro _ _ (by omega) (by omega) (by omega)]
end R31H
section R31I
variable {h : zi_Hp} {W : Nat} {x x1 : Nat → Nat → Int32} {y y1 : Nat → Nat → Bool} {s s1 : Nat → Int32} {N R M B c n : Nat} {L m H r : Nat → Nat} {K C : Nat → Nat → Nat} {f : Nat → Nat}
theorem gsim_3N (S : Sh h) (V : Wa W) (T : CG x y s N m) (I : InvG s N R M B L m H r K C f) (hc : c < 3) (h3 : s (315 + 24 * c) = 3) (hmv : msF s c = true) (D : StO s c 7 s1) {N' R' M' B' : Nat} {L' m' H' r' : Nat → Nat} {K' C' : Nat → Nat → Nat} {f' : Nat → Nat} (J : InvG s1 N' R' M' B' L' m' H' r' K' C' f') {v2 v3 v4 : Value} : ∃ x' y', zv 5 80 0 [.ref W, .int (nI c), v2, v3, v4] [] (zC h W x y) = some (some (.int 7), zC h W x' y') ∧ CG x' y' (stF s s1 c 7) N' m' := by
  obtain ⟨⟨a1, a2, a3⟩, ⟨b1, b2⟩, ⟨d1, d2, d3⟩, G, o, z⟩ := id I.1
  have hon : onB s c = true := by unfold onB; rw [h3]; decide
  obtain ⟨k0, k1, k2, k3, k4⟩ := T.2.1 c hc
  obtain ⟨-, -, a, ea, ha, -, md, p, t, w8, w9, w10, hmd, hp, ht1, ht2, w11, -⟩ := at_3 I hc (k0 := 3) (Or.inl rfl) h3
  have hs0 : ¬ s (315 + 24 * c) = 0 := by rw [h3]; decide
  have w3 := k1 hs0 3 (by decide) (by decide)
  obtain ⟨y8, y9, y10, y11⟩ := k2 (Or.inl h3)
  have eN : x 1 0 = nI N := by rw [T.1.1.1]; exact a1
  have eR : x 1 1 = nI R := by rw [T.1.1.2.1]; exact b1
  have xa : x (10 + 2 * c) 3 = nI a := by rw [w3]; exact ea
  have go : zv 5 80 0 [.ref W, .int (nI c), v2, v3, v4] [] (zC h W x y) = zv 5 80 96 [.ref W, .int (nI c), .ref (W + (10 + 2 * c)), .int 0, v4] [] (zC h W x y) := by
    rw [adv_go S V hc eN a3 (n := a) (fun _ => ⟨xa, ha⟩) (by rw [T.mv I hc (fun _ => ⟨ea, ha⟩)]; exact hmv), b80_30_c3 (by first | (simp only [zC_n, zC_k, zC_r, S.n, wk_0 S V, wk_1 S V, wr_0_0 S V, wr_0_1 S V, wk_9 S V, cl_k S V hc, cl_r S V hc, cl_p S V hc, cl_q S V hc, zq_rf]; done) | (simp only [zC_n, zC_r, S.n, wr_0_0 S V, wr_0_1 S V, cl_r S V hc, cl_p S V hc, zq_rf]; have := V.lt; omega)) (by first | (simp only [zC_n, zC_k, zC_r, S.n, wk_0 S V, wk_1 S V, wr_0_0 S V, wr_0_1 S V, wk_9 S V, cl_k S V hc, cl_r S V hc, cl_p S V hc, cl_q S V hc, zq_rf]; done) | (simp only [zC_n, zC_r, S.n, wr_0_0 S V, wr_0_1 S V, cl_r S V hc, cl_p S V hc, zq_rf]; have := V.lt; omega)) (by rw [zC_i (by omega), k0]; exact h3), k0, h3, decide_eq_false (by decide), zi_bI_f]
  obtain ⟨n, rr, hn24, hr24, en, er, D⟩ := D
  have hrr : rr = R := by rw [b1] at er; exact ((nI_eq' (by omega) (by omega)).mp er).symm
  subst hrr
  have tR := (T.1.2 rr b2).1.1
  have main : ∃ v, s (13 * rr) < s (315 + 24 * c + 10) ∧ ¬ s (315 + 24 * c + 11) = 1 ∧ v < 24 ∧ s 312 = nI v ∧ s1 = up (up (nH (nnF s v (s (315 + 24 * c + 10)) 100 (-4)) v (fun i => if i = 0 then s (315 + 24 * c + 8) else 100) (fun i => if i = 0 then s 313 else s (315 + 24 * c + 9)) 2) 313 (nI v)) (315 + 24 * c) 5 := by
    rcases D with ⟨hl, ⟨_, q, _⟩ | ⟨hd, v, hv, ev, _, e1⟩⟩ | ⟨_, ⟨_, q, _⟩ | ⟨_, ⟨_, q, _⟩ | ⟨_, ⟨_, _, _, _, _, q, _⟩ | ⟨_, _, q, _⟩ | ⟨_, _, q, _⟩⟩⟩⟩
    · exact absurd q (by decide)
    · exact ⟨v, hl, hd, hv, ev, e1⟩
    · exact absurd q (by decide)
    · exact absurd q (by decide)
    · exact absurd q (by decide)
    · exact absurd q (by decide)
    · exact absurd q (by decide)
  obtain ⟨v, hl, hd, hv, ev, e1⟩ := main
  have hvN : N = v := by rw [a1] at ev; exact (nI_eq' (by omega) (by omega)).mp ev
  subst hvN
  have lr := I.lv b2
  -- the new row
  have e_o : ∀ k, k < 13 * N → s1 k = s k := fun k hk => by rw [e1, up_n _ _ (by omega), up_n _ _ (by omega), nH_o (by decide) (by omega), nn_o (by omega) (by omega)]
  have e_c : ∀ k, 314 ≤ k → k ≠ 315 + 24 * c → s1 k = s k := fun k h1 hk => by rw [e1, up_n _ _ hk, up_n _ _ (by omega), nH_o (by decide) (by omega), nn_o (by omega) (by omega)]
  have e_0 : s1 (315 + 24 * c) = 5 := by rw [e1, up_s]
  have e_N : s1 312 = nI (N + 1) := by rw [e1, up_n _ _ (by omega), up_n _ _ (by omega), nH_o (by decide) (by omega), nn_N (by omega)]
  have e_R : s1 313 = nI N := by rw [e1, up_n _ _ (by omega), up_s]
  have e_v0 : s1 (13 * N) = s (315 + 24 * c + 10) := by rw [e1, up_n _ _ (by omega), up_n _ _ (by omega), nH_o (by decide) (by omega), nn_0]
  have e_v1 : s1 (13 * N + 1) = nI 2 := by rw [e1, up_n _ _ (by omega), up_n _ _ (by omega), nH_1]
  have e_v2 : s1 (13 * N + 2) = 100 := by rw [e1, up_n _ _ (by omega), up_n _ _ (by omega), nH_o (by decide) (by omega), nn_2]
  have e_v3 : s1 (13 * N + 3) = -4 := by rw [e1, up_n _ _ (by omega), up_n _ _ (by omega), nH_o (by decide) (by omega), nn_3]
  have e_v4 : s1 (13 * N + 4) = 0 := by rw [e1, up_n _ _ (by omega), up_n _ _ (by omega), nH_o (by decide) (by omega), nn_4]
  have e_vk : ∀ i, i < 2 → s1 (13 * N + (5 + i)) = if i = 0 then s (315 + 24 * c + 8) else 100 := fun i hi => by rw [e1, up_n _ _ (by omega), up_n _ _ (by omega), nH_k hi (by decide)]
  have e_vc : ∀ i, i < 2 → s1 (13 * N + (9 + i)) = if i = 0 then s 313 else s (315 + 24 * c + 9) := fun i hi => by rw [e1, up_n _ _ (by omega), up_n _ _ (by omega), nH_c hi (by decide)]
  have hN' : N' = N + 1 := nI_Neq J (by omega) e_N
  subst hN'
  have hm' : ∀ b, b < N → m' b = m b := fun b hb => mI_eq J (by omega) (by have := (G b hb).2.2.2.2.2.2.2.1; omega) (by rw [e_o _ (by omega)]; exact (G b hb).1.2.1)
  have hmN : m' N = 2 := mI_eq J (by omega) (by decide) e_v1
  have hlN : ¬ s1 (13 * N) = 0 := fun q => by
    rw [e_v0, w10] at q
    have := (nI_eq' (b := 0) (by omega) (by decide)).mp q
    omega
  have hth : ∀ key, thA s1 key = thA s key := fun key => by
    rw [Bool.eq_iff_iff, thA_iff I, thA_iff J]
    constructor
    · rintro ⟨b, hb, h2, h3, i, h4, h5⟩
      have hbN : b < N := by
        refine Nat.lt_of_le_of_ne (by omega) (fun q => ?_)
        subst q; exact hlN h2
      have g10 := (G b hbN).2.2.2.2.2.2.2.1
      rw [hm' b hbN] at h4
      rw [e_o _ (by omega)] at h2 h3 h5
      exact ⟨b, hbN, h2, h3, i, h4, h5⟩
    · rintro ⟨b, hb, h2, h3, i, h4, h5⟩
      have g10 := (G b hb).2.2.2.2.2.2.2.1
      exact ⟨b, by omega, by rw [e_o _ (by omega)]; exact h2, by rw [e_o _ (by omega)]; exact h3, i, by rw [hm' b hb]; exact h4, by rw [e_o _ (by omega)]; exact h5⟩
  have Z : CN (nrK x c N) (u2 y 6 N false) s1 (N + 1) m' := by
    refine ⟨⟨by rw [nr_10, e_N], by rw [nr_11, e_R], by rw [nr_o (by omega), e_c _ (by omega) (by omega)]; exact T.1.1.2.2⟩, fun b hb => ?_⟩
    by_cases ebN : b = N
    · subst ebN
      refine ⟨⟨by rw [nr_2, e_v0]; exact y9, by rw [nr_3, e_v1], by rw [nr_4, e_v2], by rw [nr_5, e_v3], by rw [u2_s, e_v4]; decide⟩, fun i hi => ?_⟩
      rw [hmN] at hi
      rw [e_vk i hi, e_vc i hi]
      by_cases i0 : i = 0
      · subst i0
        rw [nr_70, nr_80, if_pos rfl, if_pos rfl]
        exact ⟨y8, fun _ => T.1.1.2.1⟩
      · have : i = 1 := by omega
        subst this
        rw [nr_71, nr_81, if_neg (by decide), if_neg (by decide)]
        exact ⟨rfl, fun _ => y10⟩
    · obtain ⟨⟨v2, v3, v4, v5, v6⟩, vk⟩ := T.1.2 b (by omega)
      have g10 := (G b (by omega)).2.2.2.2.2.2.2.1
      refine ⟨⟨by rw [nr_o (by omega), e_o _ (by omega)]; exact v2, by rw [nr_o (by omega), e_o _ (by omega)]; exact v3, by rw [nr_o (by omega), e_o _ (by omega)]; exact v4, by rw [nr_o (by omega), e_o _ (by omega)]; exact v5, by rw [u2_n _ _ (by omega), e_o _ (by omega)]; exact v6⟩, fun i hi => ?_⟩
      rw [hm' b (by omega)] at hi
      rw [nr_o (by omega), nr_o (by omega), e_o _ (by omega), e_o _ (by omega), e_o _ (by omega)]
      exact vk i hi
  refine ⟨tdK (nrK x c N) c 7, u2 y 6 N false, ?_, gsim_n T J hth Z hc (by decide) hon (fun k h1 h2 => e_c k (by omega) (by omega)) (e_c _ (by omega) (by omega)) (e_c _ (by omega) (by omega)) (fun o j h10 h9 _ => nr_o (by omega)) (fun o j h10 _ => u2_n _ _ (by omega)) ?_ (by rw [e_0]; decide)⟩
  · rw [go, b80_96 (by first | (simp only [zC_n, zC_k, zC_r, S.n, wk_0 S V, wk_1 S V, wr_0_0 S V, wr_0_1 S V, wk_9 S V, cl_k S V hc, cl_r S V hc, cl_p S V hc, cl_q S V hc, zq_rf]; done) | (simp only [zC_n, zC_r, S.n, wr_0_0 S V, wr_0_1 S V, cl_r S V hc, cl_p S V hc, zq_rf]; have := V.lt; omega)) (by first | (simp only [zC_n, zC_k, zC_r, S.n, wk_0 S V, wk_1 S V, wr_0_0 S V, wr_0_1 S V, wk_9 S V, cl_k S V hc, cl_r S V hc, cl_p S V hc, cl_q S V hc, zq_rf]; done) | (simp only [zC_n, zC_r, S.n, wr_0_0 S V, wr_0_1 S V, cl_r S V hc, cl_p S V hc, zq_rf]; have := V.lt; omega)), p_top S V hc eN a3 eR b2 (by rw [tR, y9]; exact hl), if_neg ?_]
    · simp only [Option.bind_some, Option.toList_some, Option.toList_none, List.cons_append, List.nil_append]
      rw [b80_101, adv_t S V hc (by decide)]
    · rintro (q | q)
      · rw [y11] at q; exact hd (of_decide_eq_true q)
      · omega
  · unfold KZ
    rw [e_0]
    refine ⟨nr_c0, fun _ w h1 h7 => by rw [nr_o (by omega), e_c _ (by omega) (by omega)]; exact k1 hs0 w h1 h7, fun q => ?_, fun _ q => absurd rfl q⟩
    rcases q with q | q <;> exact absurd q (by decide)
end R31I
section R31J
variable {h : zi_Hp} {W : Nat} {x x0 x1 Y : Nat → Nat → Int32} {y y1 : Nat → Nat → Bool} {s s1 : Nat → Int32} {N R M B c n k : Nat} {L m H r : Nat → Nat} {K C : Nat → Nat → Nat} {f : Nat → Nat} {bk bc : Nat → Int32}
section
variable {b ls : Nat}
end
/-- a client that rises -/
theorem KG.ri (k : KG x y s c) (hs0 : ¬ s (315 + 24 * c) = 0) (hs5 : ¬ s (315 + 24 * c) = 5) {l : Nat} (hl : l < 12) (pa : s (315 + 24 * c + (12 + l)) = -4 ∨ ∃ b, s (315 + 24 * c + (12 + l)) = nI b ∧ b < 1000) {ans mid what dead : Int32} (Y1 : ∀ w, w = 1 ∨ w = 2 ∨ w = 5 ∨ w = 6 ∨ w = 7 → Y (10 + 2 * c) w = x (10 + 2 * c) w) (Y2 : ∀ w, Y (11 + 2 * c) w = x (11 + 2 * c) w) (Y3 : Y 1 1 = s 313) (Y8 : Y (10 + 2 * c) 8 = mid) (Y9 : Y (10 + 2 * c) 10 = what) (y11 : y1 (10 + 2 * c) 11 = decide (dead = 1)) (e0 : s1 (315 + 24 * c) = 3) (ew : ∀ w, w = 1 ∨ w = 2 ∨ w = 5 ∨ w = 6 ∨ w = 7 → s1 (315 + 24 * c + w) = s (315 + 24 * c + w)) (e3 : s1 (315 + 24 * c + 3) = if s (315 + 24 * c + (12 + l)) = -4 then s 313 else s (315 + 24 * c + (12 + l))) (e4 : s1 (315 + 24 * c + 4) = ans) (e8 : s1 (315 + 24 * c + 8) = mid) (e9 : s1 (315 + 24 * c + 9) = what) (e10 : s1 (315 + 24 * c + 10) = nI l) (e11 : s1 (315 + 24 * c + 11) = dead) (ep : ∀ w, w < 12 → s1 (315 + 24 * c + (12 + w)) = s (315 + 24 * c + (12 + w))) : KZ (riK Y c l ans) y1 s1 c := by
  obtain ⟨k0, k1, -, k3, -⟩ := k
  have r0 : riK Y c l ans (10 + 2 * c) 0 = 3 := by unfold riK; rw [u2_s]
  have r3 : riK Y c l ans (10 + 2 * c) 3 = if Y (11 + 2 * c) l < 0 then Y 1 1 else Y (11 + 2 * c) l := by unfold riK; rw [u2_n _ _ (by omega), u2_s]
  have r9 : riK Y c l ans (10 + 2 * c) 9 = nI l := by unfold riK; rw [u2_n _ _ (by omega), u2_n _ _ (by omega), u2_s]
  have r4 : riK Y c l ans (10 + 2 * c) 4 = ans := by unfold riK; rw [u2_n _ _ (by omega), u2_n _ _ (by omega), u2_n _ _ (by omega), u2_s]
  have ro : ∀ o j, (o ≠ 10 + 2 * c ∨ (j ≠ 0 ∧ j ≠ 3 ∧ j ≠ 4 ∧ j ≠ 9)) → riK Y c l ans o j = Y o j := fun o j q => by unfold riK; rw [u2_n _ _ (by omega), u2_n _ _ (by omega), u2_n _ _ (by omega), u2_n _ _ (by omega)]
  unfold KZ
  rw [e0]
  refine ⟨r0, fun _ w h1 h7 => ?_, fun _ => ⟨by rw [ro _ _ (by omega), e8]; exact Y8, by rw [r9, e10], by rw [ro _ _ (by omega), e9]; exact Y9, by rw [e11]; exact y11⟩, fun _ _ w hw => by rw [ro _ _ (by omega), Y2, ep w hw]; exact k3 hs0 hs5 w hw⟩
  by_cases w3 : w = 3
  · subst w3
    rw [r3, e3, Y2, Y3, k3 hs0 hs5 l hl]
    rcases pa with q | ⟨b, q, hb⟩
    · rw [q, if_pos (by decide), if_pos rfl]
    · rw [q, if_neg (nI_pos (by omega)), if_neg (fun w => by have := nI_pos (n := b) (by omega); rw [w] at this; exact this (by decide))]
  · by_cases w4 : w = 4
    · subst w4; rw [r4, e4]
    · rw [ro _ _ (by omega), Y1 w (by omega), ew w (by omega)]; exact k1 hs0 w h1 h7
end R31J
section R31K
variable {h : zi_Hp} {W : Nat} {x x0 x1 : Nat → Nat → Int32} {y y1 : Nat → Nat → Bool} {s s1 : Nat → Int32} {N R M B c n : Nat} {L m H r : Nat → Nat} {K C : Nat → Nat → Nat} {f : Nat → Nat}
section
variable {j b i : Nat} {key ch : Int32}
end
theorem gsim_4Y (S : Sh h) (V : Wa W) (T : CG x y s N m) (I : InvG s N R M B L m H r K C f) (hc : c < 3) (h4 : s (315 + 24 * c) = 4) (hdd : ¬ s (315 + 24 * c + 11) = 1) (hmv : msF s c = true) {cd : Int32} (D : StY s c cd s1) {N' R' M' B' : Nat} {L' m' H' r' : Nat → Nat} {K' C' : Nat → Nat → Nat} {f' : Nat → Nat} (J : InvG s1 N' R' M' B' L' m' H' r' K' C' f') {v2 v3 v4 : Value} : ∃ x' y', zv 5 80 0 [.ref W, .int (nI c), v2, v3, v4] [] (zC h W x y) = some (some (.int cd), zC h W x' y') ∧ CG x' y' (stF s s1 c cd) N' m' := by
  obtain ⟨⟨a1, a2, a3⟩, ⟨b1, b2⟩, ⟨d1, d2, d3⟩, G, o, z⟩ := id I.1
  have hx0 : ¬ cd = 0 := ms_x I hc hmv (Or.inr (Or.inr (Or.inr (Or.inr (Or.inr (Or.inl ⟨h4, hdd, D⟩))))))
  have hon : onB s c = true := by unfold onB; rw [h4]; decide
  obtain ⟨k0, k1, k2, k3, k4⟩ := id (T.2.1 c hc)
  obtain ⟨-, -, a, ea, ha, pa, md, p, t, w8, w9, w10, hmd, hp, ht1, ht2, w11, w4⟩ := at_3 I hc (k0 := 4) (Or.inr rfl) h4
  obtain ⟨hLt, hmH⟩ := w4 rfl
  have hs0 : ¬ s (315 + 24 * c) = 0 := by rw [h4]; decide
  have hs5 : ¬ s (315 + 24 * c) = 5 := by rw [h4]; decide
  have w3 := k1 hs0 3 (by decide) (by decide)
  obtain ⟨y8, y9, y10, y11⟩ := k2 (Or.inr h4)
  have eN : x 1 0 = nI N := by rw [T.1.1.1]; exact a1
  have eM : x 1 2 = nI M := by rw [T.1.1.2.2]; exact d1
  have xa : x (10 + 2 * c) 3 = nI a := by rw [w3]; exact ea
  have go : zv 5 80 0 [.ref W, .int (nI c), v2, v3, v4] [] (zC h W x y) = zv 5 80 121 [.ref W, .int (nI c), .ref (W + (10 + 2 * c)), .int 0, v4] [] (zC h W x y) := by
    rw [adv_go S V hc eN a3 (n := a) (fun _ => ⟨xa, ha⟩) (by rw [T.mv I hc (fun _ => ⟨ea, ha⟩)]; exact hmv), b80_30_d (by first | (simp only [zC_n, zC_k, zC_r, S.n, wk_0 S V, wk_1 S V, wr_0_0 S V, wr_0_1 S V, wk_9 S V, cl_k S V hc, cl_r S V hc, cl_p S V hc, cl_q S V hc, zq_rf]; done) | (simp only [zC_n, zC_r, S.n, wr_0_0 S V, wr_0_1 S V, cl_r S V hc, cl_p S V hc, zq_rf]; have := V.lt; omega)) (by first | (simp only [zC_n, zC_k, zC_r, S.n, wk_0 S V, wk_1 S V, wr_0_0 S V, wr_0_1 S V, wk_9 S V, cl_k S V hc, cl_r S V hc, cl_p S V hc, cl_q S V hc, zq_rf]; done) | (simp only [zC_n, zC_r, S.n, wr_0_0 S V, wr_0_1 S V, cl_r S V hc, cl_p S V hc, zq_rf]; have := V.lt; omega)) (by rw [zC_i (by omega), k0, h4]; exact Or.inr (by decide)), k0, h4, decide_eq_false (by decide), zi_bI_f, b80_106 (by first | (simp only [zC_n, zC_k, zC_r, S.n, wk_0 S V, wk_1 S V, wr_0_0 S V, wr_0_1 S V, wk_9 S V, cl_k S V hc, cl_r S V hc, cl_p S V hc, cl_q S V hc, zq_rf]; done) | (simp only [zC_n, zC_r, S.n, wr_0_0 S V, wr_0_1 S V, cl_r S V hc, cl_p S V hc, zq_rf]; have := V.lt; omega)) (by first | (simp only [zC_n, zC_k, zC_r, S.n, wk_0 S V, wk_1 S V, wr_0_0 S V, wr_0_1 S V, wk_9 S V, cl_k S V hc, cl_r S V hc, cl_p S V hc, cl_q S V hc, zq_rf]; done) | (simp only [zC_n, zC_r, S.n, wr_0_0 S V, wr_0_1 S V, cl_r S V hc, cl_p S V hc, zq_rf]; have := V.lt; omega)), zC_b (by omega), y11, decide_eq_false hdd, zi_bI_f, if_pos rfl]
  have fin : ∀ {x1 : Nat → Nat → Int32} {y1 : Nat → Nat → Bool}, zv 4 92 0 [.ref W, .ref (W + (10 + 2 * c)), .double 0, .double 0] [] (zC h W x y) = some (some (.int cd), zC h W x1 y1) → CG (tdK x1 c cd) y1 (stF s s1 c cd) N' m' → ∃ x' y', zv 5 80 0 [.ref W, .int (nI c), v2, v3, v4] [] (zC h W x y) = some (some (.int cd), zC h W x' y') ∧ CG x' y' (stF s s1 c cd) N' m' := fun {x1 y1} e1 e2 => by
    refine ⟨tdK x1 c cd, y1, ?_, e2⟩
    rw [go, b80_121 (by first | (simp only [zC_n, zC_k, zC_r, S.n, wk_0 S V, wk_1 S V, wr_0_0 S V, wr_0_1 S V, wk_9 S V, cl_k S V hc, cl_r S V hc, cl_p S V hc, cl_q S V hc, zq_rf]; done) | (simp only [zC_n, zC_r, S.n, wr_0_0 S V, wr_0_1 S V, cl_r S V hc, cl_p S V hc, zq_rf]; have := V.lt; omega)) (by first | (simp only [zC_n, zC_k, zC_r, S.n, wk_0 S V, wk_1 S V, wr_0_0 S V, wr_0_1 S V, wk_9 S V, cl_k S V hc, cl_r S V hc, cl_p S V hc, cl_q S V hc, zq_rf]; done) | (simp only [zC_n, zC_r, S.n, wr_0_0 S V, wr_0_1 S V, cl_r S V hc, cl_p S V hc, zq_rf]; have := V.lt; omega)), e1]
    simp only [Option.bind_some, Option.toList_some, Option.toList_none, List.cons_append, List.nil_append]
    rw [b80_126, adv_t S V hc hx0]
  obtain ⟨n, mm, j, MM, hn24, hmM, hM2, hM4, hj, en, emm, eMM, hlt, hge, D⟩ := D
  have hna : n = a := by rw [ea] at en; exact ((nI_eq' (by omega) (by omega)).mp en).symm
  subst hna
  obtain ⟨⟨g1, g2, g3⟩, g4, g5, g6, g7, g8, g9, g10, g11, g12⟩ := G n ha
  obtain ⟨⟨t2, t3, t4, t5, t6⟩, tk⟩ := T.1.2 n ha
  have hmm' : mm = m n := by rw [g2] at emm; exact ((nI_eq' (by omega) (by omega)).mp emm).symm
  subst hmm'
  have hMM' : MM = M := by rw [d1] at eMM; exact ((nI_eq' (by omega) (by omega)).mp eMM).symm
  subst hMM'
  have ln := I.lv ha
  have em : x 3 n = nI (m n) := by rw [t3]; exact g2
  have hs13 : 0 < s (13 * n) := by rw [g1]; exact nI_lt (a := 0) (by omega) (by omega)
  have cls := a_s S V hc (y := y) eN a3 xa ha em (by omega) hj (fun i hi => by rw [(tk i (by omega)).1, y8]; exact hlt i hi) (by rw [(tk j hj).1, y8]; exact hge) (by rw [t2]; exact hs13) (v2 := .double 0) (v3 := .double 0)
  obtain ⟨x0, ex0⟩ : ∃ x0, x0 = u2 (tiF x n j (m n) (x (10 + 2 * c) 8) (x 8 (5 * n + j))) 8 (5 * n + (j + 1)) (x (10 + 2 * c) 10) := ⟨_, rfl⟩
  rw [← ex0, (tk j hj).1, y8] at cls
  have x0o : ∀ o k, (o ≠ 3 ∨ k ≠ n) → ((o ≠ 7 ∧ o ≠ 8) ∨ k < 5 * n ∨ 5 * n + 5 ≤ k) → x0 o k = x o k := fun o k h1 h2 => by
    rw [ex0, u2_n _ _ (by omega), ti_g (by omega) (by omega) h1 h2]
  have x03 : x0 3 n = nI (m n + 1) := by rw [ex0, u2_n _ _ (by omega), ti_3]
  have x0k : ∀ i, i < m n + 1 → x0 7 (5 * n + i) = blF s n j (s (315 + 24 * c + 8)) i ∧ (0 < s (13 * n) → x0 8 (5 * n + i) = icF s n j (s (315 + 24 * c + 9)) i) := fun i hi => by
    constructor
    · rw [ex0, u2_n _ _ (by omega), ti_7 (by omega)]
      unfold blF
      by_cases q : i < j
      · rw [if_pos q, if_pos q]; exact (tk i (by omega)).1
      · rw [if_neg q, if_neg q]
        by_cases q2 : i = j
        · rw [if_pos q2, if_pos q2]; exact y8
        · rw [if_neg q2, if_neg q2]; exact (tk (i - 1) (by omega)).1
    · intro _
      rw [ex0]
      unfold icF
      by_cases q3 : i = j + 1
      · subst q3
        rw [u2_s, if_neg (by omega), if_pos rfl]; exact y10
      · rw [u2_n _ _ (by omega), ti_8 (by omega)]
        by_cases q : i < j
        · rw [if_pos q, if_pos (by omega)]; exact (tk i (by omega)).2 hs13
        · rw [if_neg q]
          by_cases q2 : i = j
          · subst q2
            rw [if_pos rfl, if_pos (Nat.le_refl _)]; exact (tk i hj).2 hs13
          · rw [if_neg q2, if_neg (by omega), if_neg q3]; exact (tk (i - 1) (by omega)).2 hs13
  have x0c : ∀ o k, 9 ≤ o → x0 o k = x o k := fun o k ho => x0o o k (by omega) (by omega)
  have kr : ∀ {x1 : Nat → Nat → Int32} {s1 : Nat → Int32}, (∀ w, x1 (10 + 2 * c) w = if w = 0 then 5 else x (10 + 2 * c) w) → s1 (315 + 24 * c) = 5 → (∀ w, 1 ≤ w → w < 24 → s1 (315 + 24 * c + w) = s (315 + 24 * c + w)) → KZ x1 y s1 c := fun {x1 s1} e1 e2 e3 => by
    unfold KZ
    rw [e2]
    refine ⟨by rw [e1]; rfl, fun _ w h1 h7 => by rw [e1, if_neg (by omega), e3 w h1 (by omega)]; exact k1 hs0 w h1 h7, fun q => ?_, fun _ q => absurd rfl q⟩
    rcases q with q | q <;> exact absurd q (by decide)
  have same : cd = 3 → s1 = up s (315 + 24 * c) 5 → CG (tdK (u2 x (10 + 2 * c) 0 5) c cd) y (stF s s1 c cd) N' m' := fun hcd e1 => by
    subst hcd
    have hN' : N' = N := nI_Neq J (by omega) (by rw [e1, up_n _ _ (by omega)]; exact a1)
    subst hN'
    have so : ∀ k, k ≠ 315 + 24 * c → s1 k = s k := fun k hk => by rw [e1, up_n _ _ hk]
    refine gsim_n T J (fun key => thA_cl I (fun k hk => so k (by omega)) key) ?_ hc (by decide) hon (fun k _ hk => so k (by omega)) (so _ (by omega)) (so _ (by omega)) (fun o j _ h9 _ => u2_n _ _ (Or.inl h9)) (fun _ _ _ _ => rfl) (kr (fun w => ?_) (by rw [e1, up_s]) (fun w _ _ => so _ (by omega))) (by rw [e1, up_s]; decide)
    · have hm' : ∀ b, b < N' → m' b = m b := fun b hb => mI_eq J hb (by have := (G b hb).2.2.2.2.2.2.2.1; omega) (by rw [so _ (by omega)]; exact (G b hb).1.2.1)
      have q := T.1.cl (x' := u2 x (10 + 2 * c) 0 5) (y' := y) (s' := s1) a3 (fun b hb => by have := (G b hb).2.2.2.2.2.2.2.1; omega) (fun o j ho => u2_n _ _ (Or.inl (by omega))) (fun _ => rfl) (fun k hk => so k (by omega))
      exact ⟨q.1, fun b hb => ⟨(q.2 b hb).1, fun i hi => (q.2 b hb).2 i (by rw [← hm' b hb]; exact hi)⟩⟩
    · by_cases e0 : w = 0
      · subst e0; rw [u2_s]; rfl
      · rw [u2_n _ _ (Or.inr e0), if_neg e0]
  rcases D with ⟨he, rfl, e1⟩ | ⟨he, ⟨hlM, rfl, e1⟩ | ⟨hmM2, h24, rfl, e1⟩ | ⟨hmM2, v, tt, ls, hv, hnv, ev, et, htt, hls, rfl, e1⟩⟩
  · exact fin (by rw [cls, if_pos he]) (same rfl e1)
  · have eo : ∀ k, k < 315 → s1 k = nH s n (blF s n j (s (315 + 24 * c + 8))) (icF s n j (s (315 + 24 * c + 9))) (m n + 1) k := fun k hk => by rw [e1, up_n _ _ (by omega)]
    have hN' : N' = N := nI_Neq J (by omega) (by rw [eo _ (by decide), nH_o (by omega) (by omega)]; exact a1)
    subst hN'
    have so : ∀ k, 315 ≤ k → k ≠ 315 + 24 * c → s1 k = s k := fun k h3 hk => by rw [e1, up_n _ _ hk, nH_o (by omega) (by omega)]
    refine fin (x1 := u2 x0 (10 + 2 * c) 0 5) (y1 := y) ?_ (gsim_n T J (thA_node I ha (by omega) (by omega) J eo) (T.1.node I ha (by omega) J eo (fun o k ho h1 h2 => ?_) ?_ (fun i hi => ?_)) hc (by decide) hon (fun k h3 hk => so k h3 (by omega)) (so _ (by omega) (by omega)) (so _ (by omega) (by omega)) (fun o k h10 h9 _ => by rw [u2_n _ _ (Or.inl h9), x0c _ _ (by omega)]) (fun _ _ _ _ => rfl) (kr (fun w => ?_) (by rw [e1, up_s]) (fun w _ _ => so _ (by omega) (by omega))) (by rw [e1, up_s]; decide))
    · rw [cls, if_neg he, if_pos (by rw [em, eM]; exact nI_lt (by omega) (by omega)), a_o S V hc]
    · rw [u2_n _ _ (Or.inl (by omega)), x0o o k h1 h2]
    · rw [u2_n _ _ (Or.inl (by omega)), x03]
    · rw [u2_n _ _ (Or.inl (by omega)), u2_n _ _ (Or.inl (by omega))]; exact x0k i hi
    · by_cases e0 : w = 0
      · subst e0; rw [u2_s]; rfl
      · rw [u2_n _ _ (Or.inr e0), if_neg e0, x0c _ _ (by omega)]
  · refine fin ?_ (same rfl e1)
    rw [cls, if_neg he, if_neg (by rw [em, eM, hmM2]; exact Int32.lt_irrefl), if_pos (by rw [a1] at h24; exact (nI_eq' (b := 24) (by omega) (by decide)).mp h24)]
  · have hvN : N = v := by rw [a1] at ev; exact (nI_eq' (by omega) (by omega)).mp ev
    subst hvN
    have e2 : s1 = poF (s2F s n N (fun i => blF s n j (s (315 + 24 * c + 8)) (ls + i)) (fun i => icF s n j (s (315 + 24 * c + 9)) (ls + i)) (blF s n j (s (315 + 24 * c + 8))) (icF s n j (s (315 + 24 * c + 9))) (m n + 1 - ls) ls (blF s n j (s (315 + 24 * c + 8)) (ls - 1))) c (tt + 1) (blF s n j (s (315 + 24 * c + 8)) (ls - 1)) (nI N) 0 := by rw [e1, sp_eq]
    have eo : ∀ k, k < 315 → s1 k = s2F s n N (fun i => blF s n j (s (315 + 24 * c + 8)) (ls + i)) (fun i => icF s n j (s (315 + 24 * c + 9)) (ls + i)) (blF s n j (s (315 + 24 * c + 8))) (icF s n j (s (315 + 24 * c + 9))) (m n + 1 - ls) ls (blF s n j (s (315 + 24 * c + 8)) (ls - 1)) k := fun k hk => by rw [e2, po_o (by omega)]
    have bg : ∀ k, 313 ≤ k → s2F s n N (fun i => blF s n j (s (315 + 24 * c + 8)) (ls + i)) (fun i => icF s n j (s (315 + 24 * c + 9)) (ls + i)) (blF s n j (s (315 + 24 * c + 8))) (icF s n j (s (315 + 24 * c + 9))) (m n + 1 - ls) ls (blF s n j (s (315 + 24 * c + 8)) (ls - 1)) k = s k := fun k hk => s2_g (by omega) (by omega) (by omega) (by omega) (by omega)
    have hN' : N' = N + 1 := nI_Neq J (by omega) (by
      rw [eo _ (by decide)]; unfold s2F
      rw [up_n _ _ (by omega), up_n _ _ (by omega), nH_o (by omega) (by omega), nH_o (by omega) (by omega), nn_N hv])
    subst hN'
    obtain ⟨x1, ex1⟩ : ∃ x1, x1 = ptK x0 c n N (m n + 1) ls tt (x0 (10 + 2 * c) 4) := ⟨_, rfl⟩
    obtain ⟨y1, ey1⟩ : ∃ y1, y1 = u2 (u2 y 6 N false) (10 + 2 * c) 11 false := ⟨_, rfl⟩
    have hls' : m n + 1 = 3 ∧ ls = 2 ∨ m n + 1 = 4 ∧ ls = 2 ∨ m n + 1 = 5 ∧ ls = 3 := hls
    obtain ⟨Z, mN, mn, ma, ⟨q0, q4, p0, p4⟩, -, -, oth⟩ := T.1.split (y1 := y1) I ha hv hls' J eo (fun o k _ h1 h2 => x0o o k h1 h2) x0k (x1 := x1) (fun o k ho => by rw [ex1, pt_o (by omega)]) (fun k => by rw [ey1, u2_n _ _ (by omega)])
    have no : ¬ s (13 * n) = 0 := fun q => by rw [q] at hs13; exact absurd hs13 (by decide)
    have hth : ∀ key, thA s1 key = thA s key := fun key => by
      rw [Bool.eq_iff_iff, thA_iff I, thA_iff J]
      constructor
      · rintro ⟨b, hb, h2, h3, i, h4, h5⟩
        have hbN : b ≠ N := fun q => by subst q; rw [q0] at h2; exact no h2
        have hbn : b ≠ n := fun q => by subst q; rw [p0] at h2; exact no h2
        have g10 := (G b (by omega)).2.2.2.2.2.2.2.1
        rw [ma b (by omega) hbn] at h4
        rw [oth b _ (by omega) hbn (by decide)] at h3
        rw [oth b _ (by omega) hbn (by omega)] at h5
        rw [show s1 (13 * b) = s (13 * b) from oth b 0 (by omega) hbn (by decide)] at h2
        exact ⟨b, by omega, h2, h3, i, h4, h5⟩
      · rintro ⟨b, hb, h2, h3, i, h4, h5⟩
        have hbn : b ≠ n := fun q => by subst q; exact no h2
        have g10 := (G b hb).2.2.2.2.2.2.2.1
        exact ⟨b, by omega, by rw [show s1 (13 * b) = s (13 * b) from oth b 0 hb hbn (by decide)]; exact h2, by rw [oth b _ hb hbn (by decide)]; exact h3, i, by rw [ma b hb hbn]; exact h4, by rw [oth b _ hb hbn (by omega)]; exact h5⟩
    have kc : KZ x1 y1 s1 c := by
      rw [ex1, pt_eq]
      refine (T.2.1 c hc).ri hs0 hs5 (l := tt + 1) (by omega) ?_ (mid := blF s n j (s (315 + 24 * c + 8)) (ls - 1)) (what := nI N) (dead := 0) (fun w hw => ?_) (fun w => ?_) ?_ ?_ ?_ ?_ ?_ (fun w hw => ?_) ?_ ?_ ?_ ?_ ?_ ?_ (fun w hw => ?_)
      · rcases pa (tt + 1) (by omega) with q | ⟨b, q, hb, -⟩
        · exact Or.inl q
        · exact Or.inr ⟨b, q, by omega⟩
      · rw [u2_n _ _ (by omega), u2_n _ _ (by omega), ts_o ha (by omega), x0c _ _ (by omega)]
      · rw [u2_n _ _ (by omega), u2_n _ _ (by omega), ts_o ha (by omega), x0c _ _ (by omega)]
      · rw [u2_n _ _ (by omega), u2_n _ _ (by omega), ts_o ha (by omega), x0o _ _ (by omega) (by omega)]; exact T.1.1.2.1
      · rw [u2_s, ts_4n ha (by omega)]; exact (x0k (ls - 1) (by omega)).1
      · rw [u2_n _ _ (by omega), u2_s]
      · rw [ey1, u2_s]; decide
      · rw [e2, po_0]
      · rw [e2, po_w (by omega), bg _ (by omega)]
      · rw [e2, po_3, bg _ (by omega), bg _ (by omega)]
      · rw [e2, po_w (by omega), bg _ (by omega), x0c _ _ (by omega)]; exact (k1 hs0 4 (by decide) (by decide)).symm
      · rw [e2, po_8]
      · rw [e2, po_9]
      · rw [e2, po_10]
      · rw [e2, po_11]
      · rw [e2, po_w (by omega), bg _ (by omega)]
    refine fin (x1 := x1) (y1 := y1) ?_ (gsim_n T J hth Z hc (by decide) hon (fun k h3 hk => by rw [e2, po_o (by omega), bg _ (by omega)]) (by rw [e2, po_w (by omega), bg _ (by omega)]) (by rw [e2, po_w (by omega), bg _ (by omega)]) (fun o k h10 h9 _ => by rw [ex1, pt_o h9, ts_o ha (by omega), x0c _ _ (by omega)]) (fun o k h10 h9 => by rw [ey1, u2_n _ _ (Or.inl h9), u2_n _ _ (by omega)]) kc (by rw [e2, po_0]; decide))
    rw [cls, if_neg he, if_neg (by rw [em, eM, hmM2]; exact Int32.lt_irrefl), if_neg (by omega), a_p S V hc (x := x0) (by rw [x0o _ _ (by omega) (by omega)]; exact eN) hv (by rw [x0c _ _ (by omega)]; exact xa) ha x03 hls' (by rw [x0o _ _ (by omega) (by omega), t2]; exact et) (by omega), ex1, ey1]
end R31K
section R31L
variable {h : zi_Hp} {W : Nat} {x x0 x1 : Nat → Nat → Int32} {y y1 : Nat → Nat → Bool} {s s1 t : Nat → Int32} {N R M B c n k : Nat} {L m H r : Nat → Nat} {K C : Nat → Nat → Nat} {f : Nat → Nat}
def NG (x : Nat → Nat → Int32) (y : Nat → Nat → Bool) (s : Nat → Int32) (N : Nat) (m : Nat → Nat) : Prop := CN x y s N m ∧ ∀ d, d < 3 → KG x y s d
theorem NG.w (P : NG x y s N m) (hN : N ≤ 24) (hm : ∀ n, n < N → m n ≤ 4) (hk : k < 3) {w : Nat} (w1 : 1 ≤ w) (w7 : w ≤ 7) (hz : w ≠ 7 ∨ ¬ s (315 + 24 * k) = 0) (v : Int32) : NG (u2 x (10 + 2 * k) w v) y (up s (315 + 24 * k + w) v) N m := by
  refine ⟨P.1.cl hN hm (fun o j ho => u2_n _ _ (by omega)) (fun _ => rfl) (fun j hj => up_n _ _ (by omega)), fun d hd => ?_⟩
  obtain ⟨k0, k1, k2, k3, k4⟩ := P.2 d hd
  unfold KG
  rw [up_n s v (show 315 + 24 * d ≠ 315 + 24 * k + w by omega), u2_n x v (show 10 + 2 * d ≠ 10 + 2 * k ∨ 0 ≠ w by omega), u2_n x v (show 10 + 2 * d ≠ 10 + 2 * k ∨ 8 ≠ w by omega), u2_n x v (show 10 + 2 * d ≠ 10 + 2 * k ∨ 9 ≠ w by omega), u2_n x v (show 10 + 2 * d ≠ 10 + 2 * k ∨ 10 ≠ w by omega), up_n s v (show 315 + 24 * d + 8 ≠ 315 + 24 * k + w by omega), up_n s v (show 315 + 24 * d + 9 ≠ 315 + 24 * k + w by omega), up_n s v (show 315 + 24 * d + 10 ≠ 315 + 24 * k + w by omega), up_n s v (show 315 + 24 * d + 11 ≠ 315 + 24 * k + w by omega)]
  refine ⟨k0, fun q u u1 u7 => ?_, k2, fun q1 q2 l hl => ?_, fun z => ?_⟩
  · by_cases e : d = k ∧ u = w
    · obtain ⟨rfl, rfl⟩ := e
      rw [u2_s, up_s]
    · rw [u2_n _ _ (by omega), up_n _ _ (by omega)]; exact k1 q u u1 u7
  · rw [u2_n _ _ (by omega), up_n _ _ (by omega)]; exact k3 q1 q2 l hl
  · have ne : ¬ (d = k ∧ w = 7) := fun q => hz.elim (fun g => g q.2) (fun g => g (by rw [← q.1]; exact z))
    rw [u2_n _ _ (by omega), up_n _ _ (by omega)]; exact k4 z
theorem NG.td (P : NG x y s N m) (hN : N ≤ 24) (hm : ∀ n, n < N → m n ≤ 4) (hc : c < 3) (hs : ¬ s (315 + 24 * c) = 0) {cd : Int32} : NG (tdK x c cd) y (tdF s c cd) N m := by
  have e6 := (P.2 c hc).2.1 hs 6 (by decide) (by decide)
  have e7 := (P.2 c hc).2.1 hs 7 (by decide) (by decide)
  have q := P.w hN hm hc (w := 6) (by decide) (by decide) (Or.inr hs) (x (10 + 2 * c) 6 + 1)
  unfold tdK tdF
  by_cases h1 : cd = 1
  · rw [if_pos h1, if_pos h1, ← e6, ← e7]
    exact q.w hN hm hc (w := 7) (by decide) (by decide) (Or.inr (by rw [up_n _ _ (by omega)]; exact hs)) _
  · rw [if_neg h1, if_neg h1, ← e6, Int32.add_zero, up_id (up s (315 + 24 * c + 6) (x (10 + 2 * c) 6 + 1)) (315 + 24 * c + 7) (by rw [uc_cc _ _ (by decide)])]
    exact q
theorem nt_g (S : Sh h) (V : Wa W) (P : NG x y t N m) (J : InvG s1 N R M B L m H r K C f) (et : ∀ j, j < 315 → t j = s1 j) (hk : k < 3) (hc : c < 3) {on : Bool} (hon : on = true ↔ ((¬ t (315 + 24 * k) = 0 ∧ ¬ t (315 + 24 * k) = 5) ∨ k = c)) (hc0 : ¬ t (315 + 24 * c) = 0) : ∃ x', zv 3 81 2 [.ref W, .int (nI c), .int (nI k)] [] (zC h W x y) = zv 3 81 2 [.ref W, .int (nI c), .int (nI (k + 1))] [] (zC h W x' y) ∧ NG x' y (seF on k t) N m := by
  obtain ⟨⟨a1, a2, a3⟩, -, ⟨d1, d2, d3⟩, G, -⟩ := id J.1
  have hm : ∀ n, n < N → m n ≤ 4 := fun n hn => by have := (G n hn).2.2.2.2.2.2.2.1; omega
  have eN : x 1 0 = nI N := by rw [P.1.1.1, et _ (by decide)]; exact a1
  obtain ⟨b, e, hb⟩ := na_t S V hk (y := y) eN a3 (M := m) (fun n hn => ⟨by rw [(P.1.2 n hn).1.2.1, et _ (by omega)]; exact (G n hn).1.2.1, by have := hm n hn; omega⟩) hc
  obtain ⟨k0, k1, -, -⟩ := P.2 k hk
  have Q : CN x y s1 N m := P.1.cl a3 hm (fun _ _ _ => rfl) (fun _ => rfl) (fun j hj => (et j hj).symm)
  by_cases ho : (¬ t (315 + 24 * k) = 0 ∧ ¬ t (315 + 24 * k) = 5) ∨ k = c
  · have h0 : ¬ t (315 + 24 * k) = 0 := by
      rcases ho with q | q
      · exact q.1
      · rw [q]; exact hc0
    have hbt : b = thA t (t (315 + 24 * k + 2)) := by
      rw [k1 h0 2 (by decide) (by decide)] at hb
      rw [Q.th J hb, thA_cl J et]
    refine ⟨noK x k b, by rw [e, k0, if_pos ho], ?_⟩
    unfold seF noK
    rw [if_pos (hon.mpr ho), ← hbt, bit_b, ← k1 h0 5 (by decide) (by decide)]
    exact P.w a3 hm hk (w := 5) (by decide) (by decide) (Or.inl (by decide)) _
  · refine ⟨x, by rw [e, k0, if_neg ho], ?_⟩
    unfold seF
    rw [if_neg (fun q => ho (hon.mp q))]
    exact P
theorem gsim_h (S : Sh h) (V : Wa W) (hc : c < 3) {cd : Int32} (h0 : 0 < cd) (Z : NG x1 y1 s1 N m) (J : InvG s1 N R M B L m H r K C f) (hon : onB s c = true) (hs : ¬ s1 (315 + 24 * c) = 0) (est : ∀ d, d < 3 → d ≠ c → s1 (315 + 24 * d) = s (315 + 24 * d)) : ∃ x', zv 5 80 128 [.ref W, .int (nI c), .ref (W + (10 + 2 * c)), .int 1, .int cd] [] (zC h W x1 y1) = some (some (.int cd), zC h W x' y1) ∧ CG x' y1 (stF s s1 c cd) N m := by
  obtain ⟨⟨a1, a2, a3⟩, -, ⟨d1, d2, d3⟩, G, -⟩ := id J.1
  have hm : ∀ n, n < N → m n ≤ 4 := fun n hn => by have := (G n hn).2.2.2.2.2.2.2.1; omega
  have hcd : ¬ cd = 0 := fun q => by rw [q] at h0; exact absurd h0 (by decide)
  have P := Z.td a3 hm hc hs (cd := cd)
  obtain ⟨t0, et0⟩ : ∃ t0, t0 = tdF s1 c cd := ⟨_, rfl⟩
  have t0n : ∀ j, (j < 315 ∨ ∃ d, d < 3 ∧ (j = 315 + 24 * d ∨ j = 315 + 24 * d + 2 ∨ j = 315 + 24 * d + 5)) → t0 j = s1 j := fun j hj => by
    rw [et0]; unfold tdF
    have : j ≠ 315 + 24 * c + 7 ∧ j ≠ 315 + 24 * c + 6 := by
      rcases hj with q | ⟨d, hd, q⟩ <;> omega
    rw [up_n _ _ this.1, up_n _ _ this.2]
  rw [← et0] at P
  have ho : ∀ k, k < 3 → ∀ {t : Nat → Int32}, t (315 + 24 * k) = s1 (315 + 24 * k) → (onB s k = true ↔ ((¬ t (315 + 24 * k) = 0 ∧ ¬ t (315 + 24 * k) = 5) ∨ k = c)) := fun k hk {t} e => by
    by_cases q : k = c
    · subst q
      exact ⟨fun _ => Or.inr rfl, fun _ => hon⟩
    · rw [e, est k hk q]
      unfold onB
      rw [decide_eq_true_eq]
      exact ⟨fun w => Or.inl w, fun w => w.resolve_right q⟩
  obtain ⟨xa, ea, Pa⟩ := nt_g S V P J (fun j hj => t0n j (Or.inl hj)) (k := 0) (by decide) hc (ho 0 (by decide) (t0n _ (Or.inr ⟨0, by decide, Or.inl rfl⟩))) (by rw [t0n _ (Or.inr ⟨c, hc, Or.inl rfl⟩)]; exact hs)
  obtain ⟨ta, eta⟩ : ∃ ta, ta = seF (onB s 0) 0 t0 := ⟨_, rfl⟩
  rw [← eta] at Pa
  have tan : ∀ j, j ≠ 315 + 24 * 0 + 5 → ta j = t0 j := fun j hj => by rw [eta, se_n hj]
  obtain ⟨xb, eb, Pb⟩ := nt_g S V Pa J (fun j hj => by rw [tan _ (by omega), t0n j (Or.inl hj)]) (k := 1) (by decide) hc (ho 1 (by decide) (by rw [tan _ (by omega), t0n _ (Or.inr ⟨1, by decide, Or.inl rfl⟩)])) (by rw [tan _ (by omega), t0n _ (Or.inr ⟨c, hc, Or.inl rfl⟩)]; exact hs)
  obtain ⟨tb, etb⟩ : ∃ tb, tb = seF (onB s 1) 1 ta := ⟨_, rfl⟩
  rw [← etb] at Pb
  have tbn : ∀ j, j ≠ 315 + 24 * 1 + 5 → tb j = ta j := fun j hj => by rw [etb, se_n hj]
  obtain ⟨xc, ec, Pc⟩ := nt_g S V Pb J (fun j hj => by rw [tbn _ (by omega), tan _ (by omega), t0n j (Or.inl hj)]) (k := 2) (by decide) hc (ho 2 (by decide) (by rw [tbn _ (by omega), tan _ (by omega), t0n _ (Or.inr ⟨2, by decide, Or.inl rfl⟩)])) (by rw [tbn _ (by omega), tan _ (by omega), t0n _ (Or.inr ⟨c, hc, Or.inl rfl⟩)]; exact hs)
  obtain ⟨tc, etc⟩ : ∃ tc, tc = seF (onB s 2) 2 tb := ⟨_, rfl⟩
  rw [← etc] at Pc
  have tcn : ∀ j, j ≠ 315 + 24 * 2 + 5 → tc j = tb j := fun j hj => by rw [etc, se_n hj]
  have estF : stF s s1 c cd = tc := by unfold stF; rw [if_pos h0, etc, etb, eta, et0]
  refine ⟨xc, ?_, ?_⟩
  · rw [k_end S V hc hcd, b80_159, if_neg (by decide), b80_163 (by first | (simp only [zC_n, zC_k, zC_r, S.n, wk_0 S V, wk_1 S V, wr_0_0 S V, wr_0_1 S V, wk_9 S V, cl_k S V hc, cl_r S V hc, cl_p S V hc, cl_q S V hc, zq_rf]; done) | (simp only [zC_n, zC_r, S.n, wr_0_0 S V, wr_0_1 S V, cl_r S V hc, cl_p S V hc, zq_rf]; have := V.lt; omega)) (by first | (simp only [zC_n, zC_k, zC_r, S.n, wk_0 S V, wk_1 S V, wr_0_0 S V, wr_0_1 S V, wk_9 S V, cl_k S V hc, cl_r S V hc, cl_p S V hc, cl_q S V hc, zq_rf]; done) | (simp only [zC_n, zC_r, S.n, wr_0_0 S V, wr_0_1 S V, cl_r S V hc, cl_p S V hc, zq_rf]; have := V.lt; omega))]
    rw [b81_0, show (Value.int 0) = Value.int (nI 0) from rfl, ← show zC h W (tdK x1 c cd) y1 = _ from rfl, ea, eb, ec, b81_2, if_neg (by decide), b81_40]
    simp only [Option.bind_some, Option.toList_some, Option.toList_none, List.cons_append, List.nil_append]
    rw [b80_168]
  · rw [estF]
    refine ⟨Pc.1, Pc.2, fun d hd hod => ?_⟩
    have ethn : ∀ {u : Nat → Int32}, (∀ j, j < 315 → u j = s1 j) → ∀ key, thA u key = thA s1 key := fun eu key => thA_cl J eu key
    have n0 : ∀ j, j < 315 → t0 j = s1 j := fun j hj => t0n j (Or.inl hj)
    have na : ∀ j, j < 315 → ta j = s1 j := fun j hj => by rw [tan _ (by omega), n0 j hj]
    have nb : ∀ j, j < 315 → tb j = s1 j := fun j hj => by rw [tbn _ (by omega), na j hj]
    have nc : ∀ j, j < 315 → tc j = s1 j := fun j hj => by rw [tcn _ (by omega), nb j hj]
    have hsd : onB s d = true := by
      rw [ho d hd (t := tc) (by rw [tcn _ (by omega), tbn _ (by omega), tan _ (by omega), t0n _ (Or.inr ⟨d, hd, Or.inl rfl⟩)])]
      unfold onB at hod
      exact Or.inl (of_decide_eq_true hod)
    rw [ethn nc]
    have hd3 : d = 0 ∨ d = 1 ∨ d = 2 := by omega
    rcases hd3 with rfl | rfl | rfl
    · rw [tcn (315 + 24 * 0 + 5) (by decide), tbn (315 + 24 * 0 + 5) (by decide), tcn (315 + 24 * 0 + 2) (by decide), tbn (315 + 24 * 0 + 2) (by decide), tan (315 + 24 * 0 + 2) (by decide), eta, se_5 hsd, ethn n0, Int32.or_assoc, Int32.or_self]
    · rw [tcn (315 + 24 * 1 + 5) (by decide), tcn (315 + 24 * 1 + 2) (by decide), tbn (315 + 24 * 1 + 2) (by decide), etb, se_5 hsd, ethn na, Int32.or_assoc, Int32.or_self]
    · rw [tcn (315 + 24 * 2 + 2) (by decide), etc, se_5 hsd, ethn nb, Int32.or_assoc, Int32.or_self]
end R31L
section R31M
variable {h : zi_Hp} {W : Nat} {x x0 x1 X : Nat → Nat → Int32} {y y1 : Nat → Nat → Bool} {s s1 t : Nat → Int32} {N R M B c n k : Nat} {L m H r : Nat → Nat} {K C : Nat → Nat → Nat} {f : Nat → Nat}
theorem NG.of (T : CG x y s N m) (hc : c < 3) (hs1 : ¬ s1 (315 + 24 * c) = 0) {N' : Nat} {m' : Nat → Nat} (Z : CN x1 y1 s1 N' m') (e : ∀ k, 315 ≤ k → (k < 315 + 24 * c ∨ 315 + 24 * c + 24 ≤ k) → s1 k = s k) (ex : ∀ o j, 10 ≤ o → o ≠ 10 + 2 * c → o ≠ 11 + 2 * c → x1 o j = x o j) (ey : ∀ o j, 10 ≤ o → o ≠ 10 + 2 * c → y1 o j = y o j) (k : KZ x1 y1 s1 c) : NG x1 y1 s1 N' m' := by
  refine ⟨Z, fun d hd => ?_⟩
  by_cases q : d = c
  · rw [q]; exact ⟨k.1, k.2.1, k.2.2.1, k.2.2.2, fun z => absurd z hs1⟩
  · obtain ⟨k0, k1, k2, k3, k4⟩ := T.2.1 d hd
    have ez : ∀ w, w < 24 → s1 (315 + 24 * d + w) = s (315 + 24 * d + w) := fun w hw => e _ (by omega) (by omega)
    have ez0 : s1 (315 + 24 * d) = s (315 + 24 * d) := ez 0 (by decide)
    have exd : ∀ j, x1 (10 + 2 * d) j = x (10 + 2 * d) j := fun j => ex _ _ (by omega) (by omega) (by omega)
    have exp : ∀ j, x1 (11 + 2 * d) j = x (11 + 2 * d) j := fun j => ex _ _ (by omega) (by omega) (by omega)
    unfold KG
    rw [ez0, exd 0, exd 8, exd 9, exd 10, ez 8 (by decide), ez 9 (by decide), ez 10 (by decide), ez 11 (by decide), ey _ _ (by omega) (by omega)]
    exact ⟨k0, fun h1 w w1 w7 => by rw [exd, ez w (by omega)]; exact k1 h1 w w1 w7, k2, fun h1 h2 l hl => by rw [exp, ez (12 + l) (by omega)]; exact k3 h1 h2 l hl, fun z => by
        rw [exd, show s1 (2000 + d) = s (2000 + d) from e _ (by omega) (by omega)]
        exact k4 z⟩
theorem KG.dn (k : KG x y s c) (hs0 : ¬ s (315 + 24 * c) = 0) {ans : Int32} (e0 : s1 (315 + 24 * c) = 5) (e4 : s1 (315 + 24 * c + 4) = ans) (e : ∀ w, 1 ≤ w → w ≤ 7 → w ≠ 4 → s1 (315 + 24 * c + w) = s (315 + 24 * c + w)) (eX : ∀ w, X (10 + 2 * c) w = x (10 + 2 * c) w) : KZ (u2 (u2 X (10 + 2 * c) 4 ans) (10 + 2 * c) 0 5) y1 s1 c := by
  unfold KZ
  rw [e0]
  refine ⟨u2_s _ _ _ _, fun _ w h1 h7 => ?_, fun q => ?_, fun _ q => absurd rfl q⟩
  · rw [u2_n _ _ (by omega)]
    by_cases w4 : w = 4
    · subst w4; rw [u2_s, e4]
    · rw [u2_n _ _ (by omega), eX, e w h1 h7 w4]; exact k.2.1 hs0 w h1 h7
  · rcases q with q | q <;> exact absurd q (by decide)
theorem gsim_2P (S : Sh h) (V : Wa W) (T : CG x y s N m) (I : InvG s N R M B L m H r K C f) (hc : c < 3) (h2 : s (315 + 24 * c) = 2) (ha1 : s (315 + 24 * c + 1) = 1) (hmv : msF s c = true) {cd : Int32} (D : StP s c cd s1) {N' R' M' B' : Nat} {L' m' H' r' : Nat → Nat} {K' C' : Nat → Nat → Nat} {f' : Nat → Nat} (J : InvG s1 N' R' M' B' L' m' H' r' K' C' f') {v2 v3 v4 : Value} : ∃ x' y', zv 5 80 0 [.ref W, .int (nI c), v2, v3, v4] [] (zC h W x y) = some (some (.int cd), zC h W x' y') ∧ CG x' y' (stF s s1 c cd) N' m' := by
  obtain ⟨⟨a1, a2, a3⟩, ⟨b1, b2⟩, ⟨d1, d2, d3⟩, G, o, z⟩ := id I.1
  have hon : onB s c = true := by unfold onB; rw [h2]; decide
  have KC := T.2.1 c hc
  obtain ⟨k0, k1, k2, k3, k4⟩ := id KC
  obtain ⟨-, ke, a, eke, hke, ea, ha, pa, hLa⟩ := at_2 I hc h2
  have hs0 : ¬ s (315 + 24 * c) = 0 := by rw [h2]; decide
  have hs5 : ¬ s (315 + 24 * c) = 5 := by rw [h2]; decide
  have w1 := k1 hs0 1 (by decide) (by decide)
  have w2 := k1 hs0 2 (by decide) (by decide)
  have w3 := k1 hs0 3 (by decide) (by decide)
  have eN : x 1 0 = nI N := by rw [T.1.1.1]; exact a1
  have eM : x 1 2 = nI M := by rw [T.1.1.2.2]; exact d1
  have xa : x (10 + 2 * c) 3 = nI a := by rw [w3]; exact ea
  have go : zv 5 80 0 [.ref W, .int (nI c), v2, v3, v4] [] (zC h W x y) = zv 5 80 78 [.ref W, .int (nI c), .ref (W + (10 + 2 * c)), .int 1, v4] [] (zC h W x y) := by
    rw [adv_go S V hc eN a3 (n := a) (fun _ => ⟨xa, ha⟩) (by rw [T.mv I hc (fun _ => ⟨ea, ha⟩)]; exact hmv), b80_30_c2 (by first | (simp only [zC_n, zC_k, zC_r, S.n, wk_0 S V, wk_1 S V, wr_0_0 S V, wr_0_1 S V, wk_9 S V, cl_k S V hc, cl_r S V hc, cl_p S V hc, cl_q S V hc, zq_rf]; done) | (simp only [zC_n, zC_r, S.n, wr_0_0 S V, wr_0_1 S V, cl_r S V hc, cl_p S V hc, zq_rf]; have := V.lt; omega)) (by first | (simp only [zC_n, zC_k, zC_r, S.n, wk_0 S V, wk_1 S V, wr_0_0 S V, wr_0_1 S V, wk_9 S V, cl_k S V hc, cl_r S V hc, cl_p S V hc, cl_q S V hc, zq_rf]; done) | (simp only [zC_n, zC_r, S.n, wr_0_0 S V, wr_0_1 S V, cl_r S V hc, cl_p S V hc, zq_rf]; have := V.lt; omega)) (by rw [zC_i (by omega), k0]; exact h2), k0, h2, decide_eq_true rfl, zi_bI_t, b80_70 (by first | (simp only [zC_n, zC_k, zC_r, S.n, wk_0 S V, wk_1 S V, wr_0_0 S V, wr_0_1 S V, wk_9 S V, cl_k S V hc, cl_r S V hc, cl_p S V hc, cl_q S V hc, zq_rf]; done) | (simp only [zC_n, zC_r, S.n, wr_0_0 S V, wr_0_1 S V, cl_r S V hc, cl_p S V hc, zq_rf]; have := V.lt; omega)) (by first | (simp only [zC_n, zC_k, zC_r, S.n, wk_0 S V, wk_1 S V, wr_0_0 S V, wr_0_1 S V, wk_9 S V, cl_k S V hc, cl_r S V hc, cl_p S V hc, cl_q S V hc, zq_rf]; done) | (simp only [zC_n, zC_r, S.n, wr_0_0 S V, wr_0_1 S V, cl_r S V hc, cl_p S V hc, zq_rf]; have := V.lt; omega)), zC_i (by omega), w1, ha1, if_pos rfl]
  have fin : ∀ {x1 : Nat → Nat → Int32} {y1 : Nat → Nat → Bool}, 0 < cd → zv 4 86 0 [.ref W, .ref (W + (10 + 2 * c)), .double 0] [] (zC h W x y) = some (some (.int cd), zC h W x1 y1) → NG x1 y1 s1 N' m' → ¬ s1 (315 + 24 * c) = 0 → (∀ d, d < 3 → d ≠ c → s1 (315 + 24 * d) = s (315 + 24 * d)) → ∃ x' y', zv 5 80 0 [.ref W, .int (nI c), v2, v3, v4] [] (zC h W x y) = some (some (.int cd), zC h W x' y') ∧ CG x' y' (stF s s1 c cd) N' m' := fun {x1 y1} hp e1 Z hs est => by
    obtain ⟨x', e', R⟩ := gsim_h S V hc hp Z J hon hs est
    refine ⟨x', y1, ?_, R⟩
    rw [go, b80_78 (by first | (simp only [zC_n, zC_k, zC_r, S.n, wk_0 S V, wk_1 S V, wr_0_0 S V, wr_0_1 S V, wk_9 S V, cl_k S V hc, cl_r S V hc, cl_p S V hc, cl_q S V hc, zq_rf]; done) | (simp only [zC_n, zC_r, S.n, wr_0_0 S V, wr_0_1 S V, cl_r S V hc, cl_p S V hc, zq_rf]; have := V.lt; omega)) (by first | (simp only [zC_n, zC_k, zC_r, S.n, wk_0 S V, wk_1 S V, wr_0_0 S V, wr_0_1 S V, wk_9 S V, cl_k S V hc, cl_r S V hc, cl_p S V hc, cl_q S V hc, zq_rf]; done) | (simp only [zC_n, zC_r, S.n, wr_0_0 S V, wr_0_1 S V, cl_r S V hc, cl_p S V hc, zq_rf]; have := V.lt; omega)), e1]
    simp only [Option.bind_some, Option.toList_some, Option.toList_none, List.cons_append, List.nil_append]
    rw [b80_83, b80_91, e']
  obtain ⟨n, mm, MM, hn24, hmM, hM2, hM4, en, emm, eMM, e00, D⟩ := D
  have hna : n = a := by rw [ea] at en; exact ((nI_eq' (by omega) (by omega)).mp en).symm
  subst hna
  obtain ⟨⟨g1, g2, g3⟩, g4, g5, g6, g7, g8, g9, g10, g11, g12⟩ := G n ha
  obtain ⟨⟨t2, t3, t4, t5, t6⟩, tk⟩ := T.1.2 n ha
  have hmm' : mm = m n := by rw [g2] at emm; exact ((nI_eq' (by omega) (by omega)).mp emm).symm
  subst hmm'
  have hMM' : MM = M := by rw [d1] at eMM; exact ((nI_eq' (by omega) (by omega)).mp eMM).symm
  subst hMM'
  have em : x 3 n = nI (m n) := by rw [t3]; exact g2
  have n13 : ¬ 0 < s (13 * n) := by rw [e00]; decide
  -- the row's nodes stay
  have still : ∀ {ans : Int32}, s1 = up (up s (315 + 24 * c + 4) ans) (315 + 24 * c) 5 → NG (u2 (u2 x (10 + 2 * c) 4 ans) (10 + 2 * c) 0 5) y s1 N' m' := fun {ans} e1 => by
    have so : ∀ k, k ≠ 315 + 24 * c → k ≠ 315 + 24 * c + 4 → s1 k = s k := fun k hk h4 => by rw [e1, up_n _ _ hk, up_n _ _ h4]
    have hN' : N' = N := nI_Neq J (by omega) (by rw [so _ (by omega) (by omega)]; exact a1)
    subst hN'
    refine NG.of T (c := c) hc (by rw [e1, up_s]; decide) ?_ (fun k _ hk => so k (by omega) (by omega)) (fun o j _ h9 _ => by rw [u2_n _ _ (Or.inl h9), u2_n _ _ (Or.inl h9)]) (fun _ _ _ _ => rfl) (KC.dn hs0 (by rw [e1, up_s]) (by rw [e1, up_n _ _ (by omega), up_s]) (fun w _ _ _ => so _ (by omega) (by omega)) (fun _ => rfl))
    have hm' : ∀ b, b < N' → m' b = m b := fun b hb => mI_eq J hb (by have := (G b hb).2.2.2.2.2.2.2.1; omega) (by rw [so _ (by omega) (by omega)]; exact (G b hb).1.2.1)
    have q := T.1.cl (x' := u2 (u2 x (10 + 2 * c) 4 ans) (10 + 2 * c) 0 5) (y' := y) (s' := s1) a3 (fun b hb => by have := (G b hb).2.2.2.2.2.2.2.1; omega) (fun o j ho => by rw [u2_n _ _ (Or.inl (by omega)), u2_n _ _ (Or.inl (by omega))]) (fun _ => rfl) (fun k hk => so k (by omega) (by omega))
    exact ⟨q.1, fun b hb => ⟨(q.2 b hb).1, fun i hi => (q.2 b hb).2 i (by rw [← hm' b hb]; exact hi)⟩⟩
  have stS : ∀ {ans : Int32}, s1 = up (up s (315 + 24 * c + 4) ans) (315 + 24 * c) 5 → ¬ s1 (315 + 24 * c) = 0 ∧ (∀ d, d < 3 → d ≠ c → s1 (315 + 24 * d) = s (315 + 24 * d)) := fun {ans} e1 => ⟨by rw [e1, up_s]; decide, fun d hd hdc => by rw [e1, up_n _ _ (by omega), up_n _ _ (by omega)]⟩
  rcases D with ⟨hk, rfl, e1⟩ | ⟨hk, p, hp, hlo, hhi, D⟩
  · obtain ⟨i, hi, ei⟩ := hkF_iff.mp hk
    refine fin (by decide) (f_h S V hc eN a3 xa ha em (by omega) hi (fun j hj => ?_) ?_) (still e1) (stS e1).1 (stS e1).2
    · rw [(tk j (by omega)).1, w2, ← ei, (g6 j (by omega)).1, (g6 i hi).1]
      exact nI_lt (K_lt I ha hj hi) (by have := (g6 i hi).2; omega)
    · rw [(tk i hi).1, w2]; exact ei
  · have hnk : ∀ i, i < m n → ¬ s (13 * n + (5 + i)) = s (315 + 24 * c + 2) := fun i hi q => by
      have : hkF s n (s (315 + 24 * c + 2)) (m n) = true := hkF_iff.mpr ⟨i, hi, q⟩
      rw [hk] at this; exact absurd this (by decide)
    have hlt : ∀ i, i < p → x 7 (5 * n + i) < x (10 + 2 * c) 2 := fun i hi => by
      have q1 := hlo i hi
      have q2 := hnk i (by omega)
      have q3 := g6 i (by omega)
      rw [(tk i (by omega)).1, w2, q3.1, eke]
      rw [q3.1, eke, nI_lt' (by omega) (by omega)] at q1
      rw [q3.1, eke] at q2
      have q4 : ¬ K n i = ke := fun w => q2 (by rw [w])
      exact nI_lt (by omega) (by omega)
    have hge : p < m n → ¬ x 7 (5 * n + p) < x (10 + 2 * c) 2 := fun hp' => by
      have q1 := hhi p (Nat.le_refl _) hp'
      have q3 := g6 p hp'
      rw [(tk p hp').1, w2, q3.1, eke, nI_lt' (by omega) (by omega)]
      rw [q3.1, eke, nI_lt' (by omega) (by omega)] at q1
      omega
    have hne : ¬ (if p < m n then x 7 (5 * n + p) else -4) = x (10 + 2 * c) 2 := by
      by_cases q : p < m n
      · rw [if_pos q, (tk p q).1, w2]; exact hnk p q
      · rw [if_neg q, w2, eke]
        exact fun w => by have := nI_pos (n := ke) (by omega); rw [← w] at this; exact this (by decide)
    obtain ⟨x0, ex0⟩ : ∃ x0, x0 = tiF x n p (m n) (x (10 + 2 * c) 2) (-4) := ⟨_, rfl⟩
    have cls := f_n S V hc (y := y) eN a3 xa ha em (by omega) hp hlt hge hne (v2 := .double 0)
    have ins := fun (v : Int32) => f_i S V hc (y := y) eN a3 xa ha em (by omega) hp hlt hge (v := v)
    rw [← ex0] at ins
    have x0o : ∀ o k, (o ≠ 3 ∨ k ≠ n) → ((o ≠ 7 ∧ o ≠ 8) ∨ k < 5 * n ∨ 5 * n + 5 ≤ k) → x0 o k = x o k := fun o k h1 h2 => by rw [ex0, ti_g hp (by omega) h1 h2]
    have x03 : x0 3 n = nI (m n + 1) := by rw [ex0, ti_3]
    have x0k : ∀ i, i < m n + 1 → x0 7 (5 * n + i) = blF s n p (s (315 + 24 * c + 2)) i ∧ (0 < s (13 * n) → x0 8 (5 * n + i) = (fun _ => -4 : Nat → Int32) i) := fun i hi => by
      refine ⟨?_, fun q => absurd q n13⟩
      rw [ex0, ti_7 (by omega)]
      unfold blF
      by_cases q : i < p
      · rw [if_pos q, if_pos q]; exact (tk i (by omega)).1
      · rw [if_neg q, if_neg q]
        by_cases q2 : i = p
        · rw [if_pos q2, if_pos q2]; exact w2
        · rw [if_neg q2, if_neg q2]; exact (tk (i - 1) (by omega)).1
    have x0c : ∀ o k, 9 ≤ o → x0 o k = x o k := fun o k ho => x0o o k (by omega) (by omega)
    rcases D with ⟨hlM, rfl, e1⟩ | ⟨hmM2, h24, rfl, e1⟩ | ⟨hmM2, v, ls, hv, hnv, ev, hls, rfl, e1⟩
    · have eo : ∀ k, k < 315 → s1 k = nH s n (blF s n p (s (315 + 24 * c + 2))) (fun _ => -4) (m n + 1) k := fun k hk => by rw [e1, up_n _ _ (by omega), up_n _ _ (by omega)]
      have hN' : N' = N := nI_Neq J (by omega) (by rw [eo _ (by decide), nH_o (by omega) (by omega)]; exact a1)
      subst hN'
      have so : ∀ k, 315 ≤ k → k ≠ 315 + 24 * c → k ≠ 315 + 24 * c + 4 → s1 k = s k := fun k h3 hk h4 => by rw [e1, up_n _ _ hk, up_n _ _ h4, nH_o (by omega) (by omega)]
      refine fin (x1 := u2 (u2 x0 (10 + 2 * c) 4 1) (10 + 2 * c) 0 5) (y1 := y) (by decide) ?_ (NG.of T (c := c) hc (by rw [e1, up_s]; decide) (T.1.node I ha (by omega) J eo (fun o k ho h1 h2 => ?_) ?_ (fun i hi => ?_)) (fun k h3 hk => so k h3 (by omega) (by omega)) (fun o j h10 h9 _ => by rw [u2_n _ _ (Or.inl h9), u2_n _ _ (Or.inl h9), x0c _ _ (by omega)]) (fun _ _ _ _ => rfl) (KC.dn hs0 (by rw [e1, up_s]) (by rw [e1, up_n _ _ (by omega), up_s]) (fun w _ _ _ => so _ (by omega) (by omega) (by omega)) (fun w => x0c _ _ (by omega)))) (by rw [e1, up_s]; decide) (fun d hd hdc => so _ (by omega) (by omega) (by omega))
      · rw [cls, if_pos (by rw [em, eM]; exact nI_lt (by omega) (by omega)), ins, f_o S V hc]
      · rw [u2_n _ _ (Or.inl (by omega)), u2_n _ _ (Or.inl (by omega)), x0o o k h1 h2]
      · rw [u2_n _ _ (Or.inl (by omega)), u2_n _ _ (Or.inl (by omega)), x03]
      · rw [u2_n _ _ (Or.inl (by omega)), u2_n _ _ (Or.inl (by omega)), u2_n _ _ (Or.inl (by omega)), u2_n _ _ (Or.inl (by omega))]; exact x0k i hi
    · refine fin (by decide) ?_ (still e1) (stS e1).1 (stS e1).2
      rw [cls, if_neg (by rw [em, eM, hmM2]; exact Int32.lt_irrefl), if_pos (by rw [a1] at h24; exact (nI_eq' (b := 24) (by omega) (by decide)).mp h24)]
    · have hvN : N = v := by rw [a1] at ev; exact (nI_eq' (by omega) (by omega)).mp ev
      subst hvN
      obtain ⟨bk, ebk⟩ : ∃ bk, bk = blF s n p (s (315 + 24 * c + 2)) := ⟨_, rfl⟩
      rw [← ebk] at e1
      simp only [← ebk] at x0k
      have e2 : s1 = up (poF (s2F s n N (fun i => bk (ls + i)) (fun i => (fun _ => -4 : Nat → Int32) (ls + i)) bk (fun _ => -4) (m n + 1 - ls) ls (bk (ls - 1))) c (0 + 1) (bk (ls - 1)) (nI N) 0) (315 + 24 * c + 4) 1 := by rw [e1, sp_eq]
      have eo : ∀ k, k < 315 → s1 k = s2F s n N (fun i => bk (ls + i)) (fun i => (fun _ => -4 : Nat → Int32) (ls + i)) bk (fun _ => -4) (m n + 1 - ls) ls (bk (ls - 1)) k := fun k hk => by rw [e2, up_n _ _ (by omega), po_o (by omega)]
      have bg : ∀ k, 313 ≤ k → s2F s n N (fun i => bk (ls + i)) (fun i => (fun _ => -4 : Nat → Int32) (ls + i)) bk (fun _ => -4) (m n + 1 - ls) ls (bk (ls - 1)) k = s k := fun k hk => s2_g (by omega) (by omega) (by omega) (by omega) (by omega)
      have hN' : N' = N + 1 := nI_Neq J (by omega) (by
        rw [eo _ (by decide)]; unfold s2F
        rw [up_n _ _ (by omega), up_n _ _ (by omega), nH_o (by omega) (by omega), nH_o (by omega) (by omega), nn_N hv])
      subst hN'
      obtain ⟨x1, ex1⟩ : ∃ x1, x1 = ptK x0 c n N (m n + 1) ls 0 1 := ⟨_, rfl⟩
      obtain ⟨y1, ey1⟩ : ∃ y1, y1 = u2 (u2 y 6 N false) (10 + 2 * c) 11 false := ⟨_, rfl⟩
      have Z := (T.1.split (y1 := y1) I ha hv hls J eo (fun o k _ h1 h2 => x0o o k h1 h2) x0k (x1 := x1) (fun o k ho => by rw [ex1, pt_o (by omega)]) (fun k => by rw [ey1, u2_n _ _ (by omega)])).1
      have kc : KZ x1 y1 s1 c := by
        rw [ex1, pt_eq]
        refine KC.ri hs0 hs5 (l := 0 + 1) (by omega) ?_ (mid := bk (ls - 1)) (what := nI N) (dead := 0) (fun w hw => ?_) (fun w => ?_) ?_ ?_ ?_ ?_ ?_ (fun w hw => ?_) ?_ ?_ ?_ ?_ ?_ ?_ (fun w hw => ?_)
        · rcases pa (0 + 1) (by omega) with q | ⟨b, q, hb, -⟩
          · exact Or.inl q
          · exact Or.inr ⟨b, q, by omega⟩
        · rw [u2_n _ _ (by omega), u2_n _ _ (by omega), ts_o ha (by omega), x0c _ _ (by omega)]
        · rw [u2_n _ _ (by omega), u2_n _ _ (by omega), ts_o ha (by omega), x0c _ _ (by omega)]
        · rw [u2_n _ _ (by omega), u2_n _ _ (by omega), ts_o ha (by omega), x0o _ _ (by omega) (by omega)]; exact T.1.1.2.1
        · rw [u2_s, ts_4n ha (by omega)]; exact (x0k (ls - 1) (by omega)).1
        · rw [u2_n _ _ (by omega), u2_s]
        · rw [ey1, u2_s]; decide
        · rw [e2, up_n _ _ (by omega), po_0]
        · rw [e2, up_n _ _ (by omega), po_w (by omega), bg _ (by omega)]
        · rw [e2, up_n _ _ (by omega), po_3, bg _ (by omega), bg _ (by omega)]
        · rw [e2, up_s]
        · rw [e2, up_n _ _ (by omega), po_8]
        · rw [e2, up_n _ _ (by omega), po_9]
        · rw [e2, up_n _ _ (by omega), po_10]
        · rw [e2, up_n _ _ (by omega), po_11]
        · rw [e2, up_n _ _ (by omega), po_w (by omega), bg _ (by omega)]
      refine fin (x1 := x1) (y1 := y1) (by decide) ?_ (NG.of T (c := c) hc (by rw [e2, up_n _ _ (by omega), po_0]; decide) Z (fun k h3 hk => by rw [e2, up_n _ _ (by omega), po_o (by omega), bg _ (by omega)]) (fun o k h10 h9 _ => by rw [ex1, pt_o h9, ts_o ha (by omega), x0c _ _ (by omega)]) (fun o k h10 h9 => by rw [ey1, u2_n _ _ (Or.inl h9), u2_n _ _ (by omega)]) kc) (by rw [e2, up_n _ _ (by omega), po_0]; decide) (fun d hd hdc => by rw [e2, up_n _ _ (by omega), po_o (by omega), bg _ (by omega)])
      rw [cls, if_neg (by rw [em, eM, hmM2]; exact Int32.lt_irrefl), if_neg (by omega), ins, f_s S V hc (x := x0) (by rw [x0o _ _ (by omega) (by omega)]; exact eN) hv (by rw [x0c _ _ (by omega)]; exact xa) ha x03 hls (lv := 0) (by rw [x0o _ _ (by omega) (by omega), t2]; exact e00) (by omega), ex1, ey1]
end R31M
section R31N
variable {h : zi_Hp} {W : Nat} {x x0 x1 X : Nat → Nat → Int32} {y y1 : Nat → Nat → Bool} {s s1 t : Nat → Int32} {N R M B c n k : Nat} {L m H r : Nat → Nat} {K C : Nat → Nat → Nat} {f : Nat → Nat}
section
variable {j b i : Nat}
end
theorem gsim_2T (S : Sh h) (V : Wa W) (T : CG x y s N m) (I : InvG s N R M B L m H r K C f) (hc : c < 3) (h2 : s (315 + 24 * c) = 2) (ha1 : ¬ s (315 + 24 * c + 1) = 1) (hmv : msF s c = true) {cd : Int32} (D : StT s c cd s1) {N' R' M' B' : Nat} {L' m' H' r' : Nat → Nat} {K' C' : Nat → Nat → Nat} {f' : Nat → Nat} (J : InvG s1 N' R' M' B' L' m' H' r' K' C' f') {v2 v3 v4 : Value} : ∃ x' y', zv 5 80 0 [.ref W, .int (nI c), v2, v3, v4] [] (zC h W x y) = some (some (.int cd), zC h W x' y') ∧ CG x' y' (stF s s1 c cd) N' m' := by
  obtain ⟨⟨a1, a2, a3⟩, ⟨b1, b2⟩, ⟨d1, d2, d3⟩, G, o, z⟩ := id I.1
  have hon : onB s c = true := by unfold onB; rw [h2]; decide
  have KC := T.2.1 c hc
  obtain ⟨k0, k1, k2, k3, k4⟩ := id KC
  obtain ⟨-, ke, a, eke, hke, ea, ha, pa, hLa⟩ := at_2 I hc h2
  have hs0 : ¬ s (315 + 24 * c) = 0 := by rw [h2]; decide
  have hs5 : ¬ s (315 + 24 * c) = 5 := by rw [h2]; decide
  have w1 := k1 hs0 1 (by decide) (by decide)
  have w2 := k1 hs0 2 (by decide) (by decide)
  have w3 := k1 hs0 3 (by decide) (by decide)
  have eN : x 1 0 = nI N := by rw [T.1.1.1]; exact a1
  have xa : x (10 + 2 * c) 3 = nI a := by rw [w3]; exact ea
  have go : zv 5 80 0 [.ref W, .int (nI c), v2, v3, v4] [] (zC h W x y) = zv 5 80 86 [.ref W, .int (nI c), .ref (W + (10 + 2 * c)), .int 1, v4] [] (zC h W x y) := by
    rw [adv_go S V hc eN a3 (n := a) (fun _ => ⟨xa, ha⟩) (by rw [T.mv I hc (fun _ => ⟨ea, ha⟩)]; exact hmv), b80_30_c2 (by first | (simp only [zC_n, zC_k, zC_r, S.n, wk_0 S V, wk_1 S V, wr_0_0 S V, wr_0_1 S V, wk_9 S V, cl_k S V hc, cl_r S V hc, cl_p S V hc, cl_q S V hc, zq_rf]; done) | (simp only [zC_n, zC_r, S.n, wr_0_0 S V, wr_0_1 S V, cl_r S V hc, cl_p S V hc, zq_rf]; have := V.lt; omega)) (by first | (simp only [zC_n, zC_k, zC_r, S.n, wk_0 S V, wk_1 S V, wr_0_0 S V, wr_0_1 S V, wk_9 S V, cl_k S V hc, cl_r S V hc, cl_p S V hc, cl_q S V hc, zq_rf]; done) | (simp only [zC_n, zC_r, S.n, wr_0_0 S V, wr_0_1 S V, cl_r S V hc, cl_p S V hc, zq_rf]; have := V.lt; omega)) (by rw [zC_i (by omega), k0]; exact h2), k0, h2, decide_eq_true rfl, zi_bI_t, b80_70 (by first | (simp only [zC_n, zC_k, zC_r, S.n, wk_0 S V, wk_1 S V, wr_0_0 S V, wr_0_1 S V, wk_9 S V, cl_k S V hc, cl_r S V hc, cl_p S V hc, cl_q S V hc, zq_rf]; done) | (simp only [zC_n, zC_r, S.n, wr_0_0 S V, wr_0_1 S V, cl_r S V hc, cl_p S V hc, zq_rf]; have := V.lt; omega)) (by first | (simp only [zC_n, zC_k, zC_r, S.n, wk_0 S V, wk_1 S V, wr_0_0 S V, wr_0_1 S V, wk_9 S V, cl_k S V hc, cl_r S V hc, cl_p S V hc, cl_q S V hc, zq_rf]; done) | (simp only [zC_n, zC_r, S.n, wr_0_0 S V, wr_0_1 S V, cl_r S V hc, cl_p S V hc, zq_rf]; have := V.lt; omega)), zC_i (by omega), w1, if_neg ha1]
  have fin : ∀ {x1 : Nat → Nat → Int32} {y1 : Nat → Nat → Bool}, 0 < cd → zv 4 89 0 [.ref W, .ref (W + (10 + 2 * c))] [] (zC h W x y) = some (some (.int cd), zC h W x1 y1) → NG x1 y1 s1 N' m' → ¬ s1 (315 + 24 * c) = 0 → (∀ d, d < 3 → d ≠ c → s1 (315 + 24 * d) = s (315 + 24 * d)) → ∃ x' y', zv 5 80 0 [.ref W, .int (nI c), v2, v3, v4] [] (zC h W x y) = some (some (.int cd), zC h W x' y') ∧ CG x' y' (stF s s1 c cd) N' m' := fun {x1 y1} hp e1 Z hs est => by
    obtain ⟨x', e', R⟩ := gsim_h S V hc hp Z J hon hs est
    refine ⟨x', y1, ?_, R⟩
    rw [go, b80_86 (by first | (simp only [zC_n, zC_k, zC_r, S.n, wk_0 S V, wk_1 S V, wr_0_0 S V, wr_0_1 S V, wk_9 S V, cl_k S V hc, cl_r S V hc, cl_p S V hc, cl_q S V hc, zq_rf]; done) | (simp only [zC_n, zC_r, S.n, wr_0_0 S V, wr_0_1 S V, cl_r S V hc, cl_p S V hc, zq_rf]; have := V.lt; omega)) (by first | (simp only [zC_n, zC_k, zC_r, S.n, wk_0 S V, wk_1 S V, wr_0_0 S V, wr_0_1 S V, wk_9 S V, cl_k S V hc, cl_r S V hc, cl_p S V hc, cl_q S V hc, zq_rf]; done) | (simp only [zC_n, zC_r, S.n, wr_0_0 S V, wr_0_1 S V, cl_r S V hc, cl_p S V hc, zq_rf]; have := V.lt; omega)), e1]
    simp only [Option.bind_some, Option.toList_some, Option.toList_none, List.cons_append, List.nil_append]
    rw [b80_91, e']
  obtain ⟨n, mm, hn24, hm4, en, emm, e00, D⟩ := D
  have hna : n = a := by rw [ea] at en; exact ((nI_eq' (by omega) (by omega)).mp en).symm
  subst hna
  obtain ⟨⟨g1, g2, g3⟩, g4, g5, g6, g7, g8, g9, g10, g11, g12⟩ := G n ha
  obtain ⟨⟨t2, t3, t4, t5, t6⟩, tk⟩ := T.1.2 n ha
  have hmm' : mm = m n := by rw [g2] at emm; exact ((nI_eq' (by omega) (by omega)).mp emm).symm
  subst hmm'
  have em : x 3 n = nI (m n) := by rw [t3]; exact g2
  have n13 : ¬ 0 < s (13 * n) := by rw [e00]; decide
  rcases D with ⟨hk, rfl, e1⟩ | ⟨hk, p, hp, ep, hne, D⟩
  · have hnk : ∀ i, i < m n → ¬ s (13 * n + (5 + i)) = s (315 + 24 * c + 2) := fun i hi q => by
      have : hkF s n (s (315 + 24 * c + 2)) (m n) = true := hkF_iff.mpr ⟨i, hi, q⟩
      rw [hk] at this; exact absurd this (by decide)
    obtain ⟨j, hj, hlt, hge⟩ := pl_ex (P := fun i => x 7 (5 * n + i) < x (10 + 2 * c) 2) (m n)
    have hne : ¬ (if j < m n then x 7 (5 * n + j) else -4) = x (10 + 2 * c) 2 := by
      by_cases q : j < m n
      · rw [if_pos q, (tk j q).1, w2]; exact hnk j q
      · rw [if_neg q, w2, eke]
        exact fun w => by have := nI_pos (n := ke) (by omega); rw [← w] at this; exact this (by decide)
    have so : ∀ k, k ≠ 315 + 24 * c → k ≠ 315 + 24 * c + 4 → s1 k = s k := fun k hk h4 => by rw [e1, up_n _ _ hk, up_n _ _ h4]
    have hN' : N' = N := nI_Neq J (by omega) (by rw [so _ (by omega) (by omega)]; exact a1)
    subst hN'
    refine fin (by decide) (e_n S V hc eN a3 xa ha em (by omega) hj hlt hge hne) (NG.of T (c := c) hc (by rw [e1, up_s]; decide) ?_ (fun k _ hk => so k (by omega) (by omega)) (fun o j _ h9 _ => by rw [u2_n _ _ (Or.inl h9), u2_n _ _ (Or.inl h9)]) (fun _ _ _ _ => rfl) (KC.dn hs0 (by rw [e1, up_s]) (by rw [e1, up_n _ _ (by omega), up_s]) (fun w _ _ _ => so _ (by omega) (by omega)) (fun _ => rfl))) (by rw [e1, up_s]; decide) (fun d hd hdc => so _ (by omega) (by omega))
    have hm' : ∀ b, b < N' → m' b = m b := fun b hb => mI_eq J hb (by have := (G b hb).2.2.2.2.2.2.2.1; omega) (by rw [so _ (by omega) (by omega)]; exact (G b hb).1.2.1)
    have q := T.1.cl (x' := u2 (u2 x (10 + 2 * c) 4 0) (10 + 2 * c) 0 5) (y' := y) (s' := s1) a3 (fun b hb => by have := (G b hb).2.2.2.2.2.2.2.1; omega) (fun o j ho => by rw [u2_n _ _ (Or.inl (by omega)), u2_n _ _ (Or.inl (by omega))]) (fun _ => rfl) (fun k hk => so k (by omega) (by omega))
    exact ⟨q.1, fun b hb => ⟨(q.2 b hb).1, fun i hi => (q.2 b hb).2 i (by rw [← hm' b hb]; exact hi)⟩⟩
  · have cls := e_h S V hc (y := y) eN a3 xa ha em (by omega) hp (fun i hi => by
      rw [(tk i (by omega)).1, w2, ← ep, (g6 i (by omega)).1, (g6 p hp).1]
      exact nI_lt (K_lt I ha hi hp) (by have := (g6 p hp).2; omega)) (by rw [(tk p hp).1, w2]; exact ep)
    obtain ⟨X, eX⟩ : ∃ X, X = trF x n p (m n) := ⟨_, rfl⟩
    rw [← eX, t5] at cls
    have Xo : ∀ o k, (o ≠ 3 ∨ k ≠ n) → ((o ≠ 7 ∧ o ≠ 8) ∨ k < 5 * n ∨ 5 * n + 5 ≤ k) → X o k = x o k := fun o k h1 h2 => by rw [eX, tr_g (by omega) h1 h2]
    have X3 : X 3 n = nI (m n - 1) := by rw [eX, tr_3]
    have Xk : ∀ i, i < m n - 1 → X 7 (5 * n + i) = rmF s n 5 p i := fun i hi => by
      rw [eX, tr_7 hi]
      unfold rmF
      by_cases q : i < p
      · rw [if_pos q, if_pos q]; exact (tk i (by omega)).1
      · rw [if_neg q, if_neg q]; exact (tk (i + 1) (by omega)).1
    have Xc : ∀ o k, 9 ≤ o → X o k = x o k := fun o k ho => Xo o k (by omega) (by omega)
    rcases D with ⟨hor, rfl, e1⟩ | ⟨hm1, hr, rfl, e1⟩
    · have eo : ∀ k, k < 315 → s1 k = nH s n (rmF s n 5 p) (fun _ => -4) (m n - 1) k := fun k hk => by rw [e1, up_n _ _ (by omega), up_n _ _ (by omega)]
      have hN' : N' = N := nI_Neq J (by omega) (by rw [eo _ (by decide), nH_o (by omega) (by omega)]; exact a1)
      subst hN'
      have so : ∀ k, 315 ≤ k → k ≠ 315 + 24 * c → k ≠ 315 + 24 * c + 4 → s1 k = s k := fun k h3 hk h4 => by rw [e1, up_n _ _ hk, up_n _ _ h4, nH_o (by omega) (by omega)]
      refine fin (x1 := u2 (u2 X (10 + 2 * c) 4 1) (10 + 2 * c) 0 5) (y1 := y) (by decide) ?_ (NG.of T (c := c) hc (by rw [e1, up_s]; decide) (T.1.node I ha (by omega) J eo (fun o k ho h1 h2 => ?_) ?_ (fun i hi => ?_)) (fun k h3 hk => so k h3 (by omega) (by omega)) (fun o j h10 h9 _ => by rw [u2_n _ _ (Or.inl h9), u2_n _ _ (Or.inl h9), Xc _ _ (by omega)]) (fun _ _ _ _ => rfl) (KC.dn hs0 (by rw [e1, up_s]) (by rw [e1, up_n _ _ (by omega), up_s]) (fun w _ _ _ => so _ (by omega) (by omega) (by omega)) (fun w => Xc _ _ (by omega)))) (by rw [e1, up_s]; decide) (fun d hd hdc => so _ (by omega) (by omega) (by omega))
      · rw [cls, if_pos ?_]
        rcases hor with q | q
        · exact Or.inl (nI_lt (a := 0) (by omega) (by omega))
        · exact Or.inr (by rw [q]; decide)
      · rw [u2_n _ _ (Or.inl (by omega)), u2_n _ _ (Or.inl (by omega)), Xo o k h1 h2]
      · rw [u2_n _ _ (Or.inl (by omega)), u2_n _ _ (Or.inl (by omega)), X3]
      · rw [u2_n _ _ (Or.inl (by omega)), u2_n _ _ (Or.inl (by omega))]; exact ⟨Xk i hi, fun q => absurd q n13⟩
    · have hRr : s (13 * n + 3) = nI (r n) ∧ r n < N := by
        rcases g4 with ⟨q1, q2⟩ | q
        · exact absurd q1 hr
        · exact ⟨q.1, q.2.1⟩
      have eo : ∀ k, k < 315 → k ≠ 13 * n + 4 → s1 k = nH s n (rmF s n 5 0) (fun _ => -4) 0 k := fun k hk h4 => by rw [e1, po_o (by omega), up_n _ _ h4, up_n _ _ (by omega)]
      have e4 : s1 (13 * n + 4) = 1 := by rw [e1, po_o (by omega), up_s]
      have hN' : N' = N := nI_Neq J (by omega) (by rw [eo _ (by decide) (by omega), nH_o (by omega) (by omega)]; exact a1)
      subst hN'
      have bg : ∀ k, 313 ≤ k → k ≠ 315 + 24 * c + 4 → (up (up (nH s n (rmF s n 5 0) (fun _ => -4) 0) (315 + 24 * c + 4) 1) (13 * n + 4) 1) k = s k := fun k hk h4 => by rw [up_n _ _ (by omega), up_n _ _ h4, nH_o (by omega) (by omega)]
      have mn : m' n = 0 := mI_eq J ha (by omega) (by rw [eo _ (by omega) (by omega), nH_1])
      have ma : ∀ b, b < N' → b ≠ n → m' b = m b := fun b hb hbn => mI_eq J hb (by have := (G b hb).2.2.2.2.2.2.2.1; omega) (by rw [eo _ (by omega) (by omega), nH_ne (by omega) hbn (by decide)]; exact (G b hb).1.2.1)
      obtain ⟨x1, ex1⟩ : ∃ x1, x1 = diK X c n := ⟨_, rfl⟩
      obtain ⟨y1, ey1⟩ : ∃ y1, y1 = u2 (u2 y 6 n true) (10 + 2 * c) 11 true := ⟨_, rfl⟩
      have x1o : ∀ o k, o ≠ 10 + 2 * c → x1 o k = X o k := fun o k ho => by
        rw [ex1]; unfold diK riK
        rw [u2_n _ _ (Or.inl ho), u2_n _ _ (Or.inl ho), u2_n _ _ (Or.inl ho), u2_n _ _ (Or.inl ho), u2_n _ _ (Or.inl ho), u2_n _ _ (Or.inl ho)]
      have Z : CN x1 y1 s1 N' m' := by
        refine ⟨⟨?_, ?_, ?_⟩, fun b hb => ?_⟩
        · rw [x1o _ _ (by omega), Xo _ _ (by omega) (by omega), eo _ (by omega) (by omega), nH_o (by omega) (by omega)]; exact T.1.1.1
        · rw [x1o _ _ (by omega), Xo _ _ (by omega) (by omega), eo _ (by omega) (by omega), nH_o (by omega) (by omega)]; exact T.1.1.2.1
        · rw [x1o _ _ (by omega), Xo _ _ (by omega) (by omega), eo _ (by omega) (by omega), nH_o (by omega) (by omega)]; exact T.1.1.2.2
        · by_cases hbn : b = n
          · subst hbn
            refine ⟨⟨?_, ?_, ?_, ?_, ?_⟩, fun i hi => ?_⟩
            · rw [x1o _ _ (by omega), Xo _ _ (by omega) (by omega), eo _ (by omega) (by omega), nH_o (by omega) (by omega)]; exact t2
            · rw [x1o _ _ (by omega), X3, eo _ (by omega) (by omega), nH_1, hm1]
            · rw [x1o _ _ (by omega), Xo _ _ (by omega) (by omega), eo _ (by omega) (by omega), nH_o (by omega) (by omega)]; exact t4
            · rw [x1o _ _ (by omega), Xo _ _ (by omega) (by omega), eo _ (by omega) (by omega), nH_o (by omega) (by omega)]; exact t5
            · rw [ey1, u2_n _ _ (by omega), u2_s, e4]; rfl
            · rw [mn] at hi; exact absurd hi (Nat.not_lt_zero _)
          · obtain ⟨⟨q2, q3, q4, q5, q6⟩, qk⟩ := T.1.2 b hb
            have g10' := (G b hb).2.2.2.2.2.2.2.1
            refine ⟨⟨?_, ?_, ?_, ?_, ?_⟩, fun i hi => ?_⟩
            · rw [x1o _ _ (by omega), Xo _ _ (by omega) (by omega), eo _ (by omega) (by omega), nH_o (by omega) (by omega)]; exact q2
            · rw [x1o _ _ (by omega), Xo _ _ (by omega) (by omega), eo _ (by omega) (by omega), nH_o (by omega) (by omega)]; exact q3
            · rw [x1o _ _ (by omega), Xo _ _ (by omega) (by omega), eo _ (by omega) (by omega), nH_o (by omega) (by omega)]; exact q4
            · rw [x1o _ _ (by omega), Xo _ _ (by omega) (by omega), eo _ (by omega) (by omega), nH_o (by omega) (by omega)]; exact q5
            · rw [ey1, u2_n _ _ (by omega), u2_n _ _ (by omega), eo _ (by omega) (by omega), nH_o (by omega) (by omega)]; exact q6
            · rw [ma b hb hbn] at hi
              rw [x1o _ _ (by omega), x1o _ _ (by omega), Xo _ _ (by omega) (by omega), Xo _ _ (by omega) (by omega), eo _ (by omega) (by omega), nH_o (by omega) (by omega), eo _ (by omega) (by omega), nH_o (by omega) (by omega), eo _ (by omega) (by omega), nH_o (by omega) (by omega)]
              exact qk i hi
      have kc : KZ x1 y1 s1 c := by
        rw [ex1]; unfold diK
        refine KC.ri hs0 hs5 (l := 1) (by omega) ?_ (mid := s (13 * n + 2)) (what := nI n) (dead := 1) (fun w hw => ?_) (fun w => ?_) ?_ ?_ ?_ ?_ ?_ (fun w hw => ?_) ?_ ?_ ?_ ?_ ?_ ?_ (fun w hw => ?_)
        · rcases pa 1 (by omega) with q | ⟨b, q, hb, -⟩
          · exact Or.inl q
          · exact Or.inr ⟨b, q, by omega⟩
        · rw [u2_n _ _ (by omega), u2_n _ _ (by omega), Xc _ _ (by omega)]
        · rw [u2_n _ _ (by omega), u2_n _ _ (by omega), Xc _ _ (by omega)]
        · rw [u2_n _ _ (by omega), u2_n _ _ (by omega), Xo _ _ (by omega) (by omega)]; exact T.1.1.2.1
        · rw [u2_s, Xo _ _ (by omega) (by omega)]; exact t4
        · rw [u2_n _ _ (by omega), u2_s]
        · rw [ey1, u2_s]; rfl
        · rw [e1, po_0]
        · rw [e1, po_w (by omega), bg _ (by omega) (by omega)]
        · rw [e1, po_3, bg _ (by omega) (by omega), bg _ (by omega) (by omega)]
        · rw [e1, po_w (by omega), up_n _ _ (by omega), up_s]
        · rw [e1, po_8]
        · rw [e1, po_9]
        · rw [e1, po_10]
        · rw [e1, po_11]
        · rw [e1, po_w (by omega), bg _ (by omega) (by omega)]
      refine fin (x1 := x1) (y1 := y1) (by decide) ?_ (NG.of T (c := c) hc (by rw [e1, po_0]; decide) Z (fun k h3 hk => by rw [e1, po_o (by omega), bg _ (by omega) (by omega)]) (fun o k h10 h9 _ => by rw [x1o _ _ h9, Xc _ _ (by omega)]) (fun o k h10 h9 => by rw [ey1, u2_n _ _ (Or.inl h9), u2_n _ _ (by omega)]) kc) (by rw [e1, po_0]; decide) (fun d hd hdc => by rw [e1, po_o (by omega), bg _ (by omega) (by omega)])
      rw [cls, if_neg ?_, e_d S V hc (x := X) (by rw [Xo _ _ (by omega) (by omega)]; exact eN) a3 (by rw [Xc _ _ (by omega)]; exact xa) ha, ex1, ey1]
      rw [hm1, hRr.1]
      rintro (q | q)
      · exact absurd q (by decide)
      · exact nI_pos (by omega) q
end R31N
section R31O
variable {h : zi_Hp} {W : Nat} {x x0 x1 X : Nat → Nat → Int32} {y y1 : Nat → Nat → Bool} {s s1 t : Nat → Int32} {N R M B c n k : Nat} {L m H r : Nat → Nat} {K C : Nat → Nat → Nat} {f : Nat → Nat}
theorem CG.cg (T : CG x y t N m) (I : InvG s N R M B L m H r K C f) {N' R' M' B' : Nat} {L' m' H' r' : Nat → Nat} {K' C' : Nat → Nat → Nat} {f' : Nat → Nat} (J : InvG s1 N' R' M' B' L' m' H' r' K' C' f') (e : ∀ k, k < 315 → s1 k = s k) : CG x y t N' m' := by
  have hN := I.1.1.2.2
  have M4 := I.1.2.2.1.2.2
  have hN' : N' = N := nI_Neq J (by omega) (by rw [e _ (by decide)]; exact I.1.1.1)
  subst hN'
  refine ⟨⟨T.1.1, fun n hn => ⟨(T.1.2 n hn).1, fun i hi => (T.1.2 n hn).2 i ?_⟩⟩, T.2⟩
  have := (I.1.2.2.2.1 n hn).2.2.2.2.2.2.2.1
  have em : m' n = m n := mI_eq J hn (by omega) (by rw [e _ (by omega)]; exact (I.1.2.2.2.1 n hn).1.2.1)
  rw [← em]; exact hi
/-- the program's advance is the reference's step -/
theorem gsim_step (S : Sh h) (V : Wa W) (T : CG x y s N m) (I : InvG s N R M B L m H r K C f) (hc : c < 3) {cd : Int32} (A : StA s c cd s1) {N' R' M' B' : Nat} {L' m' H' r' : Nat → Nat} {K' C' : Nat → Nat → Nat} {f' : Nat → Nat} (J : InvG s1 N' R' M' B' L' m' H' r' K' C' f') {v2 v3 v4 : Value} : ∃ x' y', zv 5 80 0 [.ref W, .int (nI c), v2, v3, v4] [] (zC h W x y) = some (some (.int cd), zC h W x' y') ∧ CG x' y' (stF s s1 c cd) N' m' := by
  cases hmv : msF s c with
  | false =>
    obtain ⟨rfl, e2⟩ := ms_0 I hc hmv A
    obtain ⟨k0, k1, -, -⟩ := T.2.1 c hc
    have eN : x 1 0 = nI N := by rw [T.1.1.1]; exact I.1.1.1
    refine ⟨x, y, ?_, ?_⟩
    · by_cases hu : ¬ s (315 + 24 * c) = 0 ∧ ¬ s (315 + 24 * c) = 5
      · obtain ⟨a, ha, ea⟩ := I.at hc (by unfold onB; exact decide_eq_true hu)
        exact adv_no S V hc eN I.1.1.2.2 (n := a) (fun _ => ⟨by rw [k1 hu.1 3 (by decide) (by decide)]; exact ea, ha⟩) (by rw [T.mv I hc (fun _ => ⟨ea, ha⟩)]; exact hmv)
      · exact adv_no S V hc eN I.1.1.2.2 (n := 0) (fun q => absurd (by rw [← k0]; exact q) hu) (by rw [T.mv I hc (fun q => absurd q hu)]; exact hmv)
    · unfold stF
      rw [if_neg (by decide), e2]
      exact T.cg I J (fun k _ => by rw [e2])
  | true =>
    rcases A with ⟨t1, D⟩ | ⟨t1, t2, D⟩ | ⟨t1, t2, D⟩ | ⟨t1, D⟩ | ⟨t1, t2, D⟩ | ⟨t1, t2, D⟩ | ⟨t1, t2, t3⟩
    · obtain ⟨x', y', e, Q⟩ := gsim_1 S V T I hc t1 hmv D (v2 := v2) (v3 := v3) (v4 := v4)
      exact ⟨x', y', e, Q.cg I J (std_o D)⟩
    · exact gsim_2P S V T I hc t1 t2 hmv D J
    · exact gsim_2T S V T I hc t1 t2 hmv D J
    · by_cases h7 : cd = 7
      · subst h7
        exact gsim_3N S V T I hc t1 hmv D J
      · obtain ⟨x', y', e, Q⟩ := gsim_3 S V T I hc t1 hmv D h7 (v2 := v2) (v3 := v3) (v4 := v4)
        exact ⟨x', y', e, Q.cg I J (sto_o D h7)⟩
    · exact gsim_4X S V T I hc t1 t2 hmv D J
    · exact gsim_4Y S V T I hc t1 t2 hmv D J
    · have : msF s c = false := by
        unfold msF onB
        rw [decide_eq_false (fun q => by rcases t1 with w | w; exact q.1 w; exact q.2 w)]; rfl
      rw [this] at hmv
      exact absurd hmv (by decide)
end R31O
end
section
/-! WHO IS IDLE KEEPS ITS RIGHTS -/
section R34Z6
variable {h : zi_Hp} {W : Nat} {x : Nat → Nat → Int32} {y : Nat → Nat → Bool} {s s1 : Nat → Int32} {c n : Nat}
theorem po_7 {t k : Nat} {mid what dead : Int32} (h : k < 315 + 24 * c ∨ 315 + 24 * c + 24 ≤ k ∨ k = 315 + 24 * c + 7) : poF s c t mid what dead k = s k := by rw [poF, up_n _ _ (by omega), up_n _ _ (by omega), up_n _ _ (by omega), up_n _ _ (by omega), up_n _ _ (by omega), up_n _ _ (by omega)]
/-- cells that a step leaves -/
theorem sta_c {cd : Int32} (A : StA s c cd s1) : (∀ k, 315 ≤ k → (k < 315 + 24 * c ∨ 315 + 24 * c + 24 ≤ k ∨ k = 315 + 24 * c + 7) → s1 k = s k) ∧ (cd = 0 ∨ 0 < cd) := by
  rcases A with ⟨-, D⟩ | ⟨-, -, D⟩ | ⟨-, -, D⟩ | ⟨-, D⟩ | ⟨-, -, D⟩ | ⟨-, -, D⟩ | ⟨-, rfl, rfl⟩
  · obtain ⟨n, hn, e, D⟩ := D
    rcases D with ⟨-, rfl, rfl⟩ | ⟨-, -, ⟨t, j, -, ht, -, -, -, -, rfl, rfl⟩ | ⟨-, ⟨-, mm, -, -, rfl, rfl⟩ | ⟨-, -, rfl, rfl⟩ | ⟨-, -, rfl, rfl⟩⟩⟩
    · exact ⟨fun k h1 h2 => up_n _ _ (by omega), Or.inr (by decide)⟩
    · exact ⟨fun k h1 h2 => by rw [up_n _ _ (by omega), up_n _ _ (by omega)], Or.inr (by decide)⟩
    · exact ⟨fun k h1 h2 => by rw [up_n _ _ (by omega), up_n _ _ (by omega)], Or.inr (by decide)⟩
    · exact ⟨fun k h1 h2 => by rw [up_n _ _ (by omega)], Or.inr (by decide)⟩
    · exact ⟨fun k h1 h2 => rfl, Or.inl rfl⟩
  · obtain ⟨n, m9, M9, hn, hm, -, hM, -, -, -, -, D⟩ := D
    rcases D with ⟨-, rfl, rfl⟩ | ⟨-, p, -, -, -, ⟨hm1, rfl, rfl⟩ | ⟨-, -, rfl, rfl⟩ | ⟨hmM, v, ls, hv, -, -, hls, rfl, rfl⟩⟩
    · exact ⟨fun k h1 h2 => by rw [up_n _ _ (by omega), up_n _ _ (by omega)], Or.inr (by decide)⟩
    · exact ⟨fun k h1 h2 => by rw [up_n _ _ (by omega), up_n _ _ (by omega), nH_o (by omega) (by omega)], Or.inr (by decide)⟩
    · exact ⟨fun k h1 h2 => by rw [up_n _ _ (by omega), up_n _ _ (by omega)], Or.inr (by decide)⟩
    · exact ⟨fun k h1 h2 => by rw [up_n _ _ (by omega), sp_eq, po_7 h2, s2_g (by omega) (by omega) (by omega) (by omega) (by omega)], Or.inr (by decide)⟩
  · obtain ⟨n, m9, hn, hm, -, -, -, D⟩ := D
    rcases D with ⟨-, rfl, rfl⟩ | ⟨-, p, -, -, -, ⟨-, rfl, rfl⟩ | ⟨-, -, rfl, rfl⟩⟩
    · exact ⟨fun k h1 h2 => by rw [up_n _ _ (by omega), up_n _ _ (by omega)], Or.inr (by decide)⟩
    · exact ⟨fun k h1 h2 => by rw [up_n _ _ (by omega), up_n _ _ (by omega), nH_o (by omega) (by omega)], Or.inr (by decide)⟩
    · exact ⟨fun k h1 h2 => by rw [po_7 h2, up_n _ _ (by omega), up_n _ _ (by omega), nH_o (by omega) (by omega)], Or.inr (by decide)⟩
  · obtain ⟨n, r9, hn, hr, -, -, D⟩ := D
    rcases D with ⟨-, ⟨-, rfl, rfl⟩ | ⟨-, v, hv, -, rfl, rfl⟩⟩ | ⟨-, ⟨-, rfl, rfl⟩ | ⟨-, ⟨-, rfl, rfl⟩ | ⟨-, ⟨-, j, -, -, -, rfl, rfl⟩ | ⟨-, -, rfl, rfl⟩ | ⟨-, -, rfl, rfl⟩⟩⟩⟩
    · exact ⟨fun k h1 h2 => by rw [up_n _ _ (by omega)], Or.inr (by decide)⟩
    · exact ⟨fun k h1 h2 => by rw [up_n _ _ (by omega), up_n _ _ (by omega), nH_o (by omega) (by omega), nn_o (by omega) (by omega)], Or.inr (by decide)⟩
    · exact ⟨fun k h1 h2 => by rw [up_n _ _ (by omega)], Or.inr (by decide)⟩
    · exact ⟨fun k h1 h2 => by rw [up_n _ _ (by omega)], Or.inr (by decide)⟩
    · exact ⟨fun k h1 h2 => by rw [up_n _ _ (by omega)], Or.inr (by decide)⟩
    · exact ⟨fun k h1 h2 => by rw [up_n _ _ (by omega)], Or.inr (by decide)⟩
    · exact ⟨fun k h1 h2 => rfl, Or.inl rfl⟩
  · obtain ⟨n, m9, j, hn, hm, -, -, -, -, -, D⟩ := D
    rcases D with ⟨-, rfl, rfl⟩ | ⟨-, -, -, rfl, rfl⟩
    · exact ⟨fun k h1 h2 => by rw [up_n _ _ (by omega)], Or.inr (by decide)⟩
    · exact ⟨fun k h1 h2 => by rw [up_n _ _ (by omega), nH_o (by omega) (by omega)], Or.inr (by decide)⟩
  · obtain ⟨n, m9, j, M9, hn, hm, -, hM, -, -, -, -, -, -, D⟩ := D
    rcases D with ⟨-, rfl, rfl⟩ | ⟨-, ⟨hm1, rfl, rfl⟩ | ⟨-, -, rfl, rfl⟩ | ⟨hmM, v, t, ls, hv, -, -, -, -, hls, rfl, rfl⟩⟩
    · exact ⟨fun k h1 h2 => by rw [up_n _ _ (by omega)], Or.inr (by decide)⟩
    · exact ⟨fun k h1 h2 => by rw [up_n _ _ (by omega), nH_o (by omega) (by omega)], Or.inr (by decide)⟩
    · exact ⟨fun k h1 h2 => by rw [up_n _ _ (by omega)], Or.inr (by decide)⟩
    · exact ⟨fun k h1 h2 => by rw [sp_eq, po_7 h2, s2_g (by omega) (by omega) (by omega) (by omega) (by omega)], Or.inr (by decide)⟩
  · exact ⟨fun k h1 h2 => rfl, Or.inl rfl⟩
theorem st_7 {cd : Int32} (hp : cd = 0 ∨ 0 < cd) {k : Nat} (h1 : ∀ d, d < 3 → k ≠ 315 + 24 * d + 5) : stF s s1 c cd k = if 0 < cd then tdF s1 c cd k else s1 k := by
  unfold stF
  by_cases q : 0 < cd
  · rw [if_pos q, if_pos q, se_n (h1 2 (by decide)), se_n (h1 1 (by decide)), se_n (h1 0 (by decide))]
  · rw [if_neg q, if_neg q]
/-- a step's rights: its client's alone, by one where it went right -/
theorem j_st7 (S : Sh h) (V : Wa W) (G : Gs x y s) (hc : c < 3) (hm : msF s c = true) : ∃ cd x' y', zv 5 80 0 [.ref W, .int (nI c), .double 0, .double 0, .double 0] [] (zC h W x y) = some (some (.int cd), zC h W x' y') ∧ ∀ d, d < 3 → x' (10 + 2 * d) 7 = x (10 + 2 * d) 7 + (if d = c ∧ cd = 1 then 1 else 0) := by
  obtain ⟨N, R, M, B, L, m, H, r, K, C, f, I0, T0⟩ := G
  obtain ⟨z, ez⟩ : ∃ z : Nat → Int32, z = fun j => if 2000 ≤ j then x (10 + 2 * (j - 2000)) 7 else s j := ⟨_, rfl⟩
  have zs : ∀ j, j < 387 → z j = s j := fun j hj => by
    rw [ez]
    show (if 2000 ≤ j then x (10 + 2 * (j - 2000)) 7 else s j) = s j
    rw [if_neg (by omega)]
  have zg : ∀ d, z (2000 + d) = x (10 + 2 * d) 7 := fun d => by
    rw [ez]
    show (if 2000 ≤ 2000 + d then x (10 + 2 * (2000 + d - 2000)) 7 else s (2000 + d)) = _
    rw [if_pos (by omega), show 2000 + d - 2000 = d by omega]
  have I := I0.congr zs
  have T1 : CR x y z N m := T0.congr I0 zs
  have T : CG x y z N m := ⟨T1.1, fun d hd => by
    obtain ⟨k0, k1, k2, k3⟩ := T1.2.1 d hd
    exact ⟨k0, k1, k2, k3, fun _ => (zg d).symm⟩, T1.2.2⟩
  have on : ¬ z (315 + 24 * c) = 0 := by
    rw [zs _ (by omega)]
    intro q
    have : onB s c = true := by
      unfold msF at hm
      rw [Bool.and_eq_true] at hm
      exact hm.1
    unfold onB at this
    rw [decide_eq_true_eq] at this
    exact this.1 q
  obtain ⟨cd, s1, N', R', M', B', L', m', H', r', K', C', f', A, J, -, -⟩ := stI I hc
  obtain ⟨x', y', e, Q⟩ := gsim_step S V T I hc A J (v2 := .double 0) (v3 := .double 0) (v4 := .double 0)
  obtain ⟨fr, hp⟩ := sta_c A
  have nz1 : ¬ s1 (315 + 24 * c) = 0 := sta_nz A on hc
  refine ⟨cd, x', y', e, fun d hd => ?_⟩
  obtain ⟨q0, q1, -, -, q4⟩ := Q.2.1 d hd
  obtain ⟨k0, k1, -, -, k4⟩ := T.2.1 d hd
  have s0 : stF z s1 c cd (315 + 24 * d) = s1 (315 + 24 * d) := by
    rw [st_7 hp (fun d' _ => by omega)]
    split
    · unfold tdF; rw [up_n _ _ (by omega), up_n _ _ (by omega)]
    · rfl
  have s7 : stF z s1 c cd (315 + 24 * d + 7) = z (315 + 24 * d + 7) + (if d = c ∧ cd = 1 then 1 else 0) := by
    rw [st_7 hp (fun d' _ => by omega)]
    by_cases p : 0 < cd
    · rw [if_pos p]
      unfold tdF
      by_cases e9 : d = c
      · subst e9
        rw [up_s, fr _ (by omega) (Or.inr (Or.inr rfl))]
        by_cases c1 : cd = 1
        · rw [if_pos c1, if_pos ⟨rfl, c1⟩]
        · rw [if_neg c1, if_neg (fun w => c1 w.2)]
      · rw [up_n _ _ (by omega), up_n _ _ (by omega), fr _ (by omega) (by omega), if_neg (fun w => e9 w.1), Int32.add_zero]
    · have c0 : cd = 0 := hp.resolve_right p
      rw [if_neg p, if_neg (fun w => by rw [c0] at w; exact absurd w.2 (by decide)), Int32.add_zero]
      exact fr _ (by omega) (by omega)
  have sg : stF z s1 c cd (2000 + d) = z (2000 + d) := by
    rw [st_7 hp (fun d' _ => by omega)]
    split
    · unfold tdF; rw [up_n _ _ (by omega), up_n _ _ (by omega)]; exact fr _ (by omega) (by omega)
    · exact fr _ (by omega) (by omega)
  by_cases z0 : s1 (315 + 24 * d) = 0
  · have ne : d ≠ c := fun w => by rw [w] at z0; exact nz1 z0
    rw [q4 (by rw [s0]; exact z0), sg, zg, if_neg (fun w => ne w.1), Int32.add_zero]
  · have nz : ¬ z (315 + 24 * d) = 0 := by
      by_cases w : d = c
      · rw [w]; exact on
      · rw [← fr _ (by omega) (by omega)]; exact z0
    rw [q1 (by rw [s0]; exact z0) 7 (by decide) (by decide), s7, k1 nz 7 (by decide) (by decide)]
end R34Z6
end
