section
/-! BOTH SIDES: chance -/
section R34Z4
variable {h h1 hc hr : zi_Hp} {L : Nat}
theorem nL_sub {a b : Nat} (hab : b ≤ a) : nL a - nL b = nL (a - b) := by
  have e : nL a = nL (a - b) + nL b := by rw [nL_add, Nat.sub_add_cancel hab]
  rw [e, Int64.add_sub_cancel]
theorem nL_rem {a b : Nat} (ha : a < 2 ^ 62) (hb : b < 2 ^ 62) : nL a - nL a / nL b * nL b = nL (a % b) := by
  have h1 := Nat.div_add_mod a b
  have h2 : a / b * b = b * (a / b) := Nat.mul_comm _ _
  rw [nL_div ha hb, nL_mul, nL_sub (Nat.div_mul_le_self a b)]
  congr 1
  omega
theorem gcd_st (a b : Nat) : Nat.gcd a b = Nat.gcd b (a % b) := by
  rw [Nat.gcd_comm a b, Nat.gcd_rec b a, Nat.gcd_comm]
theorem lg_0 {b : Nat} (hb : b < 2 ^ 62) : lg_cmp (nL b) 0 = 0 ↔ b = 0 := by
  rw [lg_cmp_eq]
  constructor
  · intro q
    by_cases z : b = 0
    · exact z
    · exact absurd q (nL_nz hb (by omega))
  · intro q; rw [q]; rfl
theorem lg_p {g : Nat} (hg : g < 2 ^ 62) (h0 : 0 < g) : 0 < lg_cmp (nL g) 0 := by
  have q : nL g > 0 := by
    show 0 < nL g
    rw [Int64.lt_iff_toInt_lt, nL_toInt hg]
    have z : (0 : Int64).toInt = 0 := rfl
    rw [z]; omega
  unfold lg_cmp
  rw [if_pos q]; decide
section
variable {y0 y2 : Int64} {u9 u10 : Value}
theorem gd_0 {a i : Nat} (hi : i ≤ 100) : ∀ {u9 u10 : Value}, zv 1 140 9 [.long y0, .double 1, .long y2, .double 1, .long (nL a), .double 1, .long (nL 0), .double 1, .int (nI i), u9, u10] [] h = some (some (.long (nL a)), h) := fun {u9 u10} => by
  rw [b140_9]
  by_cases q : nI i < 100
  · rw [if_pos q, b140_16, if_pos (by decide), b140_44]
  · rw [if_neg q, b140_44]
theorem gd_s {a b i : Nat} (hi : i < 100) (ha : a < 2 ^ 62) (hb : b < 2 ^ 62) (h0 : 0 < b) : ∀ {u9 u10 : Value}, ∃ v9 v10, zv 1 140 9 [.long y0, .double 1, .long y2, .double 1, .long (nL a), .double 1, .long (nL b), .double 1, .int (nI i), u9, u10] [] h = zv 1 140 9 [.long y0, .double 1, .long y2, .double 1, .long (nL b), .double 1, .long (nL (a % b)), .double 1, .int (nI (i + 1)), v9, v10] [] h := fun {u9 u10} => by
  have nz : ¬ nL b = 0 := nL_nz hb h0
  refine ⟨.long (nL (a % b)), .double 1, ?_⟩
  rw [b140_9, if_pos (show nI i < 100 from nI_lt (b := 100) hi (by decide)), b140_16, if_neg (fun q => by have := (lg_0 hb).mp q; omega), b140_23 nz, nI_s, nL_rem ha hb]
theorem gd_j : ∀ j a b i, b < 2 ^ j → i + 2 * j ≤ 100 → a < 2 ^ 62 → b < 2 ^ 62 → ∀ {u9 u10 : Value}, zv 1 140 9 [.long y0, .double 1, .long y2, .double 1, .long (nL a), .double 1, .long (nL b), .double 1, .int (nI i), u9, u10] [] h = some (some (.long (nL (Nat.gcd a b))), h)
  | 0, a, b, i, hb, hi, ha, hb2, u9, u10 => by
    have : b = 0 := by omega
    subst this
    rw [gd_0 (by omega), Nat.gcd_zero_right]
  | j + 1, a, b, i, hb, hi, ha, hb2, u9, u10 => by
    by_cases z : b = 0
    · subst z
      rw [gd_0 (by omega), Nat.gcd_zero_right]
    · have rl : a % b < b := Nat.mod_lt _ (by omega)
      obtain ⟨v9, v10, e⟩ := gd_s (h := h) (y0 := y0) (y2 := y2) (i := i) (a := a) (b := b) (by omega) ha hb2 (by omega) (u9 := u9) (u10 := u10)
      rw [e, gcd_st]
      by_cases z2 : a % b = 0
      · rw [z2, gd_0 (by omega), Nat.gcd_zero_right]
      · obtain ⟨w9, w10, e2⟩ := gd_s (h := h) (y0 := y0) (y2 := y2) (i := i + 1) (a := b) (b := a % b) (by omega) hb2 (by omega) (by omega) (u9 := v9) (u10 := v10)
        have r2 : b % (a % b) < a % b := Nat.mod_lt _ (by omega)
        have d1 := Nat.div_add_mod b (a % b)
        have d2 : 0 < b / (a % b) := Nat.div_pos (by omega) (by omega)
        have d3 : a % b ≤ (a % b) * (b / (a % b)) := Nat.le_mul_of_pos_right _ d2
        have p2 : 2 ^ (j + 1) = 2 ^ j * 2 := Nat.pow_succ _ _
        rw [e2, gcd_st b]
        generalize b % (a % b) = r at *
        generalize a % b = q at *
        generalize q * (b / q) = s at *
        exact gd_j j q r (i + 1 + 1) (by omega) (by omega) (by omega) (by omega)
theorem gc_o : ∀ k a b, b < k → a < 2 ^ 62 → b < 2 ^ 62 → ∀ {u8 u9 : Value}, zv 1 222 6 [.long y0, .double 1, .long y2, .double 1, .long (nL a), .double 1, .long (nL b), .double 1, u8, u9] [] h = some (some (.long (nL (Nat.gcd a b))), h)
  | 0, a, b, hk, _, _, u8, u9 => by omega
  | k + 1, a, b, hk, ha, hb, u8, u9 => by
    rw [b222_6]
    by_cases z : b = 0
    · subst z
      rw [if_pos (by decide), b222_31, Nat.gcd_zero_right]
    · have rl : a % b < b := Nat.mod_lt _ (by omega)
      rw [if_neg (fun q => z ((lg_0 hb).mp q)), b222_13 (nL_nz hb (by omega)), nL_rem ha hb, gcd_st]
      exact gc_o k b (a % b) (by omega) hb (by omega)
end
theorem c_ch0 (S : Sh h) {x w z t : Int32} (A : ¬ (AV x w z ∧ (t = 0 ∨ t = 1))) {u5 u6 : Value} : zv 17 122 0 [.ref 0, .int x, .int w, .int z, .int t, u5, u6] [] h = some (some (.long (-1)), h) := by
  by_cases hv : ¬ x < 0 ∧ x < 3
  · by_cases hw : ¬ w < 0 ∧ ¬ 7 < w
    · by_cases hz : z = 0 ∨ z = 1
      · have ht : ¬ (t = 0 ∨ t = 1) := fun q => A ⟨⟨hv, hw, hz⟩, q⟩
        simp +decide only [b122_0, b122_4, b122_7, b122_11, b122_14, b122_18, b122_21, b122_26, b122_29, S.n, S.k, S.r, hp_n_wi, hp_k_wi, hp_r_wi, hp_n_wl, hp_k_wl, hp_r_wl, hp_n_wb, hp_k_wb, hp_r_wb, zq_rf, kx_0, kx_1, kx_2, kx_3, kx_4, kx_5, kx_6, kx_7, kx_8, kx_9, kx_10, kx_11, kx_12, kx_13, kx_14, kx_15, kx_16, kx_17, kx_33, kx_34, kx_50, kx_66, kx_67, kx_68, kx_69, kx_197, kx_198, kx_199, kx_200, kx_201, kx_202, kx_203, kx_204, kx_205, kx_206, kx_207, kx_208, kx_209, kx_210, rx_0_0, rx_0_1, rx_0_2, rx_0_3, rx_0_4, rx_0_5, rx_0_6, rx_0_7, rx_1_0, rx_1_1, rx_2_3, rx_2_4, rx_2_5, rx_2_6, rx_2_7, rx_2_8, rx_2_9, rx_10_0, rx_10_1, rx_10_2, rx_33_0, rx_33_1, rx_67_0, rx_68_0, rx_197_0, rx_199_5, rx_199_6, rx_199_7, rx_203_0, rx_203_1, rx_203_2, rx_206_0, rx_206_1, rx_206_2, rx_206_3, Option.bind_some, Option.toList_some, Option.toList_none, List.cons_append, List.nil_append, ↓reduceIte, p_133, p_135, p_136, decide_eq_true hv, decide_eq_true hw, decide_eq_true hz, decide_eq_false ht, zi_bI_t, zi_bI_f]
      · simp +decide only [b122_0, b122_4, b122_7, b122_11, b122_14, b122_18, b122_29, S.n, S.k, S.r, hp_n_wi, hp_k_wi, hp_r_wi, hp_n_wl, hp_k_wl, hp_r_wl, hp_n_wb, hp_k_wb, hp_r_wb, zq_rf, kx_0, kx_1, kx_2, kx_3, kx_4, kx_5, kx_6, kx_7, kx_8, kx_9, kx_10, kx_11, kx_12, kx_13, kx_14, kx_15, kx_16, kx_17, kx_33, kx_34, kx_50, kx_66, kx_67, kx_68, kx_69, kx_197, kx_198, kx_199, kx_200, kx_201, kx_202, kx_203, kx_204, kx_205, kx_206, kx_207, kx_208, kx_209, kx_210, rx_0_0, rx_0_1, rx_0_2, rx_0_3, rx_0_4, rx_0_5, rx_0_6, rx_0_7, rx_1_0, rx_1_1, rx_2_3, rx_2_4, rx_2_5, rx_2_6, rx_2_7, rx_2_8, rx_2_9, rx_10_0, rx_10_1, rx_10_2, rx_33_0, rx_33_1, rx_67_0, rx_68_0, rx_197_0, rx_199_5, rx_199_6, rx_199_7, rx_203_0, rx_203_1, rx_203_2, rx_206_0, rx_206_1, rx_206_2, rx_206_3, Option.bind_some, Option.toList_some, Option.toList_none, List.cons_append, List.nil_append, ↓reduceIte, p_133, p_135, p_136, decide_eq_true hv, decide_eq_true hw, decide_eq_false hz, zi_bI_t, zi_bI_f]
    · simp +decide only [b122_0, b122_4, b122_7, b122_11, b122_29, S.n, S.k, S.r, hp_n_wi, hp_k_wi, hp_r_wi, hp_n_wl, hp_k_wl, hp_r_wl, hp_n_wb, hp_k_wb, hp_r_wb, zq_rf, kx_0, kx_1, kx_2, kx_3, kx_4, kx_5, kx_6, kx_7, kx_8, kx_9, kx_10, kx_11, kx_12, kx_13, kx_14, kx_15, kx_16, kx_17, kx_33, kx_34, kx_50, kx_66, kx_67, kx_68, kx_69, kx_197, kx_198, kx_199, kx_200, kx_201, kx_202, kx_203, kx_204, kx_205, kx_206, kx_207, kx_208, kx_209, kx_210, rx_0_0, rx_0_1, rx_0_2, rx_0_3, rx_0_4, rx_0_5, rx_0_6, rx_0_7, rx_1_0, rx_1_1, rx_2_3, rx_2_4, rx_2_5, rx_2_6, rx_2_7, rx_2_8, rx_2_9, rx_10_0, rx_10_1, rx_10_2, rx_33_0, rx_33_1, rx_67_0, rx_68_0, rx_197_0, rx_199_5, rx_199_6, rx_199_7, rx_203_0, rx_203_1, rx_203_2, rx_206_0, rx_206_1, rx_206_2, rx_206_3, Option.bind_some, Option.toList_some, Option.toList_none, List.cons_append, List.nil_append, ↓reduceIte, p_133, p_135, decide_eq_true hv, decide_eq_false hw, zi_bI_t, zi_bI_f]
  · simp +decide only [b122_0, b122_4, b122_29, S.n, S.k, S.r, hp_n_wi, hp_k_wi, hp_r_wi, hp_n_wl, hp_k_wl, hp_r_wl, hp_n_wb, hp_k_wb, hp_r_wb, zq_rf, kx_0, kx_1, kx_2, kx_3, kx_4, kx_5, kx_6, kx_7, kx_8, kx_9, kx_10, kx_11, kx_12, kx_13, kx_14, kx_15, kx_16, kx_17, kx_33, kx_34, kx_50, kx_66, kx_67, kx_68, kx_69, kx_197, kx_198, kx_199, kx_200, kx_201, kx_202, kx_203, kx_204, kx_205, kx_206, kx_207, kx_208, kx_209, kx_210, rx_0_0, rx_0_1, rx_0_2, rx_0_3, rx_0_4, rx_0_5, rx_0_6, rx_0_7, rx_1_0, rx_1_1, rx_2_3, rx_2_4, rx_2_5, rx_2_6, rx_2_7, rx_2_8, rx_2_9, rx_10_0, rx_10_1, rx_10_2, rx_33_0, rx_33_1, rx_67_0, rx_68_0, rx_197_0, rx_199_5, rx_199_6, rx_199_7, rx_203_0, rx_203_1, rx_203_2, rx_206_0, rx_206_1, rx_206_2, rx_206_3, Option.bind_some, Option.toList_some, Option.toList_none, List.cons_append, List.nil_append, ↓reduceIte, p_133, decide_eq_false hv, zi_bI_f]
theorem j_chance (O : GO hc) (S : Sh hr) (G : Gs (wx hc 1) (wy hc 1) (zh_i hr 212)) (x w z t : Int32) {u5 u6 u7 u8 : Value} : ∃ (v : Int64) (hc' hr' : zi_Hp), zv 17 122 0 [.ref 0, .int x, .int w, .int z, .int t, u5, u6] [] hc = some (some (.long v), hc') ∧ zv 8 223 0 [.ref 211, .int x, .int w, .int z, .int t, u7, u8] [] hr = some (some (.long v), hr') := by
  by_cases B : AV x w z ∧ (t = 0 ∨ t = 1)
  · obtain ⟨A, ht⟩ := B
    obtain ⟨c0, n, a0, h1, h2, h3, rfl, rfl, rfl⟩ := AV.ex A
    obtain ⟨hv, hw, hz⟩ := A
    obtain ⟨hc', hr', sm, e, Sc', er, Sr', -, -, hsm, t8, t229, t226⟩ := j_wk O S G h2 h1 h3
    have p7 : 6 ^ (7 - n) * 6 ^ n = 279936 := by rw [← Nat.pow_add, show 7 - n + n = 7 by omega]
    have pK : 0 < 6 ^ (7 - n) := Nat.pow_pos (by decide)
    have p6 : 0 < 6 ^ n := Nat.pow_pos (by decide)
    generalize 6 ^ (7 - n) = K at *
    generalize 6 ^ n = Q at *
    have l1 : Q ≤ K * Q := Nat.le_mul_of_pos_left _ pK
    have l2 : K * sm ≤ K * Q := Nat.mul_le_mul_left _ hsm
    obtain ⟨g, eg⟩ : ∃ g, g = Nat.gcd Q sm := ⟨_, rfl⟩
    have gp : 0 < g := by rw [eg]; exact Nat.gcd_pos_of_pos_left _ p6
    have gl : g ≤ Q := by rw [eg]; exact Nat.gcd_le_left _ p6
    have l3 : K * g ≤ K * Q := Nat.mul_le_mul_left _ gl
    have kg : 0 < K * g := Nat.mul_pos pK gp
    have eG : Nat.gcd (K * sm) 279936 = K * g := by rw [← p7, Nat.gcd_mul_left, eg, Nat.gcd_comm]
    have dv : ∀ y, y ≤ Q → nL (K * y) / nL (K * g) = nL (y / g) := fun y hy => by
      have := Nat.mul_le_mul_left K hy
      rw [nL_div (by omega) (by omega), Nat.mul_div_mul_left _ _ pK]
    have hz7 : (279936 : Int64) = nL (K * Q) := by rw [p7]; rfl
    have ng : ¬ nL g = 0 := nL_nz (by omega) gp
    have nkg : ¬ nL (K * g) = 0 := nL_nz (by omega) kg
    refine ⟨if t = 0 then nL (sm / g) else nL (Q / g), hc', hr', ?_, ?_⟩
    · have S := O.1
      have go : zv 17 122 0 [.ref 0, .int (nI c0), .int (nI n), .int (nI a0), .int t, u5, u6] [] hc = zv 17 122 47 [.ref 0, .int (nI c0), .int (nI n), .int (nI a0), .int t, u5, u6] [] hc' := by
        simp +decide only [b122_0, b122_4, b122_7, b122_11, b122_14, b122_18, b122_21, b122_26, b122_33, S.n, S.k, S.r, hp_n_wi, hp_k_wi, hp_r_wi, hp_n_wl, hp_k_wl, hp_r_wl, hp_n_wb, hp_k_wb, hp_r_wb, zq_rf, kx_0, kx_1, kx_2, kx_3, kx_4, kx_5, kx_6, kx_7, kx_8, kx_9, kx_10, kx_11, kx_12, kx_13, kx_14, kx_15, kx_16, kx_17, kx_33, kx_34, kx_50, kx_66, kx_67, kx_68, kx_69, kx_197, kx_198, kx_199, kx_200, kx_201, kx_202, kx_203, kx_204, kx_205, kx_206, kx_207, kx_208, kx_209, kx_210, rx_0_0, rx_0_1, rx_0_2, rx_0_3, rx_0_4, rx_0_5, rx_0_6, rx_0_7, rx_1_0, rx_1_1, rx_2_3, rx_2_4, rx_2_5, rx_2_6, rx_2_7, rx_2_8, rx_2_9, rx_10_0, rx_10_1, rx_10_2, rx_33_0, rx_33_1, rx_67_0, rx_68_0, rx_197_0, rx_199_5, rx_199_6, rx_199_7, rx_203_0, rx_203_1, rx_203_2, rx_206_0, rx_206_1, rx_206_2, rx_206_3, Option.bind_some, Option.toList_some, Option.toList_none, List.cons_append, List.nil_append, ↓reduceIte, p_133, p_135, p_136, decide_eq_true hv, decide_eq_true hw, decide_eq_true hz, decide_eq_true ht, zi_bI_t, e]
      have S := Sc'
      have g14 : zv 1 140 0 [.long (zh_l hc' 67 8), .double 1, .long 279936, .double 1, .double 0, .double 0, .double 0, .double 0, .double 0, .double 0, .double 0] [] hc' = some (some (.long (nL (K * g))), hc') := by
        have q := gd_j (h := hc') (y0 := nL (K * sm)) (y2 := 279936) 19 (K * sm) 279936 0 (by decide) (by decide) (by omega) (by decide) (u9 := .double 0) (u10 := .double 0)
        rw [eG] at q
        rw [b140_0, t8]
        exact q
      have go2 : zv 17 122 47 [.ref 0, .int (nI c0), .int (nI n), .int (nI a0), .int t, u5, u6] [] hc' = if 0 < lg_cmp (nL (K * g)) 0 then zv 17 122 73 [.ref 0, .int (nI c0), .int (nI n), .int (nI a0), .int t, .long (nL (K * g)), .double 1] [] hc' else zv 17 122 69 [.ref 0, .int (nI c0), .int (nI n), .int (nI a0), .int t, .long (nL (K * g)), .double 1] [] hc' := by
        simp +decide only [b122_47, b122_60, S.n, S.k, S.r, hp_n_wi, hp_k_wi, hp_r_wi, hp_n_wl, hp_k_wl, hp_r_wl, hp_n_wb, hp_k_wb, hp_r_wb, zq_rf, kx_0, kx_1, kx_2, kx_3, kx_4, kx_5, kx_6, kx_7, kx_8, kx_9, kx_10, kx_11, kx_12, kx_13, kx_14, kx_15, kx_16, kx_17, kx_33, kx_34, kx_50, kx_66, kx_67, kx_68, kx_69, kx_197, kx_198, kx_199, kx_200, kx_201, kx_202, kx_203, kx_204, kx_205, kx_206, kx_207, kx_208, kx_209, kx_210, rx_0_0, rx_0_1, rx_0_2, rx_0_3, rx_0_4, rx_0_5, rx_0_6, rx_0_7, rx_1_0, rx_1_1, rx_2_3, rx_2_4, rx_2_5, rx_2_6, rx_2_7, rx_2_8, rx_2_9, rx_10_0, rx_10_1, rx_10_2, rx_33_0, rx_33_1, rx_67_0, rx_68_0, rx_197_0, rx_199_5, rx_199_6, rx_199_7, rx_203_0, rx_203_1, rx_203_2, rx_206_0, rx_206_1, rx_206_2, rx_206_3, Option.bind_some, Option.toList_some, Option.toList_none, List.cons_append, List.nil_append, ↓reduceIte, g14]
      rw [go, go2, if_pos (lg_p (by omega) kg), b122_73]
      by_cases q0 : t = 0
      · rw [if_pos q0, if_pos q0, ← dv sm hsm, ← t8]
        simp +decide only [b122_78, b122_91 nkg, S.n, S.k, S.r, hp_n_wi, hp_k_wi, hp_r_wi, hp_n_wl, hp_k_wl, hp_r_wl, hp_n_wb, hp_k_wb, hp_r_wb, zq_rf, kx_0, kx_1, kx_2, kx_3, kx_4, kx_5, kx_6, kx_7, kx_8, kx_9, kx_10, kx_11, kx_12, kx_13, kx_14, kx_15, kx_16, kx_17, kx_33, kx_34, kx_50, kx_66, kx_67, kx_68, kx_69, kx_197, kx_198, kx_199, kx_200, kx_201, kx_202, kx_203, kx_204, kx_205, kx_206, kx_207, kx_208, kx_209, kx_210, rx_0_0, rx_0_1, rx_0_2, rx_0_3, rx_0_4, rx_0_5, rx_0_6, rx_0_7, rx_1_0, rx_1_1, rx_2_3, rx_2_4, rx_2_5, rx_2_6, rx_2_7, rx_2_8, rx_2_9, rx_10_0, rx_10_1, rx_10_2, rx_33_0, rx_33_1, rx_67_0, rx_68_0, rx_197_0, rx_199_5, rx_199_6, rx_199_7, rx_203_0, rx_203_1, rx_203_2, rx_206_0, rx_206_1, rx_206_2, rx_206_3, Option.bind_some, Option.toList_some, Option.toList_none, List.cons_append, List.nil_append, ↓reduceIte]
      · rw [if_neg q0, if_neg q0, b122_88, b122_91 nkg, hz7, dv Q (Nat.le_refl _)]
    · have hz : True := trivial
      have hy : ¬ (nI (2 * c0 + a0) < 0 ∨ 6 ≤ (nI (2 * c0 + a0)).toNatClampNeg) := zj_n (by omega) (by decide)
      have htv : (0 : Int32) ≤ t ∧ t ≤ 1 := by rcases ht with rfl | rfl <;> decide
      rw [b223_0, q_asV h1 h2 h3]
      simp only [Option.bind_some, Option.toList_some, Option.toList_none, List.cons_append, List.nil_append]
      rw [b223_6, if_neg (by decide), b223_9, b196_0, show (0 : Int64) = (0 : Int32).toInt64 from rfl, show (1 : Int64) = (1 : Int32).toInt64 from rfl, c_inI]
      simp only [Option.bind_some, Option.toList_some, Option.toList_none, List.cons_append, List.nil_append]
      rw [if_pos htv, b196_7 (Or.inr rfl)]
      simp only [Option.bind_some, Option.toList_some, Option.toList_none, List.cons_append, List.nil_append]
      rw [b223_14, if_neg (by decide), b223_21 (S_g0 S) (S_g1 S), er]
      simp only [Option.bind_some, Option.toList_some, Option.toList_none, List.cons_append, List.nil_append]
      have S := Sr'
      have r26 : zh_r hr' 211 26 = .ref 226 := by rw [S.r, rx_211_26]
      have r34 : zh_r hr' 211 34 = .ref 229 := by rw [S.r, rx_211_34]
      have q := gc_o (h := hr') (y0 := nL Q) (y2 := nL sm) (sm + 1) Q sm (Nat.lt_succ_self _) (by omega) (by omega) (u8 := .double 0) (u9 := .double 0)
      rw [← eg] at q
      rw [b223_26 (by simp +decide only [S.n, S.k, S.r, hp_n_wi, hp_k_wi, hp_r_wi, hp_n_wl, hp_k_wl, hp_r_wl, zq_rf, kx_211, kx_212, kx_221, kx_222, kx_223, kx_224, kx_225, kx_226, kx_227, kx_228, kx_229, rx_211_0, rx_211_21, rx_211_22, rx_211_23, rx_211_24, rx_211_25, rx_211_26, rx_211_32, rx_211_33, rx_211_34, hz, hy]) (by simp +decide only [S.n, S.k, S.r, hp_n_wi, hp_k_wi, hp_r_wi, hp_n_wl, hp_k_wl, hp_r_wl, zq_rf, kx_211, kx_212, kx_221, kx_222, kx_223, kx_224, kx_225, kx_226, kx_227, kx_228, kx_229, rx_211_0, rx_211_21, rx_211_22, rx_211_23, rx_211_24, rx_211_25, rx_211_26, rx_211_32, rx_211_33, rx_211_34, hz, hy]) (by simp +decide only [S.n, S.k, S.r, hp_n_wi, hp_k_wi, hp_r_wi, hp_n_wl, hp_k_wl, hp_r_wl, zq_rf, kx_211, kx_212, kx_221, kx_222, kx_223, kx_224, kx_225, kx_226, kx_227, kx_228, kx_229, rx_211_0, rx_211_21, rx_211_22, rx_211_23, rx_211_24, rx_211_25, rx_211_26, rx_211_32, rx_211_33, rx_211_34, hz, hy]) (by simp +decide only [S.n, S.k, S.r, hp_n_wi, hp_k_wi, hp_r_wi, hp_n_wl, hp_k_wl, hp_r_wl, zq_rf, kx_211, kx_212, kx_221, kx_222, kx_223, kx_224, kx_225, kx_226, kx_227, kx_228, kx_229, rx_211_0, rx_211_21, rx_211_22, rx_211_23, rx_211_24, rx_211_25, rx_211_26, rx_211_32, rx_211_33, rx_211_34, hz, hy]) (by simp +decide only [S.n, S.k, S.r, hp_n_wi, hp_k_wi, hp_r_wi, hp_n_wl, hp_k_wl, hp_r_wl, zq_rf, kx_211, kx_212, kx_221, kx_222, kx_223, kx_224, kx_225, kx_226, kx_227, kx_228, kx_229, rx_211_0, rx_211_21, rx_211_22, rx_211_23, rx_211_24, rx_211_25, rx_211_26, rx_211_32, rx_211_33, rx_211_34, hz, hy]) (by simp +decide only [S.n, S.k, S.r, hp_n_wi, hp_k_wi, hp_r_wi, hp_n_wl, hp_k_wl, hp_r_wl, zq_rf, kx_211, kx_212, kx_221, kx_222, kx_223, kx_224, kx_225, kx_226, kx_227, kx_228, kx_229, rx_211_0, rx_211_21, rx_211_22, rx_211_23, rx_211_24, rx_211_25, rx_211_26, rx_211_32, rx_211_33, rx_211_34, hz, hy]) (by simp +decide only [S.n, S.k, S.r, hp_n_wi, hp_k_wi, hp_r_wi, hp_n_wl, hp_k_wl, hp_r_wl, zq_rf, kx_211, kx_212, kx_221, kx_222, kx_223, kx_224, kx_225, kx_226, kx_227, kx_228, kx_229, rx_211_0, rx_211_21, rx_211_22, rx_211_23, rx_211_24, rx_211_25, rx_211_26, rx_211_32, rx_211_33, rx_211_34, hz, hy]) (by simp +decide only [S.n, S.k, S.r, hp_n_wi, hp_k_wi, hp_r_wi, hp_n_wl, hp_k_wl, hp_r_wl, zq_rf, kx_211, kx_212, kx_221, kx_222, kx_223, kx_224, kx_225, kx_226, kx_227, kx_228, kx_229, rx_211_0, rx_211_21, rx_211_22, rx_211_23, rx_211_24, rx_211_25, rx_211_26, rx_211_32, rx_211_33, rx_211_34, hz, hy]) (by rw [nI_i2]; exact (by simp +decide only [S.n, S.k, S.r, hp_n_wi, hp_k_wi, hp_r_wi, hp_n_wl, hp_k_wl, hp_r_wl, zq_rf, kx_211, kx_212, kx_221, kx_222, kx_223, kx_224, kx_225, kx_226, kx_227, kx_228, kx_229, rx_211_0, rx_211_21, rx_211_22, rx_211_23, rx_211_24, rx_211_25, rx_211_26, rx_211_32, rx_211_33, rx_211_34, hz, hy])) (by simp +decide only [S.n, S.k, S.r, hp_n_wi, hp_k_wi, hp_r_wi, hp_n_wl, hp_k_wl, hp_r_wl, zq_rf, kx_211, kx_212, kx_221, kx_222, kx_223, kx_224, kx_225, kx_226, kx_227, kx_228, kx_229, rx_211_0, rx_211_21, rx_211_22, rx_211_23, rx_211_24, rx_211_25, rx_211_26, rx_211_32, rx_211_33, rx_211_34, hz, hy]), r26, r34, zq_rf, zq_rf, nI_i2, nI_clamp (n := 2 * c0 + a0) (by omega), t226, t229, b222_0, q]
      simp only [Option.bind_some, Option.toList_some, Option.toList_none, List.cons_append, List.nil_append]
      rw [b223_45]
      by_cases q0 : t = 0
      · rw [if_pos q0, if_pos q0, b223_52 (by simp +decide only [S.n, S.k, S.r, hp_n_wi, hp_k_wi, hp_r_wi, hp_n_wl, hp_k_wl, hp_r_wl, zq_rf, kx_211, kx_212, kx_221, kx_222, kx_223, kx_224, kx_225, kx_226, kx_227, kx_228, kx_229, rx_211_0, rx_211_21, rx_211_22, rx_211_23, rx_211_24, rx_211_25, rx_211_26, rx_211_32, rx_211_33, rx_211_34, hz, hy]) (by simp +decide only [S.n, S.k, S.r, hp_n_wi, hp_k_wi, hp_r_wi, hp_n_wl, hp_k_wl, hp_r_wl, zq_rf, kx_211, kx_212, kx_221, kx_222, kx_223, kx_224, kx_225, kx_226, kx_227, kx_228, kx_229, rx_211_0, rx_211_21, rx_211_22, rx_211_23, rx_211_24, rx_211_25, rx_211_26, rx_211_32, rx_211_33, rx_211_34, hz, hy]) (by simp +decide only [S.n, S.k, S.r, hp_n_wi, hp_k_wi, hp_r_wi, hp_n_wl, hp_k_wl, hp_r_wl, zq_rf, kx_211, kx_212, kx_221, kx_222, kx_223, kx_224, kx_225, kx_226, kx_227, kx_228, kx_229, rx_211_0, rx_211_21, rx_211_22, rx_211_23, rx_211_24, rx_211_25, rx_211_26, rx_211_32, rx_211_33, rx_211_34, hz, hy]) (by simp +decide only [S.n, S.k, S.r, hp_n_wi, hp_k_wi, hp_r_wi, hp_n_wl, hp_k_wl, hp_r_wl, zq_rf, kx_211, kx_212, kx_221, kx_222, kx_223, kx_224, kx_225, kx_226, kx_227, kx_228, kx_229, rx_211_0, rx_211_21, rx_211_22, rx_211_23, rx_211_24, rx_211_25, rx_211_26, rx_211_32, rx_211_33, rx_211_34, hz, hy]) (by rw [nI_i2]; exact (by simp +decide only [S.n, S.k, S.r, hp_n_wi, hp_k_wi, hp_r_wi, hp_n_wl, hp_k_wl, hp_r_wl, zq_rf, kx_211, kx_212, kx_221, kx_222, kx_223, kx_224, kx_225, kx_226, kx_227, kx_228, kx_229, rx_211_0, rx_211_21, rx_211_22, rx_211_23, rx_211_24, rx_211_25, rx_211_26, rx_211_32, rx_211_33, rx_211_34, hz, hy])) (by simp +decide only [S.n, S.k, S.r, hp_n_wi, hp_k_wi, hp_r_wi, hp_n_wl, hp_k_wl, hp_r_wl, zq_rf, kx_211, kx_212, kx_221, kx_222, kx_223, kx_224, kx_225, kx_226, kx_227, kx_228, kx_229, rx_211_0, rx_211_21, rx_211_22, rx_211_23, rx_211_24, rx_211_25, rx_211_26, rx_211_32, rx_211_33, rx_211_34, hz, hy]) ng, b223_77, r34, zq_rf, nI_i2, nI_clamp (n := 2 * c0 + a0) (by omega), t229, nL_div (by omega) (by omega)]
      · rw [if_neg q0, if_neg q0, b223_68 (by simp +decide only [S.n, S.k, S.r, hp_n_wi, hp_k_wi, hp_r_wi, hp_n_wl, hp_k_wl, hp_r_wl, zq_rf, kx_211, kx_212, kx_221, kx_222, kx_223, kx_224, kx_225, kx_226, kx_227, kx_228, kx_229, rx_211_0, rx_211_21, rx_211_22, rx_211_23, rx_211_24, rx_211_25, rx_211_26, rx_211_32, rx_211_33, rx_211_34, hz, hy]) (by simp +decide only [S.n, S.k, S.r, hp_n_wi, hp_k_wi, hp_r_wi, hp_n_wl, hp_k_wl, hp_r_wl, zq_rf, kx_211, kx_212, kx_221, kx_222, kx_223, kx_224, kx_225, kx_226, kx_227, kx_228, kx_229, rx_211_0, rx_211_21, rx_211_22, rx_211_23, rx_211_24, rx_211_25, rx_211_26, rx_211_32, rx_211_33, rx_211_34, hz, hy]) (by simp +decide only [S.n, S.k, S.r, hp_n_wi, hp_k_wi, hp_r_wi, hp_n_wl, hp_k_wl, hp_r_wl, zq_rf, kx_211, kx_212, kx_221, kx_222, kx_223, kx_224, kx_225, kx_226, kx_227, kx_228, kx_229, rx_211_0, rx_211_21, rx_211_22, rx_211_23, rx_211_24, rx_211_25, rx_211_26, rx_211_32, rx_211_33, rx_211_34, hz, hy]) (by simp +decide only [S.n, S.k, S.r, hp_n_wi, hp_k_wi, hp_r_wi, hp_n_wl, hp_k_wl, hp_r_wl, zq_rf, kx_211, kx_212, kx_221, kx_222, kx_223, kx_224, kx_225, kx_226, kx_227, kx_228, kx_229, rx_211_0, rx_211_21, rx_211_22, rx_211_23, rx_211_24, rx_211_25, rx_211_26, rx_211_32, rx_211_33, rx_211_34, hz, hy]) (by simp +decide only [S.n, S.k, S.r, hp_n_wi, hp_k_wi, hp_r_wi, hp_n_wl, hp_k_wl, hp_r_wl, zq_rf, kx_211, kx_212, kx_221, kx_222, kx_223, kx_224, kx_225, kx_226, kx_227, kx_228, kx_229, rx_211_0, rx_211_21, rx_211_22, rx_211_23, rx_211_24, rx_211_25, rx_211_26, rx_211_32, rx_211_33, rx_211_34, hz, hy]) (by simp +decide only [S.n, S.k, S.r, hp_n_wi, hp_k_wi, hp_r_wi, hp_n_wl, hp_k_wl, hp_r_wl, zq_rf, kx_211, kx_212, kx_221, kx_222, kx_223, kx_224, kx_225, kx_226, kx_227, kx_228, kx_229, rx_211_0, rx_211_21, rx_211_22, rx_211_23, rx_211_24, rx_211_25, rx_211_26, rx_211_32, rx_211_33, rx_211_34, hz, hy]) ng, b223_77, r26, zq_rf, t226, nL_div (by omega) (by omega)]
  · refine ⟨-1, hc, hr, c_ch0 O.1 B, ?_⟩
    by_cases A : AV x w z
    · obtain ⟨c0, n, a0, h1, h2, h3, rfl, rfl, rfl⟩ := AV.ex A
      have ht : ¬ ((0 : Int32) ≤ t ∧ t ≤ 1) := fun q => B ⟨A, by
        obtain ⟨k, hk, rfl⟩ := nI_ex' (b := 1) (by decide) (Int32.not_lt.mpr q.1) (Int32.not_lt.mpr q.2)
        have : k = 0 ∨ k = 1 := by omega
        rcases this with rfl | rfl
        · exact Or.inl rfl
        · exact Or.inr rfl⟩
      rw [b223_0, q_asV h1 h2 h3]
      simp only [Option.bind_some, Option.toList_some, Option.toList_none, List.cons_append, List.nil_append]
      rw [b223_6, if_neg (by decide), b223_9, b196_0, show (0 : Int64) = (0 : Int32).toInt64 from rfl, show (1 : Int64) = (1 : Int32).toInt64 from rfl, c_inI]
      simp only [Option.bind_some, Option.toList_some, Option.toList_none, List.cons_append, List.nil_append]
      rw [if_neg ht, b196_7 (Or.inl rfl)]
      simp only [Option.bind_some, Option.toList_some, Option.toList_none, List.cons_append, List.nil_append]
      rw [b223_14, if_pos rfl, b223_17]
      rfl
    · rw [b223_0, q_asN A]
      simp only [Option.bind_some, Option.toList_some, Option.toList_none, List.cons_append, List.nil_append]
      rw [b223_6, if_pos rfl, b223_17]
theorem rt_4 {v v' : Int64} {a b : zi_Hp} (e : (some (some (.long v), a) : Option zi_Rt) = some (some (.long v'), b)) : v = v' := by injection e with e; injection e with e; injection e with e; injection e
theorem a_chancex (R : R3 L h) (x w z t : Int32) {u5 u6 u7 u8 : Value} : AlL L h (zv 17 122 0 [.ref 0, .int x, .int w, .int z, .int t, u5, u6] [] h) (fun m => zv 8 223 0 [.ref 211, .int x, .int w, .int z, .int t, u7, u8] [] m) := by
  obtain ⟨v, h1, e1, O1, F1⟩ := c_chanw R.2.1 x w z t (u5 := u5) (u6 := u6)
  obtain ⟨v2, h2, e2, O2, F2⟩ := o_chancq (R.1.fc O1.1 F1.1.1.1) x w z t (u5 := u7) (u6 := u8)
  obtain ⟨S1, l1, x1, R2⟩ := R.wk0 O1 F1 O2 F2
  obtain ⟨v3, hc', hr', e3, e4⟩ := j_chance (hr := h1) R.2.1 O1.1 (R.2.2.1.congr (fun j _ => (F1.1.1.1.1 212 j (by decide)).1)) x w z t (u5 := u5) (u6 := u6) (u7 := u7) (u8 := u8)
  rw [e1] at e3
  rw [e2] at e4
  have q1 := rt_4 e3
  have q2 := rt_4 e4
  refine ⟨v, h1, h2, e1, S1, l1, x1, ?_, R2⟩
  show zv 8 223 0 _ _ h1 = _
  rw [e2, q1, q2]
end R34Z4
end
