/-! BOTH SIDES: read -/
/-- what the reference's memory has of the sheets, of its saved row, of the fault -/
def RD (h0 : zi_Hp) (s0 : Nat → Int32) (h1 : zi_Hp) : Prop := (∀ j, zh_i h1 230 j = zh_i h0 230 j) ∧ (∀ j, zh_i h1 231 j = zh_i h0 231 j) ∧ (∀ j, zh_i h1 232 j = zh_i h0 232 j) ∧ (∀ j, j < 387 → zh_i h1 221 j = s0 j) ∧ zh_i h1 211 38 = zh_i h0 0 8
section R34I
variable {h h0 h1 h2 : zi_Hp} {L : Nat} {x x1 : Nat → Nat → Int32} {y y1 : Nat → Nat → Bool} {s s0 s1 : Nat → Int32} {c n : Nat}
theorem wi_id {a k : Nat} {v : Int32} (e : v = zh_i h a k) : zh_wi h a k v = h := by
  subst e
  refine zh_ext rfl rfl (fun _ => rfl) (fun b j => ?_) (fun _ _ => rfl) (fun _ _ => rfl) (fun _ _ => rfl) rfl rfl
  rw [hp_i_wi]
  by_cases q : b = a ∧ j = k
  · rw [if_pos q, q.1, q.2]
  · rw [if_neg q]
theorem r_ceV (S : Sh h) {c j : Nat} (hc : c < 4) (hj : j < 40) : zv 2 25 0 [.ref 203, .int (nI c), .int (nI j)] [] h = some (some (.int (zh_i h (207 + c) j)), h) := by
  have hv : ¬ nI c < 0 ∧ nI c < 4 := ⟨nI_pos (by omega), nI_lt (b := 4) hc (by decide)⟩
  have h0 : ¬ nI j < 0 := nI_pos (by omega)
  have h40 : nI j < 40 := nI_lt (b := 40) hj (by decide)
  have nc : (nI j).toNatClampNeg = j := nI_clamp (by omega)
  have hz : ¬ (nI j < 0 ∨ 40 ≤ j) := by have q := zj_n (N := 40) hj (by decide); rw [nc] at q; exact q
  have : c = 0 ∨ c = 1 ∨ c = 2 ∨ c = 3 := by omega
  rcases this with rfl | rfl | rfl | rfl
  · simp +decide only [b25_0, b25_4, b25_7, b25_11, b25_17, b25_30, S.n, S.k, S.r, hp_n_wi, hp_k_wi, hp_r_wi, hp_n_wl, hp_k_wl, hp_r_wl, hp_n_wb, hp_k_wb, hp_r_wb, zq_rf, kx_0, kx_1, kx_2, kx_3, kx_4, kx_5, kx_6, kx_7, kx_8, kx_9, kx_10, kx_11, kx_12, kx_13, kx_14, kx_15, kx_16, kx_17, kx_33, kx_34, kx_50, kx_66, kx_67, kx_68, kx_69, kx_197, kx_198, kx_199, kx_200, kx_201, kx_202, kx_203, kx_204, kx_205, kx_206, kx_207, kx_208, kx_209, kx_210, rx_0_0, rx_0_1, rx_0_2, rx_0_3, rx_0_4, rx_0_5, rx_0_6, rx_0_7, rx_1_0, rx_1_1, rx_2_3, rx_2_4, rx_2_5, rx_2_6, rx_2_7, rx_2_8, rx_2_9, rx_10_0, rx_10_1, rx_10_2, rx_33_0, rx_33_1, rx_67_0, rx_68_0, rx_197_0, rx_199_5, rx_199_6, rx_199_7, rx_203_0, rx_203_1, rx_203_2, rx_206_0, rx_206_1, rx_206_2, rx_206_3, Option.bind_some, Option.toList_some, Option.toList_none, List.cons_append, List.nil_append, ↓reduceIte, p_138, decide_eq_true hv, zi_bI_t, tc_0, if_neg h0, if_pos h40, nc, hz]
  · simp +decide only [b25_0, b25_4, b25_7, b25_11, b25_17, b25_30, S.n, S.k, S.r, hp_n_wi, hp_k_wi, hp_r_wi, hp_n_wl, hp_k_wl, hp_r_wl, hp_n_wb, hp_k_wb, hp_r_wb, zq_rf, kx_0, kx_1, kx_2, kx_3, kx_4, kx_5, kx_6, kx_7, kx_8, kx_9, kx_10, kx_11, kx_12, kx_13, kx_14, kx_15, kx_16, kx_17, kx_33, kx_34, kx_50, kx_66, kx_67, kx_68, kx_69, kx_197, kx_198, kx_199, kx_200, kx_201, kx_202, kx_203, kx_204, kx_205, kx_206, kx_207, kx_208, kx_209, kx_210, rx_0_0, rx_0_1, rx_0_2, rx_0_3, rx_0_4, rx_0_5, rx_0_6, rx_0_7, rx_1_0, rx_1_1, rx_2_3, rx_2_4, rx_2_5, rx_2_6, rx_2_7, rx_2_8, rx_2_9, rx_10_0, rx_10_1, rx_10_2, rx_33_0, rx_33_1, rx_67_0, rx_68_0, rx_197_0, rx_199_5, rx_199_6, rx_199_7, rx_203_0, rx_203_1, rx_203_2, rx_206_0, rx_206_1, rx_206_2, rx_206_3, Option.bind_some, Option.toList_some, Option.toList_none, List.cons_append, List.nil_append, ↓reduceIte, p_138, decide_eq_true hv, zi_bI_t, tc_1, if_neg h0, if_pos h40, nc, hz]
  · simp +decide only [b25_0, b25_4, b25_7, b25_11, b25_17, b25_30, S.n, S.k, S.r, hp_n_wi, hp_k_wi, hp_r_wi, hp_n_wl, hp_k_wl, hp_r_wl, hp_n_wb, hp_k_wb, hp_r_wb, zq_rf, kx_0, kx_1, kx_2, kx_3, kx_4, kx_5, kx_6, kx_7, kx_8, kx_9, kx_10, kx_11, kx_12, kx_13, kx_14, kx_15, kx_16, kx_17, kx_33, kx_34, kx_50, kx_66, kx_67, kx_68, kx_69, kx_197, kx_198, kx_199, kx_200, kx_201, kx_202, kx_203, kx_204, kx_205, kx_206, kx_207, kx_208, kx_209, kx_210, rx_0_0, rx_0_1, rx_0_2, rx_0_3, rx_0_4, rx_0_5, rx_0_6, rx_0_7, rx_1_0, rx_1_1, rx_2_3, rx_2_4, rx_2_5, rx_2_6, rx_2_7, rx_2_8, rx_2_9, rx_10_0, rx_10_1, rx_10_2, rx_33_0, rx_33_1, rx_67_0, rx_68_0, rx_197_0, rx_199_5, rx_199_6, rx_199_7, rx_203_0, rx_203_1, rx_203_2, rx_206_0, rx_206_1, rx_206_2, rx_206_3, Option.bind_some, Option.toList_some, Option.toList_none, List.cons_append, List.nil_append, ↓reduceIte, p_138, decide_eq_true hv, zi_bI_t, tc_2, if_neg h0, if_pos h40, nc, hz]
  · simp +decide only [b25_0, b25_4, b25_7, b25_11, b25_17, b25_30, S.n, S.k, S.r, hp_n_wi, hp_k_wi, hp_r_wi, hp_n_wl, hp_k_wl, hp_r_wl, hp_n_wb, hp_k_wb, hp_r_wb, zq_rf, kx_0, kx_1, kx_2, kx_3, kx_4, kx_5, kx_6, kx_7, kx_8, kx_9, kx_10, kx_11, kx_12, kx_13, kx_14, kx_15, kx_16, kx_17, kx_33, kx_34, kx_50, kx_66, kx_67, kx_68, kx_69, kx_197, kx_198, kx_199, kx_200, kx_201, kx_202, kx_203, kx_204, kx_205, kx_206, kx_207, kx_208, kx_209, kx_210, rx_0_0, rx_0_1, rx_0_2, rx_0_3, rx_0_4, rx_0_5, rx_0_6, rx_0_7, rx_1_0, rx_1_1, rx_2_3, rx_2_4, rx_2_5, rx_2_6, rx_2_7, rx_2_8, rx_2_9, rx_10_0, rx_10_1, rx_10_2, rx_33_0, rx_33_1, rx_67_0, rx_68_0, rx_197_0, rx_199_5, rx_199_6, rx_199_7, rx_203_0, rx_203_1, rx_203_2, rx_206_0, rx_206_1, rx_206_2, rx_206_3, Option.bind_some, Option.toList_some, Option.toList_none, List.cons_append, List.nil_append, ↓reduceIte, p_138, decide_eq_true hv, zi_bI_t, tc_3, if_neg h0, if_pos h40, nc, hz]
/-- one cell is put, by both -/
theorem j_put (S : Sh h) (G : Gs x y s) (k : Int32) : ∃ (b : Bool) (x' : Nat → Nat → Int32) (y' : Nat → Nat → Bool) (s' : Nat → Int32), zv 7 132 0 [.ref 0, .int k] [] (zC h 1 x y) = some (some (.int (zi_bI b)), zC h 1 x' y') ∧ Gs x' y' s' ∧ ((¬ (nI 0 ≤ k ∧ k ≤ nI 99) ∧ b = false ∧ s' = s) ∨ ((nI 0 ≤ k ∧ k ≤ nI 99) ∧ ∃ v, (b = false ↔ v = -3) ∧ ∀ (h1 : zi_Hp) (q : zQs), Sh h1 → ∃ q', zv 7 179 0 [.ref 211, .int 1, .int k] [] (zQ h1 q s) = some (some (.int v), zQ h1 q' s'))) := by
  have S' : Sh (zC h 1 x y) := zC_S S
  have r00 : zh_r (zC h 1 x y) 0 0 = .ref 1 := by rw [S'.r, rx_0_0]
  rcases in_or k 0 99 (by decide) (by decide) with ⟨n, -, hn, rfl, hx⟩ | hx
  · have hv : ¬ nI n < 0 ∧ nI n < 100 := (rg (b := 99) (by decide)).mpr hx
    obtain ⟨v, x', y', s', e, G', er⟩ := j_does S V1 G (a := 1) (by decide) (k := n) hn
    have e' : zv 6 78 0 [.ref 1, .int 1, .int (nI n), .double 0, .double 0] [] (zC h 1 x y) = some (some (.int v), zC h 1 x' y') := e
    have er' : ∀ (h1 : zi_Hp) (q : zQs), Sh h1 → ∃ q', zv 7 179 0 [.ref 211, .int 1, .int (nI n)] [] (zQ h1 q s) = some (some (.int v), zQ h1 q' s') := fun h1 q S1 => er (q := q) S1
    have S := S'
    by_cases q : v = -3
    · exact ⟨false, x', y', s', by simp +decide only [b132_0, b132_4, b132_7, b132_16, b132_25, b132_26, S.n, S.k, S.r, hp_n_wi, hp_k_wi, hp_r_wi, hp_n_wl, hp_k_wl, hp_r_wl, hp_n_wb, hp_k_wb, hp_r_wb, zq_rf, kx_0, kx_1, kx_2, kx_3, kx_4, kx_5, kx_6, kx_7, kx_8, kx_9, kx_10, kx_11, kx_12, kx_13, kx_14, kx_15, kx_16, kx_17, kx_33, kx_34, kx_50, kx_66, kx_67, kx_68, kx_69, kx_197, kx_198, kx_199, kx_200, kx_201, kx_202, kx_203, kx_204, kx_205, kx_206, kx_207, kx_208, kx_209, kx_210, rx_0_0, rx_0_1, rx_0_2, rx_0_3, rx_0_4, rx_0_5, rx_0_6, rx_0_7, rx_1_0, rx_1_1, rx_2_3, rx_2_4, rx_2_5, rx_2_6, rx_2_7, rx_2_8, rx_2_9, rx_10_0, rx_10_1, rx_10_2, rx_33_0, rx_33_1, rx_67_0, rx_68_0, rx_197_0, rx_199_5, rx_199_6, rx_199_7, rx_203_0, rx_203_1, rx_203_2, rx_206_0, rx_206_1, rx_206_2, rx_206_3, Option.bind_some, Option.toList_some, Option.toList_none, List.cons_append, List.nil_append, ↓reduceIte, p_134, decide_eq_true hv, zi_bI_t, zi_bI_f, e', if_pos q], G', Or.inr ⟨hx, v, ⟨fun _ => q, fun _ => rfl⟩, er'⟩⟩
    · exact ⟨true, x', y', s', by simp +decide only [b132_0, b132_4, b132_7, b132_16, b132_21, b132_26, S.n, S.k, S.r, hp_n_wi, hp_k_wi, hp_r_wi, hp_n_wl, hp_k_wl, hp_r_wl, hp_n_wb, hp_k_wb, hp_r_wb, zq_rf, kx_0, kx_1, kx_2, kx_3, kx_4, kx_5, kx_6, kx_7, kx_8, kx_9, kx_10, kx_11, kx_12, kx_13, kx_14, kx_15, kx_16, kx_17, kx_33, kx_34, kx_50, kx_66, kx_67, kx_68, kx_69, kx_197, kx_198, kx_199, kx_200, kx_201, kx_202, kx_203, kx_204, kx_205, kx_206, kx_207, kx_208, kx_209, kx_210, rx_0_0, rx_0_1, rx_0_2, rx_0_3, rx_0_4, rx_0_5, rx_0_6, rx_0_7, rx_1_0, rx_1_1, rx_2_3, rx_2_4, rx_2_5, rx_2_6, rx_2_7, rx_2_8, rx_2_9, rx_10_0, rx_10_1, rx_10_2, rx_33_0, rx_33_1, rx_67_0, rx_68_0, rx_197_0, rx_199_5, rx_199_6, rx_199_7, rx_203_0, rx_203_1, rx_203_2, rx_206_0, rx_206_1, rx_206_2, rx_206_3, Option.bind_some, Option.toList_some, Option.toList_none, List.cons_append, List.nil_append, ↓reduceIte, p_134, decide_eq_true hv, zi_bI_t, zi_bI_f, e', if_neg q], G', Or.inr ⟨hx, v, ⟨fun w => absurd w (by decide), fun w => absurd w q⟩, er'⟩⟩
  · have hv : ¬ (¬ k < 0 ∧ k < 100) := fun q => hx ((rg (b := 99) (by decide)).mp q)
    have S := S'
    exact ⟨false, x, y, s, by simp +decide only [b132_0, b132_4, b132_25, b132_26, S.n, S.k, S.r, hp_n_wi, hp_k_wi, hp_r_wi, hp_n_wl, hp_k_wl, hp_r_wl, hp_n_wb, hp_k_wb, hp_r_wb, zq_rf, kx_0, kx_1, kx_2, kx_3, kx_4, kx_5, kx_6, kx_7, kx_8, kx_9, kx_10, kx_11, kx_12, kx_13, kx_14, kx_15, kx_16, kx_17, kx_33, kx_34, kx_50, kx_66, kx_67, kx_68, kx_69, kx_197, kx_198, kx_199, kx_200, kx_201, kx_202, kx_203, kx_204, kx_205, kx_206, kx_207, kx_208, kx_209, kx_210, rx_0_0, rx_0_1, rx_0_2, rx_0_3, rx_0_4, rx_0_5, rx_0_6, rx_0_7, rx_1_0, rx_1_1, rx_2_3, rx_2_4, rx_2_5, rx_2_6, rx_2_7, rx_2_8, rx_2_9, rx_10_0, rx_10_1, rx_10_2, rx_33_0, rx_33_1, rx_67_0, rx_68_0, rx_197_0, rx_199_5, rx_199_6, rx_199_7, rx_203_0, rx_203_1, rx_203_2, rx_206_0, rx_206_1, rx_206_2, rx_206_3, Option.bind_some, Option.toList_some, Option.toList_none, List.cons_append, List.nil_append, ↓reduceIte, p_134, decide_eq_false hv, zi_bI_f], G, Or.inl ⟨hx, rfl, rfl⟩⟩
theorem ci_q {q : zQs} (e : ∀ j, j < 387 → zh_i h 221 (387 * 0 + j) = s0 j) : zh_ci (zQ h q s) 221 (387 * 0) 212 0 387 = zQ h q (fun j => if j < 387 then s0 j else s j) := by
  refine zh_ext rfl rfl (fun _ => rfl) (fun b j => ?_) (fun _ _ => rfl) (fun _ _ => rfl) (fun _ _ => rfl) rfl rfl
  rw [hp_i_ci]
  by_cases q1 : b = 212
  · subst q1
    rw [zQ_212, zQ_212]
    by_cases q2 : j < 387
    · rw [if_pos ⟨rfl, by omega, by omega⟩, if_pos q2, zQ_o _ (by decide) (by decide) (by decide) (by decide), Nat.sub_zero, e j q2]
    · rw [if_neg (fun w => by omega), if_neg q2]
  · rw [if_neg (fun w => q1 w.1)]
    by_cases q2 : b = 215
    · subst q2; rw [zQ_215, zQ_215]
    · by_cases q3 : b = 216
      · subst q3; rw [zQ_216, zQ_216]
      · by_cases q4 : b = 211
        · subst q4
          by_cases q5 : j = 5
          · subst q5; rw [zQ_2115, zQ_2115]
          · rw [zQ_211 q5, zQ_211 q5]
        · rw [zQ_o j q4 q1 q2 q3, zQ_o j q4 q1 q2 q3]
theorem j_rdL (g0 : GO h0) (X0 : SHT h0) (C0 : SC h0) (hc : c < 4) (hn : n ≤ 40) (Gp : Gs (wx h0 17) (wy h0 17) s0) {l f : Int32} : ∀ d i, i + d = n → ∀ {x : Nat → Nat → Int32} {y : Nat → Nat → Bool} {s : Nat → Int32} {u6 : Value}, Gs x y s → ∃ (v : Int32) (x' : Nat → Nat → Int32) (y' : Nat → Nat → Bool) (s' : Nat → Int32) (t : Int32), zv 8 129 70 [.ref 0, .int (nI c), .int l, .int f, .int (nI n), .int (nI i), u6] [] (zC h0 1 x y) = some (some (.int v), zh_wi (zC h0 1 x' y') 0 8 t) ∧ Gs x' y' s' ∧ ∀ (h1 : zi_Hp) (q : zQs) (u8 u9 u10 : Value), Sh h1 → RD h0 s0 h1 → ∃ q', zv 8 237 56 [.ref 211, .int (nI c), .int l, .int f, .int (nI n), .int 0, .int (nI i), .int (nI i), u8, u9, u10] [] (zQ h1 q s) = some (some (.int v), zh_wi (zQ h1 q' s') 211 38 t)
  | 0, i, hi, x, y, s, u6, G => by
    have e : i = n := by omega
    subst e
    have S : Sh (zC h0 1 x y) := zC_S g0.1
    have lt : ¬ nI i < nI i := Int32.lt_irrefl
    refine ⟨nI i, x, y, s, 0, by simp +decide only [b129_70, b129_148, S.n, S.k, S.r, hp_n_wi, hp_k_wi, hp_r_wi, hp_n_wl, hp_k_wl, hp_r_wl, hp_n_wb, hp_k_wb, hp_r_wb, zq_rf, kx_0, kx_1, kx_2, kx_3, kx_4, kx_5, kx_6, kx_7, kx_8, kx_9, kx_10, kx_11, kx_12, kx_13, kx_14, kx_15, kx_16, kx_17, kx_33, kx_34, kx_50, kx_66, kx_67, kx_68, kx_69, kx_197, kx_198, kx_199, kx_200, kx_201, kx_202, kx_203, kx_204, kx_205, kx_206, kx_207, kx_208, kx_209, kx_210, rx_0_0, rx_0_1, rx_0_2, rx_0_3, rx_0_4, rx_0_5, rx_0_6, rx_0_7, rx_1_0, rx_1_1, rx_2_3, rx_2_4, rx_2_5, rx_2_6, rx_2_7, rx_2_8, rx_2_9, rx_10_0, rx_10_1, rx_10_2, rx_33_0, rx_33_1, rx_67_0, rx_68_0, rx_197_0, rx_199_5, rx_199_6, rx_199_7, rx_203_0, rx_203_1, rx_203_2, rx_206_0, rx_206_1, rx_206_2, rx_206_3, Option.bind_some, Option.toList_some, Option.toList_none, List.cons_append, List.nil_append, ↓reduceIte, if_neg lt], G, fun h1 q u8 u9 u10 S1 D => ⟨q, ?_⟩⟩
    rw [b237_56, if_neg lt, b237_198 (q_g0 S1) (q_g1 S1)]
  | d + 1, i, hi, x, y, s, u6, G => by
    have O : GO (zC h0 1 x y) := g0.zC V1 G.gw
    have S : Sh (zC h0 1 x y) := O.1
    have nc : (nI c).toNatClampNeg = c := nI_clamp (by omega)
    have lt : nI i < nI n := nI_lt (by omega) (by omega)
    have i4 : zh_i (zC h0 1 x y) 204 c = zh_i h0 204 c := zC_io c (by decide)
    have i5 : zh_i (zC h0 1 x y) 205 c = zh_i h0 205 c := zC_io c (by decide)
    have ew := s_fav O hc l (f + nI i)
    rw [i4, i5] at ew
    have hz4 : ¬ (nI c < 0 ∨ 4 ≤ (nI c).toNatClampNeg) := zj_n hc (by decide)
    have rp : ∀ (h1 : zi_Hp) (q : zQs) (u8 u9 u10 : Value), Sh h1 → RD h0 s0 h1 → zv 8 237 56 [.ref 211, .int (nI c), .int l, .int f, .int (nI n), .int 0, .int (nI i), .int (nI i), u8, u9, u10] [] (zQ h1 q s) = if zh_i h0 230 c = -4 then zv 8 237 130 [.ref 211, .int (nI c), .int l, .int f, .int (nI n), .int 0, .int (nI i), .int (nI i), .long (f.toInt64 + (nI i).toInt64), .double 1, u10] [.int 1] (zQ h1 q s) else if zh_i h0 230 c = l then zv 8 237 105 [.ref 211, .int (nI c), .int l, .int f, .int (nI n), .int 0, .int (nI i), .int (nI i), .long (f.toInt64 + (nI i).toInt64), .double 1, u10] [] (zQ h1 q s) else zv 8 237 130 [.ref 211, .int (nI c), .int l, .int f, .int (nI n), .int 0, .int (nI i), .int (nI i), .long (f.toInt64 + (nI i).toInt64), .double 1, u10] [.int 3] (zQ h1 q s) := fun h1 q u8 u9 u10 S1 D => by
      have S : Sh (zQ h1 q s) := zQ_S S1
      have r35 : zh_r (zQ h1 q s) 211 35 = .ref 230 := by rw [S.r, rx_211_35]
      have e30 : zh_i (zQ h1 q s) 230 c = zh_i h0 230 c := by rw [zQ_o c (by decide) (by decide) (by decide) (by decide)]; exact D.1 c
      rw [b237_56, if_pos lt, b237_63, if_pos rfl, b237_68 (S_g0 S) (S_g1 S) (by rw [r35, zq_rf]) (by rw [r35, zq_rf, S.n]; decide) (by rw [r35, zq_rf, S.k, kx_230]; exact hz4) (by rw [r35, zq_rf, S.k, kx_230]), r35, zq_rf, nc, e30]
      by_cases hl : zh_i h0 230 c = -4
      · rw [if_pos hl, if_pos hl, b237_87]
      · rw [if_neg hl, if_neg hl, b237_91 (S_g0 S) (S_g1 S) (by rw [r35, zq_rf]) (by rw [r35, zq_rf, S.n]; decide) (by rw [r35, zq_rf, S.k, kx_230]; exact hz4) (by rw [r35, zq_rf, S.k, kx_230]), r35, zq_rf, nc, e30]
        by_cases hl2 : zh_i h0 230 c = l
        · rw [if_pos hl2, if_pos hl2]
        · rw [if_neg hl2, if_neg hl2, b237_101]
    have rf : ∀ (h1 : zi_Hp) (q : zQs) (y8 : Int64) (u10 : Value) (t : Int32), Sh h1 → ¬ t = 0 → zv 8 237 130 [.ref 211, .int (nI c), .int l, .int f, .int (nI n), .int 0, .int (nI i), .int (nI i), .long y8, .double 1, u10] [.int t] (zQ h1 q s) = some (some (.int (nI i)), zh_wi (zQ h1 q s) 211 38 t) := fun h1 q y8 u10 t S1 ht => by
      rw [b237_130, if_neg ht, b237_192, nI_s, b237_56]
      by_cases lt2 : nI (i + 1) < nI n
      · rw [if_pos lt2, b237_63, if_neg ht, b237_198 (q_g0 S1) (q_g1 S1)]
      · rw [if_neg lt2, b237_198 (q_g0 S1) (q_g1 S1)]
    have fault : ∀ t : Int32, ¬ t = 0 → faV (zh_i h0 204 c) (zh_i h0 205 c) l (f + nI i) = t → (∀ (h1 : zi_Hp) (q : zQs) (u8 u9 u10 : Value), Sh h1 → RD h0 s0 h1 → ∃ y8, zv 8 237 56 [.ref 211, .int (nI c), .int l, .int f, .int (nI n), .int 0, .int (nI i), .int (nI i), u8, u9, u10] [] (zQ h1 q s) = zv 8 237 130 [.ref 211, .int (nI c), .int l, .int f, .int (nI n), .int 0, .int (nI i), .int (nI i), .long y8, .double 1, u10] [.int t] (zQ h1 q s)) → ∃ (v : Int32) (x' : Nat → Nat → Int32) (y' : Nat → Nat → Bool) (s' : Nat → Int32) (t : Int32), zv 8 129 70 [.ref 0, .int (nI c), .int l, .int f, .int (nI n), .int (nI i), u6] [] (zC h0 1 x y) = some (some (.int v), zh_wi (zC h0 1 x' y') 0 8 t) ∧ Gs x' y' s' ∧ ∀ (h1 : zi_Hp) (q : zQs) (u8 u9 u10 : Value), Sh h1 → RD h0 s0 h1 → ∃ q', zv 8 237 56 [.ref 211, .int (nI c), .int l, .int f, .int (nI n), .int 0, .int (nI i), .int (nI i), u8, u9, u10] [] (zQ h1 q s) = some (some (.int v), zh_wi (zQ h1 q' s') 211 38 t) := fun t ht hf er => by
      rw [hf] at ew
      refine ⟨nI i, x, y, s, t, by simp +decide only [b129_70, b129_77, b129_90, b129_97, S.n, S.k, S.r, hp_n_wi, hp_k_wi, hp_r_wi, hp_n_wl, hp_k_wl, hp_r_wl, hp_n_wb, hp_k_wb, hp_r_wb, zq_rf, kx_0, kx_1, kx_2, kx_3, kx_4, kx_5, kx_6, kx_7, kx_8, kx_9, kx_10, kx_11, kx_12, kx_13, kx_14, kx_15, kx_16, kx_17, kx_33, kx_34, kx_50, kx_66, kx_67, kx_68, kx_69, kx_197, kx_198, kx_199, kx_200, kx_201, kx_202, kx_203, kx_204, kx_205, kx_206, kx_207, kx_208, kx_209, kx_210, rx_0_0, rx_0_1, rx_0_2, rx_0_3, rx_0_4, rx_0_5, rx_0_6, rx_0_7, rx_1_0, rx_1_1, rx_2_3, rx_2_4, rx_2_5, rx_2_6, rx_2_7, rx_2_8, rx_2_9, rx_10_0, rx_10_1, rx_10_2, rx_33_0, rx_33_1, rx_67_0, rx_68_0, rx_197_0, rx_199_5, rx_199_6, rx_199_7, rx_203_0, rx_203_1, rx_203_2, rx_206_0, rx_206_1, rx_206_2, rx_206_3, Option.bind_some, Option.toList_some, Option.toList_none, List.cons_append, List.nil_append, ↓reduceIte, if_pos lt, ew, if_neg ht], G, fun h1 q u8 u9 u10 S1 D => ⟨q, ?_⟩⟩
      obtain ⟨y8, e8⟩ := er h1 q u8 u9 u10 S1 D
      rw [e8, rf h1 q y8 u10 t S1 ht]
    rcases X0 c hc with ⟨t1, t2⟩ | ⟨t1, t2, z, hz, t3, t4⟩
    · exact fault 1 (by decide) (by unfold faV; rw [t1, if_pos (by decide)]) (fun h1 q u8 u9 u10 S1 D => ⟨_, by rw [rp h1 q u8 u9 u10 S1 D, if_pos t2]⟩)
    · have hle : ¬ zh_i h0 204 c < 0 := by rw [t3]; exact nI_pos (by omega)
      by_cases hl2 : zh_i h0 230 c = l
      · have hl5 : zh_i h0 205 c = l := t2.trans hl2
        have rq : ∀ (h1 : zi_Hp) (q : zQs) (u8 u9 u10 : Value), Sh h1 → RD h0 s0 h1 → zv 8 237 56 [.ref 211, .int (nI c), .int l, .int f, .int (nI n), .int 0, .int (nI i), .int (nI i), u8, u9, u10] [] (zQ h1 q s) = if 0 ≤ f.toInt + i ∧ f.toInt + i < z then zv 8 237 130 [.ref 211, .int (nI c), .int l, .int f, .int (nI n), .int 0, .int (nI i), .int (nI i), .long (f.toInt64 + (nI i).toInt64), .double 1, u10] [.int 0] (zQ h1 q s) else zv 8 237 130 [.ref 211, .int (nI c), .int l, .int f, .int (nI n), .int 0, .int (nI i), .int (nI i), .long (f.toInt64 + (nI i).toInt64), .double 1, u10] [.int 2] (zQ h1 q s) := fun h1 q u8 u9 u10 S1 D => by
          have S : Sh (zQ h1 q s) := zQ_S S1
          have r36 : zh_r (zQ h1 q s) 211 36 = .ref 231 := by rw [S.r, rx_211_36]
          have e31 : zh_i (zQ h1 q s) 231 c = nI z := by rw [zQ_o c (by decide) (by decide) (by decide) (by decide)]; exact (D.2.1 c).trans t4
          rw [rp h1 q u8 u9 u10 S1 D, if_neg t1, if_pos hl2, b237_105]
          have c1 : lg_cmp (f.toInt64 + (nI i).toInt64) 0 < 0 ↔ f.toInt + i < 0 := by
            rw [lg_cmp_lt, Int64.lt_iff_toInt_lt, i64_sum (by omega)]; rfl
          have c2 : lg_cmp (f.toInt64 + (nI i).toInt64) (nI z).toInt64 < 0 ↔ f.toInt + i < z := by
            rw [lg_cmp_lt, Int64.lt_iff_toInt_lt, i64_sum (by omega), Int32.toInt_toInt64, nI_toInt (by omega)]
          by_cases hy : f.toInt + i < 0
          · rw [if_pos (c1.mpr hy), if_neg (fun w => by omega), b237_125]
          · rw [if_neg (fun w => hy (c1.mp w)), b237_112 (S_g0 S) (S_g1 S) (by rw [r36, zq_rf]) (by rw [r36, zq_rf, S.n]; decide) (by rw [r36, zq_rf, S.k, kx_231]; exact hz4) (by rw [r36, zq_rf, S.k, kx_231]), r36, zq_rf, nc, e31]
            by_cases hw : f.toInt + i < z
            · rw [if_pos (c2.mpr hw), if_pos ⟨by omega, hw⟩, b237_129]
            · rw [if_neg (fun w => hw (c2.mp w)), if_neg (fun w => hw w.2), b237_125]
        by_cases hp : 0 ≤ f.toInt + i ∧ f.toInt + i < z
        · obtain ⟨p, ep⟩ : ∃ p : Nat, f.toInt + i = p := ⟨(f.toInt + i).toNat, by omega⟩
          have es : f + nI i = nI p := i32_sum (by omega) ep (by omega)
          have hpz : p < z := by omega
          have hfa : faV (zh_i h0 204 c) (zh_i h0 205 c) l (f + nI i) = 0 := by
            unfold faV
            rw [if_neg hle, if_pos hl5, es, if_neg (nI_pos (by omega)), t3, if_pos (nI_lt hpz (by omega))]
          rw [hfa] at ew
          have ec := r_ceV S (c := c) (j := p) hc (by omega)
          rw [zC_io (a := 207 + c) p (by omega), C0 c hc p (by omega)] at ec
          have e40 : (40 : Int32) * nI c + f + nI i = nI (40 * c + p) := by rw [Int32.add_assoc, es, nI_iy]
          obtain ⟨b, x', y', s', e1, G', hb⟩ := j_put g0.1 G (zh_i h0 232 (40 * c + p))
          have O1 : GO (zC h0 1 x' y') := g0.zC V1 G'.gw
          have S' : Sh (zC h0 1 x' y') := O1.1
          have go : zv 8 129 70 [.ref 0, .int (nI c), .int l, .int f, .int (nI n), .int (nI i), u6] [] (zC h0 1 x y) = if zi_bI b = 0 then zv 8 129 125 [.ref 0, .int (nI c), .int l, .int f, .int (nI n), .int (nI i), .int 0] [] (zC h0 1 x' y') else zv 8 129 142 [.ref 0, .int (nI c), .int l, .int f, .int (nI n), .int (nI i), .int 0] [] (zC h0 1 x' y') := by
            rw [es] at ew
            simp +decide only [b129_70, b129_77, b129_90, b129_106, b129_119, b129_122, S.n, S.k, S.r, hp_n_wi, hp_k_wi, hp_r_wi, hp_n_wl, hp_k_wl, hp_r_wl, hp_n_wb, hp_k_wb, hp_r_wb, zq_rf, kx_0, kx_1, kx_2, kx_3, kx_4, kx_5, kx_6, kx_7, kx_8, kx_9, kx_10, kx_11, kx_12, kx_13, kx_14, kx_15, kx_16, kx_17, kx_33, kx_34, kx_50, kx_66, kx_67, kx_68, kx_69, kx_197, kx_198, kx_199, kx_200, kx_201, kx_202, kx_203, kx_204, kx_205, kx_206, kx_207, kx_208, kx_209, kx_210, rx_0_0, rx_0_1, rx_0_2, rx_0_3, rx_0_4, rx_0_5, rx_0_6, rx_0_7, rx_1_0, rx_1_1, rx_2_3, rx_2_4, rx_2_5, rx_2_6, rx_2_7, rx_2_8, rx_2_9, rx_10_0, rx_10_1, rx_10_2, rx_33_0, rx_33_1, rx_67_0, rx_68_0, rx_197_0, rx_199_5, rx_199_6, rx_199_7, rx_203_0, rx_203_1, rx_203_2, rx_206_0, rx_206_1, rx_206_2, rx_206_3, Option.bind_some, Option.toList_some, Option.toList_none, List.cons_append, List.nil_append, ↓reduceIte, if_pos lt, es, ew, ec, e1]
          have rw0 : ∀ (h1 : zi_Hp) (q : zQs) (u8 u9 u10 : Value), Sh h1 → RD h0 s0 h1 → zv 8 237 56 [.ref 211, .int (nI c), .int l, .int f, .int (nI n), .int 0, .int (nI i), .int (nI i), u8, u9, u10] [] (zQ h1 q s) = if (nI 0 ≤ zh_i h0 232 (40 * c + p) ∧ zh_i h0 232 (40 * c + p) ≤ nI 99) then zv 8 237 166 [.ref 211, .int (nI c), .int l, .int f, .int (nI n), .int 0, .int (nI i), .int (nI i), .long (f.toInt64 + (nI i).toInt64), .double 1, .int (zh_i h0 232 (40 * c + p))] [] (zQ h1 q s) else zv 8 237 178 [.ref 211, .int (nI c), .int l, .int f, .int (nI n), .int 0, .int (nI i), .int (nI i), .long (f.toInt64 + (nI i).toInt64), .double 1, .int (zh_i h0 232 (40 * c + p))] [] (zQ h1 q s) := fun h1 q u8 u9 u10 S1 D => by
            have S : Sh (zQ h1 q s) := zQ_S S1
            have r37 : zh_r (zQ h1 q s) 211 37 = .ref 232 := by rw [S.r, rx_211_37]
            have e32 : zh_i (zQ h1 q s) 232 (40 * c + p) = zh_i h0 232 (40 * c + p) := by rw [zQ_o _ (by decide) (by decide) (by decide) (by decide)]; exact D.2.2.1 _
            rw [rq h1 q u8 u9 u10 S1 D, if_pos hp, b237_130, if_pos rfl, b237_137 (S_g0 S) (S_g1 S) (by rw [r37, zq_rf]) (by rw [r37, zq_rf, S.n]; decide) (by rw [r37, zq_rf, S.k, kx_232, e40]; exact zj_n (by omega) (by decide)) (by rw [r37, zq_rf, S.k, kx_232]), r37, zq_rf, e40, nI_clamp (by omega), e32, show (0 : Int64) = (nI 0).toInt64 from rfl, show (99 : Int64) = (nI 99).toInt64 from rfl]
            by_cases hk : nI 0 ≤ zh_i h0 232 (40 * c + p) ∧ zh_i h0 232 (40 * c + p) ≤ nI 99
            · rw [if_pos hk, c_iy hk]
              simp only [Option.bind_some, Option.toList_some, Option.toList_none, List.cons_append, List.nil_append]
              rw [b237_163, if_neg (by decide)]
            · rw [if_neg hk, c_iz hk]
              simp only [Option.bind_some, Option.toList_some, Option.toList_none, List.cons_append, List.nil_append]
              rw [b237_163, if_pos rfl]
          have undo : ∀ (h1 : zi_Hp) (q : zQs) (t : Nat → Int32) (y8 : Int64) (u10 : Int32), Sh h1 → RD h0 s0 h1 → zv 8 237 178 [.ref 211, .int (nI c), .int l, .int f, .int (nI n), .int 0, .int (nI i), .int (nI i), .long y8, .double 1, .int u10] [] (zQ h1 q t) = some (some (.int (-20 - nI i)), zQ h1 q (fun j => if j < 387 then s0 j else t j)) := fun h1 q t y8 u10 S1 D => by
            rw [b237_178 (q_g0 S1) (q_g1 S1), show (0 : Int32) = nI 0 from rfl, c_restores (zQ_S S1) (d := 0) (by decide), ci_q (s0 := s0) (fun j hj => by rw [show 387 * 0 + j = j by omega]; exact D.2.2.2.1 j hj)]
            simp only [Option.bind_some, Option.toList_some, Option.toList_none, List.cons_append, List.nil_append]
            rw [b237_183]
          cases b with
          | true =>
            rcases hb with ⟨-, w, -⟩ | ⟨hk, v, hv, er⟩
            · exact absurd w (by decide)
            · have nv : ¬ v = -3 := fun w => absurd (hv.mpr w) (by decide)
              obtain ⟨v2, x2, y2, s2, t, e2, G2, er2⟩ := j_rdL g0 X0 C0 hc hn Gp (l := l) (f := f) d (i + 1) (by omega) (u6 := .int 0) G'
              refine ⟨v2, x2, y2, s2, t, by rw [go, zi_bI_t, if_neg (by decide), b129_142, nI_s, e2], G2, fun h1 q u8 u9 u10 S1 D => ?_⟩
              obtain ⟨q1, f1⟩ := er h1 q S1
              obtain ⟨q2, f2⟩ := er2 h1 q1 (.long (f.toInt64 + (nI i).toInt64)) (.double 1) (.int (zh_i h0 232 (40 * c + p))) S1 D
              refine ⟨q2, ?_⟩
              rw [rw0 h1 q u8 u9 u10 S1 D, if_pos hk, b237_166 (q_g0 S1) (q_g1 S1), f1]
              simp only [Option.bind_some, Option.toList_some, Option.toList_none, List.cons_append, List.nil_append]
              rw [b237_173, if_neg nv, b237_189, b237_192, nI_s, f2]
          | false =>
            obtain ⟨x3, y3, e3, q3⟩ := k_cw g0.1 V1 V17 (by decide) (x := x') (y := y') (u2' := .double 0)
            have G3 : Gs x3 y3 s0 := Gp.sw q3
            have fin : zv 8 129 125 [.ref 0, .int (nI c), .int l, .int f, .int (nI n), .int (nI i), .int 0] [] (zC h0 1 x' y') = some (some (.int (-20 - nI i)), zC h0 1 x3 y3) := by
              have S := S'
              simp +decide only [b129_125, b129_136, S.n, S.k, S.r, hp_n_wi, hp_k_wi, hp_r_wi, hp_n_wl, hp_k_wl, hp_r_wl, hp_n_wb, hp_k_wb, hp_r_wb, zq_rf, kx_0, kx_1, kx_2, kx_3, kx_4, kx_5, kx_6, kx_7, kx_8, kx_9, kx_10, kx_11, kx_12, kx_13, kx_14, kx_15, kx_16, kx_17, kx_33, kx_34, kx_50, kx_66, kx_67, kx_68, kx_69, kx_197, kx_198, kx_199, kx_200, kx_201, kx_202, kx_203, kx_204, kx_205, kx_206, kx_207, kx_208, kx_209, kx_210, rx_0_0, rx_0_1, rx_0_2, rx_0_3, rx_0_4, rx_0_5, rx_0_6, rx_0_7, rx_1_0, rx_1_1, rx_2_3, rx_2_4, rx_2_5, rx_2_6, rx_2_7, rx_2_8, rx_2_9, rx_10_0, rx_10_1, rx_10_2, rx_33_0, rx_33_1, rx_67_0, rx_68_0, rx_197_0, rx_199_5, rx_199_6, rx_199_7, rx_203_0, rx_203_1, rx_203_2, rx_206_0, rx_206_1, rx_206_2, rx_206_3, Option.bind_some, Option.toList_some, Option.toList_none, List.cons_append, List.nil_append, ↓reduceIte, e3]
            have tid : zh_wi (zC h0 1 x3 y3) 0 8 (zh_i h0 0 8) = zC h0 1 x3 y3 := wi_id (zC_io 8 (by decide)).symm
            have tiq : ∀ (h1 : zi_Hp) (q : zQs) (t : Nat → Int32), RD h0 s0 h1 → zh_wi (zQ h1 q t) 211 38 (zh_i h0 0 8) = zQ h1 q t := fun h1 q t D => wi_id (by rw [zQ_211 (by decide)]; exact D.2.2.2.2.symm)
            rcases hb with ⟨hk, -, es2⟩ | ⟨hk, v, hv, er⟩
            · refine ⟨-20 - nI i, x3, y3, fun j => if j < 387 then s0 j else s j, zh_i h0 0 8, by rw [go, zi_bI_f, if_pos rfl, fin, tid], G3.congr (fun j hj => if_pos hj), fun h1 q u8 u9 u10 S1 D => ⟨q, ?_⟩⟩
              rw [rw0 h1 q u8 u9 u10 S1 D, if_neg hk, undo h1 q s _ _ S1 D, tiq h1 q _ D]
            · refine ⟨-20 - nI i, x3, y3, fun j => if j < 387 then s0 j else s' j, zh_i h0 0 8, by rw [go, zi_bI_f, if_pos rfl, fin, tid], G3.congr (fun j hj => if_pos hj), fun h1 q u8 u9 u10 S1 D => ?_⟩
              obtain ⟨q1, f1⟩ := er h1 q S1
              refine ⟨q1, ?_⟩
              rw [rw0 h1 q u8 u9 u10 S1 D, if_pos hk, b237_166 (q_g0 S1) (q_g1 S1), f1]
              simp only [Option.bind_some, Option.toList_some, Option.toList_none, List.cons_append, List.nil_append]
              rw [b237_173, if_pos (hv.mp rfl), undo h1 q1 s' _ _ S1 D, tiq h1 q1 _ D]
        · refine fault 2 (by decide) ?_ (fun h1 q u8 u9 u10 S1 D => ⟨_, by rw [rq h1 q u8 u9 u10 S1 D, if_neg hp]⟩)
          unfold faV
          rw [if_neg hle, if_pos hl5, t3]
          by_cases q0 : f + nI i < 0
          · rw [if_pos q0]
          · rw [if_neg q0]
            by_cases q1 : f + nI i < nI z
            · exfalso
              obtain ⟨p, hp1, ep⟩ := nI_ex (b := z) (by omega) q0 q1
              have h1 := Int32.toInt_lt f
              have h2 := Int32.le_toInt f
              have et := congrArg Int32.toInt ep
              rw [Int32.toInt_add, nI_toInt (by omega), nI_toInt (by omega)] at et
              by_cases w : f.toInt + i < 2147483648
              · rw [Int.bmod_eq_of_le (by omega) (by omega)] at et
                exact hp ⟨by omega, by omega⟩
              · have e9 : (f.toInt + (i : Int)).bmod (2 ^ 32) = f.toInt + i - 4294967296 := by
                  rw [← Int.sub_bmod_right (f.toInt + (i : Int)) (2 ^ 32)]
                  exact Int.bmod_eq_of_le (by omega) (by omega)
                rw [e9] at et
                omega
            · rw [if_neg q1]
      · exact fault 3 (by decide) (by unfold faV; rw [if_neg hle, if_neg (fun w => hl2 (t2.symm.trans w))]) (fun h1 q u8 u9 u10 S1 D => ⟨_, by rw [rp h1 q u8 u9 u10 S1 D, if_neg t1, if_neg hl2]⟩)
theorem j_lm (S : Sh h) {W : Nat} (V : Wa W) {N R M B : Nat} {L m H r : Nat → Nat} {K C : Nat → Nat → Nat} {f : Nat → Nat} (I : InvG s N R M B L m H r K C f) (T : CR x y s N m) {u1 u2 : Value} : zv 3 98 0 [.ref W, u1, u2] [] (zC h W x y) = some (some (.int (lmF s N)), zC h W x y) := by
  obtain ⟨eN, hN1, hN, hM, hR⟩ := T.tr I
  have e := k_lo S V (x := x) (y := y) eN hN (u1 := u1) (u2 := u2)
  rw [show lmF s N = itF (fun n a => if hoK x (nI n) < 0 then a else a + 1) N 0 0 from itF_congr N 0 0 (fun n a _ hn => by
    rw [T.ho]
    by_cases q : lkB s (nI n) = -4
    · rw [if_pos q, if_pos ((lk_neg _ _).mpr q), Int32.add_zero]
    · rw [if_neg q, if_neg (fun w => q ((lk_neg _ _).mp w))])]
  exact e
theorem a_read (R : R3 L h) (x l f n : Int32) {u5 u6 v5 v6 v7 v8 v9 v10 : Value} : Al L h (zv 8 129 0 [.ref 0, .int x, .int l, .int f, .int n, u5, u6] [] h) (fun m => zv 8 237 0 [.ref 211, .int x, .int l, .int f, .int n, v5, v6, v7, v8, v9, v10] [] m) := by
  obtain ⟨r, g, G, X, lL⟩ := id R
  have S := r.1
  rcases in_or x 0 3 (by decide) (by decide) with ⟨c, -, hc, rfl, hx⟩ | hx
  · have hv : ¬ nI c < 0 ∧ nI c < 4 := (rg (b := 3) (by decide)).mpr hx
    rcases in_or l 0 2 (by decide) (by decide) with ⟨la, -, hla, rfl, hy⟩ | hy
    · have hl : ¬ nI la < 0 ∧ nI la < 3 := (rg (b := 2) (by decide)).mpr hy
      have pr : ∀ {m : zi_Hp}, zv 8 237 0 [.ref 211, .int (nI c), .int (nI la), .int f, .int n, v5, v6, v7, v8, v9, v10] [] m = zv 8 237 8 [.ref 211, .int (nI c), .int (nI la), .int f, .int n, v5, v6, v7, v8, v9, v10] [] m := fun {m} => by
        rw [b237_0, q_shy hx hy]
        simp only [Option.bind_some, Option.toList_some, Option.toList_none, List.cons_append, List.nil_append]
        rw [b237_5, if_neg (by decide)]
      rcases in_or n 0 40 (by decide) (by decide) with ⟨k, -, hk, rfl, hw⟩ | hw
      · have h0 : ¬ nI k < 0 := Int32.not_lt.mpr hw.1
        have h40 : ¬ 40 < nI k := Int32.not_lt.mpr hw.2
        obtain ⟨N, R9, M, B, L9, m', H, r9, K, C, ff, I, T⟩ := id G
        have k0 := (T.2.1 0 (by decide)).1
        have a1 := I.1.1.1
        have a3 := I.1.1.2.2
        have e98 : zv 3 98 0 [.ref 1, .double 0, .double 0] [] h = some (some (.int (lmF (zh_i h 212) N)), h) := by
          have e := j_lm S V1 I T (u1 := .double 0) (u2 := .double 0)
          rw [zC_wx] at e; exact e
        have pr2 : ∀ {m : zi_Hp}, Sh m → (∀ j, zh_i m 212 j = zh_i h 212 j) → zv 8 237 0 [.ref 211, .int (nI c), .int (nI la), .int f, .int (nI k), v5, v6, v7, v8, v9, v10] [] m = if zh_i h 212 (315 + 24 * 0) = 0 then (if 0 < lmF (zh_i h 212) N then some (some (.int (-2)), m) else zv 8 237 56 [.ref 211, .int (nI c), .int (nI la), .int f, .int (nI k), .int 0, .int (nI 0), .int (nI 0), v8, v9, v10] [] (zh_ci m 212 0 221 (387 * 0) 387)) else some (some (.int (-2)), m) := fun {m} S es => by
          have c0 : zv 1 146 0 [.ref 211, .int 0, .int 0] [] m = some (some (.int (zh_i m 212 (315 + 24 * 0))), m) := r_oc0 S (c := 0) (by decide)
          have er : zh_i m 212 = zh_i h 212 := funext es
          have lm : zv 3 198 0 [.ref 211, .double 0, .double 0] [] m = some (some (.int (lmF (zh_i m 212) N)), m) := by
            have p := q_lm (q := (zh_i m 215, zh_i m 216, zh_i m 211 5, zh_b m 217)) (s := zh_i m 212) S (by rw [er]; exact a1) a3 (u1 := .double 0) (u2 := .double 0)
            rw [zQ_id] at p
            exact p
          have sv : zv 1 211 0 [.ref 211, .int 0, .double 0] [] m = some (none, zh_ci m 212 0 221 (387 * 0) 387) := c_saves S (d := 0) (by decide)
          rw [pr, b237_8, show (0 : Int64) = (nI 0).toInt64 from rfl, show (40 : Int64) = (nI 40).toInt64 from rfl, c_iy hw]
          simp only [Option.bind_some, Option.toList_some, Option.toList_none, List.cons_append, List.nil_append]
          rw [b237_18, if_neg (by decide), b237_23 (S_g0 S) (S_g1 S), c0]
          simp only [Option.bind_some, Option.toList_some, Option.toList_none, List.cons_append, List.nil_append]
          rw [b237_29, er]
          by_cases q0 : zh_i h 212 (315 + 24 * 0) = 0
          · rw [if_pos q0, if_pos q0, b237_32 (S_g0 S) (S_g1 S), lm]
            simp only [Option.bind_some, Option.toList_some, Option.toList_none, List.cons_append, List.nil_append]
            rw [b237_36, er]
            by_cases q1 : 0 < lmF (zh_i h 212) N
            · rw [if_pos q1, if_pos q1, b237_39]
            · rw [if_neg q1, if_neg q1, b237_42 (S_g0 S) (S_g1 S), sv]
              simp only [Option.bind_some, Option.toList_some, Option.toList_none, List.cons_append, List.nil_append]
              rw [b237_47]; rfl
          · rw [if_neg q0, if_neg q0, b237_39]
        by_cases q0 : zh_i h 212 (315 + 24 * 0) = 0
        · have q0' : zh_i h 11 0 = 0 := k0.trans q0
          by_cases q1 : 0 < lmF (zh_i h 212) N
          · refine Al.same R (-2) ?_ ?_
            · simp +decide only [b129_0, b129_4, b129_7, b129_11, b129_14, b129_19, b129_28, b129_43, b129_50, b129_53, S.n, S.k, S.r, hp_n_wi, hp_k_wi, hp_r_wi, hp_n_wl, hp_k_wl, hp_r_wl, hp_n_wb, hp_k_wb, hp_r_wb, zq_rf, kx_0, kx_1, kx_2, kx_3, kx_4, kx_5, kx_6, kx_7, kx_8, kx_9, kx_10, kx_11, kx_12, kx_13, kx_14, kx_15, kx_16, kx_17, kx_33, kx_34, kx_50, kx_66, kx_67, kx_68, kx_69, kx_197, kx_198, kx_199, kx_200, kx_201, kx_202, kx_203, kx_204, kx_205, kx_206, kx_207, kx_208, kx_209, kx_210, rx_0_0, rx_0_1, rx_0_2, rx_0_3, rx_0_4, rx_0_5, rx_0_6, rx_0_7, rx_1_0, rx_1_1, rx_2_3, rx_2_4, rx_2_5, rx_2_6, rx_2_7, rx_2_8, rx_2_9, rx_10_0, rx_10_1, rx_10_2, rx_33_0, rx_33_1, rx_67_0, rx_68_0, rx_197_0, rx_199_5, rx_199_6, rx_199_7, rx_203_0, rx_203_1, rx_203_2, rx_206_0, rx_206_1, rx_206_2, rx_206_3, Option.bind_some, Option.toList_some, Option.toList_none, List.cons_append, List.nil_append, ↓reduceIte, p_138, p_139, decide_eq_true hv, decide_eq_true hl, zi_bI_t, if_neg h0, if_neg h40, if_pos q0', e98, if_pos q1]
            · show zv 8 237 0 _ _ _ = _
              rw [pr2 S (fun _ => rfl), if_pos q0, if_pos q1]
          · obtain ⟨x', y', e, qs⟩ := k_cw S V17 V1 (by decide) (x := wx h 17) (y := wy h 17) (u2' := .double 0)
            rw [zC_wx] at e
            obtain ⟨h0', eh0⟩ : ∃ h0', h0' = zC h 17 x' y' := ⟨_, rfl⟩
            rw [← eh0] at e
            have Gp0 : Gs x' y' (zh_i h 212) := G.sw qs
            have g0 : GO h0' := by rw [eh0]; exact g.zC V17 Gp0.gw
            have i0 : ∀ a j, (a < 17 ∨ 17 + 16 ≤ a) → zh_i h0' a j = zh_i h a j ∧ zh_b h0' a j = zh_b h a j := fun a j ha => by rw [eh0]; exact ⟨zC_io j ha, zC_bo j ha⟩
            have Gp : Gs (wx h0' 17) (wy h0' 17) (zh_i h 212) := Gp0.sw (SW.of (fun o j ho => by show zh_i h0' (17 + o) j = _; rw [eh0, zC_i ho]) (fun o j ho => by show zh_b h0' (17 + o) j = _; rw [eh0, zC_b ho]))
            have G0 : Gs (wx h0' 1) (wy h0' 1) (zh_i h 212) := G.of1 (fun o j ho => i0 _ _ (by omega)) (fun _ _ => rfl)
            have X0 : SHT h0' := X.2.2.2.1.same (fun k => ⟨(i0 _ _ (by omega)).1, (i0 _ _ (by omega)).1, (i0 _ _ (by omega)).1, (i0 _ _ (by omega)).1⟩)
            have C0 : SC h0' := X.2.2.2.2.1.same (fun a j _ _ => (i0 _ _ (by omega)).1) (fun j => (i0 _ _ (by omega)).1)
            obtain ⟨v, x2, y2, s2, t, e2, G2, er⟩ := j_rdL g0 X0 C0 (c := c) (by omega) (n := k) hk Gp (l := nI la) (f := f) k 0 (Nat.zero_add _) (u6 := u6) G0
            rw [zC_wx] at e2
            have e2' : zv 8 129 70 [.ref 0, .int (nI c), .int (nI la), .int f, .int (nI k), .int 0, u6] [] h0' = some (some (.int v), zh_wi (zC h0' 1 x2 y2) 0 8 t) := e2
            obtain ⟨m1, em1⟩ : ∃ m1, m1 = zh_wi (zC h0' 1 x2 y2) 0 8 t := ⟨_, rfl⟩
            rw [← em1] at e2'
            have O1 : GO m1 := by rw [em1]; exact (g0.zC V1 G2.gw).wi wo_0
            have S1 := O1.1
            have F1 : Fb h m1 := by rw [em1, eh0]; exact ((Fc.zC V17).1.1.trans (Fc.zC V1).1.1).trans (Fb.wi (by decide))
            have Q1 : RO m1 := r.fc S1 F1
            obtain ⟨m2, em2⟩ : ∃ m2, m2 = zh_ci m1 212 0 221 (387 * 0) 387 := ⟨_, rfl⟩
            have S2 : Sh m2 := by rw [em2]; exact S1.ci _ _ _ _ _
            have i2 : ∀ a j, a ≠ 221 → zh_i m2 a j = zh_i m1 a j := fun a j ha => by rw [em2, hp_i_ci, if_neg (fun w => ha w.1)]
            have D : RD h0' (zh_i h 212) m2 := ⟨fun j => by rw [i2 _ _ (by decide), (F1.1 230 j (by decide)).1, (i0 230 j (by omega)).1], fun j => by rw [i2 _ _ (by decide), (F1.1 231 j (by decide)).1, (i0 231 j (by omega)).1], fun j => by rw [i2 _ _ (by decide), (F1.1 232 j (by decide)).1, (i0 232 j (by omega)).1], fun j hj => by rw [em2, hp_i_ci, if_pos ⟨rfl, by omega, by omega⟩, show 0 + (j - 387 * 0) = j by omega, (F1.1 212 j (by decide)).1], by rw [i2 _ _ (by decide), (F1.1 211 38 (by decide)).1, (i0 0 8 (by omega)).1]; exact X.2.2.2.2.2.symm⟩
            obtain ⟨q', f2⟩ := er m2 (zh_i m2 215, zh_i m2 216, zh_i m2 211 5, zh_b m2 217) v8 v9 v10 S2 D
            have es2 : zh_i h 212 = zh_i m2 212 := funext (fun j => by rw [i2 _ _ (by decide), (F1.1 212 j (by decide)).1])
            rw [es2, zQ_id] at f2
            obtain ⟨m3, em3⟩ : ∃ m3, m3 = zh_wi (zQ m2 q' s2) 211 38 t := ⟨_, rfl⟩
            rw [← em3] at f2
            have S3 : Sh m3 := by rw [em3]; exact (zQ_S S2).wi _ _ _
            have i3 : ∀ a j, vc a j → (a ≠ 211 ∨ j ≠ 38) → zh_i m3 a j = zh_i m2 a j ∧ zh_b m3 a j = zh_b m2 a j := fun a j vv hj => by
              refine ⟨?_, ?_⟩
              · rw [em3, hp_i_wi, if_neg (by omega)]
                exact (zQ_vc vv).1
              · rw [em3]
                exact (zQ_vc (s := s2) vv).2
            have i1 : ∀ a j, vc a j → (a ≠ 0 ∨ j ≠ 8) → zh_i m1 a j = zh_i h a j ∧ zh_b m1 a j = zh_b h a j := fun a j vv hj => by
              refine ⟨?_, ?_⟩
              · rw [em1, hp_i_wi, if_neg (by omega)]
                exact (zC_vc vv).1.trans (i0 a j (by unfold vc at vv; omega)).1
              · rw [em1]
                exact (zC_vc (x := x2) vv).2.trans (i0 a j (by unfold vc at vv; omega)).2
            have ii : ∀ a j, vc a j → (a ≠ 211 ∨ j ≠ 38) → (a ≠ 0 ∨ j ≠ 8) → zh_i m3 a j = zh_i h a j ∧ zh_b m3 a j = zh_b h a j := fun a j vv h1 h2 => by
              have p1 := i1 a j vv h2
              have p3 := i3 a j vv h1
              exact ⟨by rw [p3.1, i2 _ _ (by unfold vc at vv; omega), p1.1], by rw [p3.2, ← p1.2, em2]; rfl⟩
            have e212 : zh_i m3 212 = s2 := funext (fun j => by rw [em3, hp_i_wi, if_neg (by omega), zQ_212])
            have F2 : Fx0 m1 m3 := by rw [em3, em2]; exact (Fr.ci (by decide)).1.1.trans (Fr.zQ.1.1.trans (Fx0.wi (by decide)))
            refine ⟨v, m1, m3, ?_, S1, F1.2.1.trans lL, F1.2.2, ?_, ⟨S3, by rw [e212]; exact G2.inv, ?_⟩, O1.fx S3 F2, ?_, ⟨X.1.same (fun a j q => ii a j (by unfold vc; omega) (by omega) (by omega)), ?_, X.2.2.1.same (ii _ _ (by unfold vc; omega) (by omega) (by omega)).1 (fun j => (ii _ _ (by unfold vc; omega) (by omega) (by omega)).1) (fun j => (ii _ _ (by unfold vc; omega) (by omega) (by omega)).1), X.2.2.2.1.same (fun k => ⟨(ii _ _ (by unfold vc; omega) (by omega) (by omega)).1, (ii _ _ (by unfold vc; omega) (by omega) (by omega)).1, (ii _ _ (by unfold vc; omega) (by omega) (by omega)).1, (ii _ _ (by unfold vc; omega) (by omega) (by omega)).1⟩), X.2.2.2.2.1.same (fun a j _ _ => (ii _ _ (by unfold vc; omega) (by omega) (by omega)).1) (fun j => (ii _ _ (by unfold vc; omega) (by omega) (by omega)).1), ?_⟩, ?_⟩
            · simp +decide only [b129_0, b129_4, b129_7, b129_11, b129_14, b129_19, b129_28, b129_43, b129_50, b129_56, b129_67, S.n, S.k, S.r, hp_n_wi, hp_k_wi, hp_r_wi, hp_n_wl, hp_k_wl, hp_r_wl, hp_n_wb, hp_k_wb, hp_r_wb, zq_rf, kx_0, kx_1, kx_2, kx_3, kx_4, kx_5, kx_6, kx_7, kx_8, kx_9, kx_10, kx_11, kx_12, kx_13, kx_14, kx_15, kx_16, kx_17, kx_33, kx_34, kx_50, kx_66, kx_67, kx_68, kx_69, kx_197, kx_198, kx_199, kx_200, kx_201, kx_202, kx_203, kx_204, kx_205, kx_206, kx_207, kx_208, kx_209, kx_210, rx_0_0, rx_0_1, rx_0_2, rx_0_3, rx_0_4, rx_0_5, rx_0_6, rx_0_7, rx_1_0, rx_1_1, rx_2_3, rx_2_4, rx_2_5, rx_2_6, rx_2_7, rx_2_8, rx_2_9, rx_10_0, rx_10_1, rx_10_2, rx_33_0, rx_33_1, rx_67_0, rx_68_0, rx_197_0, rx_199_5, rx_199_6, rx_199_7, rx_203_0, rx_203_1, rx_203_2, rx_206_0, rx_206_1, rx_206_2, rx_206_3, Option.bind_some, Option.toList_some, Option.toList_none, List.cons_append, List.nil_append, ↓reduceIte, p_138, p_139, decide_eq_true hv, decide_eq_true hl, zi_bI_t, if_neg h0, if_neg h40, if_pos q0', e98, if_neg q1, e, e2']
            · show zv 8 237 0 _ _ _ = _
              rw [pr2 S1 (fun j => (F1.1 212 j (by decide)).1), if_pos q0, if_neg q1, ← em2, f2]
            · refine Q1.2.2.same ?_ (fun j => ?_) (fun j => ?_) (fun j => ?_)
              · rw [(i3 211 8 (by unfold vc; omega) (by omega)).1, i2 _ _ (by decide)]
              · rw [(i3 213 j (by unfold vc; omega) (by omega)).1, i2 _ _ (by decide)]
              · rw [(i3 214 j (by unfold vc; omega) (by omega)).2, em2]; rfl
              · rw [(i3 231 j (by unfold vc; omega) (by omega)).1, i2 _ _ (by decide)]
            · rw [e212]
              refine G2.sw (SW.of (fun o j ho => ?_) (fun o j ho => ?_))
              · show zh_i m3 (1 + o) j = _
                rw [(F2.1 (1 + o) j (by omega)).1, em1, hp_i_wi, if_neg (by omega), zC_i ho]
              · show zh_b m3 (1 + o) j = _
                rw [(F2.1 (1 + o) j (by omega)).2.1, em1]
                exact zC_b (x := x2) ho j
            · rw [(ii 197 1 (by unfold vc; omega) (by omega) (by omega)).1, (ii 211 8 (by unfold vc; omega) (by omega) (by omega)).1]; exact X.2.1
            · rw [(F2.1 0 8 (by decide)).1, em1, hp_i_wi, if_pos ⟨rfl, rfl⟩, em3, hp_i_wi, if_pos ⟨rfl, rfl⟩]
            · rw [F2.2.1, F1.2.1]; exact lL
        · have q0' : ¬ zh_i h 11 0 = 0 := fun w => q0 (k0.symm.trans w)
          refine Al.same R (-2) ?_ ?_
          · simp +decide only [b129_0, b129_4, b129_7, b129_11, b129_14, b129_19, b129_28, b129_53, S.n, S.k, S.r, hp_n_wi, hp_k_wi, hp_r_wi, hp_n_wl, hp_k_wl, hp_r_wl, hp_n_wb, hp_k_wb, hp_r_wb, zq_rf, kx_0, kx_1, kx_2, kx_3, kx_4, kx_5, kx_6, kx_7, kx_8, kx_9, kx_10, kx_11, kx_12, kx_13, kx_14, kx_15, kx_16, kx_17, kx_33, kx_34, kx_50, kx_66, kx_67, kx_68, kx_69, kx_197, kx_198, kx_199, kx_200, kx_201, kx_202, kx_203, kx_204, kx_205, kx_206, kx_207, kx_208, kx_209, kx_210, rx_0_0, rx_0_1, rx_0_2, rx_0_3, rx_0_4, rx_0_5, rx_0_6, rx_0_7, rx_1_0, rx_1_1, rx_2_3, rx_2_4, rx_2_5, rx_2_6, rx_2_7, rx_2_8, rx_2_9, rx_10_0, rx_10_1, rx_10_2, rx_33_0, rx_33_1, rx_67_0, rx_68_0, rx_197_0, rx_199_5, rx_199_6, rx_199_7, rx_203_0, rx_203_1, rx_203_2, rx_206_0, rx_206_1, rx_206_2, rx_206_3, Option.bind_some, Option.toList_some, Option.toList_none, List.cons_append, List.nil_append, ↓reduceIte, p_138, p_139, decide_eq_true hv, decide_eq_true hl, zi_bI_t, if_neg h0, if_neg h40, if_neg q0']
          · show zv 8 237 0 _ _ _ = _
            rw [pr2 S (fun _ => rfl), if_neg q0]
      · refine Al.same R (-1) ?_ ?_
        · by_cases h0 : n < 0
          · simp +decide only [b129_0, b129_4, b129_7, b129_11, b129_14, b129_26, S.n, S.k, S.r, hp_n_wi, hp_k_wi, hp_r_wi, hp_n_wl, hp_k_wl, hp_r_wl, hp_n_wb, hp_k_wb, hp_r_wb, zq_rf, kx_0, kx_1, kx_2, kx_3, kx_4, kx_5, kx_6, kx_7, kx_8, kx_9, kx_10, kx_11, kx_12, kx_13, kx_14, kx_15, kx_16, kx_17, kx_33, kx_34, kx_50, kx_66, kx_67, kx_68, kx_69, kx_197, kx_198, kx_199, kx_200, kx_201, kx_202, kx_203, kx_204, kx_205, kx_206, kx_207, kx_208, kx_209, kx_210, rx_0_0, rx_0_1, rx_0_2, rx_0_3, rx_0_4, rx_0_5, rx_0_6, rx_0_7, rx_1_0, rx_1_1, rx_2_3, rx_2_4, rx_2_5, rx_2_6, rx_2_7, rx_2_8, rx_2_9, rx_10_0, rx_10_1, rx_10_2, rx_33_0, rx_33_1, rx_67_0, rx_68_0, rx_197_0, rx_199_5, rx_199_6, rx_199_7, rx_203_0, rx_203_1, rx_203_2, rx_206_0, rx_206_1, rx_206_2, rx_206_3, Option.bind_some, Option.toList_some, Option.toList_none, List.cons_append, List.nil_append, ↓reduceIte, p_138, p_139, decide_eq_true hv, decide_eq_true hl, zi_bI_t, if_pos h0]
          · have h40 : 40 < n := Int32.not_le.mp (fun q => hw ⟨Int32.not_lt.mp h0, q⟩)
            simp +decide only [b129_0, b129_4, b129_7, b129_11, b129_14, b129_19, b129_26, S.n, S.k, S.r, hp_n_wi, hp_k_wi, hp_r_wi, hp_n_wl, hp_k_wl, hp_r_wl, hp_n_wb, hp_k_wb, hp_r_wb, zq_rf, kx_0, kx_1, kx_2, kx_3, kx_4, kx_5, kx_6, kx_7, kx_8, kx_9, kx_10, kx_11, kx_12, kx_13, kx_14, kx_15, kx_16, kx_17, kx_33, kx_34, kx_50, kx_66, kx_67, kx_68, kx_69, kx_197, kx_198, kx_199, kx_200, kx_201, kx_202, kx_203, kx_204, kx_205, kx_206, kx_207, kx_208, kx_209, kx_210, rx_0_0, rx_0_1, rx_0_2, rx_0_3, rx_0_4, rx_0_5, rx_0_6, rx_0_7, rx_1_0, rx_1_1, rx_2_3, rx_2_4, rx_2_5, rx_2_6, rx_2_7, rx_2_8, rx_2_9, rx_10_0, rx_10_1, rx_10_2, rx_33_0, rx_33_1, rx_67_0, rx_68_0, rx_197_0, rx_199_5, rx_199_6, rx_199_7, rx_203_0, rx_203_1, rx_203_2, rx_206_0, rx_206_1, rx_206_2, rx_206_3, Option.bind_some, Option.toList_some, Option.toList_none, List.cons_append, List.nil_append, ↓reduceIte, p_138, p_139, decide_eq_true hv, decide_eq_true hl, zi_bI_t, if_neg h0, if_pos h40]
        · show zv 8 237 0 _ _ _ = _
          rw [pr, b237_8, show (0 : Int64) = (nI 0).toInt64 from rfl, show (40 : Int64) = (nI 40).toInt64 from rfl, c_iz hw]
          simp only [Option.bind_some, Option.toList_some, Option.toList_none, List.cons_append, List.nil_append]
          rw [b237_18, if_pos rfl, b237_21]
    · have hl : ¬ (¬ l < 0 ∧ l < 3) := fun q => hy ((rg (b := 2) (by decide)).mp q)
      refine Al.same R (-1) ?_ ?_
      · simp +decide only [b129_0, b129_4, b129_7, b129_11, b129_26, S.n, S.k, S.r, hp_n_wi, hp_k_wi, hp_r_wi, hp_n_wl, hp_k_wl, hp_r_wl, hp_n_wb, hp_k_wb, hp_r_wb, zq_rf, kx_0, kx_1, kx_2, kx_3, kx_4, kx_5, kx_6, kx_7, kx_8, kx_9, kx_10, kx_11, kx_12, kx_13, kx_14, kx_15, kx_16, kx_17, kx_33, kx_34, kx_50, kx_66, kx_67, kx_68, kx_69, kx_197, kx_198, kx_199, kx_200, kx_201, kx_202, kx_203, kx_204, kx_205, kx_206, kx_207, kx_208, kx_209, kx_210, rx_0_0, rx_0_1, rx_0_2, rx_0_3, rx_0_4, rx_0_5, rx_0_6, rx_0_7, rx_1_0, rx_1_1, rx_2_3, rx_2_4, rx_2_5, rx_2_6, rx_2_7, rx_2_8, rx_2_9, rx_10_0, rx_10_1, rx_10_2, rx_33_0, rx_33_1, rx_67_0, rx_68_0, rx_197_0, rx_199_5, rx_199_6, rx_199_7, rx_203_0, rx_203_1, rx_203_2, rx_206_0, rx_206_1, rx_206_2, rx_206_3, Option.bind_some, Option.toList_some, Option.toList_none, List.cons_append, List.nil_append, ↓reduceIte, p_138, p_139, decide_eq_true hv, decide_eq_false hl, zi_bI_t, zi_bI_f]
      · show zv 8 237 0 _ _ _ = _
        rw [b237_0, q_shn (fun w => hy w.2)]
        simp only [Option.bind_some, Option.toList_some, Option.toList_none, List.cons_append, List.nil_append]
        rw [b237_5, if_pos rfl, b237_21]
  · have hv : ¬ (¬ x < 0 ∧ x < 4) := fun q => hx ((rg (b := 3) (by decide)).mp q)
    refine Al.same R (-1) ?_ ?_
    · simp +decide only [b129_0, b129_4, b129_26, S.n, S.k, S.r, hp_n_wi, hp_k_wi, hp_r_wi, hp_n_wl, hp_k_wl, hp_r_wl, hp_n_wb, hp_k_wb, hp_r_wb, zq_rf, kx_0, kx_1, kx_2, kx_3, kx_4, kx_5, kx_6, kx_7, kx_8, kx_9, kx_10, kx_11, kx_12, kx_13, kx_14, kx_15, kx_16, kx_17, kx_33, kx_34, kx_50, kx_66, kx_67, kx_68, kx_69, kx_197, kx_198, kx_199, kx_200, kx_201, kx_202, kx_203, kx_204, kx_205, kx_206, kx_207, kx_208, kx_209, kx_210, rx_0_0, rx_0_1, rx_0_2, rx_0_3, rx_0_4, rx_0_5, rx_0_6, rx_0_7, rx_1_0, rx_1_1, rx_2_3, rx_2_4, rx_2_5, rx_2_6, rx_2_7, rx_2_8, rx_2_9, rx_10_0, rx_10_1, rx_10_2, rx_33_0, rx_33_1, rx_67_0, rx_68_0, rx_197_0, rx_199_5, rx_199_6, rx_199_7, rx_203_0, rx_203_1, rx_203_2, rx_206_0, rx_206_1, rx_206_2, rx_206_3, Option.bind_some, Option.toList_some, Option.toList_none, List.cons_append, List.nil_append, ↓reduceIte, p_138, decide_eq_false hv, zi_bI_f]
    · show zv 8 237 0 _ _ _ = _
      rw [b237_0, q_shn (fun w => hx w.1)]
      simp only [Option.bind_some, Option.toList_some, Option.toList_none, List.cons_append, List.nil_append]
      rw [b237_5, if_pos rfl, b237_21]
end R34I
