/-! THE CLASS: a client -/
section R30E
variable {h : zi_Hp} {W N n m c : Nat} {x : Nat → Nat → Int32} {y : Nat → Nat → Bool}
theorem cl_k (S : Sh h) (V : Wa W) (hc : c < 3) : zh_k h (W + (10 + 2 * c)) = (0, 13) := by
  have : c = 0 ∨ c = 1 ∨ c = 2 := by omega
  rcases this with rfl | rfl | rfl
  · exact wk_10 S V
  · exact wk_12 S V
  · exact wk_14 S V
theorem cl_q (S : Sh h) (V : Wa W) (hc : c < 3) : zh_k h (W + (11 + 2 * c)) = (100, 24) := by
  have : c = 0 ∨ c = 1 ∨ c = 2 := by omega
  rcases this with rfl | rfl | rfl
  · exact wk_11 S V
  · exact wk_13 S V
  · exact wk_15 S V
theorem cl_r (S : Sh h) (V : Wa W) (hc : c < 3) : zh_r h (W + 9) c = .ref (W + (10 + 2 * c)) := by
  have : c = 0 ∨ c = 1 ∨ c = 2 := by omega
  rcases this with rfl | rfl | rfl
  · exact wr_9_0 S V
  · exact wr_9_1 S V
  · exact wr_9_2 S V
theorem cl_p (S : Sh h) (V : Wa W) (hc : c < 3) : zh_r h (W + (10 + 2 * c)) 12 = .ref (W + (11 + 2 * c)) := by
  have : c = 0 ∨ c = 1 ∨ c = 2 := by omega
  rcases this with rfl | rfl | rfl
  · exact wr_10_12 S V
  · exact wr_12_12 S V
  · exact wr_14_12 S V
theorem k_uw (S : Sh h) (V : Wa W) (hc : c < 3) : zv 1 4 0 [.ref (W + (10 + 2 * c))] [] (zC h W x y) = some (some (.int (zi_bI (decide (¬ x (10 + 2 * c) 0 = 0 ∧ ¬ x (10 + 2 * c) 0 = 5)))), zC h W x y) := by
  rw [b4_0 (by first | (simp only [zC_n, zC_k, zC_r, S.n, wk_0 S V, wk_1 S V, wr_0_0 S V, wr_0_1 S V, wk_9 S V, cl_k S V hc, cl_r S V hc, cl_p S V hc, cl_q S V hc, zq_rf]; done) | (simp only [zC_n, zC_r, S.n, wr_0_0 S V, wr_0_1 S V, cl_r S V hc, cl_p S V hc, zq_rf]; have := V.lt; omega)) (by first | (simp only [zC_n, zC_k, zC_r, S.n, wk_0 S V, wk_1 S V, wr_0_0 S V, wr_0_1 S V, wk_9 S V, cl_k S V hc, cl_r S V hc, cl_p S V hc, cl_q S V hc, zq_rf]; done) | (simp only [zC_n, zC_r, S.n, wr_0_0 S V, wr_0_1 S V, cl_r S V hc, cl_p S V hc, zq_rf]; have := V.lt; omega)), zC_i (by omega)]
  by_cases h0 : x (10 + 2 * c) 0 = 0
  · rw [if_pos h0, b4_19, b4_20 (Or.inl rfl), decide_eq_false (fun q => q.1 h0), zi_bI_f]
  · rw [if_neg h0, b4_7 (by first | (simp only [zC_n, zC_k, zC_r, S.n, wk_0 S V, wk_1 S V, wr_0_0 S V, wr_0_1 S V, wk_9 S V, cl_k S V hc, cl_r S V hc, cl_p S V hc, cl_q S V hc, zq_rf]; done) | (simp only [zC_n, zC_r, S.n, wr_0_0 S V, wr_0_1 S V, cl_r S V hc, cl_p S V hc, zq_rf]; have := V.lt; omega)) (by first | (simp only [zC_n, zC_k, zC_r, S.n, wk_0 S V, wk_1 S V, wr_0_0 S V, wr_0_1 S V, wk_9 S V, cl_k S V hc, cl_r S V hc, cl_p S V hc, cl_q S V hc, zq_rf]; done) | (simp only [zC_n, zC_r, S.n, wr_0_0 S V, wr_0_1 S V, cl_r S V hc, cl_p S V hc, zq_rf]; have := V.lt; omega)), zC_i (by omega)]
    by_cases h5 : x (10 + 2 * c) 0 = 5
    · rw [if_pos h5, b4_19, b4_20 (Or.inl rfl), decide_eq_false (fun q => q.2 h5), zi_bI_f]
    · rw [if_neg h5, b4_15, b4_20 (Or.inr rfl), decide_eq_true ⟨h0, h5⟩, zi_bI_t]
theorem k_ho (S : Sh h) (V : Wa W) (hc : c < 3) {v : Int32} : zv 1 5 0 [.ref (W + (10 + 2 * c)), .int v] [] (zC h W x y) = some (some (.int (zi_bI (decide ((x (10 + 2 * c) 0 = 2 ∨ x (10 + 2 * c) 0 = 4) ∧ x (10 + 2 * c) 3 = v)))), zC h W x y) := by
  have tail : (x (10 + 2 * c) 0 = 2 ∨ x (10 + 2 * c) 0 = 4) → zv 1 5 16 [.ref (W + (10 + 2 * c)), .int v] [] (zC h W x y) = some (some (.int (zi_bI (decide ((x (10 + 2 * c) 0 = 2 ∨ x (10 + 2 * c) 0 = 4) ∧ x (10 + 2 * c) 3 = v)))), zC h W x y) := fun hh => by
    rw [b5_16 (by first | (simp only [zC_n, zC_k, zC_r, S.n, wk_0 S V, wk_1 S V, wr_0_0 S V, wr_0_1 S V, wk_9 S V, cl_k S V hc, cl_r S V hc, cl_p S V hc, cl_q S V hc, zq_rf]; done) | (simp only [zC_n, zC_r, S.n, wr_0_0 S V, wr_0_1 S V, cl_r S V hc, cl_p S V hc, zq_rf]; have := V.lt; omega)) (by first | (simp only [zC_n, zC_k, zC_r, S.n, wk_0 S V, wk_1 S V, wr_0_0 S V, wr_0_1 S V, wk_9 S V, cl_k S V hc, cl_r S V hc, cl_p S V hc, cl_q S V hc, zq_rf]; done) | (simp only [zC_n, zC_r, S.n, wr_0_0 S V, wr_0_1 S V, cl_r S V hc, cl_p S V hc, zq_rf]; have := V.lt; omega)), zC_i (by omega)]
    by_cases h3 : x (10 + 2 * c) 3 = v
    · rw [if_pos h3, b5_24, b5_29 (Or.inr rfl), decide_eq_true ⟨hh, h3⟩, zi_bI_t]
    · rw [if_neg h3, b5_28, b5_29 (Or.inl rfl), decide_eq_false (fun q => h3 q.2), zi_bI_f]
  rw [b5_0 (by first | (simp only [zC_n, zC_k, zC_r, S.n, wk_0 S V, wk_1 S V, wr_0_0 S V, wr_0_1 S V, wk_9 S V, cl_k S V hc, cl_r S V hc, cl_p S V hc, cl_q S V hc, zq_rf]; done) | (simp only [zC_n, zC_r, S.n, wr_0_0 S V, wr_0_1 S V, cl_r S V hc, cl_p S V hc, zq_rf]; have := V.lt; omega)) (by first | (simp only [zC_n, zC_k, zC_r, S.n, wk_0 S V, wk_1 S V, wr_0_0 S V, wr_0_1 S V, wk_9 S V, cl_k S V hc, cl_r S V hc, cl_p S V hc, cl_q S V hc, zq_rf]; done) | (simp only [zC_n, zC_r, S.n, wr_0_0 S V, wr_0_1 S V, cl_r S V hc, cl_p S V hc, zq_rf]; have := V.lt; omega)), zC_i (by omega)]
  by_cases h2 : x (10 + 2 * c) 0 = 2
  · rw [if_pos h2]; exact tail (Or.inl h2)
  · rw [if_neg h2, b5_8 (by first | (simp only [zC_n, zC_k, zC_r, S.n, wk_0 S V, wk_1 S V, wr_0_0 S V, wr_0_1 S V, wk_9 S V, cl_k S V hc, cl_r S V hc, cl_p S V hc, cl_q S V hc, zq_rf]; done) | (simp only [zC_n, zC_r, S.n, wr_0_0 S V, wr_0_1 S V, cl_r S V hc, cl_p S V hc, zq_rf]; have := V.lt; omega)) (by first | (simp only [zC_n, zC_k, zC_r, S.n, wk_0 S V, wk_1 S V, wr_0_0 S V, wr_0_1 S V, wk_9 S V, cl_k S V hc, cl_r S V hc, cl_p S V hc, cl_q S V hc, zq_rf]; done) | (simp only [zC_n, zC_r, S.n, wr_0_0 S V, wr_0_1 S V, cl_r S V hc, cl_p S V hc, zq_rf]; have := V.lt; omega)), zC_i (by omega)]
    by_cases h4 : x (10 + 2 * c) 0 = 4
    · rw [if_pos h4]; exact tail (Or.inr h4)
    · rw [if_neg h4, b5_28, b5_29 (Or.inl rfl), decide_eq_false (fun q => q.1.elim h2 h4), zi_bI_f]
theorem k_en (S : Sh h) (V : Wa W) (hc : c < 3) {v : Int32} : zv 1 6 0 [.ref (W + (10 + 2 * c)), .int v] [] (zC h W x y) = some (some (.int 3), zC h W (u2 (u2 x (10 + 2 * c) 4 v) (10 + 2 * c) 0 5) y) := by
  rw [b6_0 (by first | (simp only [zC_n, zC_k, zC_r, S.n, wk_0 S V, wk_1 S V, wr_0_0 S V, wr_0_1 S V, wk_9 S V, cl_k S V hc, cl_r S V hc, cl_p S V hc, cl_q S V hc, zq_rf]; done) | (simp only [zC_n, zC_r, S.n, wr_0_0 S V, wr_0_1 S V, cl_r S V hc, cl_p S V hc, zq_rf]; have := V.lt; omega)) (by first | (simp only [zC_n, zC_k, zC_r, S.n, wk_0 S V, wk_1 S V, wr_0_0 S V, wr_0_1 S V, wk_9 S V, cl_k S V hc, cl_r S V hc, cl_p S V hc, cl_q S V hc, zq_rf]; done) | (simp only [zC_n, zC_r, S.n, wr_0_0 S V, wr_0_1 S V, cl_r S V hc, cl_p S V hc, zq_rf]; have := V.lt; omega)), zC_wi (by omega), zC_wi (by omega)]
theorem k_eb (S : Sh h) (V : Wa W) (hc : c < 3) {v : Int32} : zv 1 7 0 [.ref (W + (10 + 2 * c)), .int v] [] (zC h W x y) = some (some (.int v), zC h W (u2 x (10 + 2 * c) 0 5) y) := by
  rw [b7_0 (by first | (simp only [zC_n, zC_k, zC_r, S.n, wk_0 S V, wk_1 S V, wr_0_0 S V, wr_0_1 S V, wk_9 S V, cl_k S V hc, cl_r S V hc, cl_p S V hc, cl_q S V hc, zq_rf]; done) | (simp only [zC_n, zC_r, S.n, wr_0_0 S V, wr_0_1 S V, cl_r S V hc, cl_p S V hc, zq_rf]; have := V.lt; omega)) (by first | (simp only [zC_n, zC_k, zC_r, S.n, wk_0 S V, wk_1 S V, wr_0_0 S V, wr_0_1 S V, wk_9 S V, cl_k S V hc, cl_r S V hc, cl_p S V hc, cl_q S V hc, zq_rf]; done) | (simp only [zC_n, zC_r, S.n, wr_0_0 S V, wr_0_1 S V, cl_r S V hc, cl_p S V hc, zq_rf]; have := V.lt; omega)), zC_wi (by omega)]
theorem k_pa (S : Sh h) (V : Wa W) (hc : c < 3) {l : Nat} (hl : l < 24) : zv 1 8 0 [.ref (W + (10 + 2 * c)), .int (nI l)] [] (zC h W x y) = some (some (.int (x (11 + 2 * c) l)), zC h W x y) := by
  rw [b8_0, if_neg (nI_pos (by omega)), b8_4, if_pos (show nI l < 24 from nI_lt (b := 24) hl (by decide)), b8_10 (by first | (simp only [zC_n, zC_k, zC_r, S.n, wk_0 S V, wk_1 S V, wr_0_0 S V, wr_0_1 S V, wk_9 S V, cl_k S V hc, cl_r S V hc, cl_p S V hc, cl_q S V hc, zq_rf]; done) | (simp only [zC_n, zC_r, S.n, wr_0_0 S V, wr_0_1 S V, cl_r S V hc, cl_p S V hc, zq_rf]; have := V.lt; omega)) (by first | (simp only [zC_n, zC_k, zC_r, S.n, wk_0 S V, wk_1 S V, wr_0_0 S V, wr_0_1 S V, wk_9 S V, cl_k S V hc, cl_r S V hc, cl_p S V hc, cl_q S V hc, zq_rf]; done) | (simp only [zC_n, zC_r, S.n, wr_0_0 S V, wr_0_1 S V, cl_r S V hc, cl_p S V hc, zq_rf]; have := V.lt; omega)) (by first | (simp only [zC_n, zC_k, zC_r, S.n, wk_0 S V, wk_1 S V, wr_0_0 S V, wr_0_1 S V, wk_9 S V, cl_k S V hc, cl_r S V hc, cl_p S V hc, cl_q S V hc, zq_rf]; done) | (simp only [zC_n, zC_r, S.n, wr_0_0 S V, wr_0_1 S V, cl_r S V hc, cl_p S V hc, zq_rf]; have := V.lt; omega)) (by first | (simp only [zC_n, zC_k, zC_r, S.n, wk_0 S V, wk_1 S V, wr_0_0 S V, wr_0_1 S V, wk_9 S V, cl_k S V hc, cl_r S V hc, cl_p S V hc, cl_q S V hc, zq_rf]; done) | (simp only [zC_n, zC_r, S.n, wr_0_0 S V, wr_0_1 S V, cl_r S V hc, cl_p S V hc, zq_rf]; have := V.lt; omega)) (by rw [zC_r, cl_p S V hc, zq_rf, zC_k, cl_q S V hc]; exact zj_n hl (by decide)) (by first | (simp only [zC_n, zC_k, zC_r, S.n, wk_0 S V, wk_1 S V, wr_0_0 S V, wr_0_1 S V, wk_9 S V, cl_k S V hc, cl_r S V hc, cl_p S V hc, cl_q S V hc, zq_rf]; done) | (simp only [zC_n, zC_r, S.n, wr_0_0 S V, wr_0_1 S V, cl_r S V hc, cl_p S V hc, zq_rf]; have := V.lt; omega)), zC_r, cl_p S V hc, zq_rf, nI_clamp (by omega), zC_i (by omega), b8_21]
theorem k_re (S : Sh h) (V : Wa W) (hc : c < 3) {l : Nat} (hl : l < 24) {v : Int32} : zv 1 9 0 [.ref (W + (10 + 2 * c)), .int (nI l), .int v] [] (zC h W x y) = some (none, zC h W (u2 x (11 + 2 * c) l v) y) := by
  rw [b9_0, if_neg (nI_pos (by omega)), b9_4, if_pos (show nI l < 24 from nI_lt (b := 24) hl (by decide)), b9_10 (by first | (simp only [zC_n, zC_k, zC_r, S.n, wk_0 S V, wk_1 S V, wr_0_0 S V, wr_0_1 S V, wk_9 S V, cl_k S V hc, cl_r S V hc, cl_p S V hc, cl_q S V hc, zq_rf]; done) | (simp only [zC_n, zC_r, S.n, wr_0_0 S V, wr_0_1 S V, cl_r S V hc, cl_p S V hc, zq_rf]; have := V.lt; omega)) (by first | (simp only [zC_n, zC_k, zC_r, S.n, wk_0 S V, wk_1 S V, wr_0_0 S V, wr_0_1 S V, wk_9 S V, cl_k S V hc, cl_r S V hc, cl_p S V hc, cl_q S V hc, zq_rf]; done) | (simp only [zC_n, zC_r, S.n, wr_0_0 S V, wr_0_1 S V, cl_r S V hc, cl_p S V hc, zq_rf]; have := V.lt; omega)) (by first | (simp only [zC_n, zC_k, zC_r, S.n, wk_0 S V, wk_1 S V, wr_0_0 S V, wr_0_1 S V, wk_9 S V, cl_k S V hc, cl_r S V hc, cl_p S V hc, cl_q S V hc, zq_rf]; done) | (simp only [zC_n, zC_r, S.n, wr_0_0 S V, wr_0_1 S V, cl_r S V hc, cl_p S V hc, zq_rf]; have := V.lt; omega)) (by first | (simp only [zC_n, zC_k, zC_r, S.n, wk_0 S V, wk_1 S V, wr_0_0 S V, wr_0_1 S V, wk_9 S V, cl_k S V hc, cl_r S V hc, cl_p S V hc, cl_q S V hc, zq_rf]; done) | (simp only [zC_n, zC_r, S.n, wr_0_0 S V, wr_0_1 S V, cl_r S V hc, cl_p S V hc, zq_rf]; have := V.lt; omega)) (by rw [zC_r, cl_p S V hc, zq_rf, zC_k, cl_q S V hc]; exact zj_n hl (by decide)) (by first | (simp only [zC_n, zC_k, zC_r, S.n, wk_0 S V, wk_1 S V, wr_0_0 S V, wr_0_1 S V, wk_9 S V, cl_k S V hc, cl_r S V hc, cl_p S V hc, cl_q S V hc, zq_rf]; done) | (simp only [zC_n, zC_r, S.n, wr_0_0 S V, wr_0_1 S V, cl_r S V hc, cl_p S V hc, zq_rf]; have := V.lt; omega)), zC_r, cl_p S V hc, zq_rf, nI_clamp (by omega), zC_wi (by omega), b9_17]
/-- who holds a node -/
def hoK (x : Nat → Nat → Int32) (v : Int32) : Int32 := if (x 10 0 = 2 ∨ x 10 0 = 4) ∧ x 10 3 = v then 0 else if (x 12 0 = 2 ∨ x 12 0 = 4) ∧ x 12 3 = v then 1 else if (x 14 0 = 2 ∨ x 14 0 = 4) ∧ x 14 3 = v then 2 else -4
theorem k_hd (S : Sh h) (V : Wa W) {v : Int32} {v2 : Value} : zv 2 97 0 [.ref W, .int v, v2] [] (zC h W x y) = some (some (.int (hoK x v)), zC h W x y) := by
  have turn : ∀ c, c < 3 → zv 2 97 2 [.ref W, .int v, .int (nI c)] [] (zC h W x y) = if (x (10 + 2 * c) 0 = 2 ∨ x (10 + 2 * c) 0 = 4) ∧ x (10 + 2 * c) 3 = v then some (some (.int (nI c)), zC h W x y) else zv 2 97 2 [.ref W, .int v, .int (nI (c + 1))] [] (zC h W x y) := fun c hc => by
    have r1 : zh_r (zC h W x y) W 1 = .ref (W + 9) := by rw [zC_r, wr_0_1 S V]
    have r2 : zh_r (zC h W x y) (W + 9) c = .ref (W + (10 + 2 * c)) := by rw [zC_r, cl_r S V hc]
    rw [b97_2, if_pos (show nI c < 3 from nI_lt (b := 3) hc (by decide)), b97_7 (by first | (simp only [zC_n, zC_k, zC_r, S.n, wk_0 S V, wk_1 S V, wr_0_0 S V, wr_0_1 S V, wk_9 S V, cl_k S V hc, cl_r S V hc, cl_p S V hc, cl_q S V hc, zq_rf]; done) | (simp only [zC_n, zC_r, S.n, wr_0_0 S V, wr_0_1 S V, cl_r S V hc, cl_p S V hc, zq_rf]; have := V.lt; omega)) (by first | (simp only [zC_n, zC_k, zC_r, S.n, wk_0 S V, wk_1 S V, wr_0_0 S V, wr_0_1 S V, wk_9 S V, cl_k S V hc, cl_r S V hc, cl_p S V hc, cl_q S V hc, zq_rf]; done) | (simp only [zC_n, zC_r, S.n, wr_0_0 S V, wr_0_1 S V, cl_r S V hc, cl_p S V hc, zq_rf]; have := V.lt; omega)) (by first | (simp only [zC_n, zC_k, zC_r, S.n, wk_0 S V, wk_1 S V, wr_0_0 S V, wr_0_1 S V, wk_9 S V, cl_k S V hc, cl_r S V hc, cl_p S V hc, cl_q S V hc, zq_rf]; done) | (simp only [zC_n, zC_r, S.n, wr_0_0 S V, wr_0_1 S V, cl_r S V hc, cl_p S V hc, zq_rf]; have := V.lt; omega)) (by first | (simp only [zC_n, zC_k, zC_r, S.n, wk_0 S V, wk_1 S V, wr_0_0 S V, wr_0_1 S V, wk_9 S V, cl_k S V hc, cl_r S V hc, cl_p S V hc, cl_q S V hc, zq_rf]; done) | (simp only [zC_n, zC_r, S.n, wr_0_0 S V, wr_0_1 S V, cl_r S V hc, cl_p S V hc, zq_rf]; have := V.lt; omega)) (by rw [r1, zq_rf, zC_k, wk_9 S V]; exact zj_n hc (by decide)) (by rw [r1, zq_rf, zC_k, wk_9 S V]; exact Or.inr (Or.inl rfl)) (by rw [r1, zq_rf, nI_clamp (by omega), r2, zq_rf]) (by rw [r1, zq_rf, nI_clamp (by omega), r2, zq_rf, zC_n, S.n]; have := V.lt; omega) (by rw [r1, zq_rf, nI_clamp (by omega), r2, zq_rf, zC_k, cl_k S V hc]), r1, zq_rf, nI_clamp (by omega), r2, zq_rf, k_ho S V hc]
    simp only [Option.bind_some, Option.toList_some, Option.toList_none, List.cons_append, List.nil_append]
    rw [b97_17]
    by_cases e : (x (10 + 2 * c) 0 = 2 ∨ x (10 + 2 * c) 0 = 4) ∧ x (10 + 2 * c) 3 = v
    · rw [decide_eq_true e, zi_bI_t, if_neg (by decide), b97_20, if_pos e]
    · rw [decide_eq_false e, zi_bI_f, if_pos rfl, b97_22, nI_s, if_neg e]
  have t0 : zv 2 97 2 [.ref W, .int v, .int 0] [] (zC h W x y) = if (x 10 0 = 2 ∨ x 10 0 = 4) ∧ x 10 3 = v then some (some (.int 0), zC h W x y) else zv 2 97 2 [.ref W, .int v, .int (nI 1)] [] (zC h W x y) := turn 0 (by decide)
  have t1 : zv 2 97 2 [.ref W, .int v, .int (nI 1)] [] (zC h W x y) = if (x 12 0 = 2 ∨ x 12 0 = 4) ∧ x 12 3 = v then some (some (.int 1), zC h W x y) else zv 2 97 2 [.ref W, .int v, .int (nI 2)] [] (zC h W x y) := turn 1 (by decide)
  have t2 : zv 2 97 2 [.ref W, .int v, .int (nI 2)] [] (zC h W x y) = if (x 14 0 = 2 ∨ x 14 0 = 4) ∧ x 14 3 = v then some (some (.int 2), zC h W x y) else zv 2 97 2 [.ref W, .int v, .int (nI 3)] [] (zC h W x y) := turn 2 (by decide)
  have t3 : zv 2 97 2 [.ref W, .int v, .int (nI 3)] [] (zC h W x y) = some (some (.int (-4)), zC h W x y) := by rw [b97_2, if_neg (by decide), b97_28]
  rw [b97_0, t0, t1, t2, t3]
  unfold hoK
  by_cases e0 : (x 10 0 = 2 ∨ x 10 0 = 4) ∧ x 10 3 = v
  · rw [if_pos e0, if_pos e0]
  · rw [if_neg e0, if_neg e0]
    by_cases e1 : (x 12 0 = 2 ∨ x 12 0 = 4) ∧ x 12 3 = v
    · rw [if_pos e1, if_pos e1]
    · rw [if_neg e1, if_neg e1]
      by_cases e2 : (x 14 0 = 2 ∨ x 14 0 = 4) ∧ x 14 3 = v
      · rw [if_pos e2, if_pos e2]
      · rw [if_neg e2, if_neg e2]
end R30E
