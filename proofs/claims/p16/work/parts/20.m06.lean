section
/-! THE CLASS: TAKE, the steps that POST -/
section R30H
variable {h : zi_Hp} {W N n m c : Nat} {x : Nat → Nat → Int32} {y : Nat → Nat → Bool}
/-- TAKE: the key is not there -/
theorem e_n (S : Sh h) (V : Wa W) (hc : c < 3) (eN : x 1 0 = nI N) (hN : N ≤ 24) (ea : x (10 + 2 * c) 3 = nI n) (hn : n < N) (em : x 3 n = nI m) (hm : m ≤ 5) {j : Nat} (hj : j ≤ m) (hlt : ∀ i, i < j → x 7 (5 * n + i) < x (10 + 2 * c) 2) (hge : j < m → ¬ x 7 (5 * n + j) < x (10 + 2 * c) 2) (hne : ¬ (if j < m then x 7 (5 * n + j) else -4) = x (10 + 2 * c) 2) : zv 4 89 0 [.ref W, .ref (W + (10 + 2 * c))] [] (zC h W x y) = some (some (.int 3), zC h W (u2 (u2 x (10 + 2 * c) 4 0) (10 + 2 * c) 0 5) y) := by
  rw [b89_0 (by first | (simp only [zC_n, zC_k, zC_r, S.n, wk_0 S V, wk_1 S V, wr_0_0 S V, wr_0_1 S V, wk_9 S V, cl_k S V hc, cl_r S V hc, cl_p S V hc, cl_q S V hc, zq_rf]; done) | (simp only [zC_n, zC_r, S.n, wr_0_0 S V, wr_0_1 S V, cl_r S V hc, cl_p S V hc, zq_rf]; have := V.lt; omega)) (by first | (simp only [zC_n, zC_k, zC_r, S.n, wk_0 S V, wk_1 S V, wr_0_0 S V, wr_0_1 S V, wk_9 S V, cl_k S V hc, cl_r S V hc, cl_p S V hc, cl_q S V hc, zq_rf]; done) | (simp only [zC_n, zC_r, S.n, wr_0_0 S V, wr_0_1 S V, cl_r S V hc, cl_p S V hc, zq_rf]; have := V.lt; omega)) (by first | (simp only [zC_n, zC_k, zC_r, S.n, wk_0 S V, wk_1 S V, wr_0_0 S V, wr_0_1 S V, wk_9 S V, cl_k S V hc, cl_r S V hc, cl_p S V hc, cl_q S V hc, zq_rf]; done) | (simp only [zC_n, zC_r, S.n, wr_0_0 S V, wr_0_1 S V, cl_r S V hc, cl_p S V hc, zq_rf]; have := V.lt; omega)) (by first | (simp only [zC_n, zC_k, zC_r, S.n, wk_0 S V, wk_1 S V, wr_0_0 S V, wr_0_1 S V, wk_9 S V, cl_k S V hc, cl_r S V hc, cl_p S V hc, cl_q S V hc, zq_rf]; done) | (simp only [zC_n, zC_r, S.n, wr_0_0 S V, wr_0_1 S V, cl_r S V hc, cl_p S V hc, zq_rf]; have := V.lt; omega)) (by first | (simp only [zC_n, zC_k, zC_r, S.n, wk_0 S V, wk_1 S V, wr_0_0 S V, wr_0_1 S V, wk_9 S V, cl_k S V hc, cl_r S V hc, cl_p S V hc, cl_q S V hc, zq_rf]; done) | (simp only [zC_n, zC_r, S.n, wr_0_0 S V, wr_0_1 S V, cl_r S V hc, cl_p S V hc, zq_rf]; have := V.lt; omega)) (by first | (simp only [zC_n, zC_k, zC_r, S.n, wk_0 S V, wk_1 S V, wr_0_0 S V, wr_0_1 S V, wk_9 S V, cl_k S V hc, cl_r S V hc, cl_p S V hc, cl_q S V hc, zq_rf]; done) | (simp only [zC_n, zC_r, S.n, wr_0_0 S V, wr_0_1 S V, cl_r S V hc, cl_p S V hc, zq_rf]; have := V.lt; omega)) (by first | (simp only [zC_n, zC_k, zC_r, S.n, wk_0 S V, wk_1 S V, wr_0_0 S V, wr_0_1 S V, wk_9 S V, cl_k S V hc, cl_r S V hc, cl_p S V hc, cl_q S V hc, zq_rf]; done) | (simp only [zC_n, zC_r, S.n, wr_0_0 S V, wr_0_1 S V, cl_r S V hc, cl_p S V hc, zq_rf]; have := V.lt; omega)), zC_r, wr_0_0 S V, zq_rf, zC_i (by omega), zC_i (by omega), ea, t_co S V eN hN hn em hm hj hlt hge, decide_eq_false hne, zi_bI_f]
  simp only [Option.bind_some, Option.toList_some, Option.toList_none, List.cons_append, List.nil_append]
  rw [b89_15, if_pos rfl, b89_18 (by first | (simp only [zC_n, zC_k, zC_r, S.n, wk_0 S V, wk_1 S V, wr_0_0 S V, wr_0_1 S V, wk_9 S V, cl_k S V hc, cl_r S V hc, cl_p S V hc, cl_q S V hc, zq_rf]; done) | (simp only [zC_n, zC_r, S.n, wr_0_0 S V, wr_0_1 S V, cl_r S V hc, cl_p S V hc, zq_rf]; have := V.lt; omega)) (by first | (simp only [zC_n, zC_k, zC_r, S.n, wk_0 S V, wk_1 S V, wr_0_0 S V, wr_0_1 S V, wk_9 S V, cl_k S V hc, cl_r S V hc, cl_p S V hc, cl_q S V hc, zq_rf]; done) | (simp only [zC_n, zC_r, S.n, wr_0_0 S V, wr_0_1 S V, cl_r S V hc, cl_p S V hc, zq_rf]; have := V.lt; omega)), k_en S V hc]
  simp only [Option.bind_some, Option.toList_some, Option.toList_none, List.cons_append, List.nil_append]
  rw [b89_23]
/-- TAKE: the key is there, and goes -/
theorem e_h (S : Sh h) (V : Wa W) (hc : c < 3) (eN : x 1 0 = nI N) (hN : N ≤ 24) (ea : x (10 + 2 * c) 3 = nI n) (hn : n < N) (em : x 3 n = nI m) (hm : m ≤ 5) {j : Nat} (hj : j < m) (hlt : ∀ i, i < j → x 7 (5 * n + i) < x (10 + 2 * c) 2) (he : x 7 (5 * n + j) = x (10 + 2 * c) 2) : zv 4 89 0 [.ref W, .ref (W + (10 + 2 * c))] [] (zC h W x y) = if 0 < nI (m - 1) ∨ x 5 n < 0 then some (some (.int 3), zC h W (u2 (u2 (trF x n j m) (10 + 2 * c) 4 1) (10 + 2 * c) 0 5) y) else zv 4 89 100 [.ref W, .ref (W + (10 + 2 * c))] [] (zC h W (trF x n j m) y) := by
  have hge : j < m → ¬ x 7 (5 * n + j) < x (10 + 2 * c) 2 := fun _ => by rw [he]; exact Int32.lt_irrefl
  have ro : ∀ a k, a ≠ 3 → a ≠ 7 → a ≠ 8 → trF x n j m a k = x a k := fun a k h1 h2 h3 => by
    unfold trF slF
    rw [u2_n _ _ (Or.inl h1), if_neg (fun q => by omega)]
  have r3 : trF x n j m 3 n = nI (m - 1) := by unfold trF; rw [u2_s]
  have hz : ¬ (nI n < 0 ∨ 24 ≤ (nI n).toNatClampNeg) := zj_n (by omega) (by decide)
  have eA : zh_i (zC h W (trF x n j m) y) (W + (10 + 2 * c)) 3 = nI n := by rw [zC_i (by omega), ro _ _ (by omega) (by omega) (by omega)]; exact ea
  have done : zv 4 89 94 [.ref W, .ref (W + (10 + 2 * c))] [] (zC h W (trF x n j m) y) = some (some (.int 3), zC h W (u2 (u2 (trF x n j m) (10 + 2 * c) 4 1) (10 + 2 * c) 0 5) y) := by
    rw [b89_94 (by first | (simp only [zC_n, zC_k, zC_r, S.n, wk_0 S V, wk_1 S V, wr_0_0 S V, wr_0_1 S V, wk_9 S V, cl_k S V hc, cl_r S V hc, cl_p S V hc, cl_q S V hc, zq_rf]; done) | (simp only [zC_n, zC_r, S.n, wr_0_0 S V, wr_0_1 S V, cl_r S V hc, cl_p S V hc, zq_rf]; have := V.lt; omega)) (by first | (simp only [zC_n, zC_k, zC_r, S.n, wk_0 S V, wk_1 S V, wr_0_0 S V, wr_0_1 S V, wk_9 S V, cl_k S V hc, cl_r S V hc, cl_p S V hc, cl_q S V hc, zq_rf]; done) | (simp only [zC_n, zC_r, S.n, wr_0_0 S V, wr_0_1 S V, cl_r S V hc, cl_p S V hc, zq_rf]; have := V.lt; omega)), k_en S V hc]
    simp only [Option.bind_some, Option.toList_some, Option.toList_none, List.cons_append, List.nil_append]
    rw [b89_99]
  have q0 : zh_r (zC h W (trF x n j m) y) W 0 = .ref (W + 1) := by rw [zC_r, wr_0_0 S V]
  have q4 : zh_r (zC h W (trF x n j m) y) (W + 1) 4 = .ref (W + 3) := by rw [zC_r, wr_1_4 S V]
  have q6 : zh_r (zC h W (trF x n j m) y) (W + 1) 6 = .ref (W + 5) := by rw [zC_r, wr_1_6 S V]
  rw [b89_0 (by first | (simp only [zC_n, zC_k, zC_r, S.n, wk_0 S V, wk_1 S V, wr_0_0 S V, wr_0_1 S V, wk_9 S V, cl_k S V hc, cl_r S V hc, cl_p S V hc, cl_q S V hc, zq_rf]; done) | (simp only [zC_n, zC_r, S.n, wr_0_0 S V, wr_0_1 S V, cl_r S V hc, cl_p S V hc, zq_rf]; have := V.lt; omega)) (by first | (simp only [zC_n, zC_k, zC_r, S.n, wk_0 S V, wk_1 S V, wr_0_0 S V, wr_0_1 S V, wk_9 S V, cl_k S V hc, cl_r S V hc, cl_p S V hc, cl_q S V hc, zq_rf]; done) | (simp only [zC_n, zC_r, S.n, wr_0_0 S V, wr_0_1 S V, cl_r S V hc, cl_p S V hc, zq_rf]; have := V.lt; omega)) (by first | (simp only [zC_n, zC_k, zC_r, S.n, wk_0 S V, wk_1 S V, wr_0_0 S V, wr_0_1 S V, wk_9 S V, cl_k S V hc, cl_r S V hc, cl_p S V hc, cl_q S V hc, zq_rf]; done) | (simp only [zC_n, zC_r, S.n, wr_0_0 S V, wr_0_1 S V, cl_r S V hc, cl_p S V hc, zq_rf]; have := V.lt; omega)) (by first | (simp only [zC_n, zC_k, zC_r, S.n, wk_0 S V, wk_1 S V, wr_0_0 S V, wr_0_1 S V, wk_9 S V, cl_k S V hc, cl_r S V hc, cl_p S V hc, cl_q S V hc, zq_rf]; done) | (simp only [zC_n, zC_r, S.n, wr_0_0 S V, wr_0_1 S V, cl_r S V hc, cl_p S V hc, zq_rf]; have := V.lt; omega)) (by first | (simp only [zC_n, zC_k, zC_r, S.n, wk_0 S V, wk_1 S V, wr_0_0 S V, wr_0_1 S V, wk_9 S V, cl_k S V hc, cl_r S V hc, cl_p S V hc, cl_q S V hc, zq_rf]; done) | (simp only [zC_n, zC_r, S.n, wr_0_0 S V, wr_0_1 S V, cl_r S V hc, cl_p S V hc, zq_rf]; have := V.lt; omega)) (by first | (simp only [zC_n, zC_k, zC_r, S.n, wk_0 S V, wk_1 S V, wr_0_0 S V, wr_0_1 S V, wk_9 S V, cl_k S V hc, cl_r S V hc, cl_p S V hc, cl_q S V hc, zq_rf]; done) | (simp only [zC_n, zC_r, S.n, wr_0_0 S V, wr_0_1 S V, cl_r S V hc, cl_p S V hc, zq_rf]; have := V.lt; omega)) (by first | (simp only [zC_n, zC_k, zC_r, S.n, wk_0 S V, wk_1 S V, wr_0_0 S V, wr_0_1 S V, wk_9 S V, cl_k S V hc, cl_r S V hc, cl_p S V hc, cl_q S V hc, zq_rf]; done) | (simp only [zC_n, zC_r, S.n, wr_0_0 S V, wr_0_1 S V, cl_r S V hc, cl_p S V hc, zq_rf]; have := V.lt; omega)), zC_r, wr_0_0 S V, zq_rf, zC_i (by omega), zC_i (by omega), ea, t_co S V eN hN hn em hm (by omega) hlt hge, if_pos hj, decide_eq_true he, zi_bI_t]
  simp only [Option.bind_some, Option.toList_some, Option.toList_none, List.cons_append, List.nil_append]
  rw [b89_15, if_neg (by decide), b89_24 (by first | (simp only [zC_n, zC_k, zC_r, S.n, wk_0 S V, wk_1 S V, wr_0_0 S V, wr_0_1 S V, wk_9 S V, cl_k S V hc, cl_r S V hc, cl_p S V hc, cl_q S V hc, zq_rf]; done) | (simp only [zC_n, zC_r, S.n, wr_0_0 S V, wr_0_1 S V, cl_r S V hc, cl_p S V hc, zq_rf]; have := V.lt; omega)) (by first | (simp only [zC_n, zC_k, zC_r, S.n, wk_0 S V, wk_1 S V, wr_0_0 S V, wr_0_1 S V, wk_9 S V, cl_k S V hc, cl_r S V hc, cl_p S V hc, cl_q S V hc, zq_rf]; done) | (simp only [zC_n, zC_r, S.n, wr_0_0 S V, wr_0_1 S V, cl_r S V hc, cl_p S V hc, zq_rf]; have := V.lt; omega)) (by first | (simp only [zC_n, zC_k, zC_r, S.n, wk_0 S V, wk_1 S V, wr_0_0 S V, wr_0_1 S V, wk_9 S V, cl_k S V hc, cl_r S V hc, cl_p S V hc, cl_q S V hc, zq_rf]; done) | (simp only [zC_n, zC_r, S.n, wr_0_0 S V, wr_0_1 S V, cl_r S V hc, cl_p S V hc, zq_rf]; have := V.lt; omega)) (by first | (simp only [zC_n, zC_k, zC_r, S.n, wk_0 S V, wk_1 S V, wr_0_0 S V, wr_0_1 S V, wk_9 S V, cl_k S V hc, cl_r S V hc, cl_p S V hc, cl_q S V hc, zq_rf]; done) | (simp only [zC_n, zC_r, S.n, wr_0_0 S V, wr_0_1 S V, cl_r S V hc, cl_p S V hc, zq_rf]; have := V.lt; omega)) (by first | (simp only [zC_n, zC_k, zC_r, S.n, wk_0 S V, wk_1 S V, wr_0_0 S V, wr_0_1 S V, wk_9 S V, cl_k S V hc, cl_r S V hc, cl_p S V hc, cl_q S V hc, zq_rf]; done) | (simp only [zC_n, zC_r, S.n, wr_0_0 S V, wr_0_1 S V, cl_r S V hc, cl_p S V hc, zq_rf]; have := V.lt; omega)) (by first | (simp only [zC_n, zC_k, zC_r, S.n, wk_0 S V, wk_1 S V, wr_0_0 S V, wr_0_1 S V, wk_9 S V, cl_k S V hc, cl_r S V hc, cl_p S V hc, cl_q S V hc, zq_rf]; done) | (simp only [zC_n, zC_r, S.n, wr_0_0 S V, wr_0_1 S V, cl_r S V hc, cl_p S V hc, zq_rf]; have := V.lt; omega)) (by first | (simp only [zC_n, zC_k, zC_r, S.n, wk_0 S V, wk_1 S V, wr_0_0 S V, wr_0_1 S V, wk_9 S V, cl_k S V hc, cl_r S V hc, cl_p S V hc, cl_q S V hc, zq_rf]; done) | (simp only [zC_n, zC_r, S.n, wr_0_0 S V, wr_0_1 S V, cl_r S V hc, cl_p S V hc, zq_rf]; have := V.lt; omega)), zC_r, wr_0_0 S V, zq_rf, zC_i (by omega), zC_i (by omega), ea, t_pl S V eN hN hn em hm (by omega) hlt hge]
  simp only [Option.bind_some, Option.toList_some, Option.toList_none, List.cons_append, List.nil_append]
  rw [b89_47 (by first | (simp only [zC_n, zC_k, zC_r, S.n, wk_0 S V, wk_1 S V, wr_0_0 S V, wr_0_1 S V, wk_9 S V, cl_k S V hc, cl_r S V hc, cl_p S V hc, cl_q S V hc, zq_rf]; done) | (simp only [zC_n, zC_r, S.n, wr_0_0 S V, wr_0_1 S V, cl_r S V hc, cl_p S V hc, zq_rf]; have := V.lt; omega)) (by first | (simp only [zC_n, zC_k, zC_r, S.n, wk_0 S V, wk_1 S V, wr_0_0 S V, wr_0_1 S V, wk_9 S V, cl_k S V hc, cl_r S V hc, cl_p S V hc, cl_q S V hc, zq_rf]; done) | (simp only [zC_n, zC_r, S.n, wr_0_0 S V, wr_0_1 S V, cl_r S V hc, cl_p S V hc, zq_rf]; have := V.lt; omega)), t_rm S V eN hN hn em hm hj]
  simp only [Option.bind_some, Option.toList_some, Option.toList_none, List.cons_append, List.nil_append]
  rw [b89_50 (by first | (simp only [zC_n, zC_k, zC_r, S.n, wk_0 S V, wk_1 S V, wr_0_0 S V, wr_0_1 S V, wk_9 S V, cl_k S V hc, cl_r S V hc, cl_p S V hc, cl_q S V hc, zq_rf]; done) | (simp only [zC_n, zC_r, S.n, wr_0_0 S V, wr_0_1 S V, cl_r S V hc, cl_p S V hc, zq_rf]; have := V.lt; omega)) (by first | (simp only [zC_n, zC_k, zC_r, S.n, wk_0 S V, wk_1 S V, wr_0_0 S V, wr_0_1 S V, wk_9 S V, cl_k S V hc, cl_r S V hc, cl_p S V hc, cl_q S V hc, zq_rf]; done) | (simp only [zC_n, zC_r, S.n, wr_0_0 S V, wr_0_1 S V, cl_r S V hc, cl_p S V hc, zq_rf]; have := V.lt; omega)) (by first | (simp only [zC_n, zC_k, zC_r, S.n, wk_0 S V, wk_1 S V, wr_0_0 S V, wr_0_1 S V, wk_9 S V, cl_k S V hc, cl_r S V hc, cl_p S V hc, cl_q S V hc, zq_rf]; done) | (simp only [zC_n, zC_r, S.n, wr_0_0 S V, wr_0_1 S V, cl_r S V hc, cl_p S V hc, zq_rf]; have := V.lt; omega)) (by first | (simp only [zC_n, zC_k, zC_r, S.n, wk_0 S V, wk_1 S V, wr_0_0 S V, wr_0_1 S V, wk_9 S V, cl_k S V hc, cl_r S V hc, cl_p S V hc, cl_q S V hc, zq_rf]; done) | (simp only [zC_n, zC_r, S.n, wr_0_0 S V, wr_0_1 S V, cl_r S V hc, cl_p S V hc, zq_rf]; have := V.lt; omega)) (by first | (simp only [zC_n, zC_k, zC_r, S.n, wk_0 S V, wk_1 S V, wr_0_0 S V, wr_0_1 S V, wk_9 S V, cl_k S V hc, cl_r S V hc, cl_p S V hc, cl_q S V hc, zq_rf]; done) | (simp only [zC_n, zC_r, S.n, wr_0_0 S V, wr_0_1 S V, cl_r S V hc, cl_p S V hc, zq_rf]; have := V.lt; omega)) (by first | (simp only [zC_n, zC_k, zC_r, S.n, wk_0 S V, wk_1 S V, wr_0_0 S V, wr_0_1 S V, wk_9 S V, cl_k S V hc, cl_r S V hc, cl_p S V hc, cl_q S V hc, zq_rf]; done) | (simp only [zC_n, zC_r, S.n, wr_0_0 S V, wr_0_1 S V, cl_r S V hc, cl_p S V hc, zq_rf]; have := V.lt; omega)) (by first | (simp only [zC_n, zC_k, zC_r, S.n, wk_0 S V, wk_1 S V, wr_0_0 S V, wr_0_1 S V, wk_9 S V, cl_k S V hc, cl_r S V hc, cl_p S V hc, cl_q S V hc, zq_rf]; done) | (simp only [zC_n, zC_r, S.n, wr_0_0 S V, wr_0_1 S V, cl_r S V hc, cl_p S V hc, zq_rf]; have := V.lt; omega)), q0, zq_rf, eA, t_hasY S V (by rw [ro _ _ (by decide) (by decide) (by decide)]; exact eN) hN hn]
  simp only [Option.bind_some, Option.toList_some, Option.toList_none, List.cons_append, List.nil_append]
  rw [b89_61, if_neg (by decide), b89_64 (by first | (simp only [zC_n, zC_k, zC_r, S.n, wk_0 S V, wk_1 S V, wr_0_0 S V, wr_0_1 S V, wk_9 S V, cl_k S V hc, cl_r S V hc, cl_p S V hc, cl_q S V hc, zq_rf]; done) | (simp only [zC_n, zC_r, S.n, wr_0_0 S V, wr_0_1 S V, cl_r S V hc, cl_p S V hc, zq_rf]; have := V.lt; omega)) (by first | (simp only [zC_n, zC_k, zC_r, S.n, wk_0 S V, wk_1 S V, wr_0_0 S V, wr_0_1 S V, wk_9 S V, cl_k S V hc, cl_r S V hc, cl_p S V hc, cl_q S V hc, zq_rf]; done) | (simp only [zC_n, zC_r, S.n, wr_0_0 S V, wr_0_1 S V, cl_r S V hc, cl_p S V hc, zq_rf]; have := V.lt; omega)) (by first | (simp only [zC_n, zC_k, zC_r, S.n, wk_0 S V, wk_1 S V, wr_0_0 S V, wr_0_1 S V, wk_9 S V, cl_k S V hc, cl_r S V hc, cl_p S V hc, cl_q S V hc, zq_rf]; done) | (simp only [zC_n, zC_r, S.n, wr_0_0 S V, wr_0_1 S V, cl_r S V hc, cl_p S V hc, zq_rf]; have := V.lt; omega)) (by first | (simp only [zC_n, zC_k, zC_r, S.n, wk_0 S V, wk_1 S V, wr_0_0 S V, wr_0_1 S V, wk_9 S V, cl_k S V hc, cl_r S V hc, cl_p S V hc, cl_q S V hc, zq_rf]; done) | (simp only [zC_n, zC_r, S.n, wr_0_0 S V, wr_0_1 S V, cl_r S V hc, cl_p S V hc, zq_rf]; have := V.lt; omega)) (by first | (simp only [zC_n, zC_k, zC_r, S.n, wk_0 S V, wk_1 S V, wr_0_0 S V, wr_0_1 S V, wk_9 S V, cl_k S V hc, cl_r S V hc, cl_p S V hc, cl_q S V hc, zq_rf]; done) | (simp only [zC_n, zC_r, S.n, wr_0_0 S V, wr_0_1 S V, cl_r S V hc, cl_p S V hc, zq_rf]; have := V.lt; omega)) (by rw [q0, zq_rf, q4, zq_rf]) (by first | (simp only [zC_n, zC_k, zC_r, S.n, wk_0 S V, wk_1 S V, wr_0_0 S V, wr_0_1 S V, wk_9 S V, cl_k S V hc, cl_r S V hc, cl_p S V hc, cl_q S V hc, zq_rf]; done) | (simp only [zC_n, zC_r, S.n, wr_0_0 S V, wr_0_1 S V, cl_r S V hc, cl_p S V hc, zq_rf]; have := V.lt; omega)) (by first | (simp only [zC_n, zC_k, zC_r, S.n, wk_0 S V, wk_1 S V, wr_0_0 S V, wr_0_1 S V, wk_9 S V, cl_k S V hc, cl_r S V hc, cl_p S V hc, cl_q S V hc, zq_rf]; done) | (simp only [zC_n, zC_r, S.n, wr_0_0 S V, wr_0_1 S V, cl_r S V hc, cl_p S V hc, zq_rf]; have := V.lt; omega)) (by rw [q0, zq_rf, q4, zq_rf, zC_n, S.n]; have := V.lt; omega) (by rw [q0, zq_rf, q4, zq_rf, eA, zC_k, wk_3 S V]; exact hz) (by rw [q0, zq_rf, q4, zq_rf, zC_k, wk_3 S V]), q0, zq_rf, q4, zq_rf, eA, nI_clamp (by omega), zC_i (by decide), r3]
  by_cases h1 : 0 < nI (m - 1)
  · rw [if_pos h1, if_pos (Or.inl h1)]; exact done
  · rw [if_neg h1, b89_79 (by first | (simp only [zC_n, zC_k, zC_r, S.n, wk_0 S V, wk_1 S V, wr_0_0 S V, wr_0_1 S V, wk_9 S V, cl_k S V hc, cl_r S V hc, cl_p S V hc, cl_q S V hc, zq_rf]; done) | (simp only [zC_n, zC_r, S.n, wr_0_0 S V, wr_0_1 S V, cl_r S V hc, cl_p S V hc, zq_rf]; have := V.lt; omega)) (by first | (simp only [zC_n, zC_k, zC_r, S.n, wk_0 S V, wk_1 S V, wr_0_0 S V, wr_0_1 S V, wk_9 S V, cl_k S V hc, cl_r S V hc, cl_p S V hc, cl_q S V hc, zq_rf]; done) | (simp only [zC_n, zC_r, S.n, wr_0_0 S V, wr_0_1 S V, cl_r S V hc, cl_p S V hc, zq_rf]; have := V.lt; omega)) (by first | (simp only [zC_n, zC_k, zC_r, S.n, wk_0 S V, wk_1 S V, wr_0_0 S V, wr_0_1 S V, wk_9 S V, cl_k S V hc, cl_r S V hc, cl_p S V hc, cl_q S V hc, zq_rf]; done) | (simp only [zC_n, zC_r, S.n, wr_0_0 S V, wr_0_1 S V, cl_r S V hc, cl_p S V hc, zq_rf]; have := V.lt; omega)) (by first | (simp only [zC_n, zC_k, zC_r, S.n, wk_0 S V, wk_1 S V, wr_0_0 S V, wr_0_1 S V, wk_9 S V, cl_k S V hc, cl_r S V hc, cl_p S V hc, cl_q S V hc, zq_rf]; done) | (simp only [zC_n, zC_r, S.n, wr_0_0 S V, wr_0_1 S V, cl_r S V hc, cl_p S V hc, zq_rf]; have := V.lt; omega)) (by first | (simp only [zC_n, zC_k, zC_r, S.n, wk_0 S V, wk_1 S V, wr_0_0 S V, wr_0_1 S V, wk_9 S V, cl_k S V hc, cl_r S V hc, cl_p S V hc, cl_q S V hc, zq_rf]; done) | (simp only [zC_n, zC_r, S.n, wr_0_0 S V, wr_0_1 S V, cl_r S V hc, cl_p S V hc, zq_rf]; have := V.lt; omega)) (by rw [q0, zq_rf, q6, zq_rf]) (by first | (simp only [zC_n, zC_k, zC_r, S.n, wk_0 S V, wk_1 S V, wr_0_0 S V, wr_0_1 S V, wk_9 S V, cl_k S V hc, cl_r S V hc, cl_p S V hc, cl_q S V hc, zq_rf]; done) | (simp only [zC_n, zC_r, S.n, wr_0_0 S V, wr_0_1 S V, cl_r S V hc, cl_p S V hc, zq_rf]; have := V.lt; omega)) (by first | (simp only [zC_n, zC_k, zC_r, S.n, wk_0 S V, wk_1 S V, wr_0_0 S V, wr_0_1 S V, wk_9 S V, cl_k S V hc, cl_r S V hc, cl_p S V hc, cl_q S V hc, zq_rf]; done) | (simp only [zC_n, zC_r, S.n, wr_0_0 S V, wr_0_1 S V, cl_r S V hc, cl_p S V hc, zq_rf]; have := V.lt; omega)) (by rw [q0, zq_rf, q6, zq_rf, zC_n, S.n]; have := V.lt; omega) (by rw [q0, zq_rf, q6, zq_rf, eA, zC_k, wk_5 S V]; exact hz) (by rw [q0, zq_rf, q6, zq_rf, zC_k, wk_5 S V]), q0, zq_rf, q6, zq_rf, eA, nI_clamp (by omega), zC_i (by decide), ro _ _ (by decide) (by decide) (by decide)]
    by_cases h2 : x 5 n < 0
    · rw [if_pos h2, if_pos (Or.inr h2)]; exact done
    · rw [if_neg h2, if_neg (fun q => q.elim h1 h2)]
/-- TAKE: the leaf dies -/
def diK (x : Nat → Nat → Int32) (c n : Nat) : Nat → Nat → Int32 := riK (u2 (u2 x (10 + 2 * c) 10 (nI n)) (10 + 2 * c) 8 (x 4 n)) c 1 1
theorem e_d (S : Sh h) (V : Wa W) (hc : c < 3) (eN : x 1 0 = nI N) (hN : N ≤ 24) (ea : x (10 + 2 * c) 3 = nI n) (hn : n < N) : zv 4 89 100 [.ref W, .ref (W + (10 + 2 * c))] [] (zC h W x y) = some (some (.int 6), zC h W (diK x c n) (u2 (u2 y 6 n true) (10 + 2 * c) 11 true)) := by
  have hz : ¬ (nI n < 0 ∨ 24 ≤ (nI n).toNatClampNeg) := zj_n (by omega) (by decide)
  have q0 : ∀ {x y}, zh_r (zC h W x y) W 0 = .ref (W + 1) := fun {x y} => by rw [zC_r, wr_0_0 S V]
  have q7 : zh_r (zC h W x y) (W + 1) 7 = .ref (W + 6) := by rw [zC_r, wr_1_7 S V]
  have eA : zh_i (zC h W x y) (W + (10 + 2 * c)) 3 = nI n := by rw [zC_i (by omega)]; exact ea
  have u1 : ∀ a k, a ≠ 10 + 2 * c → u2 x (10 + 2 * c) 10 (nI n) a k = x a k := fun a k ha => u2_n _ _ (Or.inl ha)
  rw [b89_100 (by first | (simp only [zC_n, zC_k, zC_r, S.n, wk_0 S V, wk_1 S V, wr_0_0 S V, wr_0_1 S V, wk_9 S V, cl_k S V hc, cl_r S V hc, cl_p S V hc, cl_q S V hc, zq_rf]; done) | (simp only [zC_n, zC_r, S.n, wr_0_0 S V, wr_0_1 S V, cl_r S V hc, cl_p S V hc, zq_rf]; have := V.lt; omega)) (by first | (simp only [zC_n, zC_k, zC_r, S.n, wk_0 S V, wk_1 S V, wr_0_0 S V, wr_0_1 S V, wk_9 S V, cl_k S V hc, cl_r S V hc, cl_p S V hc, cl_q S V hc, zq_rf]; done) | (simp only [zC_n, zC_r, S.n, wr_0_0 S V, wr_0_1 S V, cl_r S V hc, cl_p S V hc, zq_rf]; have := V.lt; omega)) (by first | (simp only [zC_n, zC_k, zC_r, S.n, wk_0 S V, wk_1 S V, wr_0_0 S V, wr_0_1 S V, wk_9 S V, cl_k S V hc, cl_r S V hc, cl_p S V hc, cl_q S V hc, zq_rf]; done) | (simp only [zC_n, zC_r, S.n, wr_0_0 S V, wr_0_1 S V, cl_r S V hc, cl_p S V hc, zq_rf]; have := V.lt; omega)) (by first | (simp only [zC_n, zC_k, zC_r, S.n, wk_0 S V, wk_1 S V, wr_0_0 S V, wr_0_1 S V, wk_9 S V, cl_k S V hc, cl_r S V hc, cl_p S V hc, cl_q S V hc, zq_rf]; done) | (simp only [zC_n, zC_r, S.n, wr_0_0 S V, wr_0_1 S V, cl_r S V hc, cl_p S V hc, zq_rf]; have := V.lt; omega)) (by first | (simp only [zC_n, zC_k, zC_r, S.n, wk_0 S V, wk_1 S V, wr_0_0 S V, wr_0_1 S V, wk_9 S V, cl_k S V hc, cl_r S V hc, cl_p S V hc, cl_q S V hc, zq_rf]; done) | (simp only [zC_n, zC_r, S.n, wr_0_0 S V, wr_0_1 S V, cl_r S V hc, cl_p S V hc, zq_rf]; have := V.lt; omega)) (by rw [q0, zq_rf, q7, zq_rf]) (by first | (simp only [zC_n, zC_k, zC_r, S.n, wk_0 S V, wk_1 S V, wr_0_0 S V, wr_0_1 S V, wk_9 S V, cl_k S V hc, cl_r S V hc, cl_p S V hc, cl_q S V hc, zq_rf]; done) | (simp only [zC_n, zC_r, S.n, wr_0_0 S V, wr_0_1 S V, cl_r S V hc, cl_p S V hc, zq_rf]; have := V.lt; omega)) (by first | (simp only [zC_n, zC_k, zC_r, S.n, wk_0 S V, wk_1 S V, wr_0_0 S V, wr_0_1 S V, wk_9 S V, cl_k S V hc, cl_r S V hc, cl_p S V hc, cl_q S V hc, zq_rf]; done) | (simp only [zC_n, zC_r, S.n, wr_0_0 S V, wr_0_1 S V, cl_r S V hc, cl_p S V hc, zq_rf]; have := V.lt; omega)) (by rw [q0, zq_rf, q7, zq_rf, zC_n, S.n]; have := V.lt; omega) (by rw [q0, zq_rf, q7, zq_rf, eA, zC_k, wk_6 S V]; exact hz) (by rw [q0, zq_rf, q7, zq_rf, zC_k, wk_6 S V]), q0, zq_rf, q7, zq_rf, eA, nI_clamp (by omega), zC_wb (by decide), b89_115 (by first | (simp only [zC_n, zC_k, zC_r, S.n, wk_0 S V, wk_1 S V, wr_0_0 S V, wr_0_1 S V, wk_9 S V, cl_k S V hc, cl_r S V hc, cl_p S V hc, cl_q S V hc, zq_rf]; done) | (simp only [zC_n, zC_r, S.n, wr_0_0 S V, wr_0_1 S V, cl_r S V hc, cl_p S V hc, zq_rf]; have := V.lt; omega)) (by first | (simp only [zC_n, zC_k, zC_r, S.n, wk_0 S V, wk_1 S V, wr_0_0 S V, wr_0_1 S V, wk_9 S V, cl_k S V hc, cl_r S V hc, cl_p S V hc, cl_q S V hc, zq_rf]; done) | (simp only [zC_n, zC_r, S.n, wr_0_0 S V, wr_0_1 S V, cl_r S V hc, cl_p S V hc, zq_rf]; have := V.lt; omega)) (by first | (simp only [zC_n, zC_k, zC_r, S.n, wk_0 S V, wk_1 S V, wr_0_0 S V, wr_0_1 S V, wk_9 S V, cl_k S V hc, cl_r S V hc, cl_p S V hc, cl_q S V hc, zq_rf]; done) | (simp only [zC_n, zC_r, S.n, wr_0_0 S V, wr_0_1 S V, cl_r S V hc, cl_p S V hc, zq_rf]; have := V.lt; omega)) (by first | (simp only [zC_n, zC_k, zC_r, S.n, wk_0 S V, wk_1 S V, wr_0_0 S V, wr_0_1 S V, wk_9 S V, cl_k S V hc, cl_r S V hc, cl_p S V hc, cl_q S V hc, zq_rf]; done) | (simp only [zC_n, zC_r, S.n, wr_0_0 S V, wr_0_1 S V, cl_r S V hc, cl_p S V hc, zq_rf]; have := V.lt; omega)) (by first | (simp only [zC_n, zC_k, zC_r, S.n, wk_0 S V, wk_1 S V, wr_0_0 S V, wr_0_1 S V, wk_9 S V, cl_k S V hc, cl_r S V hc, cl_p S V hc, cl_q S V hc, zq_rf]; done) | (simp only [zC_n, zC_r, S.n, wr_0_0 S V, wr_0_1 S V, cl_r S V hc, cl_p S V hc, zq_rf]; have := V.lt; omega)) (by first | (simp only [zC_n, zC_k, zC_r, S.n, wk_0 S V, wk_1 S V, wr_0_0 S V, wr_0_1 S V, wk_9 S V, cl_k S V hc, cl_r S V hc, cl_p S V hc, cl_q S V hc, zq_rf]; done) | (simp only [zC_n, zC_r, S.n, wr_0_0 S V, wr_0_1 S V, cl_r S V hc, cl_p S V hc, zq_rf]; have := V.lt; omega)) (by first | (simp only [zC_n, zC_k, zC_r, S.n, wk_0 S V, wk_1 S V, wr_0_0 S V, wr_0_1 S V, wk_9 S V, cl_k S V hc, cl_r S V hc, cl_p S V hc, cl_q S V hc, zq_rf]; done) | (simp only [zC_n, zC_r, S.n, wr_0_0 S V, wr_0_1 S V, cl_r S V hc, cl_p S V hc, zq_rf]; have := V.lt; omega)) (by first | (simp only [zC_n, zC_k, zC_r, S.n, wk_0 S V, wk_1 S V, wr_0_0 S V, wr_0_1 S V, wk_9 S V, cl_k S V hc, cl_r S V hc, cl_p S V hc, cl_q S V hc, zq_rf]; done) | (simp only [zC_n, zC_r, S.n, wr_0_0 S V, wr_0_1 S V, cl_r S V hc, cl_p S V hc, zq_rf]; have := V.lt; omega)) (by first | (simp only [zC_n, zC_k, zC_r, S.n, wk_0 S V, wk_1 S V, wr_0_0 S V, wr_0_1 S V, wk_9 S V, cl_k S V hc, cl_r S V hc, cl_p S V hc, cl_q S V hc, zq_rf]; done) | (simp only [zC_n, zC_r, S.n, wr_0_0 S V, wr_0_1 S V, cl_r S V hc, cl_p S V hc, zq_rf]; have := V.lt; omega)), zC_i (by omega), ea, zC_wi (by omega), zC_wb (by omega), q0, zq_rf, b89_132 (by first | (simp only [zC_n, zC_k, zC_r, S.n, wk_0 S V, wk_1 S V, wr_0_0 S V, wr_0_1 S V, wk_9 S V, cl_k S V hc, cl_r S V hc, cl_p S V hc, cl_q S V hc, zq_rf]; done) | (simp only [zC_n, zC_r, S.n, wr_0_0 S V, wr_0_1 S V, cl_r S V hc, cl_p S V hc, zq_rf]; have := V.lt; omega)) (by first | (simp only [zC_n, zC_k, zC_r, S.n, wk_0 S V, wk_1 S V, wr_0_0 S V, wr_0_1 S V, wk_9 S V, cl_k S V hc, cl_r S V hc, cl_p S V hc, cl_q S V hc, zq_rf]; done) | (simp only [zC_n, zC_r, S.n, wr_0_0 S V, wr_0_1 S V, cl_r S V hc, cl_p S V hc, zq_rf]; have := V.lt; omega)) (by first | (simp only [zC_n, zC_k, zC_r, S.n, wk_0 S V, wk_1 S V, wr_0_0 S V, wr_0_1 S V, wk_9 S V, cl_k S V hc, cl_r S V hc, cl_p S V hc, cl_q S V hc, zq_rf]; done) | (simp only [zC_n, zC_r, S.n, wr_0_0 S V, wr_0_1 S V, cl_r S V hc, cl_p S V hc, zq_rf]; have := V.lt; omega)) (by first | (simp only [zC_n, zC_k, zC_r, S.n, wk_0 S V, wk_1 S V, wr_0_0 S V, wr_0_1 S V, wk_9 S V, cl_k S V hc, cl_r S V hc, cl_p S V hc, cl_q S V hc, zq_rf]; done) | (simp only [zC_n, zC_r, S.n, wr_0_0 S V, wr_0_1 S V, cl_r S V hc, cl_p S V hc, zq_rf]; have := V.lt; omega)), zC_i (by omega), u2_n _ _ (Or.inr (by decide)), ea, t_hi S V (by rw [u1 _ _ (by omega)]; exact eN) hN hn, u1 _ _ (by omega)]
  simp only [Option.bind_some, Option.toList_some, Option.toList_none, List.cons_append, List.nil_append]
  have kr := k_ri S V hc (x := u2 (u2 x (10 + 2 * c) 10 (nI n)) (10 + 2 * c) 8 (x 4 n)) (y := u2 (u2 y 6 n true) (10 + 2 * c) 11 true) (l := 1) (by decide) (ans := 1) (v4 := .double 0)
  have kr' : zv 2 88 0 [.ref W, .ref (W + (10 + 2 * c)), .int 1, .int 1, .double 0] [] (zC h W (u2 (u2 x (10 + 2 * c) 10 (nI n)) (10 + 2 * c) 8 (x 4 n)) (u2 (u2 y 6 n true) (10 + 2 * c) 11 true)) = some (none, zC h W (diK x c n) (u2 (u2 y 6 n true) (10 + 2 * c) 11 true)) := kr
  rw [b89_138 (by first | (simp only [zC_n, zC_k, zC_r, S.n, wk_0 S V, wk_1 S V, wr_0_0 S V, wr_0_1 S V, wk_9 S V, cl_k S V hc, cl_r S V hc, cl_p S V hc, cl_q S V hc, zq_rf]; done) | (simp only [zC_n, zC_r, S.n, wr_0_0 S V, wr_0_1 S V, cl_r S V hc, cl_p S V hc, zq_rf]; have := V.lt; omega)) (by first | (simp only [zC_n, zC_k, zC_r, S.n, wk_0 S V, wk_1 S V, wr_0_0 S V, wr_0_1 S V, wk_9 S V, cl_k S V hc, cl_r S V hc, cl_p S V hc, cl_q S V hc, zq_rf]; done) | (simp only [zC_n, zC_r, S.n, wr_0_0 S V, wr_0_1 S V, cl_r S V hc, cl_p S V hc, zq_rf]; have := V.lt; omega)) (by first | (simp only [zC_n, zC_k, zC_r, S.n, wk_0 S V, wk_1 S V, wr_0_0 S V, wr_0_1 S V, wk_9 S V, cl_k S V hc, cl_r S V hc, cl_p S V hc, cl_q S V hc, zq_rf]; done) | (simp only [zC_n, zC_r, S.n, wr_0_0 S V, wr_0_1 S V, cl_r S V hc, cl_p S V hc, zq_rf]; have := V.lt; omega)) (by first | (simp only [zC_n, zC_k, zC_r, S.n, wk_0 S V, wk_1 S V, wr_0_0 S V, wr_0_1 S V, wk_9 S V, cl_k S V hc, cl_r S V hc, cl_p S V hc, cl_q S V hc, zq_rf]; done) | (simp only [zC_n, zC_r, S.n, wr_0_0 S V, wr_0_1 S V, cl_r S V hc, cl_p S V hc, zq_rf]; have := V.lt; omega)), zC_wi (by omega), kr']
  simp only [Option.bind_some, Option.toList_some, Option.toList_none, List.cons_append, List.nil_append]
  rw [b89_148]
/-- a new root -/
def nrK (x : Nat → Nat → Int32) (c N : Nat) : Nat → Nat → Int32 := u2 (u2 (tiF (tiF (taF x N (x (10 + 2 * c) 9)) N 0 0 (x (10 + 2 * c) 8) (x 1 1)) N 1 1 100 (x (10 + 2 * c) 10)) 1 1 (nI N)) (10 + 2 * c) 0 5
theorem ta_o {lv : Int32} {a k : Nat} (ha : 6 ≤ a ∨ (a = 1 ∧ k ≠ 0)) : taF x N lv a k = x a k := by
  unfold taF
  rw [u2_n _ _ (Or.inl (by omega)), u2_n _ _ (Or.inl (by omega)), u2_n _ _ (Or.inl (by omega)), u2_n _ _ (Or.inl (by omega)), u2_n _ _ (by omega)]
theorem ti_o {i : Nat} {key child : Int32} {a k : Nat} (ha : a ≠ 3) (h7 : a ≠ 7) (h8 : a ≠ 8) : tiF x n i m key child a k = x a k := by
  unfold tiF shF
  rw [u2_n _ _ (Or.inl ha), u2_n _ _ (Or.inl h8), u2_n _ _ (Or.inl h7), if_neg (fun q => by omega)]
theorem k_nr (S : Sh h) (V : Wa W) (hc : c < 3) (eN : x 1 0 = nI N) (hN : N < 24) {v2 : Value} : zv 3 91 0 [.ref W, .ref (W + (10 + 2 * c)), v2] [] (zC h W x y) = some (some (.int 7), zC h W (nrK x c N) (u2 y 6 N false)) := by
  have q0 : ∀ {x y}, zh_r (zC h W x y) W 0 = .ref (W + 1) := fun {x y} => by rw [zC_r, wr_0_0 S V]
  have N1 : taF x N (x (10 + 2 * c) 9) 1 0 = nI (N + 1) := by
    unfold taF
    rw [u2_n _ _ (Or.inl (by decide)), u2_n _ _ (Or.inl (by decide)), u2_n _ _ (Or.inl (by decide)), u2_n _ _ (Or.inl (by decide)), u2_s]
  have M1 : taF x N (x (10 + 2 * c) 9) 3 N = nI 0 := by
    unfold taF
    rw [u2_n _ _ (Or.inl (by decide)), u2_n _ _ (Or.inl (by decide)), u2_s]; rfl
  have i0 := t_in S V (x := taF x N (x (10 + 2 * c) 9)) (y := u2 y 6 N false) N1 (by omega) (show N < N + 1 by omega) M1 (by decide) (i := 0) (Nat.le_refl _) (key := x (10 + 2 * c) 8) (child := x 1 1) (u5 := .double 0) (u6 := .double 0)
  have i0' : zv 2 51 0 [.ref (W + 1), .int (nI N), .int 0, .int (x (10 + 2 * c) 8), .int (x 1 1), .double 0, .double 0] [] (zC h W (taF x N (x (10 + 2 * c) 9)) (u2 y 6 N false)) = _ := i0
  have N2 : tiF (taF x N (x (10 + 2 * c) 9)) N 0 0 (x (10 + 2 * c) 8) (x 1 1) 1 0 = nI (N + 1) := by rw [ti_o (by decide) (by decide) (by decide)]; exact N1
  have M2 : tiF (taF x N (x (10 + 2 * c) 9)) N 0 0 (x (10 + 2 * c) 8) (x 1 1) 3 N = nI 1 := by unfold tiF; rw [u2_s]
  have i1 := t_in S V (x := tiF (taF x N (x (10 + 2 * c) 9)) N 0 0 (x (10 + 2 * c) 8) (x 1 1)) (y := u2 y 6 N false) N2 (by omega) (show N < N + 1 by omega) M2 (by decide) (i := 1) (Nat.le_refl _) (key := 100) (child := x (10 + 2 * c) 10) (u5 := .double 0) (u6 := .double 0)
  have i1' : zv 2 51 0 [.ref (W + 1), .int (nI N), .int 1, .int 100, .int (x (10 + 2 * c) 10), .double 0, .double 0] [] (zC h W (tiF (taF x N (x (10 + 2 * c) 9)) N 0 0 (x (10 + 2 * c) 8) (x 1 1)) (u2 y 6 N false)) = _ := i1
  rw [b91_0 (by first | (simp only [zC_n, zC_k, zC_r, S.n, wk_0 S V, wk_1 S V, wr_0_0 S V, wr_0_1 S V, wk_9 S V, cl_k S V hc, cl_r S V hc, cl_p S V hc, cl_q S V hc, zq_rf]; done) | (simp only [zC_n, zC_r, S.n, wr_0_0 S V, wr_0_1 S V, cl_r S V hc, cl_p S V hc, zq_rf]; have := V.lt; omega)) (by first | (simp only [zC_n, zC_k, zC_r, S.n, wk_0 S V, wk_1 S V, wr_0_0 S V, wr_0_1 S V, wk_9 S V, cl_k S V hc, cl_r S V hc, cl_p S V hc, cl_q S V hc, zq_rf]; done) | (simp only [zC_n, zC_r, S.n, wr_0_0 S V, wr_0_1 S V, cl_r S V hc, cl_p S V hc, zq_rf]; have := V.lt; omega)) (by first | (simp only [zC_n, zC_k, zC_r, S.n, wk_0 S V, wk_1 S V, wr_0_0 S V, wr_0_1 S V, wk_9 S V, cl_k S V hc, cl_r S V hc, cl_p S V hc, cl_q S V hc, zq_rf]; done) | (simp only [zC_n, zC_r, S.n, wr_0_0 S V, wr_0_1 S V, cl_r S V hc, cl_p S V hc, zq_rf]; have := V.lt; omega)) (by first | (simp only [zC_n, zC_k, zC_r, S.n, wk_0 S V, wk_1 S V, wr_0_0 S V, wr_0_1 S V, wk_9 S V, cl_k S V hc, cl_r S V hc, cl_p S V hc, cl_q S V hc, zq_rf]; done) | (simp only [zC_n, zC_r, S.n, wr_0_0 S V, wr_0_1 S V, cl_r S V hc, cl_p S V hc, zq_rf]; have := V.lt; omega)) (by first | (simp only [zC_n, zC_k, zC_r, S.n, wk_0 S V, wk_1 S V, wr_0_0 S V, wr_0_1 S V, wk_9 S V, cl_k S V hc, cl_r S V hc, cl_p S V hc, cl_q S V hc, zq_rf]; done) | (simp only [zC_n, zC_r, S.n, wr_0_0 S V, wr_0_1 S V, cl_r S V hc, cl_p S V hc, zq_rf]; have := V.lt; omega)) (by first | (simp only [zC_n, zC_k, zC_r, S.n, wk_0 S V, wk_1 S V, wr_0_0 S V, wr_0_1 S V, wk_9 S V, cl_k S V hc, cl_r S V hc, cl_p S V hc, cl_q S V hc, zq_rf]; done) | (simp only [zC_n, zC_r, S.n, wr_0_0 S V, wr_0_1 S V, cl_r S V hc, cl_p S V hc, zq_rf]; have := V.lt; omega)) (by first | (simp only [zC_n, zC_k, zC_r, S.n, wk_0 S V, wk_1 S V, wr_0_0 S V, wr_0_1 S V, wk_9 S V, cl_k S V hc, cl_r S V hc, cl_p S V hc, cl_q S V hc, zq_rf]; done) | (simp only [zC_n, zC_r, S.n, wr_0_0 S V, wr_0_1 S V, cl_r S V hc, cl_p S V hc, zq_rf]; have := V.lt; omega)), q0, zq_rf, zC_i (by omega), t_ad S V eN hN]
  simp only [Option.bind_some, Option.toList_some, Option.toList_none, List.cons_append, List.nil_append]
  rw [b91_11 (by first | (simp only [zC_n, zC_k, zC_r, S.n, wk_0 S V, wk_1 S V, wr_0_0 S V, wr_0_1 S V, wk_9 S V, cl_k S V hc, cl_r S V hc, cl_p S V hc, cl_q S V hc, zq_rf]; done) | (simp only [zC_n, zC_r, S.n, wr_0_0 S V, wr_0_1 S V, cl_r S V hc, cl_p S V hc, zq_rf]; have := V.lt; omega)) (by first | (simp only [zC_n, zC_k, zC_r, S.n, wk_0 S V, wk_1 S V, wr_0_0 S V, wr_0_1 S V, wk_9 S V, cl_k S V hc, cl_r S V hc, cl_p S V hc, cl_q S V hc, zq_rf]; done) | (simp only [zC_n, zC_r, S.n, wr_0_0 S V, wr_0_1 S V, cl_r S V hc, cl_p S V hc, zq_rf]; have := V.lt; omega)) (by first | (simp only [zC_n, zC_k, zC_r, S.n, wk_0 S V, wk_1 S V, wr_0_0 S V, wr_0_1 S V, wk_9 S V, cl_k S V hc, cl_r S V hc, cl_p S V hc, cl_q S V hc, zq_rf]; done) | (simp only [zC_n, zC_r, S.n, wr_0_0 S V, wr_0_1 S V, cl_r S V hc, cl_p S V hc, zq_rf]; have := V.lt; omega)) (by first | (simp only [zC_n, zC_k, zC_r, S.n, wk_0 S V, wk_1 S V, wr_0_0 S V, wr_0_1 S V, wk_9 S V, cl_k S V hc, cl_r S V hc, cl_p S V hc, cl_q S V hc, zq_rf]; done) | (simp only [zC_n, zC_r, S.n, wr_0_0 S V, wr_0_1 S V, cl_r S V hc, cl_p S V hc, zq_rf]; have := V.lt; omega)) (by first | (simp only [zC_n, zC_k, zC_r, S.n, wk_0 S V, wk_1 S V, wr_0_0 S V, wr_0_1 S V, wk_9 S V, cl_k S V hc, cl_r S V hc, cl_p S V hc, cl_q S V hc, zq_rf]; done) | (simp only [zC_n, zC_r, S.n, wr_0_0 S V, wr_0_1 S V, cl_r S V hc, cl_p S V hc, zq_rf]; have := V.lt; omega)) (by first | (simp only [zC_n, zC_k, zC_r, S.n, wk_0 S V, wk_1 S V, wr_0_0 S V, wr_0_1 S V, wk_9 S V, cl_k S V hc, cl_r S V hc, cl_p S V hc, cl_q S V hc, zq_rf]; done) | (simp only [zC_n, zC_r, S.n, wr_0_0 S V, wr_0_1 S V, cl_r S V hc, cl_p S V hc, zq_rf]; have := V.lt; omega)) (by first | (simp only [zC_n, zC_k, zC_r, S.n, wk_0 S V, wk_1 S V, wr_0_0 S V, wr_0_1 S V, wk_9 S V, cl_k S V hc, cl_r S V hc, cl_p S V hc, cl_q S V hc, zq_rf]; done) | (simp only [zC_n, zC_r, S.n, wr_0_0 S V, wr_0_1 S V, cl_r S V hc, cl_p S V hc, zq_rf]; have := V.lt; omega)), q0, zq_rf, zC_i (by omega), zC_i (by decide), ta_o (by omega), ta_o (by omega), i0']
  simp only [Option.bind_some, Option.toList_some, Option.toList_none, List.cons_append, List.nil_append]
  rw [b91_32 (by first | (simp only [zC_n, zC_k, zC_r, S.n, wk_0 S V, wk_1 S V, wr_0_0 S V, wr_0_1 S V, wk_9 S V, cl_k S V hc, cl_r S V hc, cl_p S V hc, cl_q S V hc, zq_rf]; done) | (simp only [zC_n, zC_r, S.n, wr_0_0 S V, wr_0_1 S V, cl_r S V hc, cl_p S V hc, zq_rf]; have := V.lt; omega)) (by first | (simp only [zC_n, zC_k, zC_r, S.n, wk_0 S V, wk_1 S V, wr_0_0 S V, wr_0_1 S V, wk_9 S V, cl_k S V hc, cl_r S V hc, cl_p S V hc, cl_q S V hc, zq_rf]; done) | (simp only [zC_n, zC_r, S.n, wr_0_0 S V, wr_0_1 S V, cl_r S V hc, cl_p S V hc, zq_rf]; have := V.lt; omega)) (by first | (simp only [zC_n, zC_k, zC_r, S.n, wk_0 S V, wk_1 S V, wr_0_0 S V, wr_0_1 S V, wk_9 S V, cl_k S V hc, cl_r S V hc, cl_p S V hc, cl_q S V hc, zq_rf]; done) | (simp only [zC_n, zC_r, S.n, wr_0_0 S V, wr_0_1 S V, cl_r S V hc, cl_p S V hc, zq_rf]; have := V.lt; omega)) (by first | (simp only [zC_n, zC_k, zC_r, S.n, wk_0 S V, wk_1 S V, wr_0_0 S V, wr_0_1 S V, wk_9 S V, cl_k S V hc, cl_r S V hc, cl_p S V hc, cl_q S V hc, zq_rf]; done) | (simp only [zC_n, zC_r, S.n, wr_0_0 S V, wr_0_1 S V, cl_r S V hc, cl_p S V hc, zq_rf]; have := V.lt; omega)) (by first | (simp only [zC_n, zC_k, zC_r, S.n, wk_0 S V, wk_1 S V, wr_0_0 S V, wr_0_1 S V, wk_9 S V, cl_k S V hc, cl_r S V hc, cl_p S V hc, cl_q S V hc, zq_rf]; done) | (simp only [zC_n, zC_r, S.n, wr_0_0 S V, wr_0_1 S V, cl_r S V hc, cl_p S V hc, zq_rf]; have := V.lt; omega)) (by first | (simp only [zC_n, zC_k, zC_r, S.n, wk_0 S V, wk_1 S V, wr_0_0 S V, wr_0_1 S V, wk_9 S V, cl_k S V hc, cl_r S V hc, cl_p S V hc, cl_q S V hc, zq_rf]; done) | (simp only [zC_n, zC_r, S.n, wr_0_0 S V, wr_0_1 S V, cl_r S V hc, cl_p S V hc, zq_rf]; have := V.lt; omega)) (by first | (simp only [zC_n, zC_k, zC_r, S.n, wk_0 S V, wk_1 S V, wr_0_0 S V, wr_0_1 S V, wk_9 S V, cl_k S V hc, cl_r S V hc, cl_p S V hc, cl_q S V hc, zq_rf]; done) | (simp only [zC_n, zC_r, S.n, wr_0_0 S V, wr_0_1 S V, cl_r S V hc, cl_p S V hc, zq_rf]; have := V.lt; omega)), q0, zq_rf, zC_i (by omega), ti_o (by omega) (by omega) (by omega), ta_o (by omega), i1']
  simp only [Option.bind_some, Option.toList_some, Option.toList_none, List.cons_append, List.nil_append]
  rw [b91_47 (by first | (simp only [zC_n, zC_k, zC_r, S.n, wk_0 S V, wk_1 S V, wr_0_0 S V, wr_0_1 S V, wk_9 S V, cl_k S V hc, cl_r S V hc, cl_p S V hc, cl_q S V hc, zq_rf]; done) | (simp only [zC_n, zC_r, S.n, wr_0_0 S V, wr_0_1 S V, cl_r S V hc, cl_p S V hc, zq_rf]; have := V.lt; omega)) (by first | (simp only [zC_n, zC_k, zC_r, S.n, wk_0 S V, wk_1 S V, wr_0_0 S V, wr_0_1 S V, wk_9 S V, cl_k S V hc, cl_r S V hc, cl_p S V hc, cl_q S V hc, zq_rf]; done) | (simp only [zC_n, zC_r, S.n, wr_0_0 S V, wr_0_1 S V, cl_r S V hc, cl_p S V hc, zq_rf]; have := V.lt; omega)) (by first | (simp only [zC_n, zC_k, zC_r, S.n, wk_0 S V, wk_1 S V, wr_0_0 S V, wr_0_1 S V, wk_9 S V, cl_k S V hc, cl_r S V hc, cl_p S V hc, cl_q S V hc, zq_rf]; done) | (simp only [zC_n, zC_r, S.n, wr_0_0 S V, wr_0_1 S V, cl_r S V hc, cl_p S V hc, zq_rf]; have := V.lt; omega)) (by first | (simp only [zC_n, zC_k, zC_r, S.n, wk_0 S V, wk_1 S V, wr_0_0 S V, wr_0_1 S V, wk_9 S V, cl_k S V hc, cl_r S V hc, cl_p S V hc, cl_q S V hc, zq_rf]; done) | (simp only [zC_n, zC_r, S.n, wr_0_0 S V, wr_0_1 S V, cl_r S V hc, cl_p S V hc, zq_rf]; have := V.lt; omega)) (by first | (simp only [zC_n, zC_k, zC_r, S.n, wk_0 S V, wk_1 S V, wr_0_0 S V, wr_0_1 S V, wk_9 S V, cl_k S V hc, cl_r S V hc, cl_p S V hc, cl_q S V hc, zq_rf]; done) | (simp only [zC_n, zC_r, S.n, wr_0_0 S V, wr_0_1 S V, cl_r S V hc, cl_p S V hc, zq_rf]; have := V.lt; omega)) (by first | (simp only [zC_n, zC_k, zC_r, S.n, wk_0 S V, wk_1 S V, wr_0_0 S V, wr_0_1 S V, wk_9 S V, cl_k S V hc, cl_r S V hc, cl_p S V hc, cl_q S V hc, zq_rf]; done) | (simp only [zC_n, zC_r, S.n, wr_0_0 S V, wr_0_1 S V, cl_r S V hc, cl_p S V hc, zq_rf]; have := V.lt; omega)) (by first | (simp only [zC_n, zC_k, zC_r, S.n, wk_0 S V, wk_1 S V, wr_0_0 S V, wr_0_1 S V, wk_9 S V, cl_k S V hc, cl_r S V hc, cl_p S V hc, cl_q S V hc, zq_rf]; done) | (simp only [zC_n, zC_r, S.n, wr_0_0 S V, wr_0_1 S V, cl_r S V hc, cl_p S V hc, zq_rf]; have := V.lt; omega)), q0, zq_rf, zC_wi (by decide), k_eb S V hc]
  simp only [Option.bind_some, Option.toList_some, Option.toList_none, List.cons_append, List.nil_append]
  rw [b91_61]
  rfl
end R30H
end
section
/-! THE CLASS: POSTS, ABOVE, who may move -/
section R30I
variable {h : zi_Hp} {W N n m c : Nat} {x : Nat → Nat → Int32} {y : Nat → Nat → Bool}
/-- POSTS: the root lies below -/
theorem p_top (S : Sh h) (V : Wa W) (hc : c < 3) (eN : x 1 0 = nI N) (hN : N ≤ 24) {r : Nat} (er : x 1 1 = nI r) (hr : r < N) (hl : x 2 r < x (10 + 2 * c) 9) {v2 : Value} : zv 4 90 0 [.ref W, .ref (W + (10 + 2 * c)), v2] [] (zC h W x y) = if y (10 + 2 * c) 11 = true ∨ N = 24 then some (some (.int 3), zC h W (u2 x (10 + 2 * c) 0 5) y) else some (some (.int 7), zC h W (nrK x c N) (u2 y 6 N false)) := by
  have q0 : zh_r (zC h W x y) W 0 = .ref (W + 1) := by rw [zC_r, wr_0_0 S V]
  have done : zv 4 90 38 [.ref W, .ref (W + (10 + 2 * c)), v2] [] (zC h W x y) = some (some (.int 3), zC h W (u2 x (10 + 2 * c) 0 5) y) := by
    rw [b90_38 (by first | (simp only [zC_n, zC_k, zC_r, S.n, wk_0 S V, wk_1 S V, wr_0_0 S V, wr_0_1 S V, wk_9 S V, cl_k S V hc, cl_r S V hc, cl_p S V hc, cl_q S V hc, zq_rf]; done) | (simp only [zC_n, zC_r, S.n, wr_0_0 S V, wr_0_1 S V, cl_r S V hc, cl_p S V hc, zq_rf]; have := V.lt; omega)) (by first | (simp only [zC_n, zC_k, zC_r, S.n, wk_0 S V, wk_1 S V, wr_0_0 S V, wr_0_1 S V, wk_9 S V, cl_k S V hc, cl_r S V hc, cl_p S V hc, cl_q S V hc, zq_rf]; done) | (simp only [zC_n, zC_r, S.n, wr_0_0 S V, wr_0_1 S V, cl_r S V hc, cl_p S V hc, zq_rf]; have := V.lt; omega)), k_eb S V hc]
    simp only [Option.bind_some, Option.toList_some, Option.toList_none, List.cons_append, List.nil_append]
    rw [b90_43, b90_51]
  rw [b90_0 (by first | (simp only [zC_n, zC_k, zC_r, S.n, wk_0 S V, wk_1 S V, wr_0_0 S V, wr_0_1 S V, wk_9 S V, cl_k S V hc, cl_r S V hc, cl_p S V hc, cl_q S V hc, zq_rf]; done) | (simp only [zC_n, zC_r, S.n, wr_0_0 S V, wr_0_1 S V, cl_r S V hc, cl_p S V hc, zq_rf]; have := V.lt; omega)) (by first | (simp only [zC_n, zC_k, zC_r, S.n, wk_0 S V, wk_1 S V, wr_0_0 S V, wr_0_1 S V, wk_9 S V, cl_k S V hc, cl_r S V hc, cl_p S V hc, cl_q S V hc, zq_rf]; done) | (simp only [zC_n, zC_r, S.n, wr_0_0 S V, wr_0_1 S V, cl_r S V hc, cl_p S V hc, zq_rf]; have := V.lt; omega)) (by first | (simp only [zC_n, zC_k, zC_r, S.n, wk_0 S V, wk_1 S V, wr_0_0 S V, wr_0_1 S V, wk_9 S V, cl_k S V hc, cl_r S V hc, cl_p S V hc, cl_q S V hc, zq_rf]; done) | (simp only [zC_n, zC_r, S.n, wr_0_0 S V, wr_0_1 S V, cl_r S V hc, cl_p S V hc, zq_rf]; have := V.lt; omega)) (by first | (simp only [zC_n, zC_k, zC_r, S.n, wk_0 S V, wk_1 S V, wr_0_0 S V, wr_0_1 S V, wk_9 S V, cl_k S V hc, cl_r S V hc, cl_p S V hc, cl_q S V hc, zq_rf]; done) | (simp only [zC_n, zC_r, S.n, wr_0_0 S V, wr_0_1 S V, cl_r S V hc, cl_p S V hc, zq_rf]; have := V.lt; omega)) (by first | (simp only [zC_n, zC_k, zC_r, S.n, wk_0 S V, wk_1 S V, wr_0_0 S V, wr_0_1 S V, wk_9 S V, cl_k S V hc, cl_r S V hc, cl_p S V hc, cl_q S V hc, zq_rf]; done) | (simp only [zC_n, zC_r, S.n, wr_0_0 S V, wr_0_1 S V, cl_r S V hc, cl_p S V hc, zq_rf]; have := V.lt; omega)), q0, zq_rf, zC_i (by decide), er, t_lv S V eN hN hr]
  simp only [Option.bind_some, Option.toList_some, Option.toList_none, List.cons_append, List.nil_append]
  rw [b90_14 (by first | (simp only [zC_n, zC_k, zC_r, S.n, wk_0 S V, wk_1 S V, wr_0_0 S V, wr_0_1 S V, wk_9 S V, cl_k S V hc, cl_r S V hc, cl_p S V hc, cl_q S V hc, zq_rf]; done) | (simp only [zC_n, zC_r, S.n, wr_0_0 S V, wr_0_1 S V, cl_r S V hc, cl_p S V hc, zq_rf]; have := V.lt; omega)) (by first | (simp only [zC_n, zC_k, zC_r, S.n, wk_0 S V, wk_1 S V, wr_0_0 S V, wr_0_1 S V, wk_9 S V, cl_k S V hc, cl_r S V hc, cl_p S V hc, cl_q S V hc, zq_rf]; done) | (simp only [zC_n, zC_r, S.n, wr_0_0 S V, wr_0_1 S V, cl_r S V hc, cl_p S V hc, zq_rf]; have := V.lt; omega)), zC_i (by omega), if_pos hl, b90_21 (by first | (simp only [zC_n, zC_k, zC_r, S.n, wk_0 S V, wk_1 S V, wr_0_0 S V, wr_0_1 S V, wk_9 S V, cl_k S V hc, cl_r S V hc, cl_p S V hc, cl_q S V hc, zq_rf]; done) | (simp only [zC_n, zC_r, S.n, wr_0_0 S V, wr_0_1 S V, cl_r S V hc, cl_p S V hc, zq_rf]; have := V.lt; omega)) (by first | (simp only [zC_n, zC_k, zC_r, S.n, wk_0 S V, wk_1 S V, wr_0_0 S V, wr_0_1 S V, wk_9 S V, cl_k S V hc, cl_r S V hc, cl_p S V hc, cl_q S V hc, zq_rf]; done) | (simp only [zC_n, zC_r, S.n, wr_0_0 S V, wr_0_1 S V, cl_r S V hc, cl_p S V hc, zq_rf]; have := V.lt; omega)), zC_b (by omega)]
  cases hd : y (10 + 2 * c) 11 with
  | true => rw [zi_bI_t, if_neg (by decide), if_pos (Or.inl rfl)]; exact done
  | false =>
    rw [zi_bI_f, if_pos rfl, b90_28 (by first | (simp only [zC_n, zC_k, zC_r, S.n, wk_0 S V, wk_1 S V, wr_0_0 S V, wr_0_1 S V, wk_9 S V, cl_k S V hc, cl_r S V hc, cl_p S V hc, cl_q S V hc, zq_rf]; done) | (simp only [zC_n, zC_r, S.n, wr_0_0 S V, wr_0_1 S V, cl_r S V hc, cl_p S V hc, zq_rf]; have := V.lt; omega)) (by first | (simp only [zC_n, zC_k, zC_r, S.n, wk_0 S V, wk_1 S V, wr_0_0 S V, wr_0_1 S V, wk_9 S V, cl_k S V hc, cl_r S V hc, cl_p S V hc, cl_q S V hc, zq_rf]; done) | (simp only [zC_n, zC_r, S.n, wr_0_0 S V, wr_0_1 S V, cl_r S V hc, cl_p S V hc, zq_rf]; have := V.lt; omega)) (by first | (simp only [zC_n, zC_k, zC_r, S.n, wk_0 S V, wk_1 S V, wr_0_0 S V, wr_0_1 S V, wk_9 S V, cl_k S V hc, cl_r S V hc, cl_p S V hc, cl_q S V hc, zq_rf]; done) | (simp only [zC_n, zC_r, S.n, wr_0_0 S V, wr_0_1 S V, cl_r S V hc, cl_p S V hc, zq_rf]; have := V.lt; omega)) (by first | (simp only [zC_n, zC_k, zC_r, S.n, wk_0 S V, wk_1 S V, wr_0_0 S V, wr_0_1 S V, wk_9 S V, cl_k S V hc, cl_r S V hc, cl_p S V hc, cl_q S V hc, zq_rf]; done) | (simp only [zC_n, zC_r, S.n, wr_0_0 S V, wr_0_1 S V, cl_r S V hc, cl_p S V hc, zq_rf]; have := V.lt; omega)) (by first | (simp only [zC_n, zC_k, zC_r, S.n, wk_0 S V, wk_1 S V, wr_0_0 S V, wr_0_1 S V, wk_9 S V, cl_k S V hc, cl_r S V hc, cl_p S V hc, cl_q S V hc, zq_rf]; done) | (simp only [zC_n, zC_r, S.n, wr_0_0 S V, wr_0_1 S V, cl_r S V hc, cl_p S V hc, zq_rf]; have := V.lt; omega)), q0, zq_rf, t_fu S V eN hN]
    simp only [Option.bind_some, Option.toList_some, Option.toList_none, List.cons_append, List.nil_append]
    rw [b90_35]
    by_cases h24 : N = 24
    · rw [decide_eq_true h24, zi_bI_t, if_neg (by decide), if_pos (Or.inr h24)]; exact done
    · rw [decide_eq_false h24, zi_bI_f, if_pos rfl, if_neg (fun q => q.elim (by decide) h24), b90_46 (by first | (simp only [zC_n, zC_k, zC_r, S.n, wk_0 S V, wk_1 S V, wr_0_0 S V, wr_0_1 S V, wk_9 S V, cl_k S V hc, cl_r S V hc, cl_p S V hc, cl_q S V hc, zq_rf]; done) | (simp only [zC_n, zC_r, S.n, wr_0_0 S V, wr_0_1 S V, cl_r S V hc, cl_p S V hc, zq_rf]; have := V.lt; omega)) (by first | (simp only [zC_n, zC_k, zC_r, S.n, wk_0 S V, wk_1 S V, wr_0_0 S V, wr_0_1 S V, wk_9 S V, cl_k S V hc, cl_r S V hc, cl_p S V hc, cl_q S V hc, zq_rf]; done) | (simp only [zC_n, zC_r, S.n, wr_0_0 S V, wr_0_1 S V, cl_r S V hc, cl_p S V hc, zq_rf]; have := V.lt; omega)), k_nr S V hc eN (by omega)]
      simp only [Option.bind_some, Option.toList_some, Option.toList_none, List.cons_append, List.nil_append]
      rw [b90_51]
/-- POSTS: the root does not lie below -/
theorem p_low (S : Sh h) (V : Wa W) (hc : c < 3) (eN : x 1 0 = nI N) (hN : N ≤ 24) {r : Nat} (er : x 1 1 = nI r) (hr : r < N) (hl : ¬ x 2 r < x (10 + 2 * c) 9) (ea : x (10 + 2 * c) 3 = nI n) (hn : n < N) {v2 : Value} : zv 4 90 0 [.ref W, .ref (W + (10 + 2 * c)), v2] [] (zC h W x y) = if x 2 n < x (10 + 2 * c) 9 then some (some (.int 9), zC h W (u2 x (10 + 2 * c) 3 (x 1 1)) y) else if x 4 n < x (10 + 2 * c) 8 then zv 4 90 104 [.ref W, .ref (W + (10 + 2 * c)), .int (x 2 n)] [] (zC h W x y) else if x (10 + 2 * c) 9 < x 2 n then zv 4 90 118 [.ref W, .ref (W + (10 + 2 * c)), .int (x 2 n)] [] (zC h W x y) else some (some (.int 4), zC h W (u2 x (10 + 2 * c) 0 4) y) := by
  have q0 : zh_r (zC h W x y) W 0 = .ref (W + 1) := by rw [zC_r, wr_0_0 S V]
  rw [b90_0 (by first | (simp only [zC_n, zC_k, zC_r, S.n, wk_0 S V, wk_1 S V, wr_0_0 S V, wr_0_1 S V, wk_9 S V, cl_k S V hc, cl_r S V hc, cl_p S V hc, cl_q S V hc, zq_rf]; done) | (simp only [zC_n, zC_r, S.n, wr_0_0 S V, wr_0_1 S V, cl_r S V hc, cl_p S V hc, zq_rf]; have := V.lt; omega)) (by first | (simp only [zC_n, zC_k, zC_r, S.n, wk_0 S V, wk_1 S V, wr_0_0 S V, wr_0_1 S V, wk_9 S V, cl_k S V hc, cl_r S V hc, cl_p S V hc, cl_q S V hc, zq_rf]; done) | (simp only [zC_n, zC_r, S.n, wr_0_0 S V, wr_0_1 S V, cl_r S V hc, cl_p S V hc, zq_rf]; have := V.lt; omega)) (by first | (simp only [zC_n, zC_k, zC_r, S.n, wk_0 S V, wk_1 S V, wr_0_0 S V, wr_0_1 S V, wk_9 S V, cl_k S V hc, cl_r S V hc, cl_p S V hc, cl_q S V hc, zq_rf]; done) | (simp only [zC_n, zC_r, S.n, wr_0_0 S V, wr_0_1 S V, cl_r S V hc, cl_p S V hc, zq_rf]; have := V.lt; omega)) (by first | (simp only [zC_n, zC_k, zC_r, S.n, wk_0 S V, wk_1 S V, wr_0_0 S V, wr_0_1 S V, wk_9 S V, cl_k S V hc, cl_r S V hc, cl_p S V hc, cl_q S V hc, zq_rf]; done) | (simp only [zC_n, zC_r, S.n, wr_0_0 S V, wr_0_1 S V, cl_r S V hc, cl_p S V hc, zq_rf]; have := V.lt; omega)) (by first | (simp only [zC_n, zC_k, zC_r, S.n, wk_0 S V, wk_1 S V, wr_0_0 S V, wr_0_1 S V, wk_9 S V, cl_k S V hc, cl_r S V hc, cl_p S V hc, cl_q S V hc, zq_rf]; done) | (simp only [zC_n, zC_r, S.n, wr_0_0 S V, wr_0_1 S V, cl_r S V hc, cl_p S V hc, zq_rf]; have := V.lt; omega)), q0, zq_rf, zC_i (by decide), er, t_lv S V eN hN hr]
  simp only [Option.bind_some, Option.toList_some, Option.toList_none, List.cons_append, List.nil_append]
  rw [b90_14 (by first | (simp only [zC_n, zC_k, zC_r, S.n, wk_0 S V, wk_1 S V, wr_0_0 S V, wr_0_1 S V, wk_9 S V, cl_k S V hc, cl_r S V hc, cl_p S V hc, cl_q S V hc, zq_rf]; done) | (simp only [zC_n, zC_r, S.n, wr_0_0 S V, wr_0_1 S V, cl_r S V hc, cl_p S V hc, zq_rf]; have := V.lt; omega)) (by first | (simp only [zC_n, zC_k, zC_r, S.n, wk_0 S V, wk_1 S V, wr_0_0 S V, wr_0_1 S V, wk_9 S V, cl_k S V hc, cl_r S V hc, cl_p S V hc, cl_q S V hc, zq_rf]; done) | (simp only [zC_n, zC_r, S.n, wr_0_0 S V, wr_0_1 S V, cl_r S V hc, cl_p S V hc, zq_rf]; have := V.lt; omega)), zC_i (by omega), if_neg hl, b90_52 (by first | (simp only [zC_n, zC_k, zC_r, S.n, wk_0 S V, wk_1 S V, wr_0_0 S V, wr_0_1 S V, wk_9 S V, cl_k S V hc, cl_r S V hc, cl_p S V hc, cl_q S V hc, zq_rf]; done) | (simp only [zC_n, zC_r, S.n, wr_0_0 S V, wr_0_1 S V, cl_r S V hc, cl_p S V hc, zq_rf]; have := V.lt; omega)) (by first | (simp only [zC_n, zC_k, zC_r, S.n, wk_0 S V, wk_1 S V, wr_0_0 S V, wr_0_1 S V, wk_9 S V, cl_k S V hc, cl_r S V hc, cl_p S V hc, cl_q S V hc, zq_rf]; done) | (simp only [zC_n, zC_r, S.n, wr_0_0 S V, wr_0_1 S V, cl_r S V hc, cl_p S V hc, zq_rf]; have := V.lt; omega)) (by first | (simp only [zC_n, zC_k, zC_r, S.n, wk_0 S V, wk_1 S V, wr_0_0 S V, wr_0_1 S V, wk_9 S V, cl_k S V hc, cl_r S V hc, cl_p S V hc, cl_q S V hc, zq_rf]; done) | (simp only [zC_n, zC_r, S.n, wr_0_0 S V, wr_0_1 S V, cl_r S V hc, cl_p S V hc, zq_rf]; have := V.lt; omega)) (by first | (simp only [zC_n, zC_k, zC_r, S.n, wk_0 S V, wk_1 S V, wr_0_0 S V, wr_0_1 S V, wk_9 S V, cl_k S V hc, cl_r S V hc, cl_p S V hc, cl_q S V hc, zq_rf]; done) | (simp only [zC_n, zC_r, S.n, wr_0_0 S V, wr_0_1 S V, cl_r S V hc, cl_p S V hc, zq_rf]; have := V.lt; omega)) (by first | (simp only [zC_n, zC_k, zC_r, S.n, wk_0 S V, wk_1 S V, wr_0_0 S V, wr_0_1 S V, wk_9 S V, cl_k S V hc, cl_r S V hc, cl_p S V hc, cl_q S V hc, zq_rf]; done) | (simp only [zC_n, zC_r, S.n, wr_0_0 S V, wr_0_1 S V, cl_r S V hc, cl_p S V hc, zq_rf]; have := V.lt; omega)) (by first | (simp only [zC_n, zC_k, zC_r, S.n, wk_0 S V, wk_1 S V, wr_0_0 S V, wr_0_1 S V, wk_9 S V, cl_k S V hc, cl_r S V hc, cl_p S V hc, cl_q S V hc, zq_rf]; done) | (simp only [zC_n, zC_r, S.n, wr_0_0 S V, wr_0_1 S V, cl_r S V hc, cl_p S V hc, zq_rf]; have := V.lt; omega)) (by first | (simp only [zC_n, zC_k, zC_r, S.n, wk_0 S V, wk_1 S V, wr_0_0 S V, wr_0_1 S V, wk_9 S V, cl_k S V hc, cl_r S V hc, cl_p S V hc, cl_q S V hc, zq_rf]; done) | (simp only [zC_n, zC_r, S.n, wr_0_0 S V, wr_0_1 S V, cl_r S V hc, cl_p S V hc, zq_rf]; have := V.lt; omega)), q0, zq_rf, zC_i (by omega), ea, t_lv S V eN hN hn]
  simp only [Option.bind_some, Option.toList_some, Option.toList_none, List.cons_append, List.nil_append]
  rw [b90_63 (by first | (simp only [zC_n, zC_k, zC_r, S.n, wk_0 S V, wk_1 S V, wr_0_0 S V, wr_0_1 S V, wk_9 S V, cl_k S V hc, cl_r S V hc, cl_p S V hc, cl_q S V hc, zq_rf]; done) | (simp only [zC_n, zC_r, S.n, wr_0_0 S V, wr_0_1 S V, cl_r S V hc, cl_p S V hc, zq_rf]; have := V.lt; omega)) (by first | (simp only [zC_n, zC_k, zC_r, S.n, wk_0 S V, wk_1 S V, wr_0_0 S V, wr_0_1 S V, wk_9 S V, cl_k S V hc, cl_r S V hc, cl_p S V hc, cl_q S V hc, zq_rf]; done) | (simp only [zC_n, zC_r, S.n, wr_0_0 S V, wr_0_1 S V, cl_r S V hc, cl_p S V hc, zq_rf]; have := V.lt; omega)), zC_i (by omega)]
  by_cases h1 : x 2 n < x (10 + 2 * c) 9
  · rw [if_pos h1, if_pos h1, b90_72 (by first | (simp only [zC_n, zC_k, zC_r, S.n, wk_0 S V, wk_1 S V, wr_0_0 S V, wr_0_1 S V, wk_9 S V, cl_k S V hc, cl_r S V hc, cl_p S V hc, cl_q S V hc, zq_rf]; done) | (simp only [zC_n, zC_r, S.n, wr_0_0 S V, wr_0_1 S V, cl_r S V hc, cl_p S V hc, zq_rf]; have := V.lt; omega)) (by first | (simp only [zC_n, zC_k, zC_r, S.n, wk_0 S V, wk_1 S V, wr_0_0 S V, wr_0_1 S V, wk_9 S V, cl_k S V hc, cl_r S V hc, cl_p S V hc, cl_q S V hc, zq_rf]; done) | (simp only [zC_n, zC_r, S.n, wr_0_0 S V, wr_0_1 S V, cl_r S V hc, cl_p S V hc, zq_rf]; have := V.lt; omega)) (by first | (simp only [zC_n, zC_k, zC_r, S.n, wk_0 S V, wk_1 S V, wr_0_0 S V, wr_0_1 S V, wk_9 S V, cl_k S V hc, cl_r S V hc, cl_p S V hc, cl_q S V hc, zq_rf]; done) | (simp only [zC_n, zC_r, S.n, wr_0_0 S V, wr_0_1 S V, cl_r S V hc, cl_p S V hc, zq_rf]; have := V.lt; omega)) (by first | (simp only [zC_n, zC_k, zC_r, S.n, wk_0 S V, wk_1 S V, wr_0_0 S V, wr_0_1 S V, wk_9 S V, cl_k S V hc, cl_r S V hc, cl_p S V hc, cl_q S V hc, zq_rf]; done) | (simp only [zC_n, zC_r, S.n, wr_0_0 S V, wr_0_1 S V, cl_r S V hc, cl_p S V hc, zq_rf]; have := V.lt; omega)) (by first | (simp only [zC_n, zC_k, zC_r, S.n, wk_0 S V, wk_1 S V, wr_0_0 S V, wr_0_1 S V, wk_9 S V, cl_k S V hc, cl_r S V hc, cl_p S V hc, cl_q S V hc, zq_rf]; done) | (simp only [zC_n, zC_r, S.n, wr_0_0 S V, wr_0_1 S V, cl_r S V hc, cl_p S V hc, zq_rf]; have := V.lt; omega)) (by first | (simp only [zC_n, zC_k, zC_r, S.n, wk_0 S V, wk_1 S V, wr_0_0 S V, wr_0_1 S V, wk_9 S V, cl_k S V hc, cl_r S V hc, cl_p S V hc, cl_q S V hc, zq_rf]; done) | (simp only [zC_n, zC_r, S.n, wr_0_0 S V, wr_0_1 S V, cl_r S V hc, cl_p S V hc, zq_rf]; have := V.lt; omega)) (by first | (simp only [zC_n, zC_k, zC_r, S.n, wk_0 S V, wk_1 S V, wr_0_0 S V, wr_0_1 S V, wk_9 S V, cl_k S V hc, cl_r S V hc, cl_p S V hc, cl_q S V hc, zq_rf]; done) | (simp only [zC_n, zC_r, S.n, wr_0_0 S V, wr_0_1 S V, cl_r S V hc, cl_p S V hc, zq_rf]; have := V.lt; omega)), q0, zq_rf, zC_i (by decide), er, zC_wi (by omega)]
  · rw [if_neg h1, if_neg h1, b90_86 (by first | (simp only [zC_n, zC_k, zC_r, S.n, wk_0 S V, wk_1 S V, wr_0_0 S V, wr_0_1 S V, wk_9 S V, cl_k S V hc, cl_r S V hc, cl_p S V hc, cl_q S V hc, zq_rf]; done) | (simp only [zC_n, zC_r, S.n, wr_0_0 S V, wr_0_1 S V, cl_r S V hc, cl_p S V hc, zq_rf]; have := V.lt; omega)) (by first | (simp only [zC_n, zC_k, zC_r, S.n, wk_0 S V, wk_1 S V, wr_0_0 S V, wr_0_1 S V, wk_9 S V, cl_k S V hc, cl_r S V hc, cl_p S V hc, cl_q S V hc, zq_rf]; done) | (simp only [zC_n, zC_r, S.n, wr_0_0 S V, wr_0_1 S V, cl_r S V hc, cl_p S V hc, zq_rf]; have := V.lt; omega)) (by first | (simp only [zC_n, zC_k, zC_r, S.n, wk_0 S V, wk_1 S V, wr_0_0 S V, wr_0_1 S V, wk_9 S V, cl_k S V hc, cl_r S V hc, cl_p S V hc, cl_q S V hc, zq_rf]; done) | (simp only [zC_n, zC_r, S.n, wr_0_0 S V, wr_0_1 S V, cl_r S V hc, cl_p S V hc, zq_rf]; have := V.lt; omega)) (by first | (simp only [zC_n, zC_k, zC_r, S.n, wk_0 S V, wk_1 S V, wr_0_0 S V, wr_0_1 S V, wk_9 S V, cl_k S V hc, cl_r S V hc, cl_p S V hc, cl_q S V hc, zq_rf]; done) | (simp only [zC_n, zC_r, S.n, wr_0_0 S V, wr_0_1 S V, cl_r S V hc, cl_p S V hc, zq_rf]; have := V.lt; omega)) (by first | (simp only [zC_n, zC_k, zC_r, S.n, wk_0 S V, wk_1 S V, wr_0_0 S V, wr_0_1 S V, wk_9 S V, cl_k S V hc, cl_r S V hc, cl_p S V hc, cl_q S V hc, zq_rf]; done) | (simp only [zC_n, zC_r, S.n, wr_0_0 S V, wr_0_1 S V, cl_r S V hc, cl_p S V hc, zq_rf]; have := V.lt; omega)) (by first | (simp only [zC_n, zC_k, zC_r, S.n, wk_0 S V, wk_1 S V, wr_0_0 S V, wr_0_1 S V, wk_9 S V, cl_k S V hc, cl_r S V hc, cl_p S V hc, cl_q S V hc, zq_rf]; done) | (simp only [zC_n, zC_r, S.n, wr_0_0 S V, wr_0_1 S V, cl_r S V hc, cl_p S V hc, zq_rf]; have := V.lt; omega)) (by first | (simp only [zC_n, zC_k, zC_r, S.n, wk_0 S V, wk_1 S V, wr_0_0 S V, wr_0_1 S V, wk_9 S V, cl_k S V hc, cl_r S V hc, cl_p S V hc, cl_q S V hc, zq_rf]; done) | (simp only [zC_n, zC_r, S.n, wr_0_0 S V, wr_0_1 S V, cl_r S V hc, cl_p S V hc, zq_rf]; have := V.lt; omega)), q0, zq_rf, zC_i (by omega), zC_i (by omega), ea, t_hi S V eN hN hn]
    simp only [Option.bind_some, Option.toList_some, Option.toList_none, List.cons_append, List.nil_append]
    rw [b90_101]
    by_cases h2 : x 4 n < x (10 + 2 * c) 8
    · rw [if_pos h2, if_pos h2]
    · rw [if_neg h2, if_neg h2, b90_110 (by first | (simp only [zC_n, zC_k, zC_r, S.n, wk_0 S V, wk_1 S V, wr_0_0 S V, wr_0_1 S V, wk_9 S V, cl_k S V hc, cl_r S V hc, cl_p S V hc, cl_q S V hc, zq_rf]; done) | (simp only [zC_n, zC_r, S.n, wr_0_0 S V, wr_0_1 S V, cl_r S V hc, cl_p S V hc, zq_rf]; have := V.lt; omega)) (by first | (simp only [zC_n, zC_k, zC_r, S.n, wk_0 S V, wk_1 S V, wr_0_0 S V, wr_0_1 S V, wk_9 S V, cl_k S V hc, cl_r S V hc, cl_p S V hc, cl_q S V hc, zq_rf]; done) | (simp only [zC_n, zC_r, S.n, wr_0_0 S V, wr_0_1 S V, cl_r S V hc, cl_p S V hc, zq_rf]; have := V.lt; omega)), zC_i (by omega)]
      by_cases h3 : x (10 + 2 * c) 9 < x 2 n
      · rw [if_pos h3, if_pos h3]
      · rw [if_neg h3, if_neg h3, b90_128 (by first | (simp only [zC_n, zC_k, zC_r, S.n, wk_0 S V, wk_1 S V, wr_0_0 S V, wr_0_1 S V, wk_9 S V, cl_k S V hc, cl_r S V hc, cl_p S V hc, cl_q S V hc, zq_rf]; done) | (simp only [zC_n, zC_r, S.n, wr_0_0 S V, wr_0_1 S V, cl_r S V hc, cl_p S V hc, zq_rf]; have := V.lt; omega)) (by first | (simp only [zC_n, zC_k, zC_r, S.n, wk_0 S V, wk_1 S V, wr_0_0 S V, wr_0_1 S V, wk_9 S V, cl_k S V hc, cl_r S V hc, cl_p S V hc, cl_q S V hc, zq_rf]; done) | (simp only [zC_n, zC_r, S.n, wr_0_0 S V, wr_0_1 S V, cl_r S V hc, cl_p S V hc, zq_rf]; have := V.lt; omega)), zC_wi (by omega)]
theorem p_r (S : Sh h) (V : Wa W) (hc : c < 3) (eN : x 1 0 = nI N) (hN : N ≤ 24) (ea : x (10 + 2 * c) 3 = nI n) (hn : n < N) (hr : ¬ x 5 n < 0) {v : Int32} : zv 4 90 104 [.ref W, .ref (W + (10 + 2 * c)), .int v] [] (zC h W x y) = some (some (.int 1), zC h W (u2 x (10 + 2 * c) 3 (x 5 n)) y) := by
  rw [b90_104 (by first | (simp only [zC_n, zC_k, zC_r, S.n, wk_0 S V, wk_1 S V, wr_0_0 S V, wr_0_1 S V, wk_9 S V, cl_k S V hc, cl_r S V hc, cl_p S V hc, cl_q S V hc, zq_rf]; done) | (simp only [zC_n, zC_r, S.n, wr_0_0 S V, wr_0_1 S V, cl_r S V hc, cl_p S V hc, zq_rf]; have := V.lt; omega)) (by first | (simp only [zC_n, zC_k, zC_r, S.n, wk_0 S V, wk_1 S V, wr_0_0 S V, wr_0_1 S V, wk_9 S V, cl_k S V hc, cl_r S V hc, cl_p S V hc, cl_q S V hc, zq_rf]; done) | (simp only [zC_n, zC_r, S.n, wr_0_0 S V, wr_0_1 S V, cl_r S V hc, cl_p S V hc, zq_rf]; have := V.lt; omega)), k_gr S V hc eN hN ea hn hr]
  simp only [Option.bind_some, Option.toList_some, Option.toList_none, List.cons_append, List.nil_append]
  rw [b90_109]
theorem p_c (S : Sh h) (V : Wa W) (hc : c < 3) (eN : x 1 0 = nI N) (hN : N ≤ 24) (ea : x (10 + 2 * c) 3 = nI n) (hn : n < N) (em : x 3 n = nI m) (hm : m ≤ 5) {j : Nat} (hj : j < m) (hlt : ∀ i, i < j → x 7 (5 * n + i) < x (10 + 2 * c) 8) (hge : ¬ x 7 (5 * n + j) < x (10 + 2 * c) 8) (hl : 0 < x 2 n) (hv : ¬ x 8 (5 * n + j) < 0) {v : Int32} : zv 4 90 118 [.ref W, .ref (W + (10 + 2 * c)), .int v] [] (zC h W x y) = some (some (.int 2), zC h W (u2 x (10 + 2 * c) 3 (x 8 (5 * n + j))) y) := by
  rw [b90_118 (by first | (simp only [zC_n, zC_k, zC_r, S.n, wk_0 S V, wk_1 S V, wr_0_0 S V, wr_0_1 S V, wk_9 S V, cl_k S V hc, cl_r S V hc, cl_p S V hc, cl_q S V hc, zq_rf]; done) | (simp only [zC_n, zC_r, S.n, wr_0_0 S V, wr_0_1 S V, cl_r S V hc, cl_p S V hc, zq_rf]; have := V.lt; omega)) (by first | (simp only [zC_n, zC_k, zC_r, S.n, wk_0 S V, wk_1 S V, wr_0_0 S V, wr_0_1 S V, wk_9 S V, cl_k S V hc, cl_r S V hc, cl_p S V hc, cl_q S V hc, zq_rf]; done) | (simp only [zC_n, zC_r, S.n, wr_0_0 S V, wr_0_1 S V, cl_r S V hc, cl_p S V hc, zq_rf]; have := V.lt; omega)) (by first | (simp only [zC_n, zC_k, zC_r, S.n, wk_0 S V, wk_1 S V, wr_0_0 S V, wr_0_1 S V, wk_9 S V, cl_k S V hc, cl_r S V hc, cl_p S V hc, cl_q S V hc, zq_rf]; done) | (simp only [zC_n, zC_r, S.n, wr_0_0 S V, wr_0_1 S V, cl_r S V hc, cl_p S V hc, zq_rf]; have := V.lt; omega)) (by first | (simp only [zC_n, zC_k, zC_r, S.n, wk_0 S V, wk_1 S V, wr_0_0 S V, wr_0_1 S V, wk_9 S V, cl_k S V hc, cl_r S V hc, cl_p S V hc, cl_q S V hc, zq_rf]; done) | (simp only [zC_n, zC_r, S.n, wr_0_0 S V, wr_0_1 S V, cl_r S V hc, cl_p S V hc, zq_rf]; have := V.lt; omega)), zC_i (by omega), k_gc S V hc eN hN ea hn em hm hj hlt hge hl hv]
  simp only [Option.bind_some, Option.toList_some, Option.toList_none, List.cons_append, List.nil_append]
  rw [b90_127]
/-- ABOVE, of a split -/
theorem a_s (S : Sh h) (V : Wa W) (hc : c < 3) (eN : x 1 0 = nI N) (hN : N ≤ 24) (ea : x (10 + 2 * c) 3 = nI n) (hn : n < N) (em : x 3 n = nI m) (hm : m ≤ 4) {j : Nat} (hj : j < m) (hlt : ∀ i, i < j → x 7 (5 * n + i) < x (10 + 2 * c) 8) (hge : ¬ x 7 (5 * n + j) < x (10 + 2 * c) 8) (hl : 0 < x 2 n) {v2 v3 : Value} : zv 4 92 0 [.ref W, .ref (W + (10 + 2 * c)), v2, v3] [] (zC h W x y) = if x 7 (5 * n + j) = x (10 + 2 * c) 8 then some (some (.int 3), zC h W (u2 x (10 + 2 * c) 0 5) y) else if x 3 n < x 1 2 then zv 4 92 119 [.ref W, .ref (W + (10 + 2 * c)), .int (nI j), .int 1] [] (zC h W (u2 (tiF x n j m (x (10 + 2 * c) 8) (x 8 (5 * n + j))) 8 (5 * n + (j + 1)) (x (10 + 2 * c) 10)) y) else if N = 24 then some (some (.int 3), zC h W (u2 x (10 + 2 * c) 0 5) y) else zv 4 92 119 [.ref W, .ref (W + (10 + 2 * c)), .int (nI j), .int 0] [] (zC h W (u2 (tiF x n j m (x (10 + 2 * c) 8) (x 8 (5 * n + j))) 8 (5 * n + (j + 1)) (x (10 + 2 * c) 10)) y) := by
  have q0 : ∀ {x y}, zh_r (zC h W x y) W 0 = .ref (W + 1) := fun {x y} => by rw [zC_r, wr_0_0 S V]
  have to := fun a k h1 h2 h3 => ti_o (x := x) (n := n) (m := m) (i := j) (key := x (10 + 2 * c) 8) (child := x 8 (5 * n + j)) (a := a) (k := k) h1 h2 h3
  have ins : ∀ v : Int32, zv 4 92 73 [.ref W, .ref (W + (10 + 2 * c)), .int (nI j), .int v] [] (zC h W x y) = zv 4 92 119 [.ref W, .ref (W + (10 + 2 * c)), .int (nI j), .int v] [] (zC h W (u2 (tiF x n j m (x (10 + 2 * c) 8) (x 8 (5 * n + j))) 8 (5 * n + (j + 1)) (x (10 + 2 * c) 10)) y) := fun v => by
    rw [b92_73 (by first | (simp only [zC_n, zC_k, zC_r, S.n, wk_0 S V, wk_1 S V, wr_0_0 S V, wr_0_1 S V, wk_9 S V, cl_k S V hc, cl_r S V hc, cl_p S V hc, cl_q S V hc, zq_rf]; done) | (simp only [zC_n, zC_r, S.n, wr_0_0 S V, wr_0_1 S V, cl_r S V hc, cl_p S V hc, zq_rf]; have := V.lt; omega)) (by first | (simp only [zC_n, zC_k, zC_r, S.n, wk_0 S V, wk_1 S V, wr_0_0 S V, wr_0_1 S V, wk_9 S V, cl_k S V hc, cl_r S V hc, cl_p S V hc, cl_q S V hc, zq_rf]; done) | (simp only [zC_n, zC_r, S.n, wr_0_0 S V, wr_0_1 S V, cl_r S V hc, cl_p S V hc, zq_rf]; have := V.lt; omega)) (by first | (simp only [zC_n, zC_k, zC_r, S.n, wk_0 S V, wk_1 S V, wr_0_0 S V, wr_0_1 S V, wk_9 S V, cl_k S V hc, cl_r S V hc, cl_p S V hc, cl_q S V hc, zq_rf]; done) | (simp only [zC_n, zC_r, S.n, wr_0_0 S V, wr_0_1 S V, cl_r S V hc, cl_p S V hc, zq_rf]; have := V.lt; omega)) (by first | (simp only [zC_n, zC_k, zC_r, S.n, wk_0 S V, wk_1 S V, wr_0_0 S V, wr_0_1 S V, wk_9 S V, cl_k S V hc, cl_r S V hc, cl_p S V hc, cl_q S V hc, zq_rf]; done) | (simp only [zC_n, zC_r, S.n, wr_0_0 S V, wr_0_1 S V, cl_r S V hc, cl_p S V hc, zq_rf]; have := V.lt; omega)) (by first | (simp only [zC_n, zC_k, zC_r, S.n, wk_0 S V, wk_1 S V, wr_0_0 S V, wr_0_1 S V, wk_9 S V, cl_k S V hc, cl_r S V hc, cl_p S V hc, cl_q S V hc, zq_rf]; done) | (simp only [zC_n, zC_r, S.n, wr_0_0 S V, wr_0_1 S V, cl_r S V hc, cl_p S V hc, zq_rf]; have := V.lt; omega)) (by first | (simp only [zC_n, zC_k, zC_r, S.n, wk_0 S V, wk_1 S V, wr_0_0 S V, wr_0_1 S V, wk_9 S V, cl_k S V hc, cl_r S V hc, cl_p S V hc, cl_q S V hc, zq_rf]; done) | (simp only [zC_n, zC_r, S.n, wr_0_0 S V, wr_0_1 S V, cl_r S V hc, cl_p S V hc, zq_rf]; have := V.lt; omega)) (by first | (simp only [zC_n, zC_k, zC_r, S.n, wk_0 S V, wk_1 S V, wr_0_0 S V, wr_0_1 S V, wk_9 S V, cl_k S V hc, cl_r S V hc, cl_p S V hc, cl_q S V hc, zq_rf]; done) | (simp only [zC_n, zC_r, S.n, wr_0_0 S V, wr_0_1 S V, cl_r S V hc, cl_p S V hc, zq_rf]; have := V.lt; omega)), q0, zq_rf, zC_i (by omega), zC_i (by omega), ea, t_ch S V eN hN hn em (by omega) (by omega), if_pos ⟨hl, hj⟩]
    simp only [Option.bind_some, Option.toList_some, Option.toList_none, List.cons_append, List.nil_append]
    rw [b92_98 (by first | (simp only [zC_n, zC_k, zC_r, S.n, wk_0 S V, wk_1 S V, wr_0_0 S V, wr_0_1 S V, wk_9 S V, cl_k S V hc, cl_r S V hc, cl_p S V hc, cl_q S V hc, zq_rf]; done) | (simp only [zC_n, zC_r, S.n, wr_0_0 S V, wr_0_1 S V, cl_r S V hc, cl_p S V hc, zq_rf]; have := V.lt; omega)) (by first | (simp only [zC_n, zC_k, zC_r, S.n, wk_0 S V, wk_1 S V, wr_0_0 S V, wr_0_1 S V, wk_9 S V, cl_k S V hc, cl_r S V hc, cl_p S V hc, cl_q S V hc, zq_rf]; done) | (simp only [zC_n, zC_r, S.n, wr_0_0 S V, wr_0_1 S V, cl_r S V hc, cl_p S V hc, zq_rf]; have := V.lt; omega)), t_in S V eN hN hn em (by omega) (by omega)]
    simp only [Option.bind_some, Option.toList_some, Option.toList_none, List.cons_append, List.nil_append]
    rw [b92_101 (by first | (simp only [zC_n, zC_k, zC_r, S.n, wk_0 S V, wk_1 S V, wr_0_0 S V, wr_0_1 S V, wk_9 S V, cl_k S V hc, cl_r S V hc, cl_p S V hc, cl_q S V hc, zq_rf]; done) | (simp only [zC_n, zC_r, S.n, wr_0_0 S V, wr_0_1 S V, cl_r S V hc, cl_p S V hc, zq_rf]; have := V.lt; omega)) (by first | (simp only [zC_n, zC_k, zC_r, S.n, wk_0 S V, wk_1 S V, wr_0_0 S V, wr_0_1 S V, wk_9 S V, cl_k S V hc, cl_r S V hc, cl_p S V hc, cl_q S V hc, zq_rf]; done) | (simp only [zC_n, zC_r, S.n, wr_0_0 S V, wr_0_1 S V, cl_r S V hc, cl_p S V hc, zq_rf]; have := V.lt; omega)) (by first | (simp only [zC_n, zC_k, zC_r, S.n, wk_0 S V, wk_1 S V, wr_0_0 S V, wr_0_1 S V, wk_9 S V, cl_k S V hc, cl_r S V hc, cl_p S V hc, cl_q S V hc, zq_rf]; done) | (simp only [zC_n, zC_r, S.n, wr_0_0 S V, wr_0_1 S V, cl_r S V hc, cl_p S V hc, zq_rf]; have := V.lt; omega)) (by first | (simp only [zC_n, zC_k, zC_r, S.n, wk_0 S V, wk_1 S V, wr_0_0 S V, wr_0_1 S V, wk_9 S V, cl_k S V hc, cl_r S V hc, cl_p S V hc, cl_q S V hc, zq_rf]; done) | (simp only [zC_n, zC_r, S.n, wr_0_0 S V, wr_0_1 S V, cl_r S V hc, cl_p S V hc, zq_rf]; have := V.lt; omega)) (by first | (simp only [zC_n, zC_k, zC_r, S.n, wk_0 S V, wk_1 S V, wr_0_0 S V, wr_0_1 S V, wk_9 S V, cl_k S V hc, cl_r S V hc, cl_p S V hc, cl_q S V hc, zq_rf]; done) | (simp only [zC_n, zC_r, S.n, wr_0_0 S V, wr_0_1 S V, cl_r S V hc, cl_p S V hc, zq_rf]; have := V.lt; omega)) (by first | (simp only [zC_n, zC_k, zC_r, S.n, wk_0 S V, wk_1 S V, wr_0_0 S V, wr_0_1 S V, wk_9 S V, cl_k S V hc, cl_r S V hc, cl_p S V hc, cl_q S V hc, zq_rf]; done) | (simp only [zC_n, zC_r, S.n, wr_0_0 S V, wr_0_1 S V, cl_r S V hc, cl_p S V hc, zq_rf]; have := V.lt; omega)) (by first | (simp only [zC_n, zC_k, zC_r, S.n, wk_0 S V, wk_1 S V, wr_0_0 S V, wr_0_1 S V, wk_9 S V, cl_k S V hc, cl_r S V hc, cl_p S V hc, cl_q S V hc, zq_rf]; done) | (simp only [zC_n, zC_r, S.n, wr_0_0 S V, wr_0_1 S V, cl_r S V hc, cl_p S V hc, zq_rf]; have := V.lt; omega)), q0, zq_rf, zC_i (by omega), zC_i (by omega), to _ _ (by omega) (by omega) (by omega), to _ _ (by omega) (by omega) (by omega), ea, nI_s, t_sc S V (N := N) (m := m + 1) (by rw [to _ _ (by decide) (by decide) (by decide)]; exact eN) hN hn (by unfold tiF; rw [u2_s]) (by omega) (by omega)]
    simp only [Option.bind_some, Option.toList_some, Option.toList_none, List.cons_append, List.nil_append]
  have done : zv 4 92 35 [.ref W, .ref (W + (10 + 2 * c)), .int (nI j), v3] [] (zC h W x y) = some (some (.int 3), zC h W (u2 x (10 + 2 * c) 0 5) y) := by
    rw [b92_35 (by first | (simp only [zC_n, zC_k, zC_r, S.n, wk_0 S V, wk_1 S V, wr_0_0 S V, wr_0_1 S V, wk_9 S V, cl_k S V hc, cl_r S V hc, cl_p S V hc, cl_q S V hc, zq_rf]; done) | (simp only [zC_n, zC_r, S.n, wr_0_0 S V, wr_0_1 S V, cl_r S V hc, cl_p S V hc, zq_rf]; have := V.lt; omega)) (by first | (simp only [zC_n, zC_k, zC_r, S.n, wk_0 S V, wk_1 S V, wr_0_0 S V, wr_0_1 S V, wk_9 S V, cl_k S V hc, cl_r S V hc, cl_p S V hc, cl_q S V hc, zq_rf]; done) | (simp only [zC_n, zC_r, S.n, wr_0_0 S V, wr_0_1 S V, cl_r S V hc, cl_p S V hc, zq_rf]; have := V.lt; omega)), k_eb S V hc]
    simp only [Option.bind_some, Option.toList_some, Option.toList_none, List.cons_append, List.nil_append]
    rw [b92_40]
  rw [b92_0 (by first | (simp only [zC_n, zC_k, zC_r, S.n, wk_0 S V, wk_1 S V, wr_0_0 S V, wr_0_1 S V, wk_9 S V, cl_k S V hc, cl_r S V hc, cl_p S V hc, cl_q S V hc, zq_rf]; done) | (simp only [zC_n, zC_r, S.n, wr_0_0 S V, wr_0_1 S V, cl_r S V hc, cl_p S V hc, zq_rf]; have := V.lt; omega)) (by first | (simp only [zC_n, zC_k, zC_r, S.n, wk_0 S V, wk_1 S V, wr_0_0 S V, wr_0_1 S V, wk_9 S V, cl_k S V hc, cl_r S V hc, cl_p S V hc, cl_q S V hc, zq_rf]; done) | (simp only [zC_n, zC_r, S.n, wr_0_0 S V, wr_0_1 S V, cl_r S V hc, cl_p S V hc, zq_rf]; have := V.lt; omega)) (by first | (simp only [zC_n, zC_k, zC_r, S.n, wk_0 S V, wk_1 S V, wr_0_0 S V, wr_0_1 S V, wk_9 S V, cl_k S V hc, cl_r S V hc, cl_p S V hc, cl_q S V hc, zq_rf]; done) | (simp only [zC_n, zC_r, S.n, wr_0_0 S V, wr_0_1 S V, cl_r S V hc, cl_p S V hc, zq_rf]; have := V.lt; omega)) (by first | (simp only [zC_n, zC_k, zC_r, S.n, wk_0 S V, wk_1 S V, wr_0_0 S V, wr_0_1 S V, wk_9 S V, cl_k S V hc, cl_r S V hc, cl_p S V hc, cl_q S V hc, zq_rf]; done) | (simp only [zC_n, zC_r, S.n, wr_0_0 S V, wr_0_1 S V, cl_r S V hc, cl_p S V hc, zq_rf]; have := V.lt; omega)) (by first | (simp only [zC_n, zC_k, zC_r, S.n, wk_0 S V, wk_1 S V, wr_0_0 S V, wr_0_1 S V, wk_9 S V, cl_k S V hc, cl_r S V hc, cl_p S V hc, cl_q S V hc, zq_rf]; done) | (simp only [zC_n, zC_r, S.n, wr_0_0 S V, wr_0_1 S V, cl_r S V hc, cl_p S V hc, zq_rf]; have := V.lt; omega)) (by first | (simp only [zC_n, zC_k, zC_r, S.n, wk_0 S V, wk_1 S V, wr_0_0 S V, wr_0_1 S V, wk_9 S V, cl_k S V hc, cl_r S V hc, cl_p S V hc, cl_q S V hc, zq_rf]; done) | (simp only [zC_n, zC_r, S.n, wr_0_0 S V, wr_0_1 S V, cl_r S V hc, cl_p S V hc, zq_rf]; have := V.lt; omega)) (by first | (simp only [zC_n, zC_k, zC_r, S.n, wk_0 S V, wk_1 S V, wr_0_0 S V, wr_0_1 S V, wk_9 S V, cl_k S V hc, cl_r S V hc, cl_p S V hc, cl_q S V hc, zq_rf]; done) | (simp only [zC_n, zC_r, S.n, wr_0_0 S V, wr_0_1 S V, cl_r S V hc, cl_p S V hc, zq_rf]; have := V.lt; omega)), q0, zq_rf, zC_i (by omega), zC_i (by omega), ea, t_pl S V eN hN hn em (by omega) (by omega) hlt (fun _ => hge)]
  simp only [Option.bind_some, Option.toList_some, Option.toList_none, List.cons_append, List.nil_append]
  rw [b92_15 (by first | (simp only [zC_n, zC_k, zC_r, S.n, wk_0 S V, wk_1 S V, wr_0_0 S V, wr_0_1 S V, wk_9 S V, cl_k S V hc, cl_r S V hc, cl_p S V hc, cl_q S V hc, zq_rf]; done) | (simp only [zC_n, zC_r, S.n, wr_0_0 S V, wr_0_1 S V, cl_r S V hc, cl_p S V hc, zq_rf]; have := V.lt; omega)) (by first | (simp only [zC_n, zC_k, zC_r, S.n, wk_0 S V, wk_1 S V, wr_0_0 S V, wr_0_1 S V, wk_9 S V, cl_k S V hc, cl_r S V hc, cl_p S V hc, cl_q S V hc, zq_rf]; done) | (simp only [zC_n, zC_r, S.n, wr_0_0 S V, wr_0_1 S V, cl_r S V hc, cl_p S V hc, zq_rf]; have := V.lt; omega)) (by first | (simp only [zC_n, zC_k, zC_r, S.n, wk_0 S V, wk_1 S V, wr_0_0 S V, wr_0_1 S V, wk_9 S V, cl_k S V hc, cl_r S V hc, cl_p S V hc, cl_q S V hc, zq_rf]; done) | (simp only [zC_n, zC_r, S.n, wr_0_0 S V, wr_0_1 S V, cl_r S V hc, cl_p S V hc, zq_rf]; have := V.lt; omega)) (by first | (simp only [zC_n, zC_k, zC_r, S.n, wk_0 S V, wk_1 S V, wr_0_0 S V, wr_0_1 S V, wk_9 S V, cl_k S V hc, cl_r S V hc, cl_p S V hc, cl_q S V hc, zq_rf]; done) | (simp only [zC_n, zC_r, S.n, wr_0_0 S V, wr_0_1 S V, cl_r S V hc, cl_p S V hc, zq_rf]; have := V.lt; omega)) (by first | (simp only [zC_n, zC_k, zC_r, S.n, wk_0 S V, wk_1 S V, wr_0_0 S V, wr_0_1 S V, wk_9 S V, cl_k S V hc, cl_r S V hc, cl_p S V hc, cl_q S V hc, zq_rf]; done) | (simp only [zC_n, zC_r, S.n, wr_0_0 S V, wr_0_1 S V, cl_r S V hc, cl_p S V hc, zq_rf]; have := V.lt; omega)) (by first | (simp only [zC_n, zC_k, zC_r, S.n, wk_0 S V, wk_1 S V, wr_0_0 S V, wr_0_1 S V, wk_9 S V, cl_k S V hc, cl_r S V hc, cl_p S V hc, cl_q S V hc, zq_rf]; done) | (simp only [zC_n, zC_r, S.n, wr_0_0 S V, wr_0_1 S V, cl_r S V hc, cl_p S V hc, zq_rf]; have := V.lt; omega)) (by first | (simp only [zC_n, zC_k, zC_r, S.n, wk_0 S V, wk_1 S V, wr_0_0 S V, wr_0_1 S V, wk_9 S V, cl_k S V hc, cl_r S V hc, cl_p S V hc, cl_q S V hc, zq_rf]; done) | (simp only [zC_n, zC_r, S.n, wr_0_0 S V, wr_0_1 S V, cl_r S V hc, cl_p S V hc, zq_rf]; have := V.lt; omega)), q0, zq_rf, zC_i (by omega), ea, t_ke S V eN hN hn em (by omega) (by omega), if_pos hj]
  simp only [Option.bind_some, Option.toList_some, Option.toList_none, List.cons_append, List.nil_append]
  rw [b92_28 (by first | (simp only [zC_n, zC_k, zC_r, S.n, wk_0 S V, wk_1 S V, wr_0_0 S V, wr_0_1 S V, wk_9 S V, cl_k S V hc, cl_r S V hc, cl_p S V hc, cl_q S V hc, zq_rf]; done) | (simp only [zC_n, zC_r, S.n, wr_0_0 S V, wr_0_1 S V, cl_r S V hc, cl_p S V hc, zq_rf]; have := V.lt; omega)) (by first | (simp only [zC_n, zC_k, zC_r, S.n, wk_0 S V, wk_1 S V, wr_0_0 S V, wr_0_1 S V, wk_9 S V, cl_k S V hc, cl_r S V hc, cl_p S V hc, cl_q S V hc, zq_rf]; done) | (simp only [zC_n, zC_r, S.n, wr_0_0 S V, wr_0_1 S V, cl_r S V hc, cl_p S V hc, zq_rf]; have := V.lt; omega)), zC_i (by omega)]
  by_cases he : x 7 (5 * n + j) = x (10 + 2 * c) 8
  · rw [if_pos he, if_pos he]; exact done
  · rw [if_neg he, if_neg he, b92_41 (by first | (simp only [zC_n, zC_k, zC_r, S.n, wk_0 S V, wk_1 S V, wr_0_0 S V, wr_0_1 S V, wk_9 S V, cl_k S V hc, cl_r S V hc, cl_p S V hc, cl_q S V hc, zq_rf]; done) | (simp only [zC_n, zC_r, S.n, wr_0_0 S V, wr_0_1 S V, cl_r S V hc, cl_p S V hc, zq_rf]; have := V.lt; omega)) (by first | (simp only [zC_n, zC_k, zC_r, S.n, wk_0 S V, wk_1 S V, wr_0_0 S V, wr_0_1 S V, wk_9 S V, cl_k S V hc, cl_r S V hc, cl_p S V hc, cl_q S V hc, zq_rf]; done) | (simp only [zC_n, zC_r, S.n, wr_0_0 S V, wr_0_1 S V, cl_r S V hc, cl_p S V hc, zq_rf]; have := V.lt; omega)) (by first | (simp only [zC_n, zC_k, zC_r, S.n, wk_0 S V, wk_1 S V, wr_0_0 S V, wr_0_1 S V, wk_9 S V, cl_k S V hc, cl_r S V hc, cl_p S V hc, cl_q S V hc, zq_rf]; done) | (simp only [zC_n, zC_r, S.n, wr_0_0 S V, wr_0_1 S V, cl_r S V hc, cl_p S V hc, zq_rf]; have := V.lt; omega)) (by first | (simp only [zC_n, zC_k, zC_r, S.n, wk_0 S V, wk_1 S V, wr_0_0 S V, wr_0_1 S V, wk_9 S V, cl_k S V hc, cl_r S V hc, cl_p S V hc, cl_q S V hc, zq_rf]; done) | (simp only [zC_n, zC_r, S.n, wr_0_0 S V, wr_0_1 S V, cl_r S V hc, cl_p S V hc, zq_rf]; have := V.lt; omega)) (by first | (simp only [zC_n, zC_k, zC_r, S.n, wk_0 S V, wk_1 S V, wr_0_0 S V, wr_0_1 S V, wk_9 S V, cl_k S V hc, cl_r S V hc, cl_p S V hc, cl_q S V hc, zq_rf]; done) | (simp only [zC_n, zC_r, S.n, wr_0_0 S V, wr_0_1 S V, cl_r S V hc, cl_p S V hc, zq_rf]; have := V.lt; omega)) (by first | (simp only [zC_n, zC_k, zC_r, S.n, wk_0 S V, wk_1 S V, wr_0_0 S V, wr_0_1 S V, wk_9 S V, cl_k S V hc, cl_r S V hc, cl_p S V hc, cl_q S V hc, zq_rf]; done) | (simp only [zC_n, zC_r, S.n, wr_0_0 S V, wr_0_1 S V, cl_r S V hc, cl_p S V hc, zq_rf]; have := V.lt; omega)) (by first | (simp only [zC_n, zC_k, zC_r, S.n, wk_0 S V, wk_1 S V, wr_0_0 S V, wr_0_1 S V, wk_9 S V, cl_k S V hc, cl_r S V hc, cl_p S V hc, cl_q S V hc, zq_rf]; done) | (simp only [zC_n, zC_r, S.n, wr_0_0 S V, wr_0_1 S V, cl_r S V hc, cl_p S V hc, zq_rf]; have := V.lt; omega)), q0, zq_rf, zC_i (by omega), ea, t_ro S V eN hN hn]
    simp only [Option.bind_some, Option.toList_some, Option.toList_none, List.cons_append, List.nil_append]
    rw [b92_52]
    by_cases hf : x 3 n < x 1 2
    · rw [decide_eq_true hf, zi_bI_t, if_neg (by decide), if_pos hf]; exact ins 1
    · rw [decide_eq_false hf, zi_bI_f, if_pos rfl, if_neg hf, b92_57 (by first | (simp only [zC_n, zC_k, zC_r, S.n, wk_0 S V, wk_1 S V, wr_0_0 S V, wr_0_1 S V, wk_9 S V, cl_k S V hc, cl_r S V hc, cl_p S V hc, cl_q S V hc, zq_rf]; done) | (simp only [zC_n, zC_r, S.n, wr_0_0 S V, wr_0_1 S V, cl_r S V hc, cl_p S V hc, zq_rf]; have := V.lt; omega)) (by first | (simp only [zC_n, zC_k, zC_r, S.n, wk_0 S V, wk_1 S V, wr_0_0 S V, wr_0_1 S V, wk_9 S V, cl_k S V hc, cl_r S V hc, cl_p S V hc, cl_q S V hc, zq_rf]; done) | (simp only [zC_n, zC_r, S.n, wr_0_0 S V, wr_0_1 S V, cl_r S V hc, cl_p S V hc, zq_rf]; have := V.lt; omega)) (by first | (simp only [zC_n, zC_k, zC_r, S.n, wk_0 S V, wk_1 S V, wr_0_0 S V, wr_0_1 S V, wk_9 S V, cl_k S V hc, cl_r S V hc, cl_p S V hc, cl_q S V hc, zq_rf]; done) | (simp only [zC_n, zC_r, S.n, wr_0_0 S V, wr_0_1 S V, cl_r S V hc, cl_p S V hc, zq_rf]; have := V.lt; omega)) (by first | (simp only [zC_n, zC_k, zC_r, S.n, wk_0 S V, wk_1 S V, wr_0_0 S V, wr_0_1 S V, wk_9 S V, cl_k S V hc, cl_r S V hc, cl_p S V hc, cl_q S V hc, zq_rf]; done) | (simp only [zC_n, zC_r, S.n, wr_0_0 S V, wr_0_1 S V, cl_r S V hc, cl_p S V hc, zq_rf]; have := V.lt; omega)) (by first | (simp only [zC_n, zC_k, zC_r, S.n, wk_0 S V, wk_1 S V, wr_0_0 S V, wr_0_1 S V, wk_9 S V, cl_k S V hc, cl_r S V hc, cl_p S V hc, cl_q S V hc, zq_rf]; done) | (simp only [zC_n, zC_r, S.n, wr_0_0 S V, wr_0_1 S V, cl_r S V hc, cl_p S V hc, zq_rf]; have := V.lt; omega)), q0, zq_rf, t_fu S V eN hN]
      simp only [Option.bind_some, Option.toList_some, Option.toList_none, List.cons_append, List.nil_append]
      rw [b92_64]
      by_cases h24 : N = 24
      · rw [decide_eq_true h24, zi_bI_t, if_neg (by decide), if_pos h24, b92_67 (by first | (simp only [zC_n, zC_k, zC_r, S.n, wk_0 S V, wk_1 S V, wr_0_0 S V, wr_0_1 S V, wk_9 S V, cl_k S V hc, cl_r S V hc, cl_p S V hc, cl_q S V hc, zq_rf]; done) | (simp only [zC_n, zC_r, S.n, wr_0_0 S V, wr_0_1 S V, cl_r S V hc, cl_p S V hc, zq_rf]; have := V.lt; omega)) (by first | (simp only [zC_n, zC_k, zC_r, S.n, wk_0 S V, wk_1 S V, wr_0_0 S V, wr_0_1 S V, wk_9 S V, cl_k S V hc, cl_r S V hc, cl_p S V hc, cl_q S V hc, zq_rf]; done) | (simp only [zC_n, zC_r, S.n, wr_0_0 S V, wr_0_1 S V, cl_r S V hc, cl_p S V hc, zq_rf]; have := V.lt; omega)), k_eb S V hc]
        simp only [Option.bind_some, Option.toList_some, Option.toList_none, List.cons_append, List.nil_append]
        rw [b92_72]
      · rw [decide_eq_false h24, zi_bI_f, if_pos rfl, if_neg h24]; exact ins 0
theorem a_o (S : Sh h) (V : Wa W) (hc : c < 3) {v : Int32} : zv 4 92 119 [.ref W, .ref (W + (10 + 2 * c)), .int v, .int 1] [] (zC h W x y) = some (some (.int 8), zC h W (u2 x (10 + 2 * c) 0 5) y) := by
  rw [b92_119, if_neg (by decide), b92_123 (by first | (simp only [zC_n, zC_k, zC_r, S.n, wk_0 S V, wk_1 S V, wr_0_0 S V, wr_0_1 S V, wk_9 S V, cl_k S V hc, cl_r S V hc, cl_p S V hc, cl_q S V hc, zq_rf]; done) | (simp only [zC_n, zC_r, S.n, wr_0_0 S V, wr_0_1 S V, cl_r S V hc, cl_p S V hc, zq_rf]; have := V.lt; omega)) (by first | (simp only [zC_n, zC_k, zC_r, S.n, wk_0 S V, wk_1 S V, wr_0_0 S V, wr_0_1 S V, wk_9 S V, cl_k S V hc, cl_r S V hc, cl_p S V hc, cl_q S V hc, zq_rf]; done) | (simp only [zC_n, zC_r, S.n, wr_0_0 S V, wr_0_1 S V, cl_r S V hc, cl_p S V hc, zq_rf]; have := V.lt; omega)), k_eb S V hc]
  simp only [Option.bind_some, Option.toList_some, Option.toList_none, List.cons_append, List.nil_append]
  rw [b92_129, b92_141]
theorem a_p (S : Sh h) (V : Wa W) (hc : c < 3) (eN : x 1 0 = nI N) (hN : N < 24) (ea : x (10 + 2 * c) 3 = nI n) (hn : n < N) (em : x 3 n = nI m) {ls lv : Nat} (hls : m = 3 ∧ ls = 2 ∨ m = 4 ∧ ls = 2 ∨ m = 5 ∧ ls = 3) (el : x 2 n = nI lv) (hl : lv < 23) {v : Int32} : zv 4 92 119 [.ref W, .ref (W + (10 + 2 * c)), .int v, .int 0] [] (zC h W x y) = some (some (.int 5), zC h W (ptK x c n N m ls lv (x (10 + 2 * c) 4)) (u2 (u2 y 6 N false) (10 + 2 * c) 11 false)) := by
  rw [b92_119, if_pos rfl, b92_132 (by first | (simp only [zC_n, zC_k, zC_r, S.n, wk_0 S V, wk_1 S V, wr_0_0 S V, wr_0_1 S V, wk_9 S V, cl_k S V hc, cl_r S V hc, cl_p S V hc, cl_q S V hc, zq_rf]; done) | (simp only [zC_n, zC_r, S.n, wr_0_0 S V, wr_0_1 S V, cl_r S V hc, cl_p S V hc, zq_rf]; have := V.lt; omega)) (by first | (simp only [zC_n, zC_k, zC_r, S.n, wk_0 S V, wk_1 S V, wr_0_0 S V, wr_0_1 S V, wk_9 S V, cl_k S V hc, cl_r S V hc, cl_p S V hc, cl_q S V hc, zq_rf]; done) | (simp only [zC_n, zC_r, S.n, wr_0_0 S V, wr_0_1 S V, cl_r S V hc, cl_p S V hc, zq_rf]; have := V.lt; omega)) (by first | (simp only [zC_n, zC_k, zC_r, S.n, wk_0 S V, wk_1 S V, wr_0_0 S V, wr_0_1 S V, wk_9 S V, cl_k S V hc, cl_r S V hc, cl_p S V hc, cl_q S V hc, zq_rf]; done) | (simp only [zC_n, zC_r, S.n, wr_0_0 S V, wr_0_1 S V, cl_r S V hc, cl_p S V hc, zq_rf]; have := V.lt; omega)) (by first | (simp only [zC_n, zC_k, zC_r, S.n, wk_0 S V, wk_1 S V, wr_0_0 S V, wr_0_1 S V, wk_9 S V, cl_k S V hc, cl_r S V hc, cl_p S V hc, cl_q S V hc, zq_rf]; done) | (simp only [zC_n, zC_r, S.n, wr_0_0 S V, wr_0_1 S V, cl_r S V hc, cl_p S V hc, zq_rf]; have := V.lt; omega)), zC_i (by omega), k_pt S V hc eN hN ea hn em hls el hl]
  simp only [Option.bind_some, Option.toList_some, Option.toList_none, List.cons_append, List.nil_append]
  rw [b92_141]
/-- ABOVE, of a dead leaf -/
theorem a_d (S : Sh h) (V : Wa W) (hc : c < 3) (eN : x 1 0 = nI N) (hN : N ≤ 24) (ea : x (10 + 2 * c) 3 = nI n) (hn : n < N) (em : x 3 n = nI m) (hm : m ≤ 5) {j : Nat} (hj : j < m) (hlt : ∀ i, i < j → x 7 (5 * n + i) < x (10 + 2 * c) 8) (hge : ¬ x 7 (5 * n + j) < x (10 + 2 * c) 8) (hl : 0 < x 2 n) (hk : ∀ i, i < m → ¬ x 7 (5 * n + i) < 0) {v2 v3 : Value} : zv 3 93 0 [.ref W, .ref (W + (10 + 2 * c)), v2, v3] [] (zC h W x y) = if x 7 (5 * n + j) = x (10 + 2 * c) 8 ∧ x 8 (5 * n + j) = x (10 + 2 * c) 10 ∧ j + 1 < m then some (some (.int 8), zC h W (u2 (trF x n j m) (10 + 2 * c) 0 5) y) else some (some (.int 3), zC h W (u2 x (10 + 2 * c) 0 5) y) := by
  have q0 : ∀ {x y}, zh_r (zC h W x y) W 0 = .ref (W + 1) := fun {x y} => by rw [zC_r, wr_0_0 S V]
  have done : ∀ v : Int32, zv 3 93 81 [.ref W, .ref (W + (10 + 2 * c)), .int (nI j), .int v] [] (zC h W x y) = some (some (.int 3), zC h W (u2 x (10 + 2 * c) 0 5) y) := fun v => by
    rw [b93_81 (by first | (simp only [zC_n, zC_k, zC_r, S.n, wk_0 S V, wk_1 S V, wr_0_0 S V, wr_0_1 S V, wk_9 S V, cl_k S V hc, cl_r S V hc, cl_p S V hc, cl_q S V hc, zq_rf]; done) | (simp only [zC_n, zC_r, S.n, wr_0_0 S V, wr_0_1 S V, cl_r S V hc, cl_p S V hc, zq_rf]; have := V.lt; omega)) (by first | (simp only [zC_n, zC_k, zC_r, S.n, wk_0 S V, wk_1 S V, wr_0_0 S V, wr_0_1 S V, wk_9 S V, cl_k S V hc, cl_r S V hc, cl_p S V hc, cl_q S V hc, zq_rf]; done) | (simp only [zC_n, zC_r, S.n, wr_0_0 S V, wr_0_1 S V, cl_r S V hc, cl_p S V hc, zq_rf]; have := V.lt; omega)), k_eb S V hc]
    simp only [Option.bind_some, Option.toList_some, Option.toList_none, List.cons_append, List.nil_append]
    rw [b93_86]
  have no : zv 3 93 58 [.ref W, .ref (W + (10 + 2 * c)), .int (nI j), v3] [] (zC h W x y) = some (some (.int 3), zC h W (u2 x (10 + 2 * c) 0 5) y) := by
    rw [b93_58, b93_59, if_pos rfl]; exact done 0
  rw [b93_0 (by first | (simp only [zC_n, zC_k, zC_r, S.n, wk_0 S V, wk_1 S V, wr_0_0 S V, wr_0_1 S V, wk_9 S V, cl_k S V hc, cl_r S V hc, cl_p S V hc, cl_q S V hc, zq_rf]; done) | (simp only [zC_n, zC_r, S.n, wr_0_0 S V, wr_0_1 S V, cl_r S V hc, cl_p S V hc, zq_rf]; have := V.lt; omega)) (by first | (simp only [zC_n, zC_k, zC_r, S.n, wk_0 S V, wk_1 S V, wr_0_0 S V, wr_0_1 S V, wk_9 S V, cl_k S V hc, cl_r S V hc, cl_p S V hc, cl_q S V hc, zq_rf]; done) | (simp only [zC_n, zC_r, S.n, wr_0_0 S V, wr_0_1 S V, cl_r S V hc, cl_p S V hc, zq_rf]; have := V.lt; omega)) (by first | (simp only [zC_n, zC_k, zC_r, S.n, wk_0 S V, wk_1 S V, wr_0_0 S V, wr_0_1 S V, wk_9 S V, cl_k S V hc, cl_r S V hc, cl_p S V hc, cl_q S V hc, zq_rf]; done) | (simp only [zC_n, zC_r, S.n, wr_0_0 S V, wr_0_1 S V, cl_r S V hc, cl_p S V hc, zq_rf]; have := V.lt; omega)) (by first | (simp only [zC_n, zC_k, zC_r, S.n, wk_0 S V, wk_1 S V, wr_0_0 S V, wr_0_1 S V, wk_9 S V, cl_k S V hc, cl_r S V hc, cl_p S V hc, cl_q S V hc, zq_rf]; done) | (simp only [zC_n, zC_r, S.n, wr_0_0 S V, wr_0_1 S V, cl_r S V hc, cl_p S V hc, zq_rf]; have := V.lt; omega)) (by first | (simp only [zC_n, zC_k, zC_r, S.n, wk_0 S V, wk_1 S V, wr_0_0 S V, wr_0_1 S V, wk_9 S V, cl_k S V hc, cl_r S V hc, cl_p S V hc, cl_q S V hc, zq_rf]; done) | (simp only [zC_n, zC_r, S.n, wr_0_0 S V, wr_0_1 S V, cl_r S V hc, cl_p S V hc, zq_rf]; have := V.lt; omega)) (by first | (simp only [zC_n, zC_k, zC_r, S.n, wk_0 S V, wk_1 S V, wr_0_0 S V, wr_0_1 S V, wk_9 S V, cl_k S V hc, cl_r S V hc, cl_p S V hc, cl_q S V hc, zq_rf]; done) | (simp only [zC_n, zC_r, S.n, wr_0_0 S V, wr_0_1 S V, cl_r S V hc, cl_p S V hc, zq_rf]; have := V.lt; omega)) (by first | (simp only [zC_n, zC_k, zC_r, S.n, wk_0 S V, wk_1 S V, wr_0_0 S V, wr_0_1 S V, wk_9 S V, cl_k S V hc, cl_r S V hc, cl_p S V hc, cl_q S V hc, zq_rf]; done) | (simp only [zC_n, zC_r, S.n, wr_0_0 S V, wr_0_1 S V, cl_r S V hc, cl_p S V hc, zq_rf]; have := V.lt; omega)), q0, zq_rf, zC_i (by omega), zC_i (by omega), ea, t_pl S V eN hN hn em hm (by omega) hlt (fun _ => hge)]
  simp only [Option.bind_some, Option.toList_some, Option.toList_none, List.cons_append, List.nil_append]
  rw [b93_15 (by first | (simp only [zC_n, zC_k, zC_r, S.n, wk_0 S V, wk_1 S V, wr_0_0 S V, wr_0_1 S V, wk_9 S V, cl_k S V hc, cl_r S V hc, cl_p S V hc, cl_q S V hc, zq_rf]; done) | (simp only [zC_n, zC_r, S.n, wr_0_0 S V, wr_0_1 S V, cl_r S V hc, cl_p S V hc, zq_rf]; have := V.lt; omega)) (by first | (simp only [zC_n, zC_k, zC_r, S.n, wk_0 S V, wk_1 S V, wr_0_0 S V, wr_0_1 S V, wk_9 S V, cl_k S V hc, cl_r S V hc, cl_p S V hc, cl_q S V hc, zq_rf]; done) | (simp only [zC_n, zC_r, S.n, wr_0_0 S V, wr_0_1 S V, cl_r S V hc, cl_p S V hc, zq_rf]; have := V.lt; omega)) (by first | (simp only [zC_n, zC_k, zC_r, S.n, wk_0 S V, wk_1 S V, wr_0_0 S V, wr_0_1 S V, wk_9 S V, cl_k S V hc, cl_r S V hc, cl_p S V hc, cl_q S V hc, zq_rf]; done) | (simp only [zC_n, zC_r, S.n, wr_0_0 S V, wr_0_1 S V, cl_r S V hc, cl_p S V hc, zq_rf]; have := V.lt; omega)) (by first | (simp only [zC_n, zC_k, zC_r, S.n, wk_0 S V, wk_1 S V, wr_0_0 S V, wr_0_1 S V, wk_9 S V, cl_k S V hc, cl_r S V hc, cl_p S V hc, cl_q S V hc, zq_rf]; done) | (simp only [zC_n, zC_r, S.n, wr_0_0 S V, wr_0_1 S V, cl_r S V hc, cl_p S V hc, zq_rf]; have := V.lt; omega)) (by first | (simp only [zC_n, zC_k, zC_r, S.n, wk_0 S V, wk_1 S V, wr_0_0 S V, wr_0_1 S V, wk_9 S V, cl_k S V hc, cl_r S V hc, cl_p S V hc, cl_q S V hc, zq_rf]; done) | (simp only [zC_n, zC_r, S.n, wr_0_0 S V, wr_0_1 S V, cl_r S V hc, cl_p S V hc, zq_rf]; have := V.lt; omega)) (by first | (simp only [zC_n, zC_k, zC_r, S.n, wk_0 S V, wk_1 S V, wr_0_0 S V, wr_0_1 S V, wk_9 S V, cl_k S V hc, cl_r S V hc, cl_p S V hc, cl_q S V hc, zq_rf]; done) | (simp only [zC_n, zC_r, S.n, wr_0_0 S V, wr_0_1 S V, cl_r S V hc, cl_p S V hc, zq_rf]; have := V.lt; omega)) (by first | (simp only [zC_n, zC_k, zC_r, S.n, wk_0 S V, wk_1 S V, wr_0_0 S V, wr_0_1 S V, wk_9 S V, cl_k S V hc, cl_r S V hc, cl_p S V hc, cl_q S V hc, zq_rf]; done) | (simp only [zC_n, zC_r, S.n, wr_0_0 S V, wr_0_1 S V, cl_r S V hc, cl_p S V hc, zq_rf]; have := V.lt; omega)), q0, zq_rf, zC_i (by omega), ea, t_ke S V eN hN hn em hm (by omega), if_pos hj]
  simp only [Option.bind_some, Option.toList_some, Option.toList_none, List.cons_append, List.nil_append]
  rw [b93_28 (by first | (simp only [zC_n, zC_k, zC_r, S.n, wk_0 S V, wk_1 S V, wr_0_0 S V, wr_0_1 S V, wk_9 S V, cl_k S V hc, cl_r S V hc, cl_p S V hc, cl_q S V hc, zq_rf]; done) | (simp only [zC_n, zC_r, S.n, wr_0_0 S V, wr_0_1 S V, cl_r S V hc, cl_p S V hc, zq_rf]; have := V.lt; omega)) (by first | (simp only [zC_n, zC_k, zC_r, S.n, wk_0 S V, wk_1 S V, wr_0_0 S V, wr_0_1 S V, wk_9 S V, cl_k S V hc, cl_r S V hc, cl_p S V hc, cl_q S V hc, zq_rf]; done) | (simp only [zC_n, zC_r, S.n, wr_0_0 S V, wr_0_1 S V, cl_r S V hc, cl_p S V hc, zq_rf]; have := V.lt; omega)), zC_i (by omega)]
  by_cases he : x 7 (5 * n + j) = x (10 + 2 * c) 8
  · rw [if_pos he, b93_35 (by first | (simp only [zC_n, zC_k, zC_r, S.n, wk_0 S V, wk_1 S V, wr_0_0 S V, wr_0_1 S V, wk_9 S V, cl_k S V hc, cl_r S V hc, cl_p S V hc, cl_q S V hc, zq_rf]; done) | (simp only [zC_n, zC_r, S.n, wr_0_0 S V, wr_0_1 S V, cl_r S V hc, cl_p S V hc, zq_rf]; have := V.lt; omega)) (by first | (simp only [zC_n, zC_k, zC_r, S.n, wk_0 S V, wk_1 S V, wr_0_0 S V, wr_0_1 S V, wk_9 S V, cl_k S V hc, cl_r S V hc, cl_p S V hc, cl_q S V hc, zq_rf]; done) | (simp only [zC_n, zC_r, S.n, wr_0_0 S V, wr_0_1 S V, cl_r S V hc, cl_p S V hc, zq_rf]; have := V.lt; omega)) (by first | (simp only [zC_n, zC_k, zC_r, S.n, wk_0 S V, wk_1 S V, wr_0_0 S V, wr_0_1 S V, wk_9 S V, cl_k S V hc, cl_r S V hc, cl_p S V hc, cl_q S V hc, zq_rf]; done) | (simp only [zC_n, zC_r, S.n, wr_0_0 S V, wr_0_1 S V, cl_r S V hc, cl_p S V hc, zq_rf]; have := V.lt; omega)) (by first | (simp only [zC_n, zC_k, zC_r, S.n, wk_0 S V, wk_1 S V, wr_0_0 S V, wr_0_1 S V, wk_9 S V, cl_k S V hc, cl_r S V hc, cl_p S V hc, cl_q S V hc, zq_rf]; done) | (simp only [zC_n, zC_r, S.n, wr_0_0 S V, wr_0_1 S V, cl_r S V hc, cl_p S V hc, zq_rf]; have := V.lt; omega)) (by first | (simp only [zC_n, zC_k, zC_r, S.n, wk_0 S V, wk_1 S V, wr_0_0 S V, wr_0_1 S V, wk_9 S V, cl_k S V hc, cl_r S V hc, cl_p S V hc, cl_q S V hc, zq_rf]; done) | (simp only [zC_n, zC_r, S.n, wr_0_0 S V, wr_0_1 S V, cl_r S V hc, cl_p S V hc, zq_rf]; have := V.lt; omega)) (by first | (simp only [zC_n, zC_k, zC_r, S.n, wk_0 S V, wk_1 S V, wr_0_0 S V, wr_0_1 S V, wk_9 S V, cl_k S V hc, cl_r S V hc, cl_p S V hc, cl_q S V hc, zq_rf]; done) | (simp only [zC_n, zC_r, S.n, wr_0_0 S V, wr_0_1 S V, cl_r S V hc, cl_p S V hc, zq_rf]; have := V.lt; omega)) (by first | (simp only [zC_n, zC_k, zC_r, S.n, wk_0 S V, wk_1 S V, wr_0_0 S V, wr_0_1 S V, wk_9 S V, cl_k S V hc, cl_r S V hc, cl_p S V hc, cl_q S V hc, zq_rf]; done) | (simp only [zC_n, zC_r, S.n, wr_0_0 S V, wr_0_1 S V, cl_r S V hc, cl_p S V hc, zq_rf]; have := V.lt; omega)), q0, zq_rf, zC_i (by omega), ea, t_ch S V eN hN hn em hm (by omega), if_pos ⟨hl, hj⟩]
    simp only [Option.bind_some, Option.toList_some, Option.toList_none, List.cons_append, List.nil_append]
    rw [b93_47 (by first | (simp only [zC_n, zC_k, zC_r, S.n, wk_0 S V, wk_1 S V, wr_0_0 S V, wr_0_1 S V, wk_9 S V, cl_k S V hc, cl_r S V hc, cl_p S V hc, cl_q S V hc, zq_rf]; done) | (simp only [zC_n, zC_r, S.n, wr_0_0 S V, wr_0_1 S V, cl_r S V hc, cl_p S V hc, zq_rf]; have := V.lt; omega)) (by first | (simp only [zC_n, zC_k, zC_r, S.n, wk_0 S V, wk_1 S V, wr_0_0 S V, wr_0_1 S V, wk_9 S V, cl_k S V hc, cl_r S V hc, cl_p S V hc, cl_q S V hc, zq_rf]; done) | (simp only [zC_n, zC_r, S.n, wr_0_0 S V, wr_0_1 S V, cl_r S V hc, cl_p S V hc, zq_rf]; have := V.lt; omega)), zC_i (by omega)]
    by_cases hs : x 8 (5 * n + j) = x (10 + 2 * c) 10
    · rw [if_pos hs, b93_54, b93_59, if_neg (by decide), b93_64 (by first | (simp only [zC_n, zC_k, zC_r, S.n, wk_0 S V, wk_1 S V, wr_0_0 S V, wr_0_1 S V, wk_9 S V, cl_k S V hc, cl_r S V hc, cl_p S V hc, cl_q S V hc, zq_rf]; done) | (simp only [zC_n, zC_r, S.n, wr_0_0 S V, wr_0_1 S V, cl_r S V hc, cl_p S V hc, zq_rf]; have := V.lt; omega)) (by first | (simp only [zC_n, zC_k, zC_r, S.n, wk_0 S V, wk_1 S V, wr_0_0 S V, wr_0_1 S V, wk_9 S V, cl_k S V hc, cl_r S V hc, cl_p S V hc, cl_q S V hc, zq_rf]; done) | (simp only [zC_n, zC_r, S.n, wr_0_0 S V, wr_0_1 S V, cl_r S V hc, cl_p S V hc, zq_rf]; have := V.lt; omega)) (by first | (simp only [zC_n, zC_k, zC_r, S.n, wk_0 S V, wk_1 S V, wr_0_0 S V, wr_0_1 S V, wk_9 S V, cl_k S V hc, cl_r S V hc, cl_p S V hc, cl_q S V hc, zq_rf]; done) | (simp only [zC_n, zC_r, S.n, wr_0_0 S V, wr_0_1 S V, cl_r S V hc, cl_p S V hc, zq_rf]; have := V.lt; omega)) (by first | (simp only [zC_n, zC_k, zC_r, S.n, wk_0 S V, wk_1 S V, wr_0_0 S V, wr_0_1 S V, wk_9 S V, cl_k S V hc, cl_r S V hc, cl_p S V hc, cl_q S V hc, zq_rf]; done) | (simp only [zC_n, zC_r, S.n, wr_0_0 S V, wr_0_1 S V, cl_r S V hc, cl_p S V hc, zq_rf]; have := V.lt; omega)) (by first | (simp only [zC_n, zC_k, zC_r, S.n, wk_0 S V, wk_1 S V, wr_0_0 S V, wr_0_1 S V, wk_9 S V, cl_k S V hc, cl_r S V hc, cl_p S V hc, cl_q S V hc, zq_rf]; done) | (simp only [zC_n, zC_r, S.n, wr_0_0 S V, wr_0_1 S V, cl_r S V hc, cl_p S V hc, zq_rf]; have := V.lt; omega)) (by first | (simp only [zC_n, zC_k, zC_r, S.n, wk_0 S V, wk_1 S V, wr_0_0 S V, wr_0_1 S V, wk_9 S V, cl_k S V hc, cl_r S V hc, cl_p S V hc, cl_q S V hc, zq_rf]; done) | (simp only [zC_n, zC_r, S.n, wr_0_0 S V, wr_0_1 S V, cl_r S V hc, cl_p S V hc, zq_rf]; have := V.lt; omega)) (by first | (simp only [zC_n, zC_k, zC_r, S.n, wk_0 S V, wk_1 S V, wr_0_0 S V, wr_0_1 S V, wk_9 S V, cl_k S V hc, cl_r S V hc, cl_p S V hc, cl_q S V hc, zq_rf]; done) | (simp only [zC_n, zC_r, S.n, wr_0_0 S V, wr_0_1 S V, cl_r S V hc, cl_p S V hc, zq_rf]; have := V.lt; omega)), q0, zq_rf, zC_i (by omega), ea, nI_s, t_ke S V eN hN hn em hm (by omega)]
      simp only [Option.bind_some, Option.toList_some, Option.toList_none, List.cons_append, List.nil_append]
      rw [b93_78]
      by_cases hj2 : j + 1 < m
      · rw [if_pos hj2, if_neg (hk _ hj2), if_pos ⟨he, hs, hj2⟩, b93_87 (by first | (simp only [zC_n, zC_k, zC_r, S.n, wk_0 S V, wk_1 S V, wr_0_0 S V, wr_0_1 S V, wk_9 S V, cl_k S V hc, cl_r S V hc, cl_p S V hc, cl_q S V hc, zq_rf]; done) | (simp only [zC_n, zC_r, S.n, wr_0_0 S V, wr_0_1 S V, cl_r S V hc, cl_p S V hc, zq_rf]; have := V.lt; omega)) (by first | (simp only [zC_n, zC_k, zC_r, S.n, wk_0 S V, wk_1 S V, wr_0_0 S V, wr_0_1 S V, wk_9 S V, cl_k S V hc, cl_r S V hc, cl_p S V hc, cl_q S V hc, zq_rf]; done) | (simp only [zC_n, zC_r, S.n, wr_0_0 S V, wr_0_1 S V, cl_r S V hc, cl_p S V hc, zq_rf]; have := V.lt; omega)) (by first | (simp only [zC_n, zC_k, zC_r, S.n, wk_0 S V, wk_1 S V, wr_0_0 S V, wr_0_1 S V, wk_9 S V, cl_k S V hc, cl_r S V hc, cl_p S V hc, cl_q S V hc, zq_rf]; done) | (simp only [zC_n, zC_r, S.n, wr_0_0 S V, wr_0_1 S V, cl_r S V hc, cl_p S V hc, zq_rf]; have := V.lt; omega)) (by first | (simp only [zC_n, zC_k, zC_r, S.n, wk_0 S V, wk_1 S V, wr_0_0 S V, wr_0_1 S V, wk_9 S V, cl_k S V hc, cl_r S V hc, cl_p S V hc, cl_q S V hc, zq_rf]; done) | (simp only [zC_n, zC_r, S.n, wr_0_0 S V, wr_0_1 S V, cl_r S V hc, cl_p S V hc, zq_rf]; have := V.lt; omega)) (by first | (simp only [zC_n, zC_k, zC_r, S.n, wk_0 S V, wk_1 S V, wr_0_0 S V, wr_0_1 S V, wk_9 S V, cl_k S V hc, cl_r S V hc, cl_p S V hc, cl_q S V hc, zq_rf]; done) | (simp only [zC_n, zC_r, S.n, wr_0_0 S V, wr_0_1 S V, cl_r S V hc, cl_p S V hc, zq_rf]; have := V.lt; omega)) (by first | (simp only [zC_n, zC_k, zC_r, S.n, wk_0 S V, wk_1 S V, wr_0_0 S V, wr_0_1 S V, wk_9 S V, cl_k S V hc, cl_r S V hc, cl_p S V hc, cl_q S V hc, zq_rf]; done) | (simp only [zC_n, zC_r, S.n, wr_0_0 S V, wr_0_1 S V, cl_r S V hc, cl_p S V hc, zq_rf]; have := V.lt; omega)) (by first | (simp only [zC_n, zC_k, zC_r, S.n, wk_0 S V, wk_1 S V, wr_0_0 S V, wr_0_1 S V, wk_9 S V, cl_k S V hc, cl_r S V hc, cl_p S V hc, cl_q S V hc, zq_rf]; done) | (simp only [zC_n, zC_r, S.n, wr_0_0 S V, wr_0_1 S V, cl_r S V hc, cl_p S V hc, zq_rf]; have := V.lt; omega)), q0, zq_rf, zC_i (by omega), ea, t_rm S V eN hN hn em hm hj]
        simp only [Option.bind_some, Option.toList_some, Option.toList_none, List.cons_append, List.nil_append]
        rw [b93_99 (by first | (simp only [zC_n, zC_k, zC_r, S.n, wk_0 S V, wk_1 S V, wr_0_0 S V, wr_0_1 S V, wk_9 S V, cl_k S V hc, cl_r S V hc, cl_p S V hc, cl_q S V hc, zq_rf]; done) | (simp only [zC_n, zC_r, S.n, wr_0_0 S V, wr_0_1 S V, cl_r S V hc, cl_p S V hc, zq_rf]; have := V.lt; omega)) (by first | (simp only [zC_n, zC_k, zC_r, S.n, wk_0 S V, wk_1 S V, wr_0_0 S V, wr_0_1 S V, wk_9 S V, cl_k S V hc, cl_r S V hc, cl_p S V hc, cl_q S V hc, zq_rf]; done) | (simp only [zC_n, zC_r, S.n, wr_0_0 S V, wr_0_1 S V, cl_r S V hc, cl_p S V hc, zq_rf]; have := V.lt; omega)), k_eb S V hc]
        simp only [Option.bind_some, Option.toList_some, Option.toList_none, List.cons_append, List.nil_append]
        rw [b93_105]
      · rw [if_neg hj2, if_pos (by decide), if_neg (fun q => hj2 q.2.2)]; exact done 1
    · rw [if_neg hs, if_neg (fun q => hs q.2.1)]; exact no
  · rw [if_neg he, if_neg (fun q => he q.1)]; exact no
end R30I
end
section
/-! THE CLASS: who may move, a step -/
section R30J
variable {h : zi_Hp} {W N n m c : Nat} {x : Nat → Nat → Int32} {y : Nat → Nat → Bool}
/-- its step would be to hold -/
def wlK (x : Nat → Nat → Int32) (y : Nat → Nat → Bool) (c n : Nat) : Bool := if x (10 + 2 * c) 0 = 1 then decide (¬ x (10 + 2 * c) 1 = 0 ∧ (x 2 n = 0 ∧ y 6 n = false) ∧ ¬ x 4 n < x (10 + 2 * c) 2) else decide (x (10 + 2 * c) 0 = 3 ∧ x 2 n = x (10 + 2 * c) 9 ∧ ¬ x 4 n < x (10 + 2 * c) 8)
theorem k_wl (S : Sh h) (V : Wa W) (hc : c < 3) (eN : x 1 0 = nI N) (hN : N ≤ 24) (ea : x (10 + 2 * c) 3 = nI n) (hn : n < N) : zv 3 95 0 [.ref W, .ref (W + (10 + 2 * c))] [] (zC h W x y) = some (some (.int (zi_bI (wlK x y c n))), zC h W x y) := by
  have q0 : zh_r (zC h W x y) W 0 = .ref (W + 1) := by rw [zC_r, wr_0_0 S V]
  rw [b95_0 (by first | (simp only [zC_n, zC_k, zC_r, S.n, wk_0 S V, wk_1 S V, wr_0_0 S V, wr_0_1 S V, wk_9 S V, cl_k S V hc, cl_r S V hc, cl_p S V hc, cl_q S V hc, zq_rf]; done) | (simp only [zC_n, zC_r, S.n, wr_0_0 S V, wr_0_1 S V, cl_r S V hc, cl_p S V hc, zq_rf]; have := V.lt; omega)) (by first | (simp only [zC_n, zC_k, zC_r, S.n, wk_0 S V, wk_1 S V, wr_0_0 S V, wr_0_1 S V, wk_9 S V, cl_k S V hc, cl_r S V hc, cl_p S V hc, cl_q S V hc, zq_rf]; done) | (simp only [zC_n, zC_r, S.n, wr_0_0 S V, wr_0_1 S V, cl_r S V hc, cl_p S V hc, zq_rf]; have := V.lt; omega)), zC_i (by omega)]
  unfold wlK
  by_cases h1 : x (10 + 2 * c) 0 = 1
  · have no : ∀ {P : Prop} [Decidable P], ¬ P → zv 3 95 51 [.ref W, .ref (W + (10 + 2 * c))] [] (zC h W x y) = some (some (.int (zi_bI (decide P))), zC h W x y) := fun {P} _ hP => by rw [b95_51, b95_52 (Or.inl rfl), decide_eq_false hP, zi_bI_f]
    rw [if_pos h1, if_pos h1, b95_8 (by first | (simp only [zC_n, zC_k, zC_r, S.n, wk_0 S V, wk_1 S V, wr_0_0 S V, wr_0_1 S V, wk_9 S V, cl_k S V hc, cl_r S V hc, cl_p S V hc, cl_q S V hc, zq_rf]; done) | (simp only [zC_n, zC_r, S.n, wr_0_0 S V, wr_0_1 S V, cl_r S V hc, cl_p S V hc, zq_rf]; have := V.lt; omega)) (by first | (simp only [zC_n, zC_k, zC_r, S.n, wk_0 S V, wk_1 S V, wr_0_0 S V, wr_0_1 S V, wk_9 S V, cl_k S V hc, cl_r S V hc, cl_p S V hc, cl_q S V hc, zq_rf]; done) | (simp only [zC_n, zC_r, S.n, wr_0_0 S V, wr_0_1 S V, cl_r S V hc, cl_p S V hc, zq_rf]; have := V.lt; omega)), zC_i (by omega)]
    by_cases h2 : x (10 + 2 * c) 1 = 0
    · rw [if_pos h2]; exact no (fun q => q.1 h2)
    · rw [if_neg h2, b95_15 (by first | (simp only [zC_n, zC_k, zC_r, S.n, wk_0 S V, wk_1 S V, wr_0_0 S V, wr_0_1 S V, wk_9 S V, cl_k S V hc, cl_r S V hc, cl_p S V hc, cl_q S V hc, zq_rf]; done) | (simp only [zC_n, zC_r, S.n, wr_0_0 S V, wr_0_1 S V, cl_r S V hc, cl_p S V hc, zq_rf]; have := V.lt; omega)) (by first | (simp only [zC_n, zC_k, zC_r, S.n, wk_0 S V, wk_1 S V, wr_0_0 S V, wr_0_1 S V, wk_9 S V, cl_k S V hc, cl_r S V hc, cl_p S V hc, cl_q S V hc, zq_rf]; done) | (simp only [zC_n, zC_r, S.n, wr_0_0 S V, wr_0_1 S V, cl_r S V hc, cl_p S V hc, zq_rf]; have := V.lt; omega)) (by first | (simp only [zC_n, zC_k, zC_r, S.n, wk_0 S V, wk_1 S V, wr_0_0 S V, wr_0_1 S V, wk_9 S V, cl_k S V hc, cl_r S V hc, cl_p S V hc, cl_q S V hc, zq_rf]; done) | (simp only [zC_n, zC_r, S.n, wr_0_0 S V, wr_0_1 S V, cl_r S V hc, cl_p S V hc, zq_rf]; have := V.lt; omega)) (by first | (simp only [zC_n, zC_k, zC_r, S.n, wk_0 S V, wk_1 S V, wr_0_0 S V, wr_0_1 S V, wk_9 S V, cl_k S V hc, cl_r S V hc, cl_p S V hc, cl_q S V hc, zq_rf]; done) | (simp only [zC_n, zC_r, S.n, wr_0_0 S V, wr_0_1 S V, cl_r S V hc, cl_p S V hc, zq_rf]; have := V.lt; omega)) (by first | (simp only [zC_n, zC_k, zC_r, S.n, wk_0 S V, wk_1 S V, wr_0_0 S V, wr_0_1 S V, wk_9 S V, cl_k S V hc, cl_r S V hc, cl_p S V hc, cl_q S V hc, zq_rf]; done) | (simp only [zC_n, zC_r, S.n, wr_0_0 S V, wr_0_1 S V, cl_r S V hc, cl_p S V hc, zq_rf]; have := V.lt; omega)) (by first | (simp only [zC_n, zC_k, zC_r, S.n, wk_0 S V, wk_1 S V, wr_0_0 S V, wr_0_1 S V, wk_9 S V, cl_k S V hc, cl_r S V hc, cl_p S V hc, cl_q S V hc, zq_rf]; done) | (simp only [zC_n, zC_r, S.n, wr_0_0 S V, wr_0_1 S V, cl_r S V hc, cl_p S V hc, zq_rf]; have := V.lt; omega)) (by first | (simp only [zC_n, zC_k, zC_r, S.n, wk_0 S V, wk_1 S V, wr_0_0 S V, wr_0_1 S V, wk_9 S V, cl_k S V hc, cl_r S V hc, cl_p S V hc, cl_q S V hc, zq_rf]; done) | (simp only [zC_n, zC_r, S.n, wr_0_0 S V, wr_0_1 S V, cl_r S V hc, cl_p S V hc, zq_rf]; have := V.lt; omega)), q0, zq_rf, zC_i (by omega), ea, t_li S V eN hN hn]
      simp only [Option.bind_some, Option.toList_some, Option.toList_none, List.cons_append, List.nil_append]
      rw [b95_26]
      by_cases h3 : x 2 n = 0
      · rw [decide_eq_true h3]
        cases hy : y 6 n with
        | true => rw [show (true && !true) = false from rfl, zi_bI_f, if_pos rfl]; exact no (fun q => absurd q.2.1.2 (by decide))
        | false =>
          rw [show (true && !false) = true from rfl, zi_bI_t, if_neg (by decide), b95_29 (by first | (simp only [zC_n, zC_k, zC_r, S.n, wk_0 S V, wk_1 S V, wr_0_0 S V, wr_0_1 S V, wk_9 S V, cl_k S V hc, cl_r S V hc, cl_p S V hc, cl_q S V hc, zq_rf]; done) | (simp only [zC_n, zC_r, S.n, wr_0_0 S V, wr_0_1 S V, cl_r S V hc, cl_p S V hc, zq_rf]; have := V.lt; omega)) (by first | (simp only [zC_n, zC_k, zC_r, S.n, wk_0 S V, wk_1 S V, wr_0_0 S V, wr_0_1 S V, wk_9 S V, cl_k S V hc, cl_r S V hc, cl_p S V hc, cl_q S V hc, zq_rf]; done) | (simp only [zC_n, zC_r, S.n, wr_0_0 S V, wr_0_1 S V, cl_r S V hc, cl_p S V hc, zq_rf]; have := V.lt; omega)) (by first | (simp only [zC_n, zC_k, zC_r, S.n, wk_0 S V, wk_1 S V, wr_0_0 S V, wr_0_1 S V, wk_9 S V, cl_k S V hc, cl_r S V hc, cl_p S V hc, cl_q S V hc, zq_rf]; done) | (simp only [zC_n, zC_r, S.n, wr_0_0 S V, wr_0_1 S V, cl_r S V hc, cl_p S V hc, zq_rf]; have := V.lt; omega)) (by first | (simp only [zC_n, zC_k, zC_r, S.n, wk_0 S V, wk_1 S V, wr_0_0 S V, wr_0_1 S V, wk_9 S V, cl_k S V hc, cl_r S V hc, cl_p S V hc, cl_q S V hc, zq_rf]; done) | (simp only [zC_n, zC_r, S.n, wr_0_0 S V, wr_0_1 S V, cl_r S V hc, cl_p S V hc, zq_rf]; have := V.lt; omega)) (by first | (simp only [zC_n, zC_k, zC_r, S.n, wk_0 S V, wk_1 S V, wr_0_0 S V, wr_0_1 S V, wk_9 S V, cl_k S V hc, cl_r S V hc, cl_p S V hc, cl_q S V hc, zq_rf]; done) | (simp only [zC_n, zC_r, S.n, wr_0_0 S V, wr_0_1 S V, cl_r S V hc, cl_p S V hc, zq_rf]; have := V.lt; omega)) (by first | (simp only [zC_n, zC_k, zC_r, S.n, wk_0 S V, wk_1 S V, wr_0_0 S V, wr_0_1 S V, wk_9 S V, cl_k S V hc, cl_r S V hc, cl_p S V hc, cl_q S V hc, zq_rf]; done) | (simp only [zC_n, zC_r, S.n, wr_0_0 S V, wr_0_1 S V, cl_r S V hc, cl_p S V hc, zq_rf]; have := V.lt; omega)) (by first | (simp only [zC_n, zC_k, zC_r, S.n, wk_0 S V, wk_1 S V, wr_0_0 S V, wr_0_1 S V, wk_9 S V, cl_k S V hc, cl_r S V hc, cl_p S V hc, cl_q S V hc, zq_rf]; done) | (simp only [zC_n, zC_r, S.n, wr_0_0 S V, wr_0_1 S V, cl_r S V hc, cl_p S V hc, zq_rf]; have := V.lt; omega)), q0, zq_rf, zC_i (by omega), zC_i (by omega), ea, t_hi S V eN hN hn]
          simp only [Option.bind_some, Option.toList_some, Option.toList_none, List.cons_append, List.nil_append]
          rw [b95_44]
          by_cases h4 : x 4 n < x (10 + 2 * c) 2
          · rw [if_pos h4]; exact no (fun q => q.2.2 h4)
          · rw [if_neg h4, b95_47, b95_52 (Or.inr rfl), decide_eq_true ⟨h2, ⟨h3, trivial⟩, h4⟩, zi_bI_t]
      · rw [decide_eq_false h3, show (false && !y 6 n) = false from rfl, zi_bI_f, if_pos rfl]; exact no (fun q => h3 q.2.1.1)
  · have no : ∀ {P : Prop} [Decidable P], ¬ P → zv 3 95 101 [.ref W, .ref (W + (10 + 2 * c))] [] (zC h W x y) = some (some (.int (zi_bI (decide P))), zC h W x y) := fun {P} _ hP => by rw [b95_101, b95_102 (Or.inl rfl), decide_eq_false hP, zi_bI_f]
    rw [if_neg h1, if_neg h1, b95_53 (by first | (simp only [zC_n, zC_k, zC_r, S.n, wk_0 S V, wk_1 S V, wr_0_0 S V, wr_0_1 S V, wk_9 S V, cl_k S V hc, cl_r S V hc, cl_p S V hc, cl_q S V hc, zq_rf]; done) | (simp only [zC_n, zC_r, S.n, wr_0_0 S V, wr_0_1 S V, cl_r S V hc, cl_p S V hc, zq_rf]; have := V.lt; omega)) (by first | (simp only [zC_n, zC_k, zC_r, S.n, wk_0 S V, wk_1 S V, wr_0_0 S V, wr_0_1 S V, wk_9 S V, cl_k S V hc, cl_r S V hc, cl_p S V hc, cl_q S V hc, zq_rf]; done) | (simp only [zC_n, zC_r, S.n, wr_0_0 S V, wr_0_1 S V, cl_r S V hc, cl_p S V hc, zq_rf]; have := V.lt; omega)), zC_i (by omega)]
    by_cases h2 : x (10 + 2 * c) 0 = 3
    · rw [if_pos h2, b95_61 (by first | (simp only [zC_n, zC_k, zC_r, S.n, wk_0 S V, wk_1 S V, wr_0_0 S V, wr_0_1 S V, wk_9 S V, cl_k S V hc, cl_r S V hc, cl_p S V hc, cl_q S V hc, zq_rf]; done) | (simp only [zC_n, zC_r, S.n, wr_0_0 S V, wr_0_1 S V, cl_r S V hc, cl_p S V hc, zq_rf]; have := V.lt; omega)) (by first | (simp only [zC_n, zC_k, zC_r, S.n, wk_0 S V, wk_1 S V, wr_0_0 S V, wr_0_1 S V, wk_9 S V, cl_k S V hc, cl_r S V hc, cl_p S V hc, cl_q S V hc, zq_rf]; done) | (simp only [zC_n, zC_r, S.n, wr_0_0 S V, wr_0_1 S V, cl_r S V hc, cl_p S V hc, zq_rf]; have := V.lt; omega)) (by first | (simp only [zC_n, zC_k, zC_r, S.n, wk_0 S V, wk_1 S V, wr_0_0 S V, wr_0_1 S V, wk_9 S V, cl_k S V hc, cl_r S V hc, cl_p S V hc, cl_q S V hc, zq_rf]; done) | (simp only [zC_n, zC_r, S.n, wr_0_0 S V, wr_0_1 S V, cl_r S V hc, cl_p S V hc, zq_rf]; have := V.lt; omega)) (by first | (simp only [zC_n, zC_k, zC_r, S.n, wk_0 S V, wk_1 S V, wr_0_0 S V, wr_0_1 S V, wk_9 S V, cl_k S V hc, cl_r S V hc, cl_p S V hc, cl_q S V hc, zq_rf]; done) | (simp only [zC_n, zC_r, S.n, wr_0_0 S V, wr_0_1 S V, cl_r S V hc, cl_p S V hc, zq_rf]; have := V.lt; omega)) (by first | (simp only [zC_n, zC_k, zC_r, S.n, wk_0 S V, wk_1 S V, wr_0_0 S V, wr_0_1 S V, wk_9 S V, cl_k S V hc, cl_r S V hc, cl_p S V hc, cl_q S V hc, zq_rf]; done) | (simp only [zC_n, zC_r, S.n, wr_0_0 S V, wr_0_1 S V, cl_r S V hc, cl_p S V hc, zq_rf]; have := V.lt; omega)) (by first | (simp only [zC_n, zC_k, zC_r, S.n, wk_0 S V, wk_1 S V, wr_0_0 S V, wr_0_1 S V, wk_9 S V, cl_k S V hc, cl_r S V hc, cl_p S V hc, cl_q S V hc, zq_rf]; done) | (simp only [zC_n, zC_r, S.n, wr_0_0 S V, wr_0_1 S V, cl_r S V hc, cl_p S V hc, zq_rf]; have := V.lt; omega)) (by first | (simp only [zC_n, zC_k, zC_r, S.n, wk_0 S V, wk_1 S V, wr_0_0 S V, wr_0_1 S V, wk_9 S V, cl_k S V hc, cl_r S V hc, cl_p S V hc, cl_q S V hc, zq_rf]; done) | (simp only [zC_n, zC_r, S.n, wr_0_0 S V, wr_0_1 S V, cl_r S V hc, cl_p S V hc, zq_rf]; have := V.lt; omega)), q0, zq_rf, zC_i (by omega), ea, t_lv S V eN hN hn]
      simp only [Option.bind_some, Option.toList_some, Option.toList_none, List.cons_append, List.nil_append]
      rw [b95_72 (by first | (simp only [zC_n, zC_k, zC_r, S.n, wk_0 S V, wk_1 S V, wr_0_0 S V, wr_0_1 S V, wk_9 S V, cl_k S V hc, cl_r S V hc, cl_p S V hc, cl_q S V hc, zq_rf]; done) | (simp only [zC_n, zC_r, S.n, wr_0_0 S V, wr_0_1 S V, cl_r S V hc, cl_p S V hc, zq_rf]; have := V.lt; omega)) (by first | (simp only [zC_n, zC_k, zC_r, S.n, wk_0 S V, wk_1 S V, wr_0_0 S V, wr_0_1 S V, wk_9 S V, cl_k S V hc, cl_r S V hc, cl_p S V hc, cl_q S V hc, zq_rf]; done) | (simp only [zC_n, zC_r, S.n, wr_0_0 S V, wr_0_1 S V, cl_r S V hc, cl_p S V hc, zq_rf]; have := V.lt; omega)), zC_i (by omega)]
      by_cases h3 : x 2 n = x (10 + 2 * c) 9
      · rw [if_pos h3, b95_79 (by first | (simp only [zC_n, zC_k, zC_r, S.n, wk_0 S V, wk_1 S V, wr_0_0 S V, wr_0_1 S V, wk_9 S V, cl_k S V hc, cl_r S V hc, cl_p S V hc, cl_q S V hc, zq_rf]; done) | (simp only [zC_n, zC_r, S.n, wr_0_0 S V, wr_0_1 S V, cl_r S V hc, cl_p S V hc, zq_rf]; have := V.lt; omega)) (by first | (simp only [zC_n, zC_k, zC_r, S.n, wk_0 S V, wk_1 S V, wr_0_0 S V, wr_0_1 S V, wk_9 S V, cl_k S V hc, cl_r S V hc, cl_p S V hc, cl_q S V hc, zq_rf]; done) | (simp only [zC_n, zC_r, S.n, wr_0_0 S V, wr_0_1 S V, cl_r S V hc, cl_p S V hc, zq_rf]; have := V.lt; omega)) (by first | (simp only [zC_n, zC_k, zC_r, S.n, wk_0 S V, wk_1 S V, wr_0_0 S V, wr_0_1 S V, wk_9 S V, cl_k S V hc, cl_r S V hc, cl_p S V hc, cl_q S V hc, zq_rf]; done) | (simp only [zC_n, zC_r, S.n, wr_0_0 S V, wr_0_1 S V, cl_r S V hc, cl_p S V hc, zq_rf]; have := V.lt; omega)) (by first | (simp only [zC_n, zC_k, zC_r, S.n, wk_0 S V, wk_1 S V, wr_0_0 S V, wr_0_1 S V, wk_9 S V, cl_k S V hc, cl_r S V hc, cl_p S V hc, cl_q S V hc, zq_rf]; done) | (simp only [zC_n, zC_r, S.n, wr_0_0 S V, wr_0_1 S V, cl_r S V hc, cl_p S V hc, zq_rf]; have := V.lt; omega)) (by first | (simp only [zC_n, zC_k, zC_r, S.n, wk_0 S V, wk_1 S V, wr_0_0 S V, wr_0_1 S V, wk_9 S V, cl_k S V hc, cl_r S V hc, cl_p S V hc, cl_q S V hc, zq_rf]; done) | (simp only [zC_n, zC_r, S.n, wr_0_0 S V, wr_0_1 S V, cl_r S V hc, cl_p S V hc, zq_rf]; have := V.lt; omega)) (by first | (simp only [zC_n, zC_k, zC_r, S.n, wk_0 S V, wk_1 S V, wr_0_0 S V, wr_0_1 S V, wk_9 S V, cl_k S V hc, cl_r S V hc, cl_p S V hc, cl_q S V hc, zq_rf]; done) | (simp only [zC_n, zC_r, S.n, wr_0_0 S V, wr_0_1 S V, cl_r S V hc, cl_p S V hc, zq_rf]; have := V.lt; omega)) (by first | (simp only [zC_n, zC_k, zC_r, S.n, wk_0 S V, wk_1 S V, wr_0_0 S V, wr_0_1 S V, wk_9 S V, cl_k S V hc, cl_r S V hc, cl_p S V hc, cl_q S V hc, zq_rf]; done) | (simp only [zC_n, zC_r, S.n, wr_0_0 S V, wr_0_1 S V, cl_r S V hc, cl_p S V hc, zq_rf]; have := V.lt; omega)), q0, zq_rf, zC_i (by omega), zC_i (by omega), ea, t_hi S V eN hN hn]
        simp only [Option.bind_some, Option.toList_some, Option.toList_none, List.cons_append, List.nil_append]
        rw [b95_94]
        by_cases h4 : x 4 n < x (10 + 2 * c) 8
        · rw [if_pos h4]; exact no (fun q => q.2.2 h4)
        · rw [if_neg h4, b95_97, b95_102 (Or.inr rfl), decide_eq_true ⟨h2, h3, h4⟩, zi_bI_t]
      · rw [if_neg h3]; exact no (fun q => h3 q.2.1)
    · rw [if_neg h2]; exact no (fun q => h2 q.1)
/-- who may move -/
def mvK (x : Nat → Nat → Int32) (y : Nat → Nat → Bool) (c n : Nat) : Bool := decide (¬ x (10 + 2 * c) 0 = 0 ∧ ¬ x (10 + 2 * c) 0 = 5) && !(wlK x y c n && decide (¬ hoK x (nI n) < 0))
theorem k_mv (S : Sh h) (V : Wa W) (hc : c < 3) (eN : x 1 0 = nI N) (hN : N ≤ 24) (ea : (¬ x (10 + 2 * c) 0 = 0 ∧ ¬ x (10 + 2 * c) 0 = 5) → x (10 + 2 * c) 3 = nI n ∧ n < N) {v2 : Value} : zv 4 94 0 [.ref W, .int (nI c), v2] [] (zC h W x y) = some (some (.int (zi_bI (mvK x y c n))), zC h W x y) := by
  have r1 : zh_r (zC h W x y) W 1 = .ref (W + 9) := by rw [zC_r, wr_0_1 S V]
  have r2 : zh_r (zC h W x y) (W + 9) c = .ref (W + (10 + 2 * c)) := by rw [zC_r, cl_r S V hc]
  rw [b94_0, if_neg (nI_pos (by omega)), b94_4, if_pos (show nI c < 3 from nI_lt (b := 3) hc (by decide)), b94_11 (by first | (simp only [zC_n, zC_k, zC_r, S.n, wk_0 S V, wk_1 S V, wr_0_0 S V, wr_0_1 S V, wk_9 S V, cl_k S V hc, cl_r S V hc, cl_p S V hc, cl_q S V hc, zq_rf]; done) | (simp only [zC_n, zC_r, S.n, wr_0_0 S V, wr_0_1 S V, cl_r S V hc, cl_p S V hc, zq_rf]; have := V.lt; omega)) (by first | (simp only [zC_n, zC_k, zC_r, S.n, wk_0 S V, wk_1 S V, wr_0_0 S V, wr_0_1 S V, wk_9 S V, cl_k S V hc, cl_r S V hc, cl_p S V hc, cl_q S V hc, zq_rf]; done) | (simp only [zC_n, zC_r, S.n, wr_0_0 S V, wr_0_1 S V, cl_r S V hc, cl_p S V hc, zq_rf]; have := V.lt; omega)) (by first | (simp only [zC_n, zC_k, zC_r, S.n, wk_0 S V, wk_1 S V, wr_0_0 S V, wr_0_1 S V, wk_9 S V, cl_k S V hc, cl_r S V hc, cl_p S V hc, cl_q S V hc, zq_rf]; done) | (simp only [zC_n, zC_r, S.n, wr_0_0 S V, wr_0_1 S V, cl_r S V hc, cl_p S V hc, zq_rf]; have := V.lt; omega)) (by first | (simp only [zC_n, zC_k, zC_r, S.n, wk_0 S V, wk_1 S V, wr_0_0 S V, wr_0_1 S V, wk_9 S V, cl_k S V hc, cl_r S V hc, cl_p S V hc, cl_q S V hc, zq_rf]; done) | (simp only [zC_n, zC_r, S.n, wr_0_0 S V, wr_0_1 S V, cl_r S V hc, cl_p S V hc, zq_rf]; have := V.lt; omega)) (by rw [r1, zq_rf, zC_k, wk_9 S V]; exact zj_n hc (by decide)) (by rw [r1, zq_rf, zC_k, wk_9 S V]; exact Or.inr (Or.inl rfl)) (by rw [r1, zq_rf, nI_clamp (by omega), r2, zq_rf]) (by rw [r1, zq_rf, nI_clamp (by omega), r2, zq_rf, zC_n, S.n]; have := V.lt; omega) (by rw [r1, zq_rf, nI_clamp (by omega), r2, zq_rf, zC_k, cl_k S V hc]), r1, zq_rf, nI_clamp (by omega), r2, zq_rf, k_uw S V hc]
  simp only [Option.bind_some, Option.toList_some, Option.toList_none, List.cons_append, List.nil_append]
  rw [b94_22]
  unfold mvK
  by_cases hu : ¬ x (10 + 2 * c) 0 = 0 ∧ ¬ x (10 + 2 * c) 0 = 5
  · obtain ⟨e3, hn⟩ := ea hu
    rw [decide_eq_true hu, zi_bI_t, if_neg (by decide), b94_25 (by first | (simp only [zC_n, zC_k, zC_r, S.n, wk_0 S V, wk_1 S V, wr_0_0 S V, wr_0_1 S V, wk_9 S V, cl_k S V hc, cl_r S V hc, cl_p S V hc, cl_q S V hc, zq_rf]; done) | (simp only [zC_n, zC_r, S.n, wr_0_0 S V, wr_0_1 S V, cl_r S V hc, cl_p S V hc, zq_rf]; have := V.lt; omega)) (by first | (simp only [zC_n, zC_k, zC_r, S.n, wk_0 S V, wk_1 S V, wr_0_0 S V, wr_0_1 S V, wk_9 S V, cl_k S V hc, cl_r S V hc, cl_p S V hc, cl_q S V hc, zq_rf]; done) | (simp only [zC_n, zC_r, S.n, wr_0_0 S V, wr_0_1 S V, cl_r S V hc, cl_p S V hc, zq_rf]; have := V.lt; omega)), k_wl S V hc eN hN e3 hn]
    simp only [Option.bind_some, Option.toList_some, Option.toList_none, List.cons_append, List.nil_append]
    rw [b94_30]
    cases wlK x y c n with
    | false => rw [zi_bI_f, if_pos rfl, b94_44, b94_49 (Or.inr rfl)]; rfl
    | true =>
      rw [zi_bI_t, if_neg (by decide), b94_33 (by first | (simp only [zC_n, zC_k, zC_r, S.n, wk_0 S V, wk_1 S V, wr_0_0 S V, wr_0_1 S V, wk_9 S V, cl_k S V hc, cl_r S V hc, cl_p S V hc, cl_q S V hc, zq_rf]; done) | (simp only [zC_n, zC_r, S.n, wr_0_0 S V, wr_0_1 S V, cl_r S V hc, cl_p S V hc, zq_rf]; have := V.lt; omega)) (by first | (simp only [zC_n, zC_k, zC_r, S.n, wk_0 S V, wk_1 S V, wr_0_0 S V, wr_0_1 S V, wk_9 S V, cl_k S V hc, cl_r S V hc, cl_p S V hc, cl_q S V hc, zq_rf]; done) | (simp only [zC_n, zC_r, S.n, wr_0_0 S V, wr_0_1 S V, cl_r S V hc, cl_p S V hc, zq_rf]; have := V.lt; omega)) (by first | (simp only [zC_n, zC_k, zC_r, S.n, wk_0 S V, wk_1 S V, wr_0_0 S V, wr_0_1 S V, wk_9 S V, cl_k S V hc, cl_r S V hc, cl_p S V hc, cl_q S V hc, zq_rf]; done) | (simp only [zC_n, zC_r, S.n, wr_0_0 S V, wr_0_1 S V, cl_r S V hc, cl_p S V hc, zq_rf]; have := V.lt; omega)) (by first | (simp only [zC_n, zC_k, zC_r, S.n, wk_0 S V, wk_1 S V, wr_0_0 S V, wr_0_1 S V, wk_9 S V, cl_k S V hc, cl_r S V hc, cl_p S V hc, cl_q S V hc, zq_rf]; done) | (simp only [zC_n, zC_r, S.n, wr_0_0 S V, wr_0_1 S V, cl_r S V hc, cl_p S V hc, zq_rf]; have := V.lt; omega)), zC_i (by omega), e3, k_hd S V]
      simp only [Option.bind_some, Option.toList_some, Option.toList_none, List.cons_append, List.nil_append]
      rw [b94_41]
      by_cases h0 : hoK x (nI n) < 0
      · rw [if_pos h0, b94_44, b94_49 (Or.inr rfl), decide_eq_false (fun q => q h0)]; rfl
      · rw [if_neg h0, b94_48, b94_49 (Or.inl rfl), decide_eq_true h0]; rfl
  · rw [decide_eq_false hu, zi_bI_f, if_pos rfl, b94_48, b94_49 (Or.inl rfl)]; rfl
/-- the end of a step -/
def tdK (x : Nat → Nat → Int32) (c : Nat) (cd : Int32) : Nat → Nat → Int32 := if cd = 1 then u2 (u2 x (10 + 2 * c) 6 (x (10 + 2 * c) 6 + 1)) (10 + 2 * c) 7 (x (10 + 2 * c) 7 + 1) else u2 x (10 + 2 * c) 6 (x (10 + 2 * c) 6 + 1)
theorem k_end (S : Sh h) (V : Wa W) (hc : c < 3) {cd x3 : Int32} (h0 : ¬ cd = 0) : zv 5 80 128 [.ref W, .int (nI c), .ref (W + (10 + 2 * c)), .int x3, .int cd] [] (zC h W x y) = zv 5 80 159 [.ref W, .int (nI c), .ref (W + (10 + 2 * c)), .int x3, .int cd] [] (zC h W (tdK x c cd) y) := by
  rw [b80_128, if_neg h0, b80_133 (by first | (simp only [zC_n, zC_k, zC_r, S.n, wk_0 S V, wk_1 S V, wr_0_0 S V, wr_0_1 S V, wk_9 S V, cl_k S V hc, cl_r S V hc, cl_p S V hc, cl_q S V hc, zq_rf]; done) | (simp only [zC_n, zC_r, S.n, wr_0_0 S V, wr_0_1 S V, cl_r S V hc, cl_p S V hc, zq_rf]; have := V.lt; omega)) (by first | (simp only [zC_n, zC_k, zC_r, S.n, wk_0 S V, wk_1 S V, wr_0_0 S V, wr_0_1 S V, wk_9 S V, cl_k S V hc, cl_r S V hc, cl_p S V hc, cl_q S V hc, zq_rf]; done) | (simp only [zC_n, zC_r, S.n, wr_0_0 S V, wr_0_1 S V, cl_r S V hc, cl_p S V hc, zq_rf]; have := V.lt; omega)), zC_i (by omega), zC_wi (by omega), b80_143]
  unfold tdK
  by_cases h1 : cd = 1
  · rw [if_pos h1, if_pos h1, b80_149 (by first | (simp only [zC_n, zC_k, zC_r, S.n, wk_0 S V, wk_1 S V, wr_0_0 S V, wr_0_1 S V, wk_9 S V, cl_k S V hc, cl_r S V hc, cl_p S V hc, cl_q S V hc, zq_rf]; done) | (simp only [zC_n, zC_r, S.n, wr_0_0 S V, wr_0_1 S V, cl_r S V hc, cl_p S V hc, zq_rf]; have := V.lt; omega)) (by first | (simp only [zC_n, zC_k, zC_r, S.n, wk_0 S V, wk_1 S V, wr_0_0 S V, wr_0_1 S V, wk_9 S V, cl_k S V hc, cl_r S V hc, cl_p S V hc, cl_q S V hc, zq_rf]; done) | (simp only [zC_n, zC_r, S.n, wr_0_0 S V, wr_0_1 S V, cl_r S V hc, cl_p S V hc, zq_rf]; have := V.lt; omega)), zC_i (by omega), zC_wi (by omega), u2_n _ _ (Or.inr (by decide))]
  · rw [if_neg h1, if_neg h1]
theorem adv_no (S : Sh h) (V : Wa W) (hc : c < 3) (eN : x 1 0 = nI N) (hN : N ≤ 24) (ea : (¬ x (10 + 2 * c) 0 = 0 ∧ ¬ x (10 + 2 * c) 0 = 5) → x (10 + 2 * c) 3 = nI n ∧ n < N) (hm : mvK x y c n = false) {v2 v3 v4 : Value} : zv 5 80 0 [.ref W, .int (nI c), v2, v3, v4] [] (zC h W x y) = some (some (.int 0), zC h W x y) := by
  rw [b80_0 (by first | (simp only [zC_n, zC_k, zC_r, S.n, wk_0 S V, wk_1 S V, wr_0_0 S V, wr_0_1 S V, wk_9 S V, cl_k S V hc, cl_r S V hc, cl_p S V hc, cl_q S V hc, zq_rf]; done) | (simp only [zC_n, zC_r, S.n, wr_0_0 S V, wr_0_1 S V, cl_r S V hc, cl_p S V hc, zq_rf]; have := V.lt; omega)) (by first | (simp only [zC_n, zC_k, zC_r, S.n, wk_0 S V, wk_1 S V, wr_0_0 S V, wr_0_1 S V, wk_9 S V, cl_k S V hc, cl_r S V hc, cl_p S V hc, cl_q S V hc, zq_rf]; done) | (simp only [zC_n, zC_r, S.n, wr_0_0 S V, wr_0_1 S V, cl_r S V hc, cl_p S V hc, zq_rf]; have := V.lt; omega)), k_mv S V hc eN hN ea, hm, zi_bI_f]
  simp only [Option.bind_some, Option.toList_some, Option.toList_none, List.cons_append, List.nil_append]
  rw [b80_5, if_pos rfl, b80_8]
theorem adv_go (S : Sh h) (V : Wa W) (hc : c < 3) (eN : x 1 0 = nI N) (hN : N ≤ 24) (ea : (¬ x (10 + 2 * c) 0 = 0 ∧ ¬ x (10 + 2 * c) 0 = 5) → x (10 + 2 * c) 3 = nI n ∧ n < N) (hm : mvK x y c n = true) {v2 v3 v4 : Value} : zv 5 80 0 [.ref W, .int (nI c), v2, v3, v4] [] (zC h W x y) = zv 5 80 30 [.ref W, .int (nI c), .ref (W + (10 + 2 * c)), v3, v4] [.int (zi_bI (decide (x (10 + 2 * c) 0 = 2)))] (zC h W x y) := by
  have r1 : zh_r (zC h W x y) W 1 = .ref (W + 9) := by rw [zC_r, wr_0_1 S V]
  have r2 : zh_r (zC h W x y) (W + 9) c = .ref (W + (10 + 2 * c)) := by rw [zC_r, cl_r S V hc]
  rw [b80_0 (by first | (simp only [zC_n, zC_k, zC_r, S.n, wk_0 S V, wk_1 S V, wr_0_0 S V, wr_0_1 S V, wk_9 S V, cl_k S V hc, cl_r S V hc, cl_p S V hc, cl_q S V hc, zq_rf]; done) | (simp only [zC_n, zC_r, S.n, wr_0_0 S V, wr_0_1 S V, cl_r S V hc, cl_p S V hc, zq_rf]; have := V.lt; omega)) (by first | (simp only [zC_n, zC_k, zC_r, S.n, wk_0 S V, wk_1 S V, wr_0_0 S V, wr_0_1 S V, wk_9 S V, cl_k S V hc, cl_r S V hc, cl_p S V hc, cl_q S V hc, zq_rf]; done) | (simp only [zC_n, zC_r, S.n, wr_0_0 S V, wr_0_1 S V, cl_r S V hc, cl_p S V hc, zq_rf]; have := V.lt; omega)), k_mv S V hc eN hN ea, hm, zi_bI_t]
  simp only [Option.bind_some, Option.toList_some, Option.toList_none, List.cons_append, List.nil_append]
  rw [b80_5, if_neg (by decide), b80_10 (by first | (simp only [zC_n, zC_k, zC_r, S.n, wk_0 S V, wk_1 S V, wr_0_0 S V, wr_0_1 S V, wk_9 S V, cl_k S V hc, cl_r S V hc, cl_p S V hc, cl_q S V hc, zq_rf]; done) | (simp only [zC_n, zC_r, S.n, wr_0_0 S V, wr_0_1 S V, cl_r S V hc, cl_p S V hc, zq_rf]; have := V.lt; omega)) (by first | (simp only [zC_n, zC_k, zC_r, S.n, wk_0 S V, wk_1 S V, wr_0_0 S V, wr_0_1 S V, wk_9 S V, cl_k S V hc, cl_r S V hc, cl_p S V hc, cl_q S V hc, zq_rf]; done) | (simp only [zC_n, zC_r, S.n, wr_0_0 S V, wr_0_1 S V, cl_r S V hc, cl_p S V hc, zq_rf]; have := V.lt; omega)) (by first | (simp only [zC_n, zC_k, zC_r, S.n, wk_0 S V, wk_1 S V, wr_0_0 S V, wr_0_1 S V, wk_9 S V, cl_k S V hc, cl_r S V hc, cl_p S V hc, cl_q S V hc, zq_rf]; done) | (simp only [zC_n, zC_r, S.n, wr_0_0 S V, wr_0_1 S V, cl_r S V hc, cl_p S V hc, zq_rf]; have := V.lt; omega)) (by first | (simp only [zC_n, zC_k, zC_r, S.n, wk_0 S V, wk_1 S V, wr_0_0 S V, wr_0_1 S V, wk_9 S V, cl_k S V hc, cl_r S V hc, cl_p S V hc, cl_q S V hc, zq_rf]; done) | (simp only [zC_n, zC_r, S.n, wr_0_0 S V, wr_0_1 S V, cl_r S V hc, cl_p S V hc, zq_rf]; have := V.lt; omega)) (by rw [r1, zq_rf, zC_k, wk_9 S V]; exact zj_n hc (by decide)) (by rw [r1, zq_rf, zC_k, wk_9 S V]; exact Or.inr (Or.inl rfl)) (by rw [r1, zq_rf, nI_clamp (by omega), r2, zq_rf]) (by rw [r1, zq_rf, nI_clamp (by omega), r2, zq_rf, zC_n, S.n]; have := V.lt; omega) (by rw [r1, zq_rf, nI_clamp (by omega), r2, zq_rf, zC_k, cl_k S V hc]), r1, zq_rf, nI_clamp (by omega), r2, zq_rf, zC_i (by omega)]
  by_cases h2 : x (10 + 2 * c) 0 = 2
  · rw [if_pos h2, b80_25, decide_eq_true h2, zi_bI_t]
  · rw [if_neg h2, b80_29, decide_eq_false h2, zi_bI_f]
/-- one of those who notice -/
theorem na_t (S : Sh h) (V : Wa W) (hc : c < 3) (eN : x 1 0 = nI N) (hN : N ≤ 24) {M : Nat → Nat} (hM : ∀ n, n < N → x 3 n = nI (M n) ∧ M n ≤ 5) {mv : Nat} (hmv : mv < 3) : ∃ b : Bool, zv 3 81 2 [.ref W, .int (nI mv), .int (nI c)] [] (zC h W x y) = zv 3 81 2 [.ref W, .int (nI mv), .int (nI (c + 1))] [] (zC h W (if (¬ x (10 + 2 * c) 0 = 0 ∧ ¬ x (10 + 2 * c) 0 = 5) ∨ c = mv then noK x c b else x) y) ∧ (b = true ↔ ∃ n, n < N ∧ ¬ 0 < x 2 n ∧ y 6 n = false ∧ ∃ i, i < M n ∧ x 7 (5 * n + i) = x (10 + 2 * c) 2) := by
  have r1 : zh_r (zC h W x y) W 1 = .ref (W + 9) := by rw [zC_r, wr_0_1 S V]
  have r2 : zh_r (zC h W x y) (W + 9) c = .ref (W + (10 + 2 * c)) := by rw [zC_r, cl_r S V hc]
  obtain ⟨b, eb, hb⟩ := k_no S V hc (y := y) eN hN hM
  refine ⟨b, ?_, hb⟩
  have act : zv 3 81 24 [.ref W, .int (nI mv), .int (nI c)] [] (zC h W x y) = zv 3 81 2 [.ref W, .int (nI mv), .int (nI (c + 1))] [] (zC h W (noK x c b) y) := by
    rw [b81_24 (by first | (simp only [zC_n, zC_k, zC_r, S.n, wk_0 S V, wk_1 S V, wr_0_0 S V, wr_0_1 S V, wk_9 S V, cl_k S V hc, cl_r S V hc, cl_p S V hc, cl_q S V hc, zq_rf]; done) | (simp only [zC_n, zC_r, S.n, wr_0_0 S V, wr_0_1 S V, cl_r S V hc, cl_p S V hc, zq_rf]; have := V.lt; omega)) (by first | (simp only [zC_n, zC_k, zC_r, S.n, wk_0 S V, wk_1 S V, wr_0_0 S V, wr_0_1 S V, wk_9 S V, cl_k S V hc, cl_r S V hc, cl_p S V hc, cl_q S V hc, zq_rf]; done) | (simp only [zC_n, zC_r, S.n, wr_0_0 S V, wr_0_1 S V, cl_r S V hc, cl_p S V hc, zq_rf]; have := V.lt; omega)) (by first | (simp only [zC_n, zC_k, zC_r, S.n, wk_0 S V, wk_1 S V, wr_0_0 S V, wr_0_1 S V, wk_9 S V, cl_k S V hc, cl_r S V hc, cl_p S V hc, cl_q S V hc, zq_rf]; done) | (simp only [zC_n, zC_r, S.n, wr_0_0 S V, wr_0_1 S V, cl_r S V hc, cl_p S V hc, zq_rf]; have := V.lt; omega)) (by first | (simp only [zC_n, zC_k, zC_r, S.n, wk_0 S V, wk_1 S V, wr_0_0 S V, wr_0_1 S V, wk_9 S V, cl_k S V hc, cl_r S V hc, cl_p S V hc, cl_q S V hc, zq_rf]; done) | (simp only [zC_n, zC_r, S.n, wr_0_0 S V, wr_0_1 S V, cl_r S V hc, cl_p S V hc, zq_rf]; have := V.lt; omega)) (by rw [r1, zq_rf, zC_k, wk_9 S V]; exact zj_n hc (by decide)) (by rw [r1, zq_rf, zC_k, wk_9 S V]; exact Or.inr (Or.inl rfl)) (by rw [r1, zq_rf, nI_clamp (by omega), r2, zq_rf]), r1, zq_rf, nI_clamp (by omega), r2, zq_rf, eb]
    simp only [Option.bind_some, Option.toList_some, Option.toList_none, List.cons_append, List.nil_append]
    rw [b81_34, nI_s]
  rw [b81_2, if_pos (show nI c < 3 from nI_lt (b := 3) hc (by decide)), b81_7 (by first | (simp only [zC_n, zC_k, zC_r, S.n, wk_0 S V, wk_1 S V, wr_0_0 S V, wr_0_1 S V, wk_9 S V, cl_k S V hc, cl_r S V hc, cl_p S V hc, cl_q S V hc, zq_rf]; done) | (simp only [zC_n, zC_r, S.n, wr_0_0 S V, wr_0_1 S V, cl_r S V hc, cl_p S V hc, zq_rf]; have := V.lt; omega)) (by first | (simp only [zC_n, zC_k, zC_r, S.n, wk_0 S V, wk_1 S V, wr_0_0 S V, wr_0_1 S V, wk_9 S V, cl_k S V hc, cl_r S V hc, cl_p S V hc, cl_q S V hc, zq_rf]; done) | (simp only [zC_n, zC_r, S.n, wr_0_0 S V, wr_0_1 S V, cl_r S V hc, cl_p S V hc, zq_rf]; have := V.lt; omega)) (by first | (simp only [zC_n, zC_k, zC_r, S.n, wk_0 S V, wk_1 S V, wr_0_0 S V, wr_0_1 S V, wk_9 S V, cl_k S V hc, cl_r S V hc, cl_p S V hc, cl_q S V hc, zq_rf]; done) | (simp only [zC_n, zC_r, S.n, wr_0_0 S V, wr_0_1 S V, cl_r S V hc, cl_p S V hc, zq_rf]; have := V.lt; omega)) (by first | (simp only [zC_n, zC_k, zC_r, S.n, wk_0 S V, wk_1 S V, wr_0_0 S V, wr_0_1 S V, wk_9 S V, cl_k S V hc, cl_r S V hc, cl_p S V hc, cl_q S V hc, zq_rf]; done) | (simp only [zC_n, zC_r, S.n, wr_0_0 S V, wr_0_1 S V, cl_r S V hc, cl_p S V hc, zq_rf]; have := V.lt; omega)) (by rw [r1, zq_rf, zC_k, wk_9 S V]; exact zj_n hc (by decide)) (by rw [r1, zq_rf, zC_k, wk_9 S V]; exact Or.inr (Or.inl rfl)) (by rw [r1, zq_rf, nI_clamp (by omega), r2, zq_rf]) (by rw [r1, zq_rf, nI_clamp (by omega), r2, zq_rf, zC_n, S.n]; have := V.lt; omega) (by rw [r1, zq_rf, nI_clamp (by omega), r2, zq_rf, zC_k, cl_k S V hc]), r1, zq_rf, nI_clamp (by omega), r2, zq_rf, k_uw S V hc]
  simp only [Option.bind_some, Option.toList_some, Option.toList_none, List.cons_append, List.nil_append]
  rw [b81_16]
  by_cases hu : ¬ x (10 + 2 * c) 0 = 0 ∧ ¬ x (10 + 2 * c) 0 = 5
  · rw [decide_eq_true hu, zi_bI_t, if_neg (by decide), if_pos (Or.inl hu)]; exact act
  · rw [decide_eq_false hu, zi_bI_f, if_pos rfl, b81_19]
    by_cases e : c = mv
    · rw [if_pos (by rw [e]), if_pos (Or.inr e)]; exact act
    · rw [if_neg (fun q => e ((nI_eq' (by omega) (by omega)).mp q)), if_neg (fun q => q.elim hu e), b81_34, nI_s]
end R30J
end
section
/-! CLASS AND REFERENCE: a World and a row -/
/-- the nodes are the same -/
def CN (x : Nat → Nat → Int32) (y : Nat → Nat → Bool) (s : Nat → Int32) (N : Nat) (m : Nat → Nat) : Prop :=
  (x 1 0 = s 312 ∧ x 1 1 = s 313 ∧ x 1 2 = s 314) ∧ ∀ n, n < N → (x 2 n = s (13 * n) ∧ x 3 n = s (13 * n + 1) ∧ x 4 n = s (13 * n + 2) ∧ x 5 n = s (13 * n + 3) ∧ y 6 n = decide (s (13 * n + 4) = 1)) ∧ ∀ i, i < m n → x 7 (5 * n + i) = s (13 * n + (5 + i)) ∧ (0 < s (13 * n) → x 8 (5 * n + i) = s (13 * n + (9 + i)))
/-- a client is the same, as far as it matters -/
def KR (x : Nat → Nat → Int32) (y : Nat → Nat → Bool) (s : Nat → Int32) (c : Nat) : Prop :=
  x (10 + 2 * c) 0 = s (315 + 24 * c) ∧ (¬ s (315 + 24 * c) = 0 → ∀ w, 1 ≤ w → w ≤ 7 → x (10 + 2 * c) w = s (315 + 24 * c + w)) ∧
  (s (315 + 24 * c) = 3 ∨ s (315 + 24 * c) = 4 → x (10 + 2 * c) 8 = s (315 + 24 * c + 8) ∧ x (10 + 2 * c) 9 = s (315 + 24 * c + 10) ∧ x (10 + 2 * c) 10 = s (315 + 24 * c + 9) ∧ y (10 + 2 * c) 11 = decide (s (315 + 24 * c + 11) = 1)) ∧
  (¬ s (315 + 24 * c) = 0 → ¬ s (315 + 24 * c) = 5 → ∀ l, l < 12 → x (11 + 2 * c) l = s (315 + 24 * c + (12 + l)))
/-- who is under way has seen what is there now -/
def SB (s : Nat → Int32) : Prop := ∀ c, c < 3 → onB s c = true → s (315 + 24 * c + 5) ||| (1 <<< (zi_bI (thA s (s (315 + 24 * c + 2))) &&& 31)) = s (315 + 24 * c + 5)
def CR (x : Nat → Nat → Int32) (y : Nat → Nat → Bool) (s : Nat → Int32) (N : Nat) (m : Nat → Nat) : Prop := CN x y s N m ∧ (∀ c, c < 3 → KR x y s c) ∧ SB s
section R31A
variable {x : Nat → Nat → Int32} {y : Nat → Nat → Bool} {s : Nat → Int32} {N R M B c n : Nat} {L m H r : Nat → Nat} {K C : Nat → Nat → Nat} {f : Nat → Nat}
theorem KR.hold (k : KR x y s c) (v : Int32) : ((x (10 + 2 * c) 0 = 2 ∨ x (10 + 2 * c) 0 = 4) ∧ x (10 + 2 * c) 3 = v) ↔ ((s (315 + 24 * c) = 2 ∨ s (315 + 24 * c) = 4) ∧ s (315 + 24 * c + 3) = v) := by
  obtain ⟨k0, k1, -, -⟩ := k
  rw [k0]
  constructor
  · rintro ⟨h1, h2⟩
    have h0 : ¬ s (315 + 24 * c) = 0 := fun w => by rw [w] at h1; rcases h1 with q | q <;> exact absurd q (by decide)
    exact ⟨h1, by rw [← k1 h0 3 (by decide) (by decide)]; exact h2⟩
  · rintro ⟨h1, h2⟩
    have h0 : ¬ s (315 + 24 * c) = 0 := fun w => by rw [w] at h1; rcases h1 with q | q <;> exact absurd q (by decide)
    exact ⟨h1, by rw [k1 h0 3 (by decide) (by decide)]; exact h2⟩
theorem CR.ho (R : CR x y s N m) (v : Int32) : hoK x v = lkB s v := by
  have k0 := (R.2.1 0 (by decide)).hold v
  have k1 := (R.2.1 1 (by decide)).hold v
  have k2 := (R.2.1 2 (by decide)).hold v
  unfold hoK lkB
  by_cases e0 : lkO s 0 v
  · rw [if_pos (k0.mpr e0), if_pos e0]
  · rw [if_neg (fun q => e0 (k0.mp q)), if_neg e0]
    by_cases e1 : lkO s 1 v
    · rw [if_pos (k1.mpr e1), if_pos e1]
    · rw [if_neg (fun q => e1 (k1.mp q)), if_neg e1]
      by_cases e2 : lkO s 2 v
      · rw [if_pos (k2.mpr e2), if_pos e2]
      · rw [if_neg (fun q => e2 (k2.mp q)), if_neg e2]
theorem lk_neg (s : Nat → Int32) (v : Int32) : lkB s v < 0 ↔ lkB s v = -4 := by
  unfold lkB
  split
  · decide
  · split
    · decide
    · split <;> decide
/-- both sides may step alike -/
theorem CR.mv (T : CR x y s N m) (I : InvG s N R M B L m H r K C f) (hc : c < 3) (ea : (¬ s (315 + 24 * c) = 0 ∧ ¬ s (315 + 24 * c) = 5) → s (315 + 24 * c + 3) = nI n ∧ n < N) : mvK x y c n = msF s c := by
  obtain ⟨k0, k1, k2, -⟩ := T.2.1 c hc
  obtain ⟨⟨a1, a2, a3⟩, ⟨b1, b2⟩, -, G, -⟩ := I.1
  unfold mvK msF
  rw [k0]
  by_cases hu : ¬ s (315 + 24 * c) = 0 ∧ ¬ s (315 + 24 * c) = 5
  · obtain ⟨e3, hn⟩ := ea hu
    have ho : onB s c = true := by unfold onB; exact decide_eq_true hu
    rw [decide_eq_true hu, ho, e3, b1, nI_clamp (by omega), nI_clamp (by omega), T.ho]
    obtain ⟨⟨t2, t3, t4, t5, t6⟩, -⟩ := T.1.2 n hn
    have gl := (G n hn).1.1
    have gd := (G n hn).2.2.1
    have w1 := k1 hu.1 1 (by decide) (by decide)
    have w2 := k1 hu.1 2 (by decide) (by decide)
    have key : (wlK x y c n && decide (¬ lkB s (nI n) < 0)) = sbF s c n R := by
      unfold wlK sbF
      rw [k0]
      by_cases h1 : s (315 + 24 * c) = 1
      · rw [if_pos h1, if_pos h1, w1, w2, t2, t4, t6, ← Bool.decide_and, decide_eq_decide, decide_eq_false_iff_not, lk_neg]
        constructor
        · rintro ⟨⟨p1, ⟨p2, p3⟩, p4⟩, p5⟩
          exact ⟨gd.elim id (fun q => absurd q.1 p3), p4, p2, p1, p5⟩
        · rintro ⟨p1, p2, p3, p4, p5⟩
          exact ⟨⟨p4, ⟨p3, fun q => by rw [p1] at q; exact absurd q (by decide)⟩, p2⟩, p5⟩
      · rw [if_neg h1, if_neg h1, ← Bool.decide_and, decide_eq_decide, lk_neg]
        by_cases h3 : s (315 + 24 * c) = 3
        · obtain ⟨w8, w9, -, -⟩ := k2 (Or.inl h3)
          rw [w8, w9, t2, t4]
          constructor
          · rintro ⟨⟨p1, p2, p3⟩, p5⟩
            refine ⟨p1, ?_, p2, p3, p5⟩
            rw [← p2, gl, (G R b2).1.1]
            have hLR := (G n hn).2.2.2.2.2.2.1
            have := I.lv b2
            exact nI_nlt hLR (by omega)
          · rintro ⟨p1, p2, p3, p4, p5⟩
            exact ⟨⟨p1, p3, p4⟩, p5⟩
        · constructor
          · rintro ⟨⟨p1, -⟩, -⟩; exact absurd p1 h3
          · rintro ⟨p1, -⟩; exact absurd p1 h3
    rw [key]
  · have ho : onB s c = false := by unfold onB; exact decide_eq_false hu
    rw [decide_eq_false hu, ho]; rfl
end R31A
end
section
/-! CLASS AND REFERENCE: which keys are there -/
section R31B
variable {x : Nat → Nat → Int32} {y : Nat → Nat → Bool} {s s' : Nat → Int32} {N R M B c n : Nat} {L m H r : Nat → Nat} {K C : Nat → Nat → Nat} {f : Nat → Nat}
theorem thF_iff {key : Int32} : ∀ {k : Nat}, thF s key k = true ↔ ∃ n, n < k ∧ s (13 * n) = 0 ∧ s (13 * n + 4) = 0 ∧ ∃ i, i < (s (13 * n + 1)).toNatClampNeg ∧ s (13 * n + (5 + i)) = key
  | 0 => by simp [thF]
  | k + 1 => by
    rw [thF, Bool.or_eq_true, thF_iff, Bool.and_eq_true, Bool.and_eq_true, decide_eq_true_eq, decide_eq_true_eq, hkF_iff]
    constructor
    · rintro (⟨n, h1, h2⟩ | ⟨h1, h2, h3⟩)
      · exact ⟨n, by omega, h2⟩
      · exact ⟨k, by omega, h1, h2, h3⟩
    · rintro ⟨n, h1, h2⟩
      by_cases e : n = k
      · subst e; exact Or.inr h2
      · exact Or.inl ⟨n, by omega, h2⟩
theorem thA_iff (I : InvG s N R M B L m H r K C f) {key : Int32} : thA s key = true ↔ ∃ n, n < N ∧ s (13 * n) = 0 ∧ s (13 * n + 4) = 0 ∧ ∃ i, i < m n ∧ s (13 * n + (5 + i)) = key := by
  obtain ⟨⟨a1, a2, a3⟩, -, ⟨d1, d2, d3⟩, G, -⟩ := I.1
  unfold thA
  rw [a1, nI_clamp (by omega), thF_iff]
  constructor
  · rintro ⟨n, h1, h2, h3, i, h4, h5⟩
    have g2 := (G n h1).1.2.1
    have g10 := (G n h1).2.2.2.2.2.2.2.1
    rw [g2, nI_clamp (by omega)] at h4
    exact ⟨n, h1, h2, h3, i, h4, h5⟩
  · rintro ⟨n, h1, h2, h3, i, h4, h5⟩
    have g2 := (G n h1).1.2.1
    have g10 := (G n h1).2.2.2.2.2.2.2.1
    exact ⟨n, h1, h2, h3, i, by rw [g2, nI_clamp (by omega)]; exact h4, h5⟩
/-- the program looks alike -/
theorem CN.th (T : CN x y s N m) (I : InvG s N R M B L m H r K C f) {key : Int32} {b : Bool} (hb : b = true ↔ ∃ n, n < N ∧ ¬ 0 < x 2 n ∧ y 6 n = false ∧ ∃ i, i < m n ∧ x 7 (5 * n + i) = key) : b = thA s key := by
  have G := I.1.2.2.2.1
  rw [Bool.eq_iff_iff, hb, thA_iff I]
  constructor
  · rintro ⟨n, h1, h2, h3, i, h4, h5⟩
    obtain ⟨⟨t2, t3, t4, t5, t6⟩, tk⟩ := T.2 n h1
    have ln := I.lv h1
    refine ⟨n, h1, ?_, ?_, i, h4, by rw [← (tk i h4).1]; exact h5⟩
    · rw [t2, (G n h1).1.1] at h2
      have : L n = 0 := Nat.eq_zero_of_not_pos (fun w => h2 (nI_lt (a := 0) w (by omega)))
      rw [(G n h1).1.1, this]; rfl
    · rw [t6, decide_eq_false_iff_not] at h3
      exact (G n h1).2.2.1.elim id (fun q => absurd q.1 h3)
  · rintro ⟨n, h1, h2, h3, i, h4, h5⟩
    obtain ⟨⟨t2, t3, t4, t5, t6⟩, tk⟩ := T.2 n h1
    exact ⟨n, h1, by rw [t2, h2]; decide, by rw [t6, h3]; decide, i, h4, by rw [(tk i h4).1]; exact h5⟩
/-- cells of the clients alone have changed -/
theorem CN.cl {x' : Nat → Nat → Int32} {y' : Nat → Nat → Bool} (T : CN x y s N m) (hN : N ≤ 24) (hm : ∀ n, n < N → m n ≤ 4) (ex : ∀ o j, o < 9 → x' o j = x o j) (ey : ∀ j, y' 6 j = y 6 j) (es : ∀ k, k < 315 → s' k = s k) : CN x' y' s' N m := by
  obtain ⟨⟨t0, t1, t2⟩, tn⟩ := T
  refine ⟨⟨by rw [ex _ _ (by decide), es _ (by decide)]; exact t0, by rw [ex _ _ (by decide), es _ (by decide)]; exact t1, by rw [ex _ _ (by decide), es _ (by decide)]; exact t2⟩, fun n hn => ?_⟩
  obtain ⟨⟨u2, u3, u4, u5, u6⟩, uk⟩ := tn n hn
  have h4 := hm n hn
  refine ⟨⟨by rw [ex _ _ (by decide), es _ (by omega)]; exact u2, by rw [ex _ _ (by decide), es _ (by omega)]; exact u3, by rw [ex _ _ (by decide), es _ (by omega)]; exact u4, by rw [ex _ _ (by decide), es _ (by omega)]; exact u5, by rw [ey, es _ (by omega)]; exact u6⟩, fun i hi => ?_⟩
  rw [ex _ _ (by decide), ex _ _ (by decide), es _ (by omega), es _ (by omega), es _ (by omega)]
  exact uk i hi
/-- which keys are there hangs on the nodes alone -/
theorem thA_cl (I : InvG s N R M B L m H r K C f) (es : ∀ k, k < 315 → s' k = s k) (key : Int32) : thA s' key = thA s key := by
  obtain ⟨⟨a1, a2, a3⟩, -, ⟨d1, d2, d3⟩, G, -⟩ := I.1
  unfold thA
  rw [es 312 (by decide), a1, nI_clamp (by omega), Bool.eq_iff_iff, thF_iff, thF_iff]
  constructor
  · rintro ⟨n, h1, h2, h3, i, h4, h5⟩
    have g10 := (G n h1).2.2.2.2.2.2.2.1
    rw [es _ (by omega)] at h2 h3 h4
    rw [(G n h1).1.2.1, nI_clamp (by omega)] at h4
    rw [es _ (by omega)] at h5
    exact ⟨n, h1, h2, h3, i, by rw [(G n h1).1.2.1, nI_clamp (by omega)]; exact h4, h5⟩
  · rintro ⟨n, h1, h2, h3, i, h4, h5⟩
    have g10 := (G n h1).2.2.2.2.2.2.2.1
    have h4' := h4
    rw [(G n h1).1.2.1, nI_clamp (by omega)] at h4'
    exact ⟨n, h1, by rw [es _ (by omega)]; exact h2, by rw [es _ (by omega)]; exact h3, i, by rw [es _ (by omega)]; exact h4, by rw [es _ (by omega)]; exact h5⟩
end R31B
end
section
/-! CLASS AND REFERENCE: a step that changes its client alone -/
section R31C
variable {x x1 : Nat → Nat → Int32} {y y1 : Nat → Nat → Bool} {s s1 : Nat → Int32} {N R M B c n : Nat} {L m H r : Nat → Nat} {K C : Nat → Nat → Nat} {f : Nat → Nat}
theorem up_id (s : Nat → Int32) (k : Nat) {v : Int32} (e : v = s k) : up s k v = s := by
  funext j
  unfold up
  split
  · rename_i h; rw [h, e]
  · rfl
/-- nobody sees anything new -/
theorem se_id {on : Bool} {k : Nat} {t : Nat → Int32} (e : on = true → t (315 + 24 * k + 5) ||| (1 <<< (zi_bI (thA t (t (315 + 24 * k + 2))) &&& 31)) = t (315 + 24 * k + 5)) : seF on k t = t := by
  unfold seF
  cases on with
  | false => rw [if_neg (by decide)]
  | true => rw [if_pos rfl, e rfl, up_id _ _ rfl]
theorem st_id (T : CR x y s N m) (I : InvG s N R M B L m H r K C f) (hc : c < 3) {cd : Int32} (h0 : 0 < cd) (e : ∀ k, k < 315 + 24 * c ∨ 315 + 24 * c + 24 ≤ k → s1 k = s k) (e2 : s1 (315 + 24 * c + 2) = s (315 + 24 * c + 2)) (e5 : s1 (315 + 24 * c + 5) = s (315 + 24 * c + 5)) : stF s s1 c cd = tdF s1 c cd := by
  have tn : ∀ k, k < 315 → tdF s1 c cd k = s k := fun k hk => by
    unfold tdF
    rw [up_n _ _ (by omega), up_n _ _ (by omega), e k (by omega)]
  have t2 : ∀ k, k < 3 → tdF s1 c cd (315 + 24 * k + 2) = s (315 + 24 * k + 2) := fun k hk => by
    unfold tdF
    rw [up_n _ _ (by omega), up_n _ _ (by omega)]
    by_cases w : k = c
    · subst w; exact e2
    · exact e _ (by omega)
  have t5 : ∀ k, k < 3 → tdF s1 c cd (315 + 24 * k + 5) = s (315 + 24 * k + 5) := fun k hk => by
    unfold tdF
    rw [up_n _ _ (by omega), up_n _ _ (by omega)]
    by_cases w : k = c
    · subst w; exact e5
    · exact e _ (by omega)
  have nn : ∀ k, k < 3 → onB s k = true → tdF s1 c cd (315 + 24 * k + 5) ||| (1 <<< (zi_bI (thA (tdF s1 c cd) (tdF s1 c cd (315 + 24 * k + 2))) &&& 31)) = tdF s1 c cd (315 + 24 * k + 5) := fun k hk ho => by
    rw [t2 k hk, t5 k hk, thA_cl I tn]
    exact T.2.2 k hk ho
  have q0 : seF (onB s 0) 0 (tdF s1 c cd) = tdF s1 c cd := se_id (nn 0 (by decide))
  have q1 : seF (onB s 1) 1 (tdF s1 c cd) = tdF s1 c cd := se_id (nn 1 (by decide))
  have q2 : seF (onB s 2) 2 (tdF s1 c cd) = tdF s1 c cd := se_id (nn 2 (by decide))
  unfold stF
  rw [if_pos h0, q0, q1, q2]
/-- the relation behind such a step -/
theorem sim_cl (T : CR x y s N m) (I : InvG s N R M B L m H r K C f) (hc : c < 3) {cd : Int32} (h0 : 0 < cd) (hon : onB s c = true) (e : ∀ k, k < 315 + 24 * c ∨ 315 + 24 * c + 24 ≤ k → s1 k = s k) (e2 : s1 (315 + 24 * c + 2) = s (315 + 24 * c + 2)) (e5 : s1 (315 + 24 * c + 5) = s (315 + 24 * c + 5)) (ex : ∀ o j, o ≠ 10 + 2 * c → o ≠ 11 + 2 * c → x1 o j = x o j) (ey : ∀ o j, o ≠ 10 + 2 * c → y1 o j = y o j) (k : KR x1 y1 s1 c) (hs : ¬ s1 (315 + 24 * c) = 0) : CR (tdK x1 c cd) y1 (stF s s1 c cd) N m := by
  have hN := I.1.1.2.2
  have hm : ∀ n, n < N → m n ≤ 4 := fun n hn => by
    have := (I.1.2.2.2.1 n hn).2.2.2.2.2.2.2.1
    have := I.1.2.2.1.2.2
    omega
  have tx : ∀ o j, o ≠ 10 + 2 * c → tdK x1 c cd o j = x1 o j := fun o j ho => by
    unfold tdK
    split
    · rw [u2_n _ _ (Or.inl ho), u2_n _ _ (Or.inl ho)]
    · rw [u2_n _ _ (Or.inl ho)]
  have tj : ∀ j, j ≠ 6 → j ≠ 7 → tdK x1 c cd (10 + 2 * c) j = x1 (10 + 2 * c) j := fun j h6 h7 => by
    unfold tdK
    split
    · rw [u2_n _ _ (Or.inr h7), u2_n _ _ (Or.inr h6)]
    · rw [u2_n _ _ (Or.inr h6)]
  have t6 : tdK x1 c cd (10 + 2 * c) 6 = x1 (10 + 2 * c) 6 + 1 := by
    unfold tdK
    split
    · rw [u2_n _ _ (Or.inr (by decide)), u2_s]
    · rw [u2_s]
  have t7 : tdK x1 c cd (10 + 2 * c) 7 = x1 (10 + 2 * c) 7 + (if cd = 1 then 1 else 0) := by
    unfold tdK
    by_cases h1 : cd = 1
    · rw [if_pos h1, if_pos h1, u2_s]
    · rw [if_neg h1, if_neg h1, u2_n _ _ (Or.inr (by decide)), Int32.add_zero]
  rw [st_id T I hc h0 e e2 e5]
  have so : ∀ k, k ≠ 315 + 24 * c + 6 → k ≠ 315 + 24 * c + 7 → tdF s1 c cd k = s1 k := fun k h6 h7 => by unfold tdF; rw [up_n _ _ h7, up_n _ _ h6]
  have s6 : tdF s1 c cd (315 + 24 * c + 6) = s1 (315 + 24 * c + 6) + 1 := by unfold tdF; rw [up_n _ _ (by omega), up_s]
  have s7 : tdF s1 c cd (315 + 24 * c + 7) = s1 (315 + 24 * c + 7) + (if cd = 1 then 1 else 0) := by unfold tdF; rw [up_s]
  have sn : ∀ k, k < 315 → tdF s1 c cd k = s k := fun k hk => by rw [so _ (by omega) (by omega), e k (by omega)]
  refine ⟨T.1.cl hN hm (fun o j ho => by rw [tx _ _ (by omega), ex _ _ (by omega) (by omega)]) (fun j => ey _ _ (by omega)) sn, fun d hd => ?_, fun d hd ho => ?_⟩
  · by_cases hdc : d = c
    · subst hdc
      obtain ⟨k0, k1, k2, k3⟩ := k
      have z0 : tdF s1 d cd (315 + 24 * d) = s1 (315 + 24 * d) := so _ (by omega) (by omega)
      unfold KR
      rw [z0]
      refine ⟨by rw [tj 0 (by decide) (by decide)]; exact k0, fun _ w w1 w7 => ?_, fun h34 => ?_, fun h1 h2 l hl => ?_⟩
      · by_cases e6 : w = 6
        · subst e6; rw [t6, s6, k1 hs 6 (by decide) (by decide)]
        · by_cases e7 : w = 7
          · subst e7; rw [t7, s7, k1 hs 7 (by decide) (by decide)]
          · rw [tj w e6 e7, so _ (by omega) (by omega)]; exact k1 hs w w1 w7
      · rw [tj 8 (by decide) (by decide), tj 9 (by decide) (by decide), tj 10 (by decide) (by decide), so _ (by omega) (by omega), so _ (by omega) (by omega), so _ (by omega) (by omega), so _ (by omega) (by omega)]
        exact k2 h34
      · rw [tx _ _ (by omega), so _ (by omega) (by omega)]; exact k3 h1 h2 l hl
    · obtain ⟨k0, k1, k2, k3⟩ := T.2.1 d hd
      have ez : ∀ w, w < 24 → tdF s1 c cd (315 + 24 * d + w) = s (315 + 24 * d + w) := fun w hw => by rw [so _ (by omega) (by omega), e _ (by omega)]
      have ez0 : tdF s1 c cd (315 + 24 * d) = s (315 + 24 * d) := ez 0 (by decide)
      have exd : ∀ j, tdK x1 c cd (10 + 2 * d) j = x (10 + 2 * d) j := fun j => by rw [tx _ _ (by omega), ex _ _ (by omega) (by omega)]
      have exp : ∀ j, tdK x1 c cd (11 + 2 * d) j = x (11 + 2 * d) j := fun j => by rw [tx _ _ (by omega), ex _ _ (by omega) (by omega)]
      unfold KR
      rw [ez0, exd 0, exd 8, exd 9, exd 10, ez 8 (by decide), ez 9 (by decide), ez 10 (by decide), ez 11 (by decide), ey _ _ (by omega)]
      exact ⟨k0, fun h1 w w1 w7 => by rw [exd, ez w (by omega)]; exact k1 h1 w w1 w7, k2, fun h1 h2 l hl => by rw [exp, ez (12 + l) (by omega)]; exact k3 h1 h2 l hl⟩
  · have z2 : tdF s1 c cd (315 + 24 * d + 2) = s (315 + 24 * d + 2) := by
      rw [so _ (by omega) (by omega)]
      by_cases w : d = c
      · subst w; exact e2
      · exact e _ (by omega)
    have z5 : tdF s1 c cd (315 + 24 * d + 5) = s (315 + 24 * d + 5) := by
      rw [so _ (by omega) (by omega)]
      by_cases w : d = c
      · subst w; exact e5
      · exact e _ (by omega)
    rw [z2, z5, thA_cl I sn]
    refine T.2.2 d hd ?_
    by_cases w : d = c
    · subst w; exact hon
    · have z0 : tdF s1 c cd (315 + 24 * d) = s (315 + 24 * d) := by rw [so _ (by omega) (by omega), e _ (by omega)]
      unfold onB at ho ⊢
      rw [z0] at ho
      exact ho
end R31C
end
section
/-! CLASS AND REFERENCE: the steps DOWN -/
section R31D
variable {h : zi_Hp} {W : Nat} {x x1 : Nat → Nat → Int32} {y y1 : Nat → Nat → Bool} {s s1 : Nat → Int32} {N R M B c n : Nat} {L m H r : Nat → Nat} {K C : Nat → Nat → Nat} {f : Nat → Nat}
theorem adv_t (S : Sh h) (V : Wa W) (hc : c < 3) {cd : Int32} (h0 : ¬ cd = 0) : zv 5 80 128 [.ref W, .int (nI c), .ref (W + (10 + 2 * c)), .int 0, .int cd] [] (zC h W x y) = some (some (.int cd), zC h W (tdK x c cd) y) := by
  rw [k_end S V hc h0, b80_159, if_pos rfl, b80_168]
/-- a client that stands DOWN: what both sides know -/
theorem sim_1 (S : Sh h) (V : Wa W) (T : CR x y s N m) (I : InvG s N R M B L m H r K C f) (hc : c < 3) (h1 : s (315 + 24 * c) = 1) (hmv : msF s c = true) {cd : Int32} (D : StD s c cd s1) {v2 v3 v4 : Value} : ∃ x' y', zv 5 80 0 [.ref W, .int (nI c), v2, v3, v4] [] (zC h W x y) = some (some (.int cd), zC h W x' y') ∧ CR x' y' (stF s s1 c cd) N m := by
  obtain ⟨⟨a1, a2, a3⟩, ⟨b1, b2⟩, ⟨d1, d2, d3⟩, G, o, z⟩ := id I.1
  have hx0 : ¬ cd = 0 := ms_x I hc hmv (Or.inl ⟨h1, D⟩)
  have hon : onB s c = true := by unfold onB; rw [h1]; decide
  obtain ⟨a, ha, ea⟩ := I.at hc hon
  obtain ⟨k0, k1, k2, k3⟩ := T.2.1 c hc
  have hs0 : ¬ s (315 + 24 * c) = 0 := by rw [h1]; decide
  have hs5 : ¬ s (315 + 24 * c) = 5 := by rw [h1]; decide
  have w1 := k1 hs0 1 (by decide) (by decide)
  have w2 := k1 hs0 2 (by decide) (by decide)
  have w3 := k1 hs0 3 (by decide) (by decide)
  have eN : x 1 0 = nI N := by rw [T.1.1.1]; exact a1
  have xa : x (10 + 2 * c) 3 = nI a := by rw [w3]; exact ea
  have go : zv 5 80 0 [.ref W, .int (nI c), v2, v3, v4] [] (zC h W x y) = zv 5 80 60 [.ref W, .int (nI c), .ref (W + (10 + 2 * c)), .int 0, v4] [] (zC h W x y) := by
    rw [adv_go S V hc eN a3 (n := a) (fun _ => ⟨xa, ha⟩) (by rw [T.mv I hc (fun _ => ⟨ea, ha⟩)]; exact hmv), b80_30_c1 (by first | (simp only [zC_n, zC_k, zC_r, S.n, wk_0 S V, wk_1 S V, wr_0_0 S V, wr_0_1 S V, wk_9 S V, cl_k S V hc, cl_r S V hc, cl_p S V hc, cl_q S V hc, zq_rf]; done) | (simp only [zC_n, zC_r, S.n, wr_0_0 S V, wr_0_1 S V, cl_r S V hc, cl_p S V hc, zq_rf]; have := V.lt; omega)) (by first | (simp only [zC_n, zC_k, zC_r, S.n, wk_0 S V, wk_1 S V, wr_0_0 S V, wr_0_1 S V, wk_9 S V, cl_k S V hc, cl_r S V hc, cl_p S V hc, cl_q S V hc, zq_rf]; done) | (simp only [zC_n, zC_r, S.n, wr_0_0 S V, wr_0_1 S V, cl_r S V hc, cl_p S V hc, zq_rf]; have := V.lt; omega)) (by rw [zC_i (by omega), k0]; exact h1), k0, h1, decide_eq_false (by decide), zi_bI_f]
  -- the tail behind a method's answer
  have fin : ∀ {x1 : Nat → Nat → Int32} {y1 : Nat → Nat → Bool}, zv 4 85 0 [.ref W, .ref (W + (10 + 2 * c)), .double 0] [] (zC h W x y) = some (some (.int cd), zC h W x1 y1) → CR (tdK x1 c cd) y1 (stF s s1 c cd) N m → ∃ x' y', zv 5 80 0 [.ref W, .int (nI c), v2, v3, v4] [] (zC h W x y) = some (some (.int cd), zC h W x' y') ∧ CR x' y' (stF s s1 c cd) N m := fun {x1 y1} e1 e2 => by
    refine ⟨tdK x1 c cd, y1, ?_, e2⟩
    rw [go, b80_60 (by first | (simp only [zC_n, zC_k, zC_r, S.n, wk_0 S V, wk_1 S V, wr_0_0 S V, wr_0_1 S V, wk_9 S V, cl_k S V hc, cl_r S V hc, cl_p S V hc, cl_q S V hc, zq_rf]; done) | (simp only [zC_n, zC_r, S.n, wr_0_0 S V, wr_0_1 S V, cl_r S V hc, cl_p S V hc, zq_rf]; have := V.lt; omega)) (by first | (simp only [zC_n, zC_k, zC_r, S.n, wk_0 S V, wk_1 S V, wr_0_0 S V, wr_0_1 S V, wk_9 S V, cl_k S V hc, cl_r S V hc, cl_p S V hc, cl_q S V hc, zq_rf]; done) | (simp only [zC_n, zC_r, S.n, wr_0_0 S V, wr_0_1 S V, cl_r S V hc, cl_p S V hc, zq_rf]; have := V.lt; omega)), e1]
    simp only [Option.bind_some, Option.toList_some, Option.toList_none, List.cons_append, List.nil_append]
    rw [b80_65, adv_t S V hc hx0]
  obtain ⟨n, hn24, en, D⟩ := D
  have hna : n = a := by rw [ea] at en; exact ((nI_eq' (by omega) (by omega)).mp en).symm
  subst hna
  obtain ⟨⟨g1, g2, g3⟩, g4, g5, g6, g7, g8, g9, g10, g11, g12⟩ := G n ha
  obtain ⟨⟨t2, t3, t4, t5, t6⟩, tk⟩ := T.1.2 n ha
  have em : x 3 n = nI (m n) := by rw [t3]; exact g2
  have r0 : ∀ {o j : Nat} {v : Int32}, o ≠ 10 + 2 * c → u2 x (10 + 2 * c) j v o = x o := fun {o j v} ho => by funext k; exact u2_n _ _ (Or.inl ho)
  rcases D with ⟨hd, rfl, rfl⟩ | ⟨hd, hk, ⟨t, j, ht0, ht, et, hj4, hlt, hge, rfl, rfl⟩ | ⟨hl0, ⟨hact, mm, hmm, emm, rfl, rfl⟩ | ⟨hact, hlk, rfl, rfl⟩ | ⟨hact, hlk, rfl, rfl⟩⟩⟩
  · -- to the right
    have hR : s (13 * n + 3) = nI (r n) ∧ r n < N := by
      obtain ⟨k, kk1, kk2, kk3⟩ := I.2.1.1 c hc
      have hk1 : k = 1 := by rw [h1] at kk1; exact ((nI_eq' (a := 1) (by decide) (by omega)).mp kk1).symm
      subst hk1
      obtain ⟨-, ⟨ke, ke1, ke2⟩, -⟩ := kk3 (by decide) (by decide)
      rcases g4 with ⟨q1, q2⟩ | q
      · rcases hd with w | w
        · rcases g5 with w2 | ⟨-, w2, -⟩
          · rw [w2] at w; exact absurd w (by decide)
          · exact absurd q1 w2
        · rw [g3, ke1, nI_lt' (by omega) (by omega)] at w
          omega
      · exact ⟨q.1, q.2.1⟩
    refine fin (d_r S V hc eN a3 xa ha ?_ ?_) (sim_cl T I hc (by decide) hon (fun k hk => up_n _ _ (by omega)) (uc_cc _ _ (by decide)) (uc_cc _ _ (by decide)) (fun o j h9 _ => u2_n _ _ (Or.inl h9)) (fun _ _ _ => rfl) ⟨?_, fun _ w h1w h7w => ?_, fun q => ?_, fun _ _ l hl => ?_⟩ ?_)
    · rcases hd with w | w
      · exact Or.inl (by rw [t6]; exact decide_eq_true w)
      · exact Or.inr (by rw [t4, w2]; exact w)
    · rw [t5, hR.1]; exact nI_pos (by omega)
    · rw [u2_n _ _ (Or.inr (by decide)), uc_c0 _ _ (by decide)]; exact k0
    · by_cases e3 : w = 3
      · subst e3; rw [u2_s, up_s, t5]
      · rw [u2_n _ _ (Or.inr e3), uc_cc _ _ e3]; exact k1 hs0 w h1w h7w
    · rw [uc_c0 _ _ (by decide), h1] at q; rcases q with q | q <;> exact absurd q (by decide)
    · rw [u2_n _ _ (Or.inl (by omega)), uc_cc _ _ (by omega)]; exact k3 hs0 hs5 l hl
    · rw [uc_c0 _ _ (by decide)]; exact hs0
  · -- to a child
    have ln := I.lv ha
    have hLt : L n = t := by rw [g1] at et; exact (nI_eq' (by omega) (by omega)).mp et
    obtain ⟨m0, mK, mC, mB⟩ := g8 (by omega)
    have hj : j < m n := by
      refine Nat.not_le.mp (fun w => ?_)
      have h9 := hlt (m n - 1) (by omega)
      refine absurd (?_ : s (13 * n + 2) < s (315 + 24 * c + 2)) hk
      rw [(g6 (m n - 1) (by omega)).1, mK] at h9
      rw [g3]; exact h9
    obtain ⟨q1, q2, q3⟩ := mC j hj
    have hs13 : 0 < s (13 * n) := by rw [et]; exact nI_lt (a := 0) ht0 (by omega)
    have x8 : x 8 (5 * n + j) = s (13 * n + (9 + j)) := (tk j hj).2 hs13
    refine fin (d_c S V hc eN a3 xa ha (by rw [t6]; exact decide_eq_false hd) (by rw [t4, w2]; exact hk) (t := t) (by rw [t2]; exact et) ht0 (by omega) em (by omega) hj (fun i hi => by rw [(tk i (by omega)).1, w2]; exact hlt i hi) (by rw [(tk j hj).1, w2]; exact hge) (by rw [x8, q1]; exact nI_pos (by omega))) (sim_cl T I hc (by decide) hon (fun k hk => by rw [up_n _ _ (by omega), up_n _ _ (by omega)]) (by rw [uc_cc _ _ (by decide), uc_cc _ _ (by omega)]) (by rw [uc_cc _ _ (by decide), uc_cc _ _ (by omega)]) (fun o j h9 h10 => by rw [u2_n _ _ (Or.inl h9), u2_n _ _ (Or.inl h10)]) (fun _ _ _ => rfl) ⟨?_, fun _ w h1w h7w => ?_, fun q => ?_, fun _ _ l hl => ?_⟩ ?_)
    · rw [u2_n _ _ (Or.inr (by decide)), u2_n _ _ (Or.inl (by omega)), uc_c0 _ _ (by decide), uc_c0 _ _ (by omega)]; exact k0
    · by_cases e3 : w = 3
      · subst e3; rw [u2_s, up_s, x8]
      · rw [u2_n _ _ (Or.inr e3), u2_n _ _ (Or.inl (by omega)), uc_cc _ _ e3, uc_cc _ _ (by omega)]; exact k1 hs0 w h1w h7w
    · rw [uc_c0 _ _ (by decide), uc_c0 _ _ (by omega), h1] at q; rcases q with q | q <;> exact absurd q (by decide)
    · rw [u2_n _ _ (Or.inl (by omega)), uc_cc _ _ (by omega)]
      by_cases e3 : l = t
      · subst e3; rw [u2_s, up_s]
      · rw [u2_n _ _ (Or.inr e3), uc_cc _ _ (by omega)]; exact k3 hs0 hs5 l hl
    · rw [uc_c0 _ _ (by decide), uc_c0 _ _ (by omega)]; exact hs0
  · -- FIND
    have hmm' : mm = m n := by rw [g2] at emm; exact ((nI_eq' (by omega) (by omega)).mp emm).symm
    subst hmm'
    obtain ⟨j, j1, j2, j3⟩ := fst_ex (fun i => ¬ s (13 * n + (5 + i)) < s (315 + 24 * c + 2)) (m n)
    have jl : ∀ i, i < j → s (13 * n + (5 + i)) < s (315 + 24 * c + 2) := fun i hi => Decidable.not_not.mp (j2 i hi)
    have hke : ∃ ke, s (315 + 24 * c + 2) = nI ke ∧ ke ≤ 99 := by
      obtain ⟨k, kk1, kk2, kk3⟩ := I.2.1.1 c hc
      have hk1 : k = 1 := by rw [h1] at kk1; exact ((nI_eq' (a := 1) (by decide) (by omega)).mp kk1).symm
      subst hk1
      obtain ⟨-, q, -⟩ := kk3 (by decide) (by decide)
      exact q
    obtain ⟨ke, eke, hke⟩ := hke
    have same : decide ((if j < m n then x 7 (5 * n + j) else -4) = x (10 + 2 * c) 2) = hkF s n (s (315 + 24 * c + 2)) (m n) := by
      rw [Bool.eq_iff_iff, decide_eq_true_eq, hkF_iff, w2]
      constructor
      · intro q
        by_cases hj : j < m n
        · rw [if_pos hj, (tk j hj).1] at q; exact ⟨j, hj, q⟩
        · rw [if_neg hj, eke] at q; exact absurd q.symm (nI_n4 ke (by omega))
      · rintro ⟨i, hi, q⟩
        have hij : ¬ i < j := fun w => by have := jl i w; rw [q] at this; exact absurd this Int32.lt_irrefl
        have hj : j < m n := by omega
        rw [if_pos hj, (tk j hj).1]
        by_cases e3 : i = j
        · subst e3; exact q
        · have hr := rise_lt g7 (i := j) (j := i) (by omega) hi
          have hg := j3 hj
          rw [(g6 i hi).1, eke, nI_eq' (by have := (g6 i hi).2; omega) (by omega)] at q
          exact absurd (by rw [(g6 j hj).1, eke]; exact nI_lt (by omega) (by omega)) hg
    refine fin (d_f S V hc eN a3 xa ha (by rw [t6]; exact decide_eq_false hd) (by rw [t4, w2]; exact hk) (by rw [t2]; exact hl0) (by rw [w1]; exact hact) em (by omega) j1 (fun i hi => by rw [(tk i (by omega)).1, w2]; exact jl i hi) (fun hj => by rw [(tk j hj).1, w2]; exact j3 hj)) ?_
    rw [same]
    refine sim_cl T I hc (by decide) hon (fun k hk => by rw [up_n _ _ (by omega), up_n _ _ (by omega)]) (by rw [uc_0c _ _ (by decide), uc_cc _ _ (by decide)]) (by rw [uc_0c _ _ (by decide), uc_cc _ _ (by decide)]) (fun o j h9 _ => by rw [u2_n _ _ (Or.inl h9), u2_n _ _ (Or.inl h9)]) (fun _ _ _ => rfl) ⟨?_, fun _ w h1w h7w => ?_, fun q => ?_, fun _ q l hl => ?_⟩ ?_
    · rw [u2_s, up_s]
    · rw [u2_n _ _ (Or.inr (by omega)), uc_0c _ _ (by omega)]
      by_cases e4 : w = 4
      · subst e4; rw [u2_s, up_s]
      · rw [u2_n _ _ (Or.inr e4), uc_cc _ _ e4]; exact k1 hs0 w h1w h7w
    · rw [up_s] at q; rcases q with q | q <;> exact absurd q (by decide)
    · rw [up_s] at q; exact absurd rfl q
    · rw [up_s]; decide
  · -- it is held
    refine fin (d_l S V hc eN a3 xa ha (by rw [t6]; exact decide_eq_false hd) (by rw [t4, w2]; exact hk) (by rw [t2]; exact hl0) (by rw [w1]; exact hact)) (sim_cl T I hc (by decide) hon (fun k hk => up_n _ _ (by omega)) (uc_0c _ _ (by decide)) (uc_0c _ _ (by decide)) (fun o j h9 _ => u2_n _ _ (Or.inl h9)) (fun _ _ _ => rfl) ⟨?_, fun _ w h1w h7w => ?_, fun q => ?_, fun _ _ l hl => ?_⟩ ?_)
    · rw [u2_s, up_s]
    · rw [u2_n _ _ (Or.inr (by omega)), uc_0c _ _ (by omega)]; exact k1 hs0 w h1w h7w
    · rw [up_s] at q; rcases q with q | q <;> exact absurd q (by decide)
    · rw [u2_n _ _ (Or.inl (by omega)), uc_0c _ _ (by omega)]; exact k3 hs0 hs5 l hl
    · rw [up_s]; decide
  · exact absurd rfl hx0
end R31D
end
section
/-! CLASS AND REFERENCE: the steps that POST, but a new root -/
section R31E
variable {h : zi_Hp} {W : Nat} {x x1 : Nat → Nat → Int32} {y y1 : Nat → Nat → Bool} {s s1 : Nat → Int32} {N R M B c n : Nat} {L m H r : Nat → Nat} {K C : Nat → Nat → Nat} {f : Nat → Nat}
theorem sim_3 (S : Sh h) (V : Wa W) (T : CR x y s N m) (I : InvG s N R M B L m H r K C f) (hc : c < 3) (h3 : s (315 + 24 * c) = 3) (hmv : msF s c = true) {cd : Int32} (D : StO s c cd s1) (h7 : ¬ cd = 7) {v2 v3 v4 : Value} : ∃ x' y', zv 5 80 0 [.ref W, .int (nI c), v2, v3, v4] [] (zC h W x y) = some (some (.int cd), zC h W x' y') ∧ CR x' y' (stF s s1 c cd) N m := by
  obtain ⟨⟨a1, a2, a3⟩, ⟨b1, b2⟩, ⟨d1, d2, d3⟩, G, o, z⟩ := id I.1
  have hx0 : ¬ cd = 0 := ms_x I hc hmv (Or.inr (Or.inr (Or.inr (Or.inl ⟨h3, D⟩))))
  have hon : onB s c = true := by unfold onB; rw [h3]; decide
  obtain ⟨k0, k1, k2, k3⟩ := T.2.1 c hc
  obtain ⟨-, -, a, ea, ha, -, md, p, t, w8, w9, w10, hmd, hp, ht1, ht2, w11, -⟩ := at_3 I hc (k0 := 3) (Or.inl rfl) h3
  have hs0 : ¬ s (315 + 24 * c) = 0 := by rw [h3]; decide
  have hs5 : ¬ s (315 + 24 * c) = 5 := by rw [h3]; decide
  have w3 := k1 hs0 3 (by decide) (by decide)
  obtain ⟨y8, y9, y10, y11⟩ := k2 (Or.inl h3)
  have eN : x 1 0 = nI N := by rw [T.1.1.1]; exact a1
  have eR : x 1 1 = nI R := by rw [T.1.1.2.1]; exact b1
  have xa : x (10 + 2 * c) 3 = nI a := by rw [w3]; exact ea
  have go : zv 5 80 0 [.ref W, .int (nI c), v2, v3, v4] [] (zC h W x y) = zv 5 80 96 [.ref W, .int (nI c), .ref (W + (10 + 2 * c)), .int 0, v4] [] (zC h W x y) := by
    rw [adv_go S V hc eN a3 (n := a) (fun _ => ⟨xa, ha⟩) (by rw [T.mv I hc (fun _ => ⟨ea, ha⟩)]; exact hmv), b80_30_c3 (by first | (simp only [zC_n, zC_k, zC_r, S.n, wk_0 S V, wk_1 S V, wr_0_0 S V, wr_0_1 S V, wk_9 S V, cl_k S V hc, cl_r S V hc, cl_p S V hc, cl_q S V hc, zq_rf]; done) | (simp only [zC_n, zC_r, S.n, wr_0_0 S V, wr_0_1 S V, cl_r S V hc, cl_p S V hc, zq_rf]; have := V.lt; omega)) (by first | (simp only [zC_n, zC_k, zC_r, S.n, wk_0 S V, wk_1 S V, wr_0_0 S V, wr_0_1 S V, wk_9 S V, cl_k S V hc, cl_r S V hc, cl_p S V hc, cl_q S V hc, zq_rf]; done) | (simp only [zC_n, zC_r, S.n, wr_0_0 S V, wr_0_1 S V, cl_r S V hc, cl_p S V hc, zq_rf]; have := V.lt; omega)) (by rw [zC_i (by omega), k0]; exact h3), k0, h3, decide_eq_false (by decide), zi_bI_f]
  have fin : ∀ {x1 : Nat → Nat → Int32} {y1 : Nat → Nat → Bool}, zv 4 90 0 [.ref W, .ref (W + (10 + 2 * c)), .double 0] [] (zC h W x y) = some (some (.int cd), zC h W x1 y1) → CR (tdK x1 c cd) y1 (stF s s1 c cd) N m → ∃ x' y', zv 5 80 0 [.ref W, .int (nI c), v2, v3, v4] [] (zC h W x y) = some (some (.int cd), zC h W x' y') ∧ CR x' y' (stF s s1 c cd) N m := fun {x1 y1} e1 e2 => by
    refine ⟨tdK x1 c cd, y1, ?_, e2⟩
    rw [go, b80_96 (by first | (simp only [zC_n, zC_k, zC_r, S.n, wk_0 S V, wk_1 S V, wr_0_0 S V, wr_0_1 S V, wk_9 S V, cl_k S V hc, cl_r S V hc, cl_p S V hc, cl_q S V hc, zq_rf]; done) | (simp only [zC_n, zC_r, S.n, wr_0_0 S V, wr_0_1 S V, cl_r S V hc, cl_p S V hc, zq_rf]; have := V.lt; omega)) (by first | (simp only [zC_n, zC_k, zC_r, S.n, wk_0 S V, wk_1 S V, wr_0_0 S V, wr_0_1 S V, wk_9 S V, cl_k S V hc, cl_r S V hc, cl_p S V hc, cl_q S V hc, zq_rf]; done) | (simp only [zC_n, zC_r, S.n, wr_0_0 S V, wr_0_1 S V, cl_r S V hc, cl_p S V hc, zq_rf]; have := V.lt; omega)), e1]
    simp only [Option.bind_some, Option.toList_some, Option.toList_none, List.cons_append, List.nil_append]
    rw [b80_101, adv_t S V hc hx0]
  -- another place, and nothing else
  have move : ∀ {v : Int32}, 0 < cd → s1 = up s (315 + 24 * c + 3) v → CR (tdK (u2 x (10 + 2 * c) 3 v) c cd) y (stF s s1 c cd) N m := fun {v} hcd e1 => by
    subst e1
    refine sim_cl T I hc hcd hon (fun k hk => up_n _ _ (by omega)) (uc_cc _ _ (by decide)) (uc_cc _ _ (by decide)) (fun o j h9 _ => u2_n _ _ (Or.inl h9)) (fun _ _ _ => rfl) ⟨?_, fun _ w h1w h7w => ?_, fun q => ?_, fun _ _ l hl => ?_⟩ ?_
    · rw [u2_n _ _ (Or.inr (by decide)), uc_c0 _ _ (by decide)]; exact k0
    · by_cases e3 : w = 3
      · subst e3; rw [u2_s, up_s]
      · rw [u2_n _ _ (Or.inr e3), uc_cc _ _ e3]; exact k1 hs0 w h1w h7w
    · rw [u2_n _ _ (Or.inr (by decide)), u2_n _ _ (Or.inr (by decide)), u2_n _ _ (Or.inr (by decide)), uc_cc _ _ (by decide), uc_cc _ _ (by decide), uc_cc _ _ (by decide), uc_cc _ _ (by decide)]; exact ⟨y8, y9, y10, y11⟩
    · rw [u2_n _ _ (Or.inl (by omega)), uc_cc _ _ (by omega)]; exact k3 hs0 hs5 l hl
    · rw [uc_c0 _ _ (by decide)]; exact hs0
  -- another state, and nothing else
  have state : ∀ {v : Int32}, 0 < cd → (v = 5 ∨ v = 4) → s1 = up s (315 + 24 * c) v → CR (tdK (u2 x (10 + 2 * c) 0 v) c cd) y (stF s s1 c cd) N m := fun {v} hcd hv e1 => by
    subst e1
    refine sim_cl T I hc hcd hon (fun k hk => up_n _ _ (by omega)) (uc_0c _ _ (by decide)) (uc_0c _ _ (by decide)) (fun o j h9 _ => u2_n _ _ (Or.inl h9)) (fun _ _ _ => rfl) ⟨?_, fun _ w h1w h7w => ?_, fun q => ?_, fun _ _ l hl => ?_⟩ ?_
    · rw [u2_s, up_s]
    · rw [u2_n _ _ (Or.inr (by omega)), uc_0c _ _ (by omega)]; exact k1 hs0 w h1w h7w
    · rw [u2_n _ _ (Or.inr (by decide)), u2_n _ _ (Or.inr (by decide)), u2_n _ _ (Or.inr (by decide)), uc_0c _ _ (by decide), uc_0c _ _ (by decide), uc_0c _ _ (by decide), uc_0c _ _ (by decide)]; exact ⟨y8, y9, y10, y11⟩
    · rw [u2_n _ _ (Or.inl (by omega)), uc_0c _ _ (by omega)]; exact k3 hs0 hs5 l hl
    · rw [up_s]; rcases hv with rfl | rfl <;> decide
  obtain ⟨n, rr, hn24, hr24, en, er, D⟩ := D
  have hna : n = a := by rw [ea] at en; exact ((nI_eq' (by omega) (by omega)).mp en).symm
  have hrr : rr = R := by rw [b1] at er; exact ((nI_eq' (by omega) (by omega)).mp er).symm
  subst hna hrr
  obtain ⟨⟨g1, g2, g3⟩, g4, g5, g6, g7, g8, g9, g10, g11, g12⟩ := G n ha
  obtain ⟨⟨t2, t3, t4, t5, t6⟩, tk⟩ := T.1.2 n ha
  have tR := (T.1.2 rr b2).1.1
  have em : x 3 n = nI (m n) := by rw [t3]; exact g2
  rcases D with ⟨hl, ⟨hd, rfl, e1⟩ | ⟨hd, v, hv, ev, rfl, e1⟩⟩ | ⟨hl, ⟨h1, rfl, e1⟩ | ⟨h1, ⟨h2, rfl, e1⟩ | ⟨h2, ⟨h4, j, hj4, hlt, hge, rfl, e1⟩ | ⟨h4, hlk, rfl, e1⟩ | ⟨h4, hlk, rfl, e1⟩⟩⟩⟩
  · refine fin ?_ (state (v := 5) (by decide) (Or.inl rfl) e1)
    rw [p_top S V hc eN a3 eR b2 (by rw [tR, y9]; exact hl), if_pos ?_]
    rcases hd with q | q
    · exact Or.inl (by rw [y11]; exact decide_eq_true q)
    · exact Or.inr (by rw [a1] at q; exact (nI_eq' (b := 24) (by omega) (by decide)).mp q)
  · exact absurd rfl h7
  · refine fin ?_ (move (v := nI rr) (by decide) e1)
    rw [p_low S V hc eN a3 eR b2 (by rw [tR, y9]; exact hl) xa ha, if_pos (by rw [t2, y9]; exact h1), eR]
  · have hR : s (13 * n + 3) = nI (r n) ∧ r n < N := by
      rcases g4 with ⟨q1, q2⟩ | q
      · rw [g3, w8, nI_lt' (by omega) (by omega)] at h2
        omega
      · exact ⟨q.1, q.2.1⟩
    refine fin ?_ (move (v := x 5 n) (by decide) (by rw [t5]; exact e1))
    rw [p_low S V hc eN a3 eR b2 (by rw [tR, y9]; exact hl) xa ha, if_neg (by rw [t2, y9]; exact h1), if_pos (by rw [t4, y8]; exact h2), p_r S V hc eN a3 xa ha (by rw [t5, hR.1]; exact nI_pos (by omega))]
  · have ln := I.lv ha
    have lr := I.lv b2
    have hL : t < L n := by rw [w10, g1, nI_lt' (by omega) (by omega)] at h4; exact h4
    obtain ⟨m0, mK, mC, mB⟩ := g8 (by omega)
    have hj : j < m n := by
      refine Nat.not_le.mp (fun w => ?_)
      have h9 := hlt (m n - 1) (by omega)
      refine absurd (?_ : s (13 * n + 2) < s (315 + 24 * c + 8)) h2
      rw [(g6 (m n - 1) (by omega)).1, mK] at h9
      rw [g3]; exact h9
    obtain ⟨q1, q2, q3⟩ := mC j hj
    have hs13 : 0 < s (13 * n) := by rw [g1]; exact nI_lt (a := 0) (by omega) (by omega)
    have x8 : x 8 (5 * n + j) = s (13 * n + (9 + j)) := (tk j hj).2 hs13
    refine fin ?_ (move (v := x 8 (5 * n + j)) (by decide) (by rw [x8]; exact e1))
    rw [p_low S V hc eN a3 eR b2 (by rw [tR, y9]; exact hl) xa ha, if_neg (by rw [t2, y9]; exact h1), if_neg (by rw [t4, y8]; exact h2), if_pos (by rw [t2, y9]; exact h4), p_c S V hc eN a3 xa ha em (by omega) hj (fun i hi => by rw [(tk i (by omega)).1, y8]; exact hlt i hi) (by rw [(tk j hj).1, y8]; exact hge) (by rw [t2]; exact hs13) (by rw [x8, q1]; exact nI_pos (by omega))]
  · refine fin ?_ (state (v := 4) (by decide) (Or.inr rfl) e1)
    rw [p_low S V hc eN a3 eR b2 (by rw [tR, y9]; exact hl) xa ha, if_neg (by rw [t2, y9]; exact h1), if_neg (by rw [t4, y8]; exact h2), if_neg (by rw [t2, y9]; exact h4)]
  · exact absurd rfl hx0
end R31E
end
section
/-! CLASS AND REFERENCE: a step that changes nodes, but no leaf's keys -/
section R31F
variable {x x1 : Nat → Nat → Int32} {y y1 : Nat → Nat → Bool} {s s1 : Nat → Int32} {N R M B c n : Nat} {L m H r : Nat → Nat} {K C : Nat → Nat → Nat} {f : Nat → Nat}
theorem st_idn (T : CR x y s N m) {N' R' M' B' : Nat} {L' m' H' r' : Nat → Nat} {K' C' : Nat → Nat → Nat} {f' : Nat → Nat} (J : InvG s1 N' R' M' B' L' m' H' r' K' C' f') (hth : ∀ key, thA s1 key = thA s key) (hc : c < 3) {cd : Int32} (h0 : 0 < cd) (e : ∀ k, 315 ≤ k → (k < 315 + 24 * c ∨ 315 + 24 * c + 24 ≤ k) → s1 k = s k) (e2 : s1 (315 + 24 * c + 2) = s (315 + 24 * c + 2)) (e5 : s1 (315 + 24 * c + 5) = s (315 + 24 * c + 5)) : stF s s1 c cd = tdF s1 c cd := by
  have tn : ∀ k, k < 315 → tdF s1 c cd k = s1 k := fun k hk => by
    unfold tdF
    rw [up_n _ _ (by omega), up_n _ _ (by omega)]
  have t2 : ∀ k, k < 3 → tdF s1 c cd (315 + 24 * k + 2) = s (315 + 24 * k + 2) := fun k hk => by
    unfold tdF
    rw [up_n _ _ (by omega), up_n _ _ (by omega)]
    by_cases w : k = c
    · subst w; exact e2
    · exact e _ (by omega) (by omega)
  have t5 : ∀ k, k < 3 → tdF s1 c cd (315 + 24 * k + 5) = s (315 + 24 * k + 5) := fun k hk => by
    unfold tdF
    rw [up_n _ _ (by omega), up_n _ _ (by omega)]
    by_cases w : k = c
    · subst w; exact e5
    · exact e _ (by omega) (by omega)
  have nn : ∀ k, k < 3 → onB s k = true → tdF s1 c cd (315 + 24 * k + 5) ||| (1 <<< (zi_bI (thA (tdF s1 c cd) (tdF s1 c cd (315 + 24 * k + 2))) &&& 31)) = tdF s1 c cd (315 + 24 * k + 5) := fun k hk ho => by
    rw [t2 k hk, t5 k hk, thA_cl J tn, hth]
    exact T.2.2 k hk ho
  have q0 : seF (onB s 0) 0 (tdF s1 c cd) = tdF s1 c cd := se_id (nn 0 (by decide))
  have q1 : seF (onB s 1) 1 (tdF s1 c cd) = tdF s1 c cd := se_id (nn 1 (by decide))
  have q2 : seF (onB s 2) 2 (tdF s1 c cd) = tdF s1 c cd := se_id (nn 2 (by decide))
  unfold stF
  rw [if_pos h0, q0, q1, q2]
/-- the relation behind such a step -/
theorem sim_n (T : CR x y s N m) {N' R' M' B' : Nat} {L' m' H' r' : Nat → Nat} {K' C' : Nat → Nat → Nat} {f' : Nat → Nat} (J : InvG s1 N' R' M' B' L' m' H' r' K' C' f') (hth : ∀ key, thA s1 key = thA s key) (Z : CN x1 y1 s1 N' m') (hc : c < 3) {cd : Int32} (h0 : 0 < cd) (hon : onB s c = true) (e : ∀ k, 315 ≤ k → (k < 315 + 24 * c ∨ 315 + 24 * c + 24 ≤ k) → s1 k = s k) (e2 : s1 (315 + 24 * c + 2) = s (315 + 24 * c + 2)) (e5 : s1 (315 + 24 * c + 5) = s (315 + 24 * c + 5)) (ex : ∀ o j, 10 ≤ o → o ≠ 10 + 2 * c → o ≠ 11 + 2 * c → x1 o j = x o j) (ey : ∀ o j, 10 ≤ o → o ≠ 10 + 2 * c → y1 o j = y o j) (k : KR x1 y1 s1 c) (hs : ¬ s1 (315 + 24 * c) = 0) : CR (tdK x1 c cd) y1 (stF s s1 c cd) N' m' := by
  have hN := J.1.1.2.2
  have hm : ∀ n, n < N' → m' n ≤ 4 := fun n hn => by
    have := (J.1.2.2.2.1 n hn).2.2.2.2.2.2.2.1
    have := J.1.2.2.1.2.2
    omega
  have tx : ∀ o j, o ≠ 10 + 2 * c → tdK x1 c cd o j = x1 o j := fun o j ho => by
    unfold tdK
    split
    · rw [u2_n _ _ (Or.inl ho), u2_n _ _ (Or.inl ho)]
    · rw [u2_n _ _ (Or.inl ho)]
  have tj : ∀ j, j ≠ 6 → j ≠ 7 → tdK x1 c cd (10 + 2 * c) j = x1 (10 + 2 * c) j := fun j h6 h7 => by
    unfold tdK
    split
    · rw [u2_n _ _ (Or.inr h7), u2_n _ _ (Or.inr h6)]
    · rw [u2_n _ _ (Or.inr h6)]
  have t6 : tdK x1 c cd (10 + 2 * c) 6 = x1 (10 + 2 * c) 6 + 1 := by
    unfold tdK
    split
    · rw [u2_n _ _ (Or.inr (by decide)), u2_s]
    · rw [u2_s]
  have t7 : tdK x1 c cd (10 + 2 * c) 7 = x1 (10 + 2 * c) 7 + (if cd = 1 then 1 else 0) := by
    unfold tdK
    by_cases h1 : cd = 1
    · rw [if_pos h1, if_pos h1, u2_s]
    · rw [if_neg h1, if_neg h1, u2_n _ _ (Or.inr (by decide)), Int32.add_zero]
  rw [st_idn T J hth hc h0 e e2 e5]
  have so : ∀ k, k ≠ 315 + 24 * c + 6 → k ≠ 315 + 24 * c + 7 → tdF s1 c cd k = s1 k := fun k h6 h7 => by unfold tdF; rw [up_n _ _ h7, up_n _ _ h6]
  have s6 : tdF s1 c cd (315 + 24 * c + 6) = s1 (315 + 24 * c + 6) + 1 := by unfold tdF; rw [up_n _ _ (by omega), up_s]
  have s7 : tdF s1 c cd (315 + 24 * c + 7) = s1 (315 + 24 * c + 7) + (if cd = 1 then 1 else 0) := by unfold tdF; rw [up_s]
  have sn : ∀ k, k < 315 → tdF s1 c cd k = s1 k := fun k hk => by rw [so _ (by omega) (by omega)]
  refine ⟨Z.cl hN hm (fun o j ho => by rw [tx _ _ (by omega)]) (fun j => rfl) sn, fun d hd => ?_, fun d hd ho => ?_⟩
  · by_cases hdc : d = c
    · subst hdc
      obtain ⟨k0, k1, k2, k3⟩ := k
      have z0 : tdF s1 d cd (315 + 24 * d) = s1 (315 + 24 * d) := so _ (by omega) (by omega)
      unfold KR
      rw [z0]
      refine ⟨by rw [tj 0 (by decide) (by decide)]; exact k0, fun _ w w1 w7 => ?_, fun h34 => ?_, fun h1 h2 l hl => ?_⟩
      · by_cases e6 : w = 6
        · subst e6; rw [t6, s6, k1 hs 6 (by decide) (by decide)]
        · by_cases e7 : w = 7
          · subst e7; rw [t7, s7, k1 hs 7 (by decide) (by decide)]
          · rw [tj w e6 e7, so _ (by omega) (by omega)]; exact k1 hs w w1 w7
      · rw [tj 8 (by decide) (by decide), tj 9 (by decide) (by decide), tj 10 (by decide) (by decide), so _ (by omega) (by omega), so _ (by omega) (by omega), so _ (by omega) (by omega), so _ (by omega) (by omega)]
        exact k2 h34
      · rw [tx _ _ (by omega), so _ (by omega) (by omega)]; exact k3 h1 h2 l hl
    · obtain ⟨k0, k1, k2, k3⟩ := T.2.1 d hd
      have ez : ∀ w, w < 24 → tdF s1 c cd (315 + 24 * d + w) = s (315 + 24 * d + w) := fun w hw => by rw [so _ (by omega) (by omega), e _ (by omega) (by omega)]
      have ez0 : tdF s1 c cd (315 + 24 * d) = s (315 + 24 * d) := ez 0 (by decide)
      have exd : ∀ j, tdK x1 c cd (10 + 2 * d) j = x (10 + 2 * d) j := fun j => by rw [tx _ _ (by omega), ex _ _ (by omega) (by omega) (by omega)]
      have exp : ∀ j, tdK x1 c cd (11 + 2 * d) j = x (11 + 2 * d) j := fun j => by rw [tx _ _ (by omega), ex _ _ (by omega) (by omega) (by omega)]
      unfold KR
      rw [ez0, exd 0, exd 8, exd 9, exd 10, ez 8 (by decide), ez 9 (by decide), ez 10 (by decide), ez 11 (by decide), ey _ _ (by omega) (by omega)]
      exact ⟨k0, fun h1 w w1 w7 => by rw [exd, ez w (by omega)]; exact k1 h1 w w1 w7, k2, fun h1 h2 l hl => by rw [exp, ez (12 + l) (by omega)]; exact k3 h1 h2 l hl⟩
  · have z2 : tdF s1 c cd (315 + 24 * d + 2) = s (315 + 24 * d + 2) := by
      rw [so _ (by omega) (by omega)]
      by_cases w : d = c
      · subst w; exact e2
      · exact e _ (by omega) (by omega)
    have z5 : tdF s1 c cd (315 + 24 * d + 5) = s (315 + 24 * d + 5) := by
      rw [so _ (by omega) (by omega)]
      by_cases w : d = c
      · subst w; exact e5
      · exact e _ (by omega) (by omega)
    rw [z2, z5, thA_cl J sn, hth]
    refine T.2.2 d hd ?_
    by_cases w : d = c
    · subst w; exact hon
    · have z0 : tdF s1 c cd (315 + 24 * d) = s (315 + 24 * d) := by rw [so _ (by omega) (by omega), e _ (by omega) (by omega)]
      unfold onB at ho ⊢
      rw [z0] at ho
      exact ho
end R31F
end
section
/-! CLASS AND REFERENCE: one node above has other entries -/
section R31G
variable {x x1 : Nat → Nat → Int32} {y y1 : Nat → Nat → Bool} {s s1 : Nat → Int32} {N R M B c n k : Nat} {L m H r : Nat → Nat} {K C : Nat → Nat → Nat} {f : Nat → Nat} {g gc : Nat → Int32}
theorem mI_eq {N' R' M' B' : Nat} {L' m' H' r' : Nat → Nat} {K' C' : Nat → Nat → Nat} {f' : Nat → Nat} (J : InvG s1 N' R' M' B' L' m' H' r' K' C' f') {a v : Nat} (ha : a < N') (hv : v < 1000) (e : s1 (13 * a + 1) = nI v) : m' a = v := by
  have g2 := (J.1.2.2.2.1 a ha).1.2.1
  have g10 := (J.1.2.2.2.1 a ha).2.2.2.2.2.2.2.1
  have := J.1.2.2.1.2.2
  rw [g2] at e
  exact (nI_eq' (by omega) hv).mp e
theorem nI_Neq {N' R' M' B' : Nat} {L' m' H' r' : Nat → Nat} {K' C' : Nat → Nat → Nat} {f' : Nat → Nat} (J : InvG s1 N' R' M' B' L' m' H' r' K' C' f') {v : Nat} (hv : v < 1000) (e : s1 312 = nI v) : N' = v := by
  have := J.1.1.2.2
  rw [J.1.1.1] at e
  exact (nI_eq' (by omega) hv).mp e
theorem CN.node (T : CN x y s N m) (I : InvG s N R M B L m H r K C f) (hn : n < N) (hk : k ≤ 4) {R' M' B' : Nat} {L' m' H' r' : Nat → Nat} {K' C' : Nat → Nat → Nat} {f' : Nat → Nat} (J : InvG s1 N R' M' B' L' m' H' r' K' C' f') (e : ∀ j, j < 315 → s1 j = nH s n g gc k j) (xo : ∀ o j, o < 9 → (o ≠ 3 ∨ j ≠ n) → ((o ≠ 7 ∧ o ≠ 8) ∨ j < 5 * n ∨ 5 * n + 5 ≤ j) → x1 o j = x o j) (x3 : x1 3 n = nI k) (xk : ∀ i, i < k → x1 7 (5 * n + i) = g i ∧ (0 < s (13 * n) → x1 8 (5 * n + i) = gc i)) : CN x1 y s1 N m' := by
  have hN := I.1.1.2.2
  have M4 := I.1.2.2.1.2.2
  obtain ⟨⟨t0, t1, t2⟩, tn⟩ := T
  refine ⟨⟨by rw [xo _ _ (by decide) (by omega) (by omega), e _ (by decide), nH_o hk (by omega)]; exact t0, by rw [xo _ _ (by decide) (by omega) (by omega), e _ (by decide), nH_o hk (by omega)]; exact t1, by rw [xo _ _ (by decide) (by omega) (by omega), e _ (by decide), nH_o hk (by omega)]; exact t2⟩, fun a ha => ?_⟩
  obtain ⟨⟨v2, v3, v4, v5, v6⟩, vk⟩ := tn a ha
  by_cases ean : a = n
  · subst ean
    have em : m' a = k := mI_eq J ha (by omega) (by rw [e _ (by omega), nH_1])
    refine ⟨⟨by rw [xo _ _ (by decide) (by omega) (by omega), e _ (by omega), nH_o hk (by omega)]; exact v2, by rw [x3, e _ (by omega), nH_1], by rw [xo _ _ (by decide) (by omega) (by omega), e _ (by omega), nH_o hk (by omega)]; exact v4, by rw [xo _ _ (by decide) (by omega) (by omega), e _ (by omega), nH_o hk (by omega)]; exact v5, by rw [e _ (by omega), nH_o hk (by omega)]; exact v6⟩, fun i hi => ?_⟩
    rw [em] at hi
    rw [e _ (by omega), nH_k hi hk, e _ (by omega), nH_o hk (by omega), e _ (by omega), nH_c hi hk]
    exact xk i hi
  · have g2 := (I.1.2.2.2.1 a ha).1.2.1
    have g10 := (I.1.2.2.2.1 a ha).2.2.2.2.2.2.2.1
    have em : m' a = m a := mI_eq J ha (by omega) (by rw [e _ (by omega), nH_ne hk ean (by decide)]; exact g2)
    refine ⟨⟨by rw [xo _ _ (by decide) (by omega) (by omega), e _ (by omega), nH_ne0 hk ean]; exact v2, by rw [xo _ _ (by decide) (by omega) (by omega), e _ (by omega), nH_ne hk ean (by decide)]; exact v3, by rw [xo _ _ (by decide) (by omega) (by omega), e _ (by omega), nH_ne hk ean (by decide)]; exact v4, by rw [xo _ _ (by decide) (by omega) (by omega), e _ (by omega), nH_ne hk ean (by decide)]; exact v5, by rw [e _ (by omega), nH_ne hk ean (by decide)]; exact v6⟩, fun i hi => ?_⟩
    rw [em] at hi
    rw [xo _ _ (by decide) (by omega) (by omega), xo _ _ (by decide) (by omega) (by omega), e _ (by omega), nH_ne hk ean (by omega), e _ (by omega), nH_ne0 hk ean, e _ (by omega), nH_ne hk ean (by omega)]
    exact vk i hi
/-- above the leaves, no key is there or goes -/
theorem thA_node (I : InvG s N R M B L m H r K C f) (hn : n < N) (hk : k ≤ 4) (hl : 0 < L n) {R' M' B' : Nat} {L' m' H' r' : Nat → Nat} {K' C' : Nat → Nat → Nat} {f' : Nat → Nat} (J : InvG s1 N R' M' B' L' m' H' r' K' C' f') (e : ∀ j, j < 315 → s1 j = nH s n g gc k j) (key : Int32) : thA s1 key = thA s key := by
  have hN := I.1.1.2.2
  have M4 := I.1.2.2.1.2.2
  have ln := I.lv hn
  have no : ¬ s (13 * n) = 0 := fun q => by
    rw [(I.1.2.2.2.1 n hn).1.1] at q
    have := (nI_eq' (b := 0) (by omega) (by decide)).mp q
    omega
  have ex : ∀ a, a < N → a ≠ n → m' a = m a := fun a ha han => mI_eq J ha (by have := (I.1.2.2.2.1 a ha).2.2.2.2.2.2.2.1; omega) (by rw [e _ (by omega), nH_ne hk han (by decide)]; exact (I.1.2.2.2.1 a ha).1.2.1)
  rw [Bool.eq_iff_iff, thA_iff I, thA_iff J]
  constructor
  · rintro ⟨a, ha, h2, h3, i, h4, h5⟩
    have han : a ≠ n := fun q => by subst q; rw [e _ (by omega), nH_o hk (by omega)] at h2; exact no h2
    have g10 := (I.1.2.2.2.1 a ha).2.2.2.2.2.2.2.1
    rw [ex a ha han] at h4
    rw [e _ (by omega), nH_ne0 hk han] at h2
    rw [e _ (by omega), nH_ne hk han (by decide)] at h3
    rw [e _ (by omega), nH_ne hk han (by omega)] at h5
    exact ⟨a, ha, h2, h3, i, h4, h5⟩
  · rintro ⟨a, ha, h2, h3, i, h4, h5⟩
    have han : a ≠ n := fun q => by subst q; exact no h2
    have g10 := (I.1.2.2.2.1 a ha).2.2.2.2.2.2.2.1
    exact ⟨a, ha, by rw [e _ (by omega), nH_ne0 hk han]; exact h2, by rw [e _ (by omega), nH_ne hk han (by decide)]; exact h3, i, by rw [ex a ha han]; exact h4, by rw [e _ (by omega), nH_ne hk han (by omega)]; exact h5⟩
end R31G
end
section
/-! CLASS AND REFERENCE: ABOVE, of a dead leaf -/
section R31H
variable {h : zi_Hp} {W : Nat} {x x1 : Nat → Nat → Int32} {y y1 : Nat → Nat → Bool} {s s1 : Nat → Int32} {N R M B c n : Nat} {L m H r : Nat → Nat} {K C : Nat → Nat → Nat} {f : Nat → Nat}
theorem sim_4X (S : Sh h) (V : Wa W) (T : CR x y s N m) (I : InvG s N R M B L m H r K C f) (hc : c < 3) (h4 : s (315 + 24 * c) = 4) (hdd : s (315 + 24 * c + 11) = 1) (hmv : msF s c = true) {cd : Int32} (D : StX s c cd s1) {N' R' M' B' : Nat} {L' m' H' r' : Nat → Nat} {K' C' : Nat → Nat → Nat} {f' : Nat → Nat} (J : InvG s1 N' R' M' B' L' m' H' r' K' C' f') {v2 v3 v4 : Value} : ∃ x' y', zv 5 80 0 [.ref W, .int (nI c), v2, v3, v4] [] (zC h W x y) = some (some (.int cd), zC h W x' y') ∧ CR x' y' (stF s s1 c cd) N' m' := by
  obtain ⟨⟨a1, a2, a3⟩, ⟨b1, b2⟩, ⟨d1, d2, d3⟩, G, o, z⟩ := id I.1
  have hx0 : ¬ cd = 0 := ms_x I hc hmv (Or.inr (Or.inr (Or.inr (Or.inr (Or.inl ⟨h4, hdd, D⟩)))))
  have hon : onB s c = true := by unfold onB; rw [h4]; decide
  obtain ⟨k0, k1, k2, k3⟩ := T.2.1 c hc
  obtain ⟨-, -, a, ea, ha, -, md, p, t, w8, w9, w10, hmd, hp, ht1, ht2, w11, w4⟩ := at_3 I hc (k0 := 4) (Or.inr rfl) h4
  obtain ⟨hLt, hmH⟩ := w4 rfl
  have hs0 : ¬ s (315 + 24 * c) = 0 := by rw [h4]; decide
  have hs5 : ¬ s (315 + 24 * c) = 5 := by rw [h4]; decide
  have w3 := k1 hs0 3 (by decide) (by decide)
  obtain ⟨y8, y9, y10, y11⟩ := k2 (Or.inr h4)
  have eN : x 1 0 = nI N := by rw [T.1.1.1]; exact a1
  have xa : x (10 + 2 * c) 3 = nI a := by rw [w3]; exact ea
  have go : zv 5 80 0 [.ref W, .int (nI c), v2, v3, v4] [] (zC h W x y) = zv 5 80 113 [.ref W, .int (nI c), .ref (W + (10 + 2 * c)), .int 0, v4] [] (zC h W x y) := by
    rw [adv_go S V hc eN a3 (n := a) (fun _ => ⟨xa, ha⟩) (by rw [T.mv I hc (fun _ => ⟨ea, ha⟩)]; exact hmv), b80_30_d (by first | (simp only [zC_n, zC_k, zC_r, S.n, wk_0 S V, wk_1 S V, wr_0_0 S V, wr_0_1 S V, wk_9 S V, cl_k S V hc, cl_r S V hc, cl_p S V hc, cl_q S V hc, zq_rf]; done) | (simp only [zC_n, zC_r, S.n, wr_0_0 S V, wr_0_1 S V, cl_r S V hc, cl_p S V hc, zq_rf]; have := V.lt; omega)) (by first | (simp only [zC_n, zC_k, zC_r, S.n, wk_0 S V, wk_1 S V, wr_0_0 S V, wr_0_1 S V, wk_9 S V, cl_k S V hc, cl_r S V hc, cl_p S V hc, cl_q S V hc, zq_rf]; done) | (simp only [zC_n, zC_r, S.n, wr_0_0 S V, wr_0_1 S V, cl_r S V hc, cl_p S V hc, zq_rf]; have := V.lt; omega)) (by rw [zC_i (by omega), k0, h4]; exact Or.inr (by decide)), k0, h4, decide_eq_false (by decide), zi_bI_f, b80_106 (by first | (simp only [zC_n, zC_k, zC_r, S.n, wk_0 S V, wk_1 S V, wr_0_0 S V, wr_0_1 S V, wk_9 S V, cl_k S V hc, cl_r S V hc, cl_p S V hc, cl_q S V hc, zq_rf]; done) | (simp only [zC_n, zC_r, S.n, wr_0_0 S V, wr_0_1 S V, cl_r S V hc, cl_p S V hc, zq_rf]; have := V.lt; omega)) (by first | (simp only [zC_n, zC_k, zC_r, S.n, wk_0 S V, wk_1 S V, wr_0_0 S V, wr_0_1 S V, wk_9 S V, cl_k S V hc, cl_r S V hc, cl_p S V hc, cl_q S V hc, zq_rf]; done) | (simp only [zC_n, zC_r, S.n, wr_0_0 S V, wr_0_1 S V, cl_r S V hc, cl_p S V hc, zq_rf]; have := V.lt; omega)), zC_b (by omega), y11, hdd, decide_eq_true rfl, zi_bI_t, if_neg (by decide)]
  have fin : ∀ {x1 : Nat → Nat → Int32} {y1 : Nat → Nat → Bool}, zv 3 93 0 [.ref W, .ref (W + (10 + 2 * c)), .double 0, .double 0] [] (zC h W x y) = some (some (.int cd), zC h W x1 y1) → CR (tdK x1 c cd) y1 (stF s s1 c cd) N' m' → ∃ x' y', zv 5 80 0 [.ref W, .int (nI c), v2, v3, v4] [] (zC h W x y) = some (some (.int cd), zC h W x' y') ∧ CR x' y' (stF s s1 c cd) N' m' := fun {x1 y1} e1 e2 => by
    refine ⟨tdK x1 c cd, y1, ?_, e2⟩
    rw [go, b80_113 (by first | (simp only [zC_n, zC_k, zC_r, S.n, wk_0 S V, wk_1 S V, wr_0_0 S V, wr_0_1 S V, wk_9 S V, cl_k S V hc, cl_r S V hc, cl_p S V hc, cl_q S V hc, zq_rf]; done) | (simp only [zC_n, zC_r, S.n, wr_0_0 S V, wr_0_1 S V, cl_r S V hc, cl_p S V hc, zq_rf]; have := V.lt; omega)) (by first | (simp only [zC_n, zC_k, zC_r, S.n, wk_0 S V, wk_1 S V, wr_0_0 S V, wr_0_1 S V, wk_9 S V, cl_k S V hc, cl_r S V hc, cl_p S V hc, cl_q S V hc, zq_rf]; done) | (simp only [zC_n, zC_r, S.n, wr_0_0 S V, wr_0_1 S V, cl_r S V hc, cl_p S V hc, zq_rf]; have := V.lt; omega)), e1]
    simp only [Option.bind_some, Option.toList_some, Option.toList_none, List.cons_append, List.nil_append]
    rw [b80_118, b80_126, adv_t S V hc hx0]
  obtain ⟨n, mm, j, hn24, hmm, hj, en, emm, hlt, hge, D⟩ := D
  have hna : n = a := by rw [ea] at en; exact ((nI_eq' (by omega) (by omega)).mp en).symm
  subst hna
  obtain ⟨⟨g1, g2, g3⟩, g4, g5, g6, g7, g8, g9, g10, g11, g12⟩ := G n ha
  obtain ⟨⟨t2, t3, t4, t5, t6⟩, tk⟩ := T.1.2 n ha
  have hmm' : mm = m n := by rw [g2] at emm; exact ((nI_eq' (by omega) (by omega)).mp emm).symm
  subst hmm'
  have ln := I.lv ha
  have em : x 3 n = nI (m n) := by rw [t3]; exact g2
  have hs13 : 0 < s (13 * n) := by rw [g1]; exact nI_lt (a := 0) (by omega) (by omega)
  have cls := a_d S V hc (y := y) eN a3 xa ha em (by omega) hj (fun i hi => by rw [(tk i (by omega)).1, y8]; exact hlt i hi) (by rw [(tk j hj).1, y8]; exact hge) (by rw [t2]; exact hs13) (fun i hi => by rw [(tk i hi).1, (g6 i hi).1]; exact nI_pos (by have := (g6 i hi).2; omega)) (v2 := .double 0) (v3 := .double 0)
  rw [(tk j hj).1, (tk j hj).2 hs13, y8, y10] at cls
  have kr : ∀ {x1 : Nat → Nat → Int32} {s1 : Nat → Int32}, (∀ w, x1 (10 + 2 * c) w = if w = 0 then 5 else x (10 + 2 * c) w) → s1 (315 + 24 * c) = 5 → (∀ w, 1 ≤ w → w < 24 → s1 (315 + 24 * c + w) = s (315 + 24 * c + w)) → KR x1 y s1 c := fun {x1 s1} e1 e2 e3 => by
    unfold KR
    rw [e2]
    refine ⟨by rw [e1]; rfl, fun _ w h1 h7 => by rw [e1, if_neg (by omega), e3 w h1 (by omega)]; exact k1 hs0 w h1 h7, fun q => ?_, fun _ q => absurd rfl q⟩
    rcases q with q | q <;> exact absurd q (by decide)
  rcases D with ⟨hno, rfl, e1⟩ | ⟨hj2, x1', x2', rfl, e1⟩
  · have hN' : N' = N := nI_Neq J (by omega) (by rw [e1, up_n _ _ (by omega)]; exact a1)
    subst hN'
    have so : ∀ k, k ≠ 315 + 24 * c → s1 k = s k := fun k hk => by rw [e1, up_n _ _ hk]
    refine fin (x1 := u2 x (10 + 2 * c) 0 5) (y1 := y) ?_ (sim_n T J (fun key => thA_cl I (fun k hk => so k (by omega)) key) ?_ hc (by decide) hon (fun k _ hk => so k (by omega)) (so _ (by omega)) (so _ (by omega)) (fun o j _ h9 _ => u2_n _ _ (Or.inl h9)) (fun _ _ _ _ => rfl) (kr (fun w => ?_) (by rw [e1, up_s]) (fun w _ _ => so _ (by omega))) (by rw [e1, up_s]; decide))
    · rw [cls, if_neg (fun q => by
        rcases hno with w | w | w
        · exact w q.1
        · exact w q.2.1
        · omega)]
    · have hm' : ∀ b, b < N' → m' b = m b := fun b hb => mI_eq J hb (by have := (G b hb).2.2.2.2.2.2.2.1; omega) (by rw [so _ (by omega)]; exact (G b hb).1.2.1)
      have q := T.1.cl (x' := u2 x (10 + 2 * c) 0 5) (y' := y) (s' := s1) a3 (fun b hb => by have := (G b hb).2.2.2.2.2.2.2.1; omega) (fun o j ho => u2_n _ _ (Or.inl (by omega))) (fun _ => rfl) (fun k hk => so k (by omega))
      exact ⟨q.1, fun b hb => ⟨(q.2 b hb).1, fun i hi => (q.2 b hb).2 i (by rw [← hm' b hb]; exact hi)⟩⟩
    · by_cases e0 : w = 0
      · subst e0; rw [u2_s]; rfl
      · rw [u2_n _ _ (Or.inr e0), if_neg e0]
  · have eo : ∀ k, k < 315 → s1 k = nH s n (rmF s n 5 j) (rmF s n 9 j) (m n - 1) k := fun k hk => by rw [e1, up_n _ _ (by omega)]
    have hN' : N' = N := nI_Neq J (by omega) (by rw [eo _ (by decide), nH_o (by omega) (by omega)]; exact a1)
    subst hN'
    have so : ∀ k, 315 ≤ k → k ≠ 315 + 24 * c → s1 k = s k := fun k h3 hk => by rw [e1, up_n _ _ hk, nH_o (by omega) (by omega)]
    have ro : ∀ o k, o ≠ 3 → o ≠ 7 → o ≠ 8 → trF x n j (m n) o k = x o k := fun o k h1 h2 h3 => by
      unfold trF slF
      rw [u2_n _ _ (Or.inl h1), if_neg (fun q => by omega)]
    refine fin (x1 := u2 (trF x n j (m n)) (10 + 2 * c) 0 5) (y1 := y) (by rw [cls, if_pos ⟨x1', x2', hj2⟩]) (sim_n T J (thA_node I ha (by omega) (by omega) J eo) (T.1.node I ha (by omega) J eo (fun o k ho h1 h2 => ?_) ?_ (fun i hi => ?_)) hc (by decide) hon (fun k h3 hk => so k h3 (by omega)) (so _ (by omega) (by omega)) (so _ (by omega) (by omega)) (fun o k h10 h9 _ => by rw [u2_n _ _ (Or.inl h9), ro _ _ (by omega) (by omega) (by omega)]) (fun _ _ _ _ => rfl) (kr (fun w => ?_) (by rw [e1, up_s]) (fun w _ _ => so _ (by omega) (by omega))) (by rw [e1, up_s]; decide))
    · rw [u2_n _ _ (Or.inl (by omega))]
      unfold trF slF
      rw [u2_n _ _ h1, if_neg (fun q => by omega)]
    · rw [u2_n _ _ (Or.inl (by omega))]; unfold trF; rw [u2_s]
    · rw [u2_n _ _ (Or.inl (by omega)), u2_n _ _ (Or.inl (by omega))]
      unfold trF slF rmF
      rw [u2_n _ _ (Or.inl (by decide)), u2_n _ _ (Or.inl (by decide))]
      by_cases q : i < j
      · rw [if_neg (show ¬ ((7 = 7 ∨ 7 = 8) ∧ 5 * n + j ≤ 5 * n + i ∧ 5 * n + i < 5 * n + (m n - 1)) by omega), if_neg (show ¬ ((8 = 7 ∨ 8 = 8) ∧ 5 * n + j ≤ 5 * n + i ∧ 5 * n + i < 5 * n + (m n - 1)) by omega), if_pos q, if_pos q]; exact tk i (by omega)
      · rw [if_pos (show (7 = 7 ∨ 7 = 8) ∧ 5 * n + j ≤ 5 * n + i ∧ 5 * n + i < 5 * n + (m n - 1) by omega), if_pos (show (8 = 7 ∨ 8 = 8) ∧ 5 * n + j ≤ 5 * n + i ∧ 5 * n + i < 5 * n + (m n - 1) by omega), if_neg q, if_neg q]; exact tk (i + 1) (by omega)
    · by_cases e0 : w = 0
      · subst e0; rw [u2_s]; rfl
      · rw [u2_n _ _ (Or.inr e0), if_neg e0, ro _ _ (by omega) (by omega) (by omega)]
end R31H
end
section
/-! CLASS AND REFERENCE: a new root -/
section R31I
variable {h : zi_Hp} {W : Nat} {x x1 : Nat → Nat → Int32} {y y1 : Nat → Nat → Bool} {s s1 : Nat → Int32} {N R M B c n : Nat} {L m H r : Nat → Nat} {K C : Nat → Nat → Nat} {f : Nat → Nat}
theorem sh_id (x : Nat → Nat → Int32) (n k : Nat) : shF x n k k = x := by
  funext o j
  unfold shF
  rw [if_neg (by omega)]
theorem nr_eq : nrK x c N = u2 (u2 (u2 (u2 (u2 (u2 (u2 (u2 (taF x N (x (10 + 2 * c) 9)) 7 (5 * N + 0) (x (10 + 2 * c) 8)) 8 (5 * N + 0) (x 1 1)) 3 N (nI 1)) 7 (5 * N + 1) 100) 8 (5 * N + 1) (x (10 + 2 * c) 10)) 3 N (nI 2)) 1 1 (nI N)) (10 + 2 * c) 0 5 := by
  unfold nrK tiF
  rw [sh_id, sh_id]
theorem nr_o {o j : Nat} (e : (o = 1 ∧ j = 2) ∨ (2 ≤ o ∧ o ≤ 5 ∧ j ≠ N) ∨ ((o = 7 ∨ o = 8) ∧ (j < 5 * N ∨ 5 * N + 5 ≤ j)) ∨ (9 ≤ o ∧ (o ≠ 10 + 2 * c ∨ j ≠ 0))) : nrK x c N o j = x o j := by
  rw [nr_eq, u2_n _ _ (by omega), u2_n _ _ (by omega), u2_n _ _ (by omega), u2_n _ _ (by omega), u2_n _ _ (by omega), u2_n _ _ (by omega), u2_n _ _ (by omega), u2_n _ _ (by omega), taF, u2_n _ _ (by omega), u2_n _ _ (by omega), u2_n _ _ (by omega), u2_n _ _ (by omega), u2_n _ _ (by omega)]
theorem nr_10 : nrK x c N 1 0 = nI (N + 1) := by
  rw [nr_eq, u2_n _ _ (by omega), u2_n _ _ (by omega), u2_n _ _ (by omega), u2_n _ _ (by omega), u2_n _ _ (by omega), u2_n _ _ (by omega), u2_n _ _ (by omega), u2_n _ _ (by omega), taF, u2_n _ _ (by omega), u2_n _ _ (by omega), u2_n _ _ (by omega), u2_n _ _ (by omega), u2_s]
theorem nr_11 : nrK x c N 1 1 = nI N := by rw [nr_eq, u2_n _ _ (by omega), u2_s]
theorem nr_2 : nrK x c N 2 N = x (10 + 2 * c) 9 := by
  rw [nr_eq, u2_n _ _ (by omega), u2_n _ _ (by omega), u2_n _ _ (by omega), u2_n _ _ (by omega), u2_n _ _ (by omega), u2_n _ _ (by omega), u2_n _ _ (by omega), u2_n _ _ (by omega), taF, u2_n _ _ (by omega), u2_n _ _ (by omega), u2_n _ _ (by omega), u2_s]
theorem nr_3 : nrK x c N 3 N = nI 2 := by rw [nr_eq, u2_n _ _ (by omega), u2_n _ _ (by omega), u2_s]
theorem nr_4 : nrK x c N 4 N = 100 := by
  rw [nr_eq, u2_n _ _ (by omega), u2_n _ _ (by omega), u2_n _ _ (by omega), u2_n _ _ (by omega), u2_n _ _ (by omega), u2_n _ _ (by omega), u2_n _ _ (by omega), u2_n _ _ (by omega), taF, u2_n _ _ (by omega), u2_s]
theorem nr_5 : nrK x c N 5 N = -4 := by
  rw [nr_eq, u2_n _ _ (by omega), u2_n _ _ (by omega), u2_n _ _ (by omega), u2_n _ _ (by omega), u2_n _ _ (by omega), u2_n _ _ (by omega), u2_n _ _ (by omega), u2_n _ _ (by omega), taF, u2_s]
theorem nr_70 : nrK x c N 7 (5 * N + 0) = x (10 + 2 * c) 8 := by
  rw [nr_eq, u2_n _ _ (by omega), u2_n _ _ (by omega), u2_n _ _ (by omega), u2_n _ _ (by omega), u2_n _ _ (by omega), u2_n _ _ (by omega), u2_n _ _ (by omega), u2_s]
theorem nr_71 : nrK x c N 7 (5 * N + 1) = 100 := by rw [nr_eq, u2_n _ _ (by omega), u2_n _ _ (by omega), u2_n _ _ (by omega), u2_n _ _ (by omega), u2_s]
theorem nr_80 : nrK x c N 8 (5 * N + 0) = x 1 1 := by
  rw [nr_eq, u2_n _ _ (by omega), u2_n _ _ (by omega), u2_n _ _ (by omega), u2_n _ _ (by omega), u2_n _ _ (by omega), u2_n _ _ (by omega), u2_s]
theorem nr_81 : nrK x c N 8 (5 * N + 1) = x (10 + 2 * c) 10 := by rw [nr_eq, u2_n _ _ (by omega), u2_n _ _ (by omega), u2_n _ _ (by omega), u2_s]
theorem nr_c0 : nrK x c N (10 + 2 * c) 0 = 5 := by rw [nr_eq, u2_s]
theorem sim_3N (S : Sh h) (V : Wa W) (T : CR x y s N m) (I : InvG s N R M B L m H r K C f) (hc : c < 3) (h3 : s (315 + 24 * c) = 3) (hmv : msF s c = true) (D : StO s c 7 s1) {N' R' M' B' : Nat} {L' m' H' r' : Nat → Nat} {K' C' : Nat → Nat → Nat} {f' : Nat → Nat} (J : InvG s1 N' R' M' B' L' m' H' r' K' C' f') {v2 v3 v4 : Value} : ∃ x' y', zv 5 80 0 [.ref W, .int (nI c), v2, v3, v4] [] (zC h W x y) = some (some (.int 7), zC h W x' y') ∧ CR x' y' (stF s s1 c 7) N' m' := by
  obtain ⟨⟨a1, a2, a3⟩, ⟨b1, b2⟩, ⟨d1, d2, d3⟩, G, o, z⟩ := id I.1
  have hon : onB s c = true := by unfold onB; rw [h3]; decide
  obtain ⟨k0, k1, k2, k3⟩ := T.2.1 c hc
  obtain ⟨-, -, a, ea, ha, -, md, p, t, w8, w9, w10, hmd, hp, ht1, ht2, w11, -⟩ := at_3 I hc (k0 := 3) (Or.inl rfl) h3
  have hs0 : ¬ s (315 + 24 * c) = 0 := by rw [h3]; decide
  have w3 := k1 hs0 3 (by decide) (by decide)
  obtain ⟨y8, y9, y10, y11⟩ := k2 (Or.inl h3)
  have eN : x 1 0 = nI N := by rw [T.1.1.1]; exact a1
  have eR : x 1 1 = nI R := by rw [T.1.1.2.1]; exact b1
  have xa : x (10 + 2 * c) 3 = nI a := by rw [w3]; exact ea
  have go : zv 5 80 0 [.ref W, .int (nI c), v2, v3, v4] [] (zC h W x y) = zv 5 80 96 [.ref W, .int (nI c), .ref (W + (10 + 2 * c)), .int 0, v4] [] (zC h W x y) := by
    rw [adv_go S V hc eN a3 (n := a) (fun _ => ⟨xa, ha⟩) (by rw [T.mv I hc (fun _ => ⟨ea, ha⟩)]; exact hmv), b80_30_c3 (by first | (simp only [zC_n, zC_k, zC_r, S.n, wk_0 S V, wk_1 S V, wr_0_0 S V, wr_0_1 S V, wk_9 S V, cl_k S V hc, cl_r S V hc, cl_p S V hc, cl_q S V hc, zq_rf]; done) | (simp only [zC_n, zC_r, S.n, wr_0_0 S V, wr_0_1 S V, cl_r S V hc, cl_p S V hc, zq_rf]; have := V.lt; omega)) (by first | (simp only [zC_n, zC_k, zC_r, S.n, wk_0 S V, wk_1 S V, wr_0_0 S V, wr_0_1 S V, wk_9 S V, cl_k S V hc, cl_r S V hc, cl_p S V hc, cl_q S V hc, zq_rf]; done) | (simp only [zC_n, zC_r, S.n, wr_0_0 S V, wr_0_1 S V, cl_r S V hc, cl_p S V hc, zq_rf]; have := V.lt; omega)) (by rw [zC_i (by omega), k0]; exact h3), k0, h3, decide_eq_false (by decide), zi_bI_f]
  obtain ⟨n, rr, hn24, hr24, en, er, D⟩ := D
  have hrr : rr = R := by rw [b1] at er; exact ((nI_eq' (by omega) (by omega)).mp er).symm
  subst hrr
  have tR := (T.1.2 rr b2).1.1
  have main : ∃ v, s (13 * rr) < s (315 + 24 * c + 10) ∧ ¬ s (315 + 24 * c + 11) = 1 ∧ v < 24 ∧ s 312 = nI v ∧ s1 = up (up (nH (nnF s v (s (315 + 24 * c + 10)) 100 (-4)) v (fun i => if i = 0 then s (315 + 24 * c + 8) else 100) (fun i => if i = 0 then s 313 else s (315 + 24 * c + 9)) 2) 313 (nI v)) (315 + 24 * c) 5 := by
    rcases D with ⟨hl, ⟨_, q, _⟩ | ⟨hd, v, hv, ev, _, e1⟩⟩ | ⟨_, ⟨_, q, _⟩ | ⟨_, ⟨_, q, _⟩ | ⟨_, ⟨_, _, _, _, _, q, _⟩ | ⟨_, _, q, _⟩ | ⟨_, _, q, _⟩⟩⟩⟩
    · exact absurd q (by decide)
    · exact ⟨v, hl, hd, hv, ev, e1⟩
    · exact absurd q (by decide)
    · exact absurd q (by decide)
    · exact absurd q (by decide)
    · exact absurd q (by decide)
    · exact absurd q (by decide)
  obtain ⟨v, hl, hd, hv, ev, e1⟩ := main
  have hvN : N = v := by rw [a1] at ev; exact (nI_eq' (by omega) (by omega)).mp ev
  subst hvN
  have lr := I.lv b2
  -- the new row
  have e_o : ∀ k, k < 13 * N → s1 k = s k := fun k hk => by rw [e1, up_n _ _ (by omega), up_n _ _ (by omega), nH_o (by decide) (by omega), nn_o (by omega) (by omega)]
  have e_c : ∀ k, 314 ≤ k → k ≠ 315 + 24 * c → s1 k = s k := fun k h1 hk => by rw [e1, up_n _ _ hk, up_n _ _ (by omega), nH_o (by decide) (by omega), nn_o (by omega) (by omega)]
  have e_0 : s1 (315 + 24 * c) = 5 := by rw [e1, up_s]
  have e_N : s1 312 = nI (N + 1) := by rw [e1, up_n _ _ (by omega), up_n _ _ (by omega), nH_o (by decide) (by omega), nn_N (by omega)]
  have e_R : s1 313 = nI N := by rw [e1, up_n _ _ (by omega), up_s]
  have e_v0 : s1 (13 * N) = s (315 + 24 * c + 10) := by rw [e1, up_n _ _ (by omega), up_n _ _ (by omega), nH_o (by decide) (by omega), nn_0]
  have e_v1 : s1 (13 * N + 1) = nI 2 := by rw [e1, up_n _ _ (by omega), up_n _ _ (by omega), nH_1]
  have e_v2 : s1 (13 * N + 2) = 100 := by rw [e1, up_n _ _ (by omega), up_n _ _ (by omega), nH_o (by decide) (by omega), nn_2]
  have e_v3 : s1 (13 * N + 3) = -4 := by rw [e1, up_n _ _ (by omega), up_n _ _ (by omega), nH_o (by decide) (by omega), nn_3]
  have e_v4 : s1 (13 * N + 4) = 0 := by rw [e1, up_n _ _ (by omega), up_n _ _ (by omega), nH_o (by decide) (by omega), nn_4]
  have e_vk : ∀ i, i < 2 → s1 (13 * N + (5 + i)) = if i = 0 then s (315 + 24 * c + 8) else 100 := fun i hi => by rw [e1, up_n _ _ (by omega), up_n _ _ (by omega), nH_k hi (by decide)]
  have e_vc : ∀ i, i < 2 → s1 (13 * N + (9 + i)) = if i = 0 then s 313 else s (315 + 24 * c + 9) := fun i hi => by rw [e1, up_n _ _ (by omega), up_n _ _ (by omega), nH_c hi (by decide)]
  have hN' : N' = N + 1 := nI_Neq J (by omega) e_N
  subst hN'
  have hm' : ∀ b, b < N → m' b = m b := fun b hb => mI_eq J (by omega) (by have := (G b hb).2.2.2.2.2.2.2.1; omega) (by rw [e_o _ (by omega)]; exact (G b hb).1.2.1)
  have hmN : m' N = 2 := mI_eq J (by omega) (by decide) e_v1
  have hlN : ¬ s1 (13 * N) = 0 := fun q => by
    rw [e_v0, w10] at q
    have := (nI_eq' (b := 0) (by omega) (by decide)).mp q
    omega
  have hth : ∀ key, thA s1 key = thA s key := fun key => by
    rw [Bool.eq_iff_iff, thA_iff I, thA_iff J]
    constructor
    · rintro ⟨b, hb, h2, h3, i, h4, h5⟩
      have hbN : b < N := by
        refine Nat.lt_of_le_of_ne (by omega) (fun q => ?_)
        subst q; exact hlN h2
      have g10 := (G b hbN).2.2.2.2.2.2.2.1
      rw [hm' b hbN] at h4
      rw [e_o _ (by omega)] at h2 h3 h5
      exact ⟨b, hbN, h2, h3, i, h4, h5⟩
    · rintro ⟨b, hb, h2, h3, i, h4, h5⟩
      have g10 := (G b hb).2.2.2.2.2.2.2.1
      exact ⟨b, by omega, by rw [e_o _ (by omega)]; exact h2, by rw [e_o _ (by omega)]; exact h3, i, by rw [hm' b hb]; exact h4, by rw [e_o _ (by omega)]; exact h5⟩
  have Z : CN (nrK x c N) (u2 y 6 N false) s1 (N + 1) m' := by
    refine ⟨⟨by rw [nr_10, e_N], by rw [nr_11, e_R], by rw [nr_o (by omega), e_c _ (by omega) (by omega)]; exact T.1.1.2.2⟩, fun b hb => ?_⟩
    by_cases ebN : b = N
    · subst ebN
      refine ⟨⟨by rw [nr_2, e_v0]; exact y9, by rw [nr_3, e_v1], by rw [nr_4, e_v2], by rw [nr_5, e_v3], by rw [u2_s, e_v4]; decide⟩, fun i hi => ?_⟩
      rw [hmN] at hi
      rw [e_vk i hi, e_vc i hi]
      by_cases i0 : i = 0
      · subst i0
        rw [nr_70, nr_80, if_pos rfl, if_pos rfl]
        exact ⟨y8, fun _ => T.1.1.2.1⟩
      · have : i = 1 := by omega
        subst this
        rw [nr_71, nr_81, if_neg (by decide), if_neg (by decide)]
        exact ⟨rfl, fun _ => y10⟩
    · obtain ⟨⟨v2, v3, v4, v5, v6⟩, vk⟩ := T.1.2 b (by omega)
      have g10 := (G b (by omega)).2.2.2.2.2.2.2.1
      refine ⟨⟨by rw [nr_o (by omega), e_o _ (by omega)]; exact v2, by rw [nr_o (by omega), e_o _ (by omega)]; exact v3, by rw [nr_o (by omega), e_o _ (by omega)]; exact v4, by rw [nr_o (by omega), e_o _ (by omega)]; exact v5, by rw [u2_n _ _ (by omega), e_o _ (by omega)]; exact v6⟩, fun i hi => ?_⟩
      rw [hm' b (by omega)] at hi
      rw [nr_o (by omega), nr_o (by omega), e_o _ (by omega), e_o _ (by omega), e_o _ (by omega)]
      exact vk i hi
  refine ⟨tdK (nrK x c N) c 7, u2 y 6 N false, ?_, sim_n T J hth Z hc (by decide) hon (fun k h1 h2 => e_c k (by omega) (by omega)) (e_c _ (by omega) (by omega)) (e_c _ (by omega) (by omega)) (fun o j h10 h9 _ => nr_o (by omega)) (fun o j h10 _ => u2_n _ _ (by omega)) ?_ (by rw [e_0]; decide)⟩
  · rw [go, b80_96 (by first | (simp only [zC_n, zC_k, zC_r, S.n, wk_0 S V, wk_1 S V, wr_0_0 S V, wr_0_1 S V, wk_9 S V, cl_k S V hc, cl_r S V hc, cl_p S V hc, cl_q S V hc, zq_rf]; done) | (simp only [zC_n, zC_r, S.n, wr_0_0 S V, wr_0_1 S V, cl_r S V hc, cl_p S V hc, zq_rf]; have := V.lt; omega)) (by first | (simp only [zC_n, zC_k, zC_r, S.n, wk_0 S V, wk_1 S V, wr_0_0 S V, wr_0_1 S V, wk_9 S V, cl_k S V hc, cl_r S V hc, cl_p S V hc, cl_q S V hc, zq_rf]; done) | (simp only [zC_n, zC_r, S.n, wr_0_0 S V, wr_0_1 S V, cl_r S V hc, cl_p S V hc, zq_rf]; have := V.lt; omega)), p_top S V hc eN a3 eR b2 (by rw [tR, y9]; exact hl), if_neg ?_]
    · simp only [Option.bind_some, Option.toList_some, Option.toList_none, List.cons_append, List.nil_append]
      rw [b80_101, adv_t S V hc (by decide)]
    · rintro (q | q)
      · rw [y11] at q; exact hd (of_decide_eq_true q)
      · omega
  · unfold KR
    rw [e_0]
    refine ⟨nr_c0, fun _ w h1 h7 => by rw [nr_o (by omega), e_c _ (by omega) (by omega)]; exact k1 hs0 w h1 h7, fun q => ?_, fun _ q => absurd rfl q⟩
    rcases q with q | q <;> exact absurd q (by decide)
end R31I
end
