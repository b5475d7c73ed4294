/-! THE CLASS'S WORLD: always good -/
/-- a world that some row of the reference is like -/
def Gw (x : Nat → Nat → Int32) (y : Nat → Nat → Bool) : Prop := ∃ s N R M B L m H r K C f, InvG s N R M B L m H r K C f ∧ CR x y s N m
section R32E
variable {h : zi_Hp} {W : Nat} {x x1 : Nat → Nat → Int32} {y y1 : Nat → Nat → Bool} {c n : Nat}
theorem Gw.step (S : Sh h) (V : Wa W) (G : Gw x y) (hc : c < 3) {v2 v3 v4 : Value} : ∃ cd x' y', zv 5 80 0 [.ref W, .int (nI c), v2, v3, v4] [] (zC h W x y) = some (some (.int cd), zC h W x' y') ∧ Gw x' y' := by
  obtain ⟨s, N, R, M, B, L, m, H, r, K, C, f, I, T⟩ := G
  obtain ⟨cd, s1, N', R', M', B', L', m', H', r', K', C', f', A, J, -, -⟩ := stI I hc
  obtain ⟨x', y', e, Q⟩ := sim_step S V T I hc A J (v2 := v2) (v3 := v3) (v4 := v4)
  exact ⟨cd, x', y', e, _, _, _, _, _, _, _, _, _, _, _, _, J.pad (fun k hk => st_o hc hk), Q⟩
theorem Gw.upL (S : Sh h) (V : Wa W) (hc : c < 3) (hn : n < 1000) : ∀ d k x y, k + d = n → Gw x y → ∃ v x' y', zv 6 79 2 [.ref W, .int (nI c), .int (nI n), .int (nI k)] [] (zC h W x y) = some (some (.int v), zC h W x' y') ∧ Gw x' y'
  | 0, k, x, y, hk, G => by
    have e : k = n := by omega
    subst e
    exact ⟨_, x, y, by rw [b79_2, if_neg Int32.lt_irrefl, b79_21], G⟩
  | d + 1, k, x, y, hk, G => by
    obtain ⟨cd, x', y', e, G'⟩ := G.step S V hc (v2 := .double 0) (v3 := .double 0) (v4 := .double 0)
    have go : zv 6 79 2 [.ref W, .int (nI c), .int (nI n), .int (nI k)] [] (zC h W x y) = if cd = 0 then zv 6 79 21 [.ref W, .int (nI c), .int (nI n), .int (nI k)] [] (zC h W x' y') else zv 6 79 15 [.ref W, .int (nI c), .int (nI n), .int (nI k)] [] (zC h W x' y') := by
      rw [b79_2, if_pos (nI_lt (by omega) (by omega)), b79_7 (by first | (simp only [zC_n, zC_k, zC_r, S.n, wk_0 S V, wk_1 S V, wr_0_0 S V, wr_0_1 S V, wk_9 S V, cl_k S V hc, cl_r S V hc, cl_p S V hc, cl_q S V hc, zq_rf]; done) | (simp only [zC_n, zC_r, S.n, wr_0_0 S V, wr_0_1 S V, cl_r S V hc, cl_p S V hc, zq_rf]; have := V.lt; omega)) (by first | (simp only [zC_n, zC_k, zC_r, S.n, wk_0 S V, wk_1 S V, wr_0_0 S V, wr_0_1 S V, wk_9 S V, cl_k S V hc, cl_r S V hc, cl_p S V hc, cl_q S V hc, zq_rf]; done) | (simp only [zC_n, zC_r, S.n, wr_0_0 S V, wr_0_1 S V, cl_r S V hc, cl_p S V hc, zq_rf]; have := V.lt; omega)), e]
      simp only [Option.bind_some, Option.toList_some, Option.toList_none, List.cons_append, List.nil_append]
      rw [b79_12]
    by_cases q : cd = 0
    · exact ⟨_, x', y', by rw [go, if_pos q, b79_21], G'⟩
    · rw [go, if_neg q, b79_15, nI_s]
      exact Gw.upL S V hc hn d (k + 1) x' y' (by omega) G'
theorem Gw.upTo (S : Sh h) (V : Wa W) (G : Gw x y) (hc : c < 3) (hn : n < 1000) {u : Value} : ∃ v x' y', zv 6 79 0 [.ref W, .int (nI c), .int (nI n), u] [] (zC h W x y) = some (some (.int v), zC h W x' y') ∧ Gw x' y' := by
  rw [b79_0]
  exact Gw.upL S V hc hn n 0 x y (Nat.zero_add _) G
theorem Gw.start (S : Sh h) (V : Wa W) (G : Gw x y) (hc : c < 3) {a k : Nat} (ha : a ≤ 2) (hk : k ≤ 99) {u4 : Value} : ∃ x', zv 4 77 0 [.ref W, .int (nI c), .int (nI a), .int (nI k), u4] [] (zC h W x y) = some (none, zC h W x' y) ∧ Gw x' y := by
  obtain ⟨s, N, R, M, B, L, m, H, r, K, C, f, I, T⟩ := G
  obtain ⟨x', e, Q⟩ := k_st S V T I hc ha hk (u4 := u4)
  exact ⟨x', e, _, _, _, _, _, _, _, _, _, _, _, _, I.be hc ha hk, Q⟩
theorem Gw.idle (G : Gw x y) (hc : c < 3) : Gw (u2 x (10 + 2 * c) 0 0) y := by
  obtain ⟨s, N, R, M, B, L, m, H, r, K, C, f, I, T⟩ := G
  exact ⟨_, _, _, _, _, _, _, _, _, _, _, _, I.idle hc, T.idle I hc⟩
theorem Gw.caL (S : Sh h) (V : Wa W) {a k : Int32} : ∀ d i x y cd, i + d = 1000 → Gw x y → ∃ v x' y', zv 6 78 12 [.ref W, .int a, .int k, .int cd, .int (nI i)] [] (zC h W x y) = some (some (.int v), zC h W x' y') ∧ Gw x' y' := by
  have hc : 0 < 3 := by decide
  have nc : (nI 0).toNatClampNeg = 0 := nI_clamp (by omega)
  have hzc : ¬ (nI 0 < 0 ∨ 3 ≤ 0) := by decide
  have fin : ∀ x y (cd i : Int32), Gw x y → ∃ v x' y', zv 6 78 36 [.ref W, .int a, .int k, .int cd, .int i] [] (zC h W x y) = some (some (.int v), zC h W x' y') ∧ Gw x' y' := fun x y cd i G => by
    refine ⟨x (10 + 2 * 0) 4, u2 x (10 + 2 * 0) 0 0, y, ?_, G.idle hc⟩
    have r0 : zh_r (zC h W x y) (zq (zh_r (zC h W x y) W 1)) 0 = .ref (W + (10 + 2 * 0)) := by rw [zC_r, zC_r, wr_0_1 S V, zq_rf, cl_r S V hc]
    rw [b78_36 (by first | (simp +decide only [zC_n, zC_k, zC_r, S.n, wk_0 S V, wk_1 S V, wr_0_0 S V, wr_0_1 S V, wk_9 S V, nc, cl_k S V hc, cl_r S V hc, cl_p S V hc, cl_q S V hc, zq_rf, hzc]; done) | (simp only [zC_n, zC_r, S.n, wr_0_0 S V, wr_0_1 S V, nc, cl_r S V hc, cl_p S V hc, zq_rf]; have := V.lt; omega)) (by first | (simp +decide only [zC_n, zC_k, zC_r, S.n, wk_0 S V, wk_1 S V, wr_0_0 S V, wr_0_1 S V, wk_9 S V, nc, cl_k S V hc, cl_r S V hc, cl_p S V hc, cl_q S V hc, zq_rf, hzc]; done) | (simp only [zC_n, zC_r, S.n, wr_0_0 S V, wr_0_1 S V, nc, cl_r S V hc, cl_p S V hc, zq_rf]; have := V.lt; omega)) (by first | (simp +decide only [zC_n, zC_k, zC_r, S.n, wk_0 S V, wk_1 S V, wr_0_0 S V, wr_0_1 S V, wk_9 S V, nc, cl_k S V hc, cl_r S V hc, cl_p S V hc, cl_q S V hc, zq_rf, hzc]; done) | (simp only [zC_n, zC_r, S.n, wr_0_0 S V, wr_0_1 S V, nc, cl_r S V hc, cl_p S V hc, zq_rf]; have := V.lt; omega)) (by first | (simp +decide only [zC_n, zC_k, zC_r, S.n, wk_0 S V, wk_1 S V, wr_0_0 S V, wr_0_1 S V, wk_9 S V, nc, cl_k S V hc, cl_r S V hc, cl_p S V hc, cl_q S V hc, zq_rf, hzc]; done) | (simp only [zC_n, zC_r, S.n, wr_0_0 S V, wr_0_1 S V, nc, cl_r S V hc, cl_p S V hc, zq_rf]; have := V.lt; omega)) (by rw [zC_r, wr_0_1 S V, zq_rf, zC_k, wk_9 S V]; decide) (by first | (simp +decide only [zC_n, zC_k, zC_r, S.n, wk_0 S V, wk_1 S V, wr_0_0 S V, wr_0_1 S V, wk_9 S V, nc, cl_k S V hc, cl_r S V hc, cl_p S V hc, cl_q S V hc, zq_rf, hzc]; done) | (simp only [zC_n, zC_r, S.n, wr_0_0 S V, wr_0_1 S V, nc, cl_r S V hc, cl_p S V hc, zq_rf]; have := V.lt; omega)) (by rw [r0, zq_rf]) (by rw [r0, zq_rf, zC_n, S.n]; have := V.lt; omega) (by rw [r0, zq_rf, zC_k, cl_k S V hc]), r0, zq_rf, zC_wi (by omega), b78_52 (by first | (simp +decide only [zC_n, zC_k, zC_r, S.n, wk_0 S V, wk_1 S V, wr_0_0 S V, wr_0_1 S V, wk_9 S V, nc, cl_k S V hc, cl_r S V hc, cl_p S V hc, cl_q S V hc, zq_rf, hzc]; done) | (simp only [zC_n, zC_r, S.n, wr_0_0 S V, wr_0_1 S V, nc, cl_r S V hc, cl_p S V hc, zq_rf]; have := V.lt; omega)) (by first | (simp +decide only [zC_n, zC_k, zC_r, S.n, wk_0 S V, wk_1 S V, wr_0_0 S V, wr_0_1 S V, wk_9 S V, nc, cl_k S V hc, cl_r S V hc, cl_p S V hc, cl_q S V hc, zq_rf, hzc]; done) | (simp only [zC_n, zC_r, S.n, wr_0_0 S V, wr_0_1 S V, nc, cl_r S V hc, cl_p S V hc, zq_rf]; have := V.lt; omega)), zC_i (by omega), u2_n _ _ (by omega)]
  intro d
  induction d with
  | zero =>
    intro i x y cd hi G
    have e : i = 1000 := by omega
    subst e
    rw [b78_12, if_neg (by decide)]
    exact fin x y cd _ G
  | succ d ih =>
    intro i x y cd hi G
    rw [b78_12, if_pos (show nI i < 1000 from nI_lt (b := 1000) (by omega) (by decide)), b78_20]
    by_cases q : cd = 0
    · rw [if_pos q]; exact fin x y cd _ G
    · obtain ⟨cd', x', y', e, G'⟩ := G.step S V hc (v2 := .double 0) (v3 := .double 0) (v4 := .double 0)
      rw [if_neg q, b78_24 (by first | (simp only [zC_n, zC_k, zC_r, S.n, wk_0 S V, wk_1 S V, wr_0_0 S V, wr_0_1 S V, wk_9 S V, cl_k S V hc, cl_r S V hc, cl_p S V hc, cl_q S V hc, zq_rf]; done) | (simp only [zC_n, zC_r, S.n, wr_0_0 S V, wr_0_1 S V, cl_r S V hc, cl_p S V hc, zq_rf]; have := V.lt; omega)) (by first | (simp only [zC_n, zC_k, zC_r, S.n, wk_0 S V, wk_1 S V, wr_0_0 S V, wr_0_1 S V, wk_9 S V, cl_k S V hc, cl_r S V hc, cl_p S V hc, cl_q S V hc, zq_rf]; done) | (simp only [zC_n, zC_r, S.n, wr_0_0 S V, wr_0_1 S V, cl_r S V hc, cl_p S V hc, zq_rf]; have := V.lt; omega)), show (Value.int 0) = Value.int (nI 0) from rfl, e]
      simp only [Option.bind_some, Option.toList_some, Option.toList_none, List.cons_append, List.nil_append]
      rw [b78_29, nI_s]
      exact ih (i + 1) x' y' cd' (by omega) G'
theorem Gw.carry (S : Sh h) (V : Wa W) (G : Gw x y) {a k : Nat} (ha : a ≤ 2) (hk : k ≤ 99) {u3 u4 : Value} : ∃ v x' y', zv 6 78 0 [.ref W, .int (nI a), .int (nI k), u3, u4] [] (zC h W x y) = some (some (.int v), zC h W x' y') ∧ Gw x' y' := by
  have hc : 0 < 3 := by decide
  obtain ⟨x1, e1, G1⟩ := G.start S V hc ha hk (u4 := .double 0)
  obtain ⟨v, x2, y2, e2, G2⟩ := Gw.caL S V (h := h) (a := nI a) (k := nI k) 1000 0 x1 y 4 rfl G1
  refine ⟨v, x2, y2, ?_, G2⟩
  rw [b78_0 (by first | (simp only [zC_n, zC_k, zC_r, S.n, wk_0 S V, wk_1 S V, wr_0_0 S V, wr_0_1 S V, wk_9 S V, cl_k S V hc, cl_r S V hc, cl_p S V hc, cl_q S V hc, zq_rf]; done) | (simp only [zC_n, zC_r, S.n, wr_0_0 S V, wr_0_1 S V, cl_r S V hc, cl_p S V hc, zq_rf]; have := V.lt; omega)) (by first | (simp only [zC_n, zC_k, zC_r, S.n, wk_0 S V, wk_1 S V, wr_0_0 S V, wr_0_1 S V, wk_9 S V, cl_k S V hc, cl_r S V hc, cl_p S V hc, cl_q S V hc, zq_rf]; done) | (simp only [zC_n, zC_r, S.n, wr_0_0 S V, wr_0_1 S V, cl_r S V hc, cl_p S V hc, zq_rf]; have := V.lt; omega)), show (Value.int 0) = Value.int (nI 0) from rfl, e1]
  simp only [Option.bind_some, Option.toList_some, Option.toList_none, List.cons_append, List.nil_append]
  rw [b78_7, show (Value.int 0) = Value.int (nI 0) from rfl, e2]
end R32E
