/-! THE CLASS'S WORLD: what a text tells is done -/
section R32G
variable {h : zi_Hp} {W : Nat} {x x1 : Nat → Nat → Int32} {y y1 : Nat → Nat → Bool} {c n : Nat}
theorem sk_199 (S : Sh h) : zh_k h 199 = (1, 9) := by rw [S.k, kx_199]
theorem sk_200 (S : Sh h) : zh_k h 200 = (100, 40) := by rw [S.k, kx_200]
theorem sk_201 (S : Sh h) : zh_k h 201 = (100, 40) := by rw [S.k, kx_201]
theorem sk_202 (S : Sh h) : zh_k h 202 = (100, 3) := by rw [S.k, kx_202]
theorem sr_5 (S : Sh h) : zh_r h 199 5 = .ref 200 := by rw [S.r, rx_199_5]
theorem sr_6 (S : Sh h) : zh_r h 199 6 = .ref 201 := by rw [S.r, rx_199_6]
theorem sr_7 (S : Sh h) : zh_r h 199 7 = .ref 202 := by rw [S.r, rx_199_7]
theorem Gw.fresh {v : Nat} (h2 : 2 ≤ v) (h4 : v ≤ 4) (e10 : x 1 0 = 1) (e11 : x 1 1 = 0) (e12 : x 1 2 = nI v) (e2 : x 2 0 = 0) (e3 : x 3 0 = 0) (e4 : x 4 0 = 100) (e5 : x 5 0 = -4) (e6 : y 6 0 = false) (ec : ∀ c, c < 3 → x (10 + 2 * c) 0 = 0) : Gw x y := by
  obtain ⟨N, R, M, B, L, m, H, r, K, C, f, I⟩ := fs_inv (v := v) h2 h4 (s := fsF v) (fun _ _ => rfl)
  have hN : N = 1 := nI_Neq I (by decide) rfl
  subst hN
  have hm : m 0 = 0 := mI_eq I (by decide) (by decide) rfl
  refine ⟨fsF v, 1, R, M, B, L, m, H, r, K, C, f, I, ⟨⟨by rw [e10]; rfl, by rw [e11]; rfl, by rw [e12]; exact (up_s _ _ _).symm⟩, fun n hn => ?_⟩, fun c hc => ?_, fun c hc ho => ?_⟩
  · have e : n = 0 := by omega
    subst e
    exact ⟨⟨by rw [e2]; rfl, by rw [e3]; rfl, by rw [e4]; rfl, by rw [e5]; rfl, by rw [e6]; rfl⟩, fun i hi => by rw [hm] at hi; exact absurd hi (Nat.not_lt_zero _)⟩
  · have e0 : fsF v (315 + 24 * c) = 0 := by unfold fsF; rw [up_n _ _ (by omega), up_n _ _ (by omega), up_n _ _ (by omega), up_n _ _ (by omega)]
    unfold KR
    rw [e0]
    exact ⟨ec c hc, fun q => absurd rfl q, fun q => by rcases q with q | q <;> exact absurd q (by decide), fun q => absurd rfl q⟩
  · have e0 : fsF v (315 + 24 * c) = 0 := by unfold fsF; rw [up_n _ _ (by omega), up_n _ _ (by omega), up_n _ _ (by omega), up_n _ _ (by omega)]
    unfold onB at ho
    rw [e0] at ho
    exact absurd ho (by decide)
def clF (x : Nat → Nat → Int32) : Nat → Nat → Int32 := u2 (u2 (taF (u2 x 1 0 0) 0 0) 1 1 0) 1 2 3
theorem t_cl (S : Sh h) (V : Wa W) : zv 2 37 0 [.ref (W + 1)] [] (zC h W x y) = some (none, zC h W (clF x) (u2 y 6 0 false)) := by
  have hy : True := trivial
  have hz : True := trivial
  rw [b37_0 (by first | (simp +decide only [zC_n, zC_k, zC_r, S.n, wk_0 S V, wk_1 S V, wk_2 S V, wk_3 S V, wk_4 S V, wk_5 S V, wk_6 S V, wk_7 S V, wk_8 S V, wk_9 S V, wk_10 S V, wk_11 S V, wk_12 S V, wk_13 S V, wk_14 S V, wk_15 S V, wr_0_0 S V, wr_0_1 S V, wr_1_3 S V, wr_1_4 S V, wr_1_5 S V, wr_1_6 S V, wr_1_7 S V, wr_1_8 S V, wr_1_9 S V, wr_9_0 S V, wr_9_1 S V, wr_9_2 S V, wr_10_12 S V, wr_12_12 S V, wr_14_12 S V, zq_rf, hz, hy]; done) | (simp only [zC_n, zC_r, S.n, wk_0 S V, wk_1 S V, wk_2 S V, wk_3 S V, wk_4 S V, wk_5 S V, wk_6 S V, wk_7 S V, wk_8 S V, wk_9 S V, wk_10 S V, wk_11 S V, wk_12 S V, wk_13 S V, wk_14 S V, wk_15 S V, wr_0_0 S V, wr_0_1 S V, wr_1_3 S V, wr_1_4 S V, wr_1_5 S V, wr_1_6 S V, wr_1_7 S V, wr_1_8 S V, wr_1_9 S V, wr_9_0 S V, wr_9_1 S V, wr_9_2 S V, wr_10_12 S V, wr_12_12 S V, wr_14_12 S V, zq_rf]; have := V.lt; omega)) (by first | (simp +decide only [zC_n, zC_k, zC_r, S.n, wk_0 S V, wk_1 S V, wk_2 S V, wk_3 S V, wk_4 S V, wk_5 S V, wk_6 S V, wk_7 S V, wk_8 S V, wk_9 S V, wk_10 S V, wk_11 S V, wk_12 S V, wk_13 S V, wk_14 S V, wk_15 S V, wr_0_0 S V, wr_0_1 S V, wr_1_3 S V, wr_1_4 S V, wr_1_5 S V, wr_1_6 S V, wr_1_7 S V, wr_1_8 S V, wr_1_9 S V, wr_9_0 S V, wr_9_1 S V, wr_9_2 S V, wr_10_12 S V, wr_12_12 S V, wr_14_12 S V, zq_rf, hz, hy]; done) | (simp only [zC_n, zC_r, S.n, wk_0 S V, wk_1 S V, wk_2 S V, wk_3 S V, wk_4 S V, wk_5 S V, wk_6 S V, wk_7 S V, wk_8 S V, wk_9 S V, wk_10 S V, wk_11 S V, wk_12 S V, wk_13 S V, wk_14 S V, wk_15 S V, wr_0_0 S V, wr_0_1 S V, wr_1_3 S V, wr_1_4 S V, wr_1_5 S V, wr_1_6 S V, wr_1_7 S V, wr_1_8 S V, wr_1_9 S V, wr_9_0 S V, wr_9_1 S V, wr_9_2 S V, wr_10_12 S V, wr_12_12 S V, wr_14_12 S V, zq_rf]; have := V.lt; omega)), zC_wi (by decide), t_ad S V (x := u2 x 1 0 0) (y := y) (N := 0) (show u2 x 1 0 0 1 0 = nI 0 from u2_s _ _ _ _) (by decide)]
  simp only [Option.bind_some, Option.toList_some, Option.toList_none, List.cons_append, List.nil_append]
  rw [b37_11 (by first | (simp +decide only [zC_n, zC_k, zC_r, S.n, wk_0 S V, wk_1 S V, wk_2 S V, wk_3 S V, wk_4 S V, wk_5 S V, wk_6 S V, wk_7 S V, wk_8 S V, wk_9 S V, wk_10 S V, wk_11 S V, wk_12 S V, wk_13 S V, wk_14 S V, wk_15 S V, wr_0_0 S V, wr_0_1 S V, wr_1_3 S V, wr_1_4 S V, wr_1_5 S V, wr_1_6 S V, wr_1_7 S V, wr_1_8 S V, wr_1_9 S V, wr_9_0 S V, wr_9_1 S V, wr_9_2 S V, wr_10_12 S V, wr_12_12 S V, wr_14_12 S V, zq_rf, hz, hy]; done) | (simp only [zC_n, zC_r, S.n, wk_0 S V, wk_1 S V, wk_2 S V, wk_3 S V, wk_4 S V, wk_5 S V, wk_6 S V, wk_7 S V, wk_8 S V, wk_9 S V, wk_10 S V, wk_11 S V, wk_12 S V, wk_13 S V, wk_14 S V, wk_15 S V, wr_0_0 S V, wr_0_1 S V, wr_1_3 S V, wr_1_4 S V, wr_1_5 S V, wr_1_6 S V, wr_1_7 S V, wr_1_8 S V, wr_1_9 S V, wr_9_0 S V, wr_9_1 S V, wr_9_2 S V, wr_10_12 S V, wr_12_12 S V, wr_14_12 S V, zq_rf]; have := V.lt; omega)) (by first | (simp +decide only [zC_n, zC_k, zC_r, S.n, wk_0 S V, wk_1 S V, wk_2 S V, wk_3 S V, wk_4 S V, wk_5 S V, wk_6 S V, wk_7 S V, wk_8 S V, wk_9 S V, wk_10 S V, wk_11 S V, wk_12 S V, wk_13 S V, wk_14 S V, wk_15 S V, wr_0_0 S V, wr_0_1 S V, wr_1_3 S V, wr_1_4 S V, wr_1_5 S V, wr_1_6 S V, wr_1_7 S V, wr_1_8 S V, wr_1_9 S V, wr_9_0 S V, wr_9_1 S V, wr_9_2 S V, wr_10_12 S V, wr_12_12 S V, wr_14_12 S V, zq_rf, hz, hy]; done) | (simp only [zC_n, zC_r, S.n, wk_0 S V, wk_1 S V, wk_2 S V, wk_3 S V, wk_4 S V, wk_5 S V, wk_6 S V, wk_7 S V, wk_8 S V, wk_9 S V, wk_10 S V, wk_11 S V, wk_12 S V, wk_13 S V, wk_14 S V, wk_15 S V, wr_0_0 S V, wr_0_1 S V, wr_1_3 S V, wr_1_4 S V, wr_1_5 S V, wr_1_6 S V, wr_1_7 S V, wr_1_8 S V, wr_1_9 S V, wr_9_0 S V, wr_9_1 S V, wr_9_2 S V, wr_10_12 S V, wr_12_12 S V, wr_14_12 S V, zq_rf]; have := V.lt; omega)) (by first | (simp +decide only [zC_n, zC_k, zC_r, S.n, wk_0 S V, wk_1 S V, wk_2 S V, wk_3 S V, wk_4 S V, wk_5 S V, wk_6 S V, wk_7 S V, wk_8 S V, wk_9 S V, wk_10 S V, wk_11 S V, wk_12 S V, wk_13 S V, wk_14 S V, wk_15 S V, wr_0_0 S V, wr_0_1 S V, wr_1_3 S V, wr_1_4 S V, wr_1_5 S V, wr_1_6 S V, wr_1_7 S V, wr_1_8 S V, wr_1_9 S V, wr_9_0 S V, wr_9_1 S V, wr_9_2 S V, wr_10_12 S V, wr_12_12 S V, wr_14_12 S V, zq_rf, hz, hy]; done) | (simp only [zC_n, zC_r, S.n, wk_0 S V, wk_1 S V, wk_2 S V, wk_3 S V, wk_4 S V, wk_5 S V, wk_6 S V, wk_7 S V, wk_8 S V, wk_9 S V, wk_10 S V, wk_11 S V, wk_12 S V, wk_13 S V, wk_14 S V, wk_15 S V, wr_0_0 S V, wr_0_1 S V, wr_1_3 S V, wr_1_4 S V, wr_1_5 S V, wr_1_6 S V, wr_1_7 S V, wr_1_8 S V, wr_1_9 S V, wr_9_0 S V, wr_9_1 S V, wr_9_2 S V, wr_10_12 S V, wr_12_12 S V, wr_14_12 S V, zq_rf]; have := V.lt; omega)) (by first | (simp +decide only [zC_n, zC_k, zC_r, S.n, wk_0 S V, wk_1 S V, wk_2 S V, wk_3 S V, wk_4 S V, wk_5 S V, wk_6 S V, wk_7 S V, wk_8 S V, wk_9 S V, wk_10 S V, wk_11 S V, wk_12 S V, wk_13 S V, wk_14 S V, wk_15 S V, wr_0_0 S V, wr_0_1 S V, wr_1_3 S V, wr_1_4 S V, wr_1_5 S V, wr_1_6 S V, wr_1_7 S V, wr_1_8 S V, wr_1_9 S V, wr_9_0 S V, wr_9_1 S V, wr_9_2 S V, wr_10_12 S V, wr_12_12 S V, wr_14_12 S V, zq_rf, hz, hy]; done) | (simp only [zC_n, zC_r, S.n, wk_0 S V, wk_1 S V, wk_2 S V, wk_3 S V, wk_4 S V, wk_5 S V, wk_6 S V, wk_7 S V, wk_8 S V, wk_9 S V, wk_10 S V, wk_11 S V, wk_12 S V, wk_13 S V, wk_14 S V, wk_15 S V, wr_0_0 S V, wr_0_1 S V, wr_1_3 S V, wr_1_4 S V, wr_1_5 S V, wr_1_6 S V, wr_1_7 S V, wr_1_8 S V, wr_1_9 S V, wr_9_0 S V, wr_9_1 S V, wr_9_2 S V, wr_10_12 S V, wr_12_12 S V, wr_14_12 S V, zq_rf]; have := V.lt; omega)), zC_wi (by decide), zC_wi (by decide)]; rfl
/-- what the program has read of a text -/
def PS (h : zi_Hp) : Prop := (∃ v, zh_i h 199 1 = nI v ∧ 2 ≤ v ∧ v ≤ 4) ∧ (∃ k, zh_i h 199 2 = nI k ∧ k ≤ 40 ∧ ∀ i, i < k → (∃ a, zh_i h 200 i = nI a ∧ a ≤ 2) ∧ ∃ q, zh_i h 201 i = nI q ∧ q ≤ 99) ∧ ∀ c, c < 3 → zh_i h 202 c < 0 ∨ ∃ q, zh_i h 202 c = nI q ∧ q ≤ 99
theorem k_pf (S : Sh h) (V : Wa W) (P : PS h) {u2' : Value} : ∃ x' y', zv 7 76 0 [.ref W, .ref 199, u2'] [] (zC h W x y) = some (none, zC h W x' y') ∧ Gw x' y' := by
  obtain ⟨⟨v, ev, v2, v4⟩, ⟨k, ek, hk, hi⟩, hf⟩ := P
  have l1 : W + 16 ≤ 197 := by unfold Wa at V; omega
  have idl : ∀ c, c < 3 → ∀ {x : Nat → Nat → Int32}, zv 7 76 9 [.ref W, .ref 199, .int (nI c)] [] (zC h W x (u2 y 6 0 false)) = zv 7 76 9 [.ref W, .ref 199, .int (nI (c + 1))] [] (zC h W (u2 x (10 + 2 * c) 0 0) (u2 y 6 0 false)) := fun c hc {x} => by
    have nc : (nI c).toNatClampNeg = c := nI_clamp (by omega)
    have hzc : ¬ (nI c < 0 ∨ 3 ≤ c) := by have q := zj_n (N := 3) hc (by decide); rw [nc] at q; exact q
    rw [b76_9, if_pos (show nI c < 3 from nI_lt (b := 3) hc (by decide)), b76_14 (by first | (simp +decide only [zC_n, zC_k, zC_r, S.n, wk_0 S V, wk_1 S V, wr_0_0 S V, wr_0_1 S V, wk_9 S V, nc, cl_k S V hc, cl_r S V hc, cl_p S V hc, cl_q S V hc, zq_rf, hzc]; done) | (simp only [zC_n, zC_r, S.n, wr_0_0 S V, wr_0_1 S V, nc, cl_r S V hc, cl_p S V hc, zq_rf]; have := V.lt; omega)) (by first | (simp +decide only [zC_n, zC_k, zC_r, S.n, wk_0 S V, wk_1 S V, wr_0_0 S V, wr_0_1 S V, wk_9 S V, nc, cl_k S V hc, cl_r S V hc, cl_p S V hc, cl_q S V hc, zq_rf, hzc]; done) | (simp only [zC_n, zC_r, S.n, wr_0_0 S V, wr_0_1 S V, nc, cl_r S V hc, cl_p S V hc, zq_rf]; have := V.lt; omega)) (by first | (simp +decide only [zC_n, zC_k, zC_r, S.n, wk_0 S V, wk_1 S V, wr_0_0 S V, wr_0_1 S V, wk_9 S V, nc, cl_k S V hc, cl_r S V hc, cl_p S V hc, cl_q S V hc, zq_rf, hzc]; done) | (simp only [zC_n, zC_r, S.n, wr_0_0 S V, wr_0_1 S V, nc, cl_r S V hc, cl_p S V hc, zq_rf]; have := V.lt; omega)) (by first | (simp +decide only [zC_n, zC_k, zC_r, S.n, wk_0 S V, wk_1 S V, wr_0_0 S V, wr_0_1 S V, wk_9 S V, nc, cl_k S V hc, cl_r S V hc, cl_p S V hc, cl_q S V hc, zq_rf, hzc]; done) | (simp only [zC_n, zC_r, S.n, wr_0_0 S V, wr_0_1 S V, nc, cl_r S V hc, cl_p S V hc, zq_rf]; have := V.lt; omega)) (by first | (simp +decide only [zC_n, zC_k, zC_r, S.n, wk_0 S V, wk_1 S V, wr_0_0 S V, wr_0_1 S V, wk_9 S V, nc, cl_k S V hc, cl_r S V hc, cl_p S V hc, cl_q S V hc, zq_rf, hzc]; done) | (simp only [zC_n, zC_r, S.n, wr_0_0 S V, wr_0_1 S V, nc, cl_r S V hc, cl_p S V hc, zq_rf]; have := V.lt; omega)) (by first | (simp +decide only [zC_n, zC_k, zC_r, S.n, wk_0 S V, wk_1 S V, wr_0_0 S V, wr_0_1 S V, wk_9 S V, nc, cl_k S V hc, cl_r S V hc, cl_p S V hc, cl_q S V hc, zq_rf, hzc]; done) | (simp only [zC_n, zC_r, S.n, wr_0_0 S V, wr_0_1 S V, nc, cl_r S V hc, cl_p S V hc, zq_rf]; have := V.lt; omega)) (by first | (simp +decide only [zC_n, zC_k, zC_r, S.n, wk_0 S V, wk_1 S V, wr_0_0 S V, wr_0_1 S V, wk_9 S V, nc, cl_k S V hc, cl_r S V hc, cl_p S V hc, cl_q S V hc, zq_rf, hzc]; done) | (simp only [zC_n, zC_r, S.n, wr_0_0 S V, wr_0_1 S V, nc, cl_r S V hc, cl_p S V hc, zq_rf]; have := V.lt; omega)) (by first | (simp +decide only [zC_n, zC_k, zC_r, S.n, wk_0 S V, wk_1 S V, wr_0_0 S V, wr_0_1 S V, wk_9 S V, nc, cl_k S V hc, cl_r S V hc, cl_p S V hc, cl_q S V hc, zq_rf, hzc]; done) | (simp only [zC_n, zC_r, S.n, wr_0_0 S V, wr_0_1 S V, nc, cl_r S V hc, cl_p S V hc, zq_rf]; have := V.lt; omega)) (by first | (simp +decide only [zC_n, zC_k, zC_r, S.n, wk_0 S V, wk_1 S V, wr_0_0 S V, wr_0_1 S V, wk_9 S V, nc, cl_k S V hc, cl_r S V hc, cl_p S V hc, cl_q S V hc, zq_rf, hzc]; done) | (simp only [zC_n, zC_r, S.n, wr_0_0 S V, wr_0_1 S V, nc, cl_r S V hc, cl_p S V hc, zq_rf]; have := V.lt; omega)), zC_r, zC_r, wr_0_1 S V, zq_rf, nc, cl_r S V hc, zq_rf, zC_wi (by omega), nI_s]
  have hc : 0 < 3 := by decide
  have puts : ∀ d i x y, i + d = k → Gw x y → ∃ x' y', zv 7 76 43 [.ref W, .ref 199, .int (nI i)] [] (zC h W x y) = zv 7 76 80 [.ref W, .ref 199, .int (nI k)] [] (zC h W x' y') ∧ Gw x' y' := by
    intro d
    induction d with
    | zero =>
      intro i x y hi0 G
      have e : i = k := by omega
      subst e
      exact ⟨x, y, by rw [b76_43 (by rw [zC_n, S.n]; decide) (by rw [zC_k, sk_199 S]), zC_io _ (by omega), ek, if_neg Int32.lt_irrefl], G⟩
    | succ d ih =>
      intro i x y hi0 G
      obtain ⟨⟨a, ea, ha⟩, q, eq, hq⟩ := hi i (by omega)
      obtain ⟨w, x', y', e, G'⟩ := G.carry S V (h := h) ha hq (u3 := .double 0) (u4 := .double 0)
      have zz : ¬ (nI i < 0 ∨ 40 ≤ (nI i).toNatClampNeg) := zj_n (by omega) (by decide)
      rw [b76_43 (by rw [zC_n, S.n]; decide) (by rw [zC_k, sk_199 S]), zC_io _ (by omega), ek, if_pos (nI_lt (by omega) (by omega)), b76_51, if_pos (show nI i < 40 from nI_lt (b := 40) (by omega) (by decide)), b76_57 (by rw [zC_n, S.n]; decide) (by rw [zC_k, sk_199 S]) (by rw [zC_r, sr_5 S, zq_rf]) (by rw [zC_r, sr_5 S, zq_rf, zC_n, S.n]; decide) (by rw [zC_r, sr_5 S, zq_rf, zC_k, sk_200 S]; exact zz) (by rw [zC_r, sr_5 S, zq_rf, zC_k, sk_200 S]) (by rw [zC_r, sr_6 S, zq_rf]) (by rw [zC_r, sr_6 S, zq_rf, zC_n, S.n]; decide) (by rw [zC_r, sr_6 S, zq_rf, zC_k, sk_201 S]; exact zz) (by rw [zC_r, sr_6 S, zq_rf, zC_k, sk_201 S]) (by first | (simp only [zC_n, zC_k, zC_r, S.n, wk_0 S V, wk_1 S V, wr_0_0 S V, wr_0_1 S V, wk_9 S V, cl_k S V hc, cl_r S V hc, cl_p S V hc, cl_q S V hc, zq_rf]; done) | (simp only [zC_n, zC_r, S.n, wr_0_0 S V, wr_0_1 S V, cl_r S V hc, cl_p S V hc, zq_rf]; have := V.lt; omega)) (by first | (simp only [zC_n, zC_k, zC_r, S.n, wk_0 S V, wk_1 S V, wr_0_0 S V, wr_0_1 S V, wk_9 S V, cl_k S V hc, cl_r S V hc, cl_p S V hc, cl_q S V hc, zq_rf]; done) | (simp only [zC_n, zC_r, S.n, wr_0_0 S V, wr_0_1 S V, cl_r S V hc, cl_p S V hc, zq_rf]; have := V.lt; omega)), zC_r, zC_r, sr_5 S, sr_6 S, zq_rf, zq_rf, nI_clamp (by omega), zC_io _ (by omega), zC_io _ (by omega), ea, eq, e]
      simp only [Option.bind_some, Option.toList_some, Option.toList_none, List.cons_append, List.nil_append]
      rw [b76_73, nI_s]
      exact ih (i + 1) x' y' (by omega) G'
  have fnd : ∀ d c x y, c + d = 3 → Gw x y → ∃ x' y', zv 7 76 82 [.ref W, .ref 199, .int (nI c)] [] (zC h W x y) = some (none, zC h W x' y') ∧ Gw x' y' := by
    intro d
    induction d with
    | zero =>
      intro c x y hi0 G
      have e : c = 3 := by omega
      subst e
      exact ⟨x, y, by rw [b76_82, if_neg (by decide), b76_114], G⟩
    | succ d ih =>
      intro c x y hi0 G
      have zz : ¬ (nI c < 0 ∨ 3 ≤ (nI c).toNatClampNeg) := zj_n (by omega) (by decide)
      rw [b76_82, if_pos (show nI c < 3 from nI_lt (b := 3) (by omega) (by decide)), b76_87 (by rw [zC_n, S.n]; decide) (by rw [zC_k, sk_199 S]) (by rw [zC_r, sr_7 S, zq_rf]) (by rw [zC_r, sr_7 S, zq_rf, zC_n, S.n]; decide) (by rw [zC_r, sr_7 S, zq_rf, zC_k, sk_202 S]; exact zz) (by rw [zC_r, sr_7 S, zq_rf, zC_k, sk_202 S]), zC_r, sr_7 S, zq_rf, nI_clamp (by omega), zC_io _ (by omega)]
      by_cases q0 : zh_i h 202 c < 0
      · rw [if_pos q0, b76_108, nI_s]
        exact ih (c + 1) x y (by omega) G
      · obtain ⟨q, eq, hq⟩ := (hf c (by omega)).resolve_left q0
        obtain ⟨x', e, G'⟩ := G.start S V (h := h) (c := c) (by omega) (a := 0) (by decide) hq (u4 := .double 0)
        have e' : zv 4 77 0 [.ref W, .int (nI c), .int 0, .int (nI q), .double 0] [] (zC h W x y) = some (none, zC h W x' y) := e
        rw [if_neg q0, b76_96 (by rw [zC_n, S.n]; decide) (by rw [zC_k, sk_199 S]) (by rw [zC_r, sr_7 S, zq_rf]) (by rw [zC_r, sr_7 S, zq_rf, zC_n, S.n]; decide) (by rw [zC_r, sr_7 S, zq_rf, zC_k, sk_202 S]; exact zz) (by rw [zC_r, sr_7 S, zq_rf, zC_k, sk_202 S]) (by first | (simp only [zC_n, zC_k, zC_r, S.n, wk_0 S V, wk_1 S V, wr_0_0 S V, wr_0_1 S V, wk_9 S V, cl_k S V hc, cl_r S V hc, cl_p S V hc, cl_q S V hc, zq_rf]; done) | (simp only [zC_n, zC_r, S.n, wr_0_0 S V, wr_0_1 S V, cl_r S V hc, cl_p S V hc, zq_rf]; have := V.lt; omega)) (by first | (simp only [zC_n, zC_k, zC_r, S.n, wk_0 S V, wk_1 S V, wr_0_0 S V, wr_0_1 S V, wk_9 S V, cl_k S V hc, cl_r S V hc, cl_p S V hc, cl_q S V hc, zq_rf]; done) | (simp only [zC_n, zC_r, S.n, wr_0_0 S V, wr_0_1 S V, cl_r S V hc, cl_p S V hc, zq_rf]; have := V.lt; omega)), zC_r, sr_7 S, zq_rf, nI_clamp (by omega), zC_io _ (by omega), eq, e']
        simp only [Option.bind_some, Option.toList_some, Option.toList_none, List.cons_append, List.nil_append]
        rw [b76_108, nI_s]
        exact ih (c + 1) x' y (by omega) G'
  obtain ⟨x2, ex2⟩ : ∃ x2, x2 = u2 (u2 (u2 (u2 (clF x) (10 + 2 * 0) 0 0) (10 + 2 * 1) 0 0) (10 + 2 * 2) 0 0) 1 2 (nI v) := ⟨_, rfl⟩
  have G2 : Gw x2 (u2 y 6 0 false) := by
    have g : ∀ o j, o < 9 → (o ≠ 1 ∨ j ≠ 2) → x2 o j = clF x o j := fun o j ho hj => by rw [ex2, u2_n _ _ (by omega), u2_n _ _ (by omega), u2_n _ _ (by omega), u2_n _ _ (by omega)]
    refine Gw.fresh v2 v4 ?_ ?_ ?_ ?_ ?_ ?_ ?_ (u2_s _ _ _ _) (fun c hc => ?_)
    · rw [g _ _ (by decide) (by decide)]; rfl
    · rw [g _ _ (by decide) (by decide)]; rfl
    · rw [ex2, u2_s]
    · rw [g _ _ (by decide) (by decide)]; rfl
    · rw [g _ _ (by decide) (by decide)]; rfl
    · rw [g _ _ (by decide) (by decide)]; rfl
    · rw [g _ _ (by decide) (by decide)]; rfl
    · have : c = 0 ∨ c = 1 ∨ c = 2 := by omega
      rcases this with rfl | rfl | rfl
      · rw [ex2, u2_n _ _ (by omega), u2_n _ _ (by omega), u2_n _ _ (by omega), u2_s]
      · rw [ex2, u2_n _ _ (by omega), u2_n _ _ (by omega), u2_s]
      · rw [ex2, u2_n _ _ (by omega), u2_s]
  obtain ⟨x3, y3, e3, G3⟩ := puts k 0 x2 (u2 y 6 0 false) (Nat.zero_add _) G2
  obtain ⟨x4, y4, e4, G4⟩ := fnd 3 0 x3 y3 rfl G3
  refine ⟨x4, y4, ?_, G4⟩
  have i1 := idl 0 (by decide) (x := clF x)
  have i2 := idl 1 (by decide) (x := u2 (clF x) (10 + 2 * 0) 0 0)
  have i3 := idl 2 (by decide) (x := u2 (u2 (clF x) (10 + 2 * 0) 0 0) (10 + 2 * 1) 0 0)
  rw [b76_0 (by first | (simp only [zC_n, zC_k, zC_r, S.n, wk_0 S V, wk_1 S V, wr_0_0 S V, wr_0_1 S V, wk_9 S V, cl_k S V hc, cl_r S V hc, cl_p S V hc, cl_q S V hc, zq_rf]; done) | (simp only [zC_n, zC_r, S.n, wr_0_0 S V, wr_0_1 S V, cl_r S V hc, cl_p S V hc, zq_rf]; have := V.lt; omega)) (by first | (simp only [zC_n, zC_k, zC_r, S.n, wk_0 S V, wk_1 S V, wr_0_0 S V, wr_0_1 S V, wk_9 S V, cl_k S V hc, cl_r S V hc, cl_p S V hc, cl_q S V hc, zq_rf]; done) | (simp only [zC_n, zC_r, S.n, wr_0_0 S V, wr_0_1 S V, cl_r S V hc, cl_p S V hc, zq_rf]; have := V.lt; omega)) (by first | (simp only [zC_n, zC_k, zC_r, S.n, wk_0 S V, wk_1 S V, wr_0_0 S V, wr_0_1 S V, wk_9 S V, cl_k S V hc, cl_r S V hc, cl_p S V hc, cl_q S V hc, zq_rf]; done) | (simp only [zC_n, zC_r, S.n, wr_0_0 S V, wr_0_1 S V, cl_r S V hc, cl_p S V hc, zq_rf]; have := V.lt; omega)) (by first | (simp only [zC_n, zC_k, zC_r, S.n, wk_0 S V, wk_1 S V, wr_0_0 S V, wr_0_1 S V, wk_9 S V, cl_k S V hc, cl_r S V hc, cl_p S V hc, cl_q S V hc, zq_rf]; done) | (simp only [zC_n, zC_r, S.n, wr_0_0 S V, wr_0_1 S V, cl_r S V hc, cl_p S V hc, zq_rf]; have := V.lt; omega)) (by first | (simp only [zC_n, zC_k, zC_r, S.n, wk_0 S V, wk_1 S V, wr_0_0 S V, wr_0_1 S V, wk_9 S V, cl_k S V hc, cl_r S V hc, cl_p S V hc, cl_q S V hc, zq_rf]; done) | (simp only [zC_n, zC_r, S.n, wr_0_0 S V, wr_0_1 S V, cl_r S V hc, cl_p S V hc, zq_rf]; have := V.lt; omega)), zC_r, wr_0_0 S V, zq_rf, t_cl S V]
  simp only [Option.bind_some, Option.toList_some, Option.toList_none, List.cons_append, List.nil_append]
  rw [b76_7, show (Value.int 0) = Value.int (nI 0) from rfl, i1, i2, i3, b76_9, if_neg (by decide), b76_30 (by first | (simp only [zC_n, zC_k, zC_r, S.n, wk_0 S V, wk_1 S V, wr_0_0 S V, wr_0_1 S V, wk_9 S V, cl_k S V hc, cl_r S V hc, cl_p S V hc, cl_q S V hc, zq_rf]; done) | (simp only [zC_n, zC_r, S.n, wr_0_0 S V, wr_0_1 S V, cl_r S V hc, cl_p S V hc, zq_rf]; have := V.lt; omega)) (by first | (simp only [zC_n, zC_k, zC_r, S.n, wk_0 S V, wk_1 S V, wr_0_0 S V, wr_0_1 S V, wk_9 S V, cl_k S V hc, cl_r S V hc, cl_p S V hc, cl_q S V hc, zq_rf]; done) | (simp only [zC_n, zC_r, S.n, wr_0_0 S V, wr_0_1 S V, cl_r S V hc, cl_p S V hc, zq_rf]; have := V.lt; omega)) (by first | (simp only [zC_n, zC_k, zC_r, S.n, wk_0 S V, wk_1 S V, wr_0_0 S V, wr_0_1 S V, wk_9 S V, cl_k S V hc, cl_r S V hc, cl_p S V hc, cl_q S V hc, zq_rf]; done) | (simp only [zC_n, zC_r, S.n, wr_0_0 S V, wr_0_1 S V, cl_r S V hc, cl_p S V hc, zq_rf]; have := V.lt; omega)) (by rw [zC_n, S.n]; decide) (by rw [zC_k, sk_199 S]) (by first | (simp only [zC_n, zC_k, zC_r, S.n, wk_0 S V, wk_1 S V, wr_0_0 S V, wr_0_1 S V, wk_9 S V, cl_k S V hc, cl_r S V hc, cl_p S V hc, cl_q S V hc, zq_rf]; done) | (simp only [zC_n, zC_r, S.n, wr_0_0 S V, wr_0_1 S V, cl_r S V hc, cl_p S V hc, zq_rf]; have := V.lt; omega)) (by first | (simp only [zC_n, zC_k, zC_r, S.n, wk_0 S V, wk_1 S V, wr_0_0 S V, wr_0_1 S V, wk_9 S V, cl_k S V hc, cl_r S V hc, cl_p S V hc, cl_q S V hc, zq_rf]; done) | (simp only [zC_n, zC_r, S.n, wr_0_0 S V, wr_0_1 S V, cl_r S V hc, cl_p S V hc, zq_rf]; have := V.lt; omega)), zC_r, wr_0_0 S V, zq_rf, zC_io _ (by omega), ev, zC_wi (by decide), ← ex2, show (Value.int 0) = Value.int (nI 0) from rfl, e3, b76_80, show (Value.int 0) = Value.int (nI 0) from rfl, e4]
end R32G
