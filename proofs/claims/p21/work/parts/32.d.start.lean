/-! THE CLASS'S WORLD: a client starts, steps, is idle -/
section R32D
variable {h : zi_Hp} {W : Nat} {x x1 : Nat → Nat → Int32} {y y1 : Nat → Nat → Bool} {s : Nat → Int32} {N R M B c n : Nat} {L m H r : Nat → Nat} {K C : Nat → Nat → Nat} {f : Nat → Nat}
def fiF (x : Nat → Nat → Int32) (o k : Nat) (v : Int32) : Nat → Nat → Int32 := fun a j => if a = o ∧ k ≤ j ∧ j < 24 then v else x a j
theorem fi_e {o : Nat} {v : Int32} : fiF x o 24 v = x := by
  funext a j
  unfold fiF
  rw [if_neg (by omega)]
theorem fi_u {o k : Nat} {v : Int32} (hk : k < 24) : fiF (u2 x o k v) o (k + 1) v = fiF x o k v := by
  funext a j
  unfold fiF u2
  by_cases h1 : a = o ∧ k + 1 ≤ j ∧ j < 24
  · rw [if_pos h1, if_pos (by omega)]
  · rw [if_neg h1]
    by_cases h2 : a = o ∧ j = k
    · rw [if_pos h2, if_pos (by omega)]
    · rw [if_neg h2, if_neg (by omega)]
theorem k_fi (S : Sh h) (V : Wa W) (hc : c < 3) {v : Int32} : ∀ d k x, k + d = 24 → zv 1 241 5 [.ref (W + (11 + 2 * c)), .int v, .int (nI k), .int (nI 24)] [] (zC h W x y) = some (none, zC h W (fiF x (11 + 2 * c) k v) y)
  | 0, k, x, hk => by
    have e : k = 24 := by omega
    subst e
    rw [b241_5, if_neg Int32.lt_irrefl, b241_20, fi_e]
  | d + 1, k, x, hk => by
    have hzc : ¬ (nI k < 0 ∨ 24 ≤ (nI k).toNatClampNeg) := zj_n (by omega) (by decide)
    have nc : (nI c).toNatClampNeg = c := nI_clamp (by omega)
    rw [b241_5, if_pos (nI_lt (by omega) (by omega)), b241_10 (by first | (simp +decide only [zC_n, zC_k, zC_r, S.n, wk_0 S V, wk_1 S V, wr_0_0 S V, wr_0_1 S V, wk_9 S V, nc, cl_k S V hc, cl_r S V hc, cl_p S V hc, cl_q S V hc, zq_rf, hzc]; done) | (simp only [zC_n, zC_r, S.n, wr_0_0 S V, wr_0_1 S V, nc, cl_r S V hc, cl_p S V hc, zq_rf]; have := V.lt; omega)) (by first | (simp +decide only [zC_n, zC_k, zC_r, S.n, wk_0 S V, wk_1 S V, wr_0_0 S V, wr_0_1 S V, wk_9 S V, nc, cl_k S V hc, cl_r S V hc, cl_p S V hc, cl_q S V hc, zq_rf, hzc]; done) | (simp only [zC_n, zC_r, S.n, wr_0_0 S V, wr_0_1 S V, nc, cl_r S V hc, cl_p S V hc, zq_rf]; have := V.lt; omega)) (by first | (simp +decide only [zC_n, zC_k, zC_r, S.n, wk_0 S V, wk_1 S V, wr_0_0 S V, wr_0_1 S V, wk_9 S V, nc, cl_k S V hc, cl_r S V hc, cl_p S V hc, cl_q S V hc, zq_rf, hzc]; done) | (simp only [zC_n, zC_r, S.n, wr_0_0 S V, wr_0_1 S V, nc, cl_r S V hc, cl_p S V hc, zq_rf]; have := V.lt; omega)), nI_s, nI_clamp (by omega), zC_wi (by omega), k_fi S V hc d (k + 1) _ (by omega), fi_u (by omega)]
def sgK (x : Nat → Nat → Int32) (c : Nat) (act key root : Int32) : Nat → Nat → Int32 := u2 (u2 (u2 (u2 (u2 (u2 (u2 (fiF (u2 (u2 x (10 + 2 * c) 0 0) (10 + 2 * c) 4 (-4)) (11 + 2 * c) 0 (-4)) (10 + 2 * c) 0 1) (10 + 2 * c) 1 act) (10 + 2 * c) 2 key) (10 + 2 * c) 3 root) (10 + 2 * c) 5 0) (10 + 2 * c) 6 0) (10 + 2 * c) 7 0
theorem k_sa (S : Sh h) (V : Wa W) (hc : c < 3) {act key root : Int32} : zv 3 2 0 [.ref (W + (10 + 2 * c)), .int act, .int key, .int root] [] (zC h W x y) = some (none, zC h W (sgK x c act key root) y) := by
  have hzc : True := trivial
  have nc : (nI c).toNatClampNeg = c := nI_clamp (by omega)
  rw [b2_0 (by first | (simp +decide only [zC_n, zC_k, zC_r, S.n, wk_0 S V, wk_1 S V, wr_0_0 S V, wr_0_1 S V, wk_9 S V, nc, cl_k S V hc, cl_r S V hc, cl_p S V hc, cl_q S V hc, zq_rf, hzc]; done) | (simp only [zC_n, zC_r, S.n, wr_0_0 S V, wr_0_1 S V, nc, cl_r S V hc, cl_p S V hc, zq_rf]; have := V.lt; omega)) (by first | (simp +decide only [zC_n, zC_k, zC_r, S.n, wk_0 S V, wk_1 S V, wr_0_0 S V, wr_0_1 S V, wk_9 S V, nc, cl_k S V hc, cl_r S V hc, cl_p S V hc, cl_q S V hc, zq_rf, hzc]; done) | (simp only [zC_n, zC_r, S.n, wr_0_0 S V, wr_0_1 S V, nc, cl_r S V hc, cl_p S V hc, zq_rf]; have := V.lt; omega)), b1_0 (by first | (simp +decide only [zC_n, zC_k, zC_r, S.n, wk_0 S V, wk_1 S V, wr_0_0 S V, wr_0_1 S V, wk_9 S V, nc, cl_k S V hc, cl_r S V hc, cl_p S V hc, cl_q S V hc, zq_rf, hzc]; done) | (simp only [zC_n, zC_r, S.n, wr_0_0 S V, wr_0_1 S V, nc, cl_r S V hc, cl_p S V hc, zq_rf]; have := V.lt; omega)) (by first | (simp +decide only [zC_n, zC_k, zC_r, S.n, wk_0 S V, wk_1 S V, wr_0_0 S V, wr_0_1 S V, wk_9 S V, nc, cl_k S V hc, cl_r S V hc, cl_p S V hc, cl_q S V hc, zq_rf, hzc]; done) | (simp only [zC_n, zC_r, S.n, wr_0_0 S V, wr_0_1 S V, nc, cl_r S V hc, cl_p S V hc, zq_rf]; have := V.lt; omega)) (by first | (simp +decide only [zC_n, zC_k, zC_r, S.n, wk_0 S V, wk_1 S V, wr_0_0 S V, wr_0_1 S V, wk_9 S V, nc, cl_k S V hc, cl_r S V hc, cl_p S V hc, cl_q S V hc, zq_rf, hzc]; done) | (simp only [zC_n, zC_r, S.n, wr_0_0 S V, wr_0_1 S V, nc, cl_r S V hc, cl_p S V hc, zq_rf]; have := V.lt; omega)), zC_r, cl_p S V hc, zq_rf, zC_wi (by omega), zC_wi (by omega), b241_0 (by rw [zC_k, cl_q S V hc]; decide) (by first | (simp +decide only [zC_n, zC_k, zC_r, S.n, wk_0 S V, wk_1 S V, wr_0_0 S V, wr_0_1 S V, wk_9 S V, nc, cl_k S V hc, cl_r S V hc, cl_p S V hc, cl_q S V hc, zq_rf, hzc]; done) | (simp only [zC_n, zC_r, S.n, wr_0_0 S V, wr_0_1 S V, nc, cl_r S V hc, cl_p S V hc, zq_rf]; have := V.lt; omega)), zC_k, cl_q S V hc, show (Value.int 0) = Value.int (nI 0) from rfl, show (Int32.ofNat 24) = nI 24 from rfl, k_fi S V hc 24 0 _ rfl]
  simp only [Option.bind_some, Option.toList_some, Option.toList_none, List.cons_append, List.nil_append]
  rw [b1_20]
  simp only [Option.bind_some, Option.toList_some, Option.toList_none, List.cons_append, List.nil_append]
  rw [b2_4 (by first | (simp +decide only [zC_n, zC_k, zC_r, S.n, wk_0 S V, wk_1 S V, wr_0_0 S V, wr_0_1 S V, wk_9 S V, nc, cl_k S V hc, cl_r S V hc, cl_p S V hc, cl_q S V hc, zq_rf, hzc]; done) | (simp only [zC_n, zC_r, S.n, wr_0_0 S V, wr_0_1 S V, nc, cl_r S V hc, cl_p S V hc, zq_rf]; have := V.lt; omega)) (by first | (simp +decide only [zC_n, zC_k, zC_r, S.n, wk_0 S V, wk_1 S V, wr_0_0 S V, wr_0_1 S V, wk_9 S V, nc, cl_k S V hc, cl_r S V hc, cl_p S V hc, cl_q S V hc, zq_rf, hzc]; done) | (simp only [zC_n, zC_r, S.n, wr_0_0 S V, wr_0_1 S V, nc, cl_r S V hc, cl_p S V hc, zq_rf]; have := V.lt; omega)), zC_wi (by omega), zC_wi (by omega), zC_wi (by omega), zC_wi (by omega), zC_wi (by omega), zC_wi (by omega), zC_wi (by omega)]; rfl
section
variable {act key root : Int32}
theorem sg_o {o j : Nat} (e : o ≠ 10 + 2 * c) (e2 : o ≠ 11 + 2 * c) : sgK x c act key root o j = x o j := by
  unfold sgK
  rw [u2_n _ _ (by omega), u2_n _ _ (by omega), u2_n _ _ (by omega), u2_n _ _ (by omega), u2_n _ _ (by omega), u2_n _ _ (by omega), u2_n _ _ (by omega)]
  unfold fiF
  rw [if_neg (by omega), u2_n _ _ (by omega), u2_n _ _ (by omega)]
theorem sg_p {j : Nat} (hj : j < 24) : sgK x c act key root (11 + 2 * c) j = -4 := by
  unfold sgK
  rw [u2_n _ _ (by omega), u2_n _ _ (by omega), u2_n _ _ (by omega), u2_n _ _ (by omega), u2_n _ _ (by omega), u2_n _ _ (by omega), u2_n _ _ (by omega)]
  unfold fiF
  rw [if_pos (by omega)]
theorem sg_0 : sgK x c act key root (10 + 2 * c) 0 = 1 := by
  unfold sgK
  rw [u2_n _ _ (by omega), u2_n _ _ (by omega), u2_n _ _ (by omega), u2_n _ _ (by omega), u2_n _ _ (by omega), u2_n _ _ (by omega), u2_s]
theorem sg_1 : sgK x c act key root (10 + 2 * c) 1 = act := by
  unfold sgK
  rw [u2_n _ _ (by omega), u2_n _ _ (by omega), u2_n _ _ (by omega), u2_n _ _ (by omega), u2_n _ _ (by omega), u2_s]
theorem sg_2 : sgK x c act key root (10 + 2 * c) 2 = key := by
  unfold sgK
  rw [u2_n _ _ (by omega), u2_n _ _ (by omega), u2_n _ _ (by omega), u2_n _ _ (by omega), u2_s]
theorem sg_3 : sgK x c act key root (10 + 2 * c) 3 = root := by
  unfold sgK
  rw [u2_n _ _ (by omega), u2_n _ _ (by omega), u2_n _ _ (by omega), u2_s]
theorem sg_4 : sgK x c act key root (10 + 2 * c) 4 = -4 := by
  unfold sgK
  rw [u2_n _ _ (by omega), u2_n _ _ (by omega), u2_n _ _ (by omega), u2_n _ _ (by omega), u2_n _ _ (by omega), u2_n _ _ (by omega), u2_n _ _ (by omega)]
  unfold fiF
  rw [if_neg (by omega), u2_s]
theorem sg_5 : sgK x c act key root (10 + 2 * c) 5 = 0 := by
  unfold sgK
  rw [u2_n _ _ (by omega), u2_n _ _ (by omega), u2_s]
theorem sg_6 : sgK x c act key root (10 + 2 * c) 6 = 0 := by
  unfold sgK
  rw [u2_n _ _ (by omega), u2_s]
theorem sg_7 : sgK x c act key root (10 + 2 * c) 7 = 0 := by
  unfold sgK
  rw [u2_s]
theorem bf_0 : bfF s c act key (315 + 24 * c) = 1 := by unfold bfF; rw [up_n _ _ (by omega), up_n _ _ (by omega), up_n _ _ (by omega), up_n _ _ (by omega), up_s]
theorem bf_1 : bfF s c act key (315 + 24 * c + 1) = act := by unfold bfF; rw [up_n _ _ (by omega), up_n _ _ (by omega), up_n _ _ (by omega), up_s]
theorem bf_2 : bfF s c act key (315 + 24 * c + 2) = key := by unfold bfF; rw [up_n _ _ (by omega), up_n _ _ (by omega), up_s]
theorem bf_3 : bfF s c act key (315 + 24 * c + 3) = s 313 := by unfold bfF; rw [up_n _ _ (by omega), up_s]
theorem bf_4 : bfF s c act key (315 + 24 * c + 4) = -4 := by unfold bfF; rw [up_s]
theorem bf_w {w : Nat} (h5 : 5 ≤ w) (h7 : w ≤ 7) : bfF s c act key (315 + 24 * c + w) = 0 := by
  unfold bfF
  rw [up_n _ _ (by omega), up_n _ _ (by omega), up_n _ _ (by omega), up_n _ _ (by omega), up_n _ _ (by omega)]
  unfold flF
  rw [if_neg (by omega), if_pos (by omega)]
end
/-- a client starts -/
theorem k_st (S : Sh h) (V : Wa W) (T : CR x y s N m) (I : InvG s N R M B L m H r K C f) (hc : c < 3) {a k : Nat} (ha : a ≤ 2) (hk : k ≤ 99) {u4 : Value} : ∃ x', zv 4 77 0 [.ref W, .int (nI c), .int (nI a), .int (nI k), u4] [] (zC h W x y) = some (none, zC h W x' y) ∧ CR x' y (beF s c (nI a) (nI k)) N m := by
  obtain ⟨eN, hN1, hN, hM, hR⟩ := T.tr I
  obtain ⟨x1, ex1⟩ : ∃ x1, x1 = sgK x c (nI a) (nI k) (x 1 1) := ⟨_, rfl⟩
  obtain ⟨t, et⟩ : ∃ t, t = bfF s c (nI a) (nI k) := ⟨_, rfl⟩
  have J : InvG t N R M B L m H r K C f := by rw [et]; exact I.bf hc ha hk
  have x1o : ∀ o j, o < 10 → x1 o j = x o j := fun o j ho => by rw [ex1, sg_o (by omega) (by omega)]
  have hm : ∀ n, n < N → m n ≤ 4 := fun n hn => by have := (I.1.2.2.2.1 n hn).2.2.2.2.2.2.2.1; have := I.1.2.2.1.2.2; omega
  have kc : KR x1 y t c := by
    unfold KR
    have e0 : t (315 + 24 * c) = 1 := by rw [et, bf_0]
    rw [e0]
    refine ⟨by rw [ex1, sg_0], fun _ w h1 h7 => ?_, fun q => ?_, fun _ _ l hl => by rw [ex1, sg_p (by omega), et, bf_p hl]⟩
    · have : w = 1 ∨ w = 2 ∨ w = 3 ∨ w = 4 ∨ w = 5 ∨ w = 6 ∨ w = 7 := by omega
      rcases this with rfl | rfl | rfl | rfl | rfl | rfl | rfl
      · rw [ex1, sg_1, et, bf_1]
      · rw [ex1, sg_2, et, bf_2]
      · rw [ex1, sg_3, et, bf_3]; exact T.1.1.2.1
      · rw [ex1, sg_4, et, bf_4]
      · rw [ex1, sg_5, et, bf_w (by decide) (by decide)]
      · rw [ex1, sg_6, et, bf_w (by decide) (by decide)]
      · rw [ex1, sg_7, et, bf_w (by decide) (by decide)]
    · rcases q with q | q <;> exact absurd q (by decide)
  have tn : ∀ j, j < 315 → t j = s j := fun j hj => by rw [et, bf_o (by omega)]
  have P : NB x1 y t N m := NB.of T (c := c) (T.1.cl hN hm (fun o j ho => x1o o j (by omega)) (fun _ => rfl) tn) (fun j _ hj => by rw [et, bf_o (by omega)]) (fun o j _ h9 h10 => by rw [ex1, sg_o h9 h10]) (fun _ _ _ _ => rfl) kc
  obtain ⟨b, eb, hb⟩ := k_no S V hc (y := y) (x := x1) (by rw [x1o _ _ (by decide)]; exact eN) hN (M := m) (fun n hn => ⟨by rw [x1o _ _ (by decide)]; exact (hM n hn).1, (hM n hn).2⟩)
  have hbt : b = thA t (nI k) := by
    rw [ex1, sg_2, ← ex1] at hb
    exact P.1.th J hb
  have ebe : beF s c (nI a) (nI k) = up t (315 + 24 * c + 5) (1 <<< (zi_bI b &&& 31)) := by rw [hbt, et]; rfl
  have eno : noK x1 c b = u2 x1 (10 + 2 * c) 5 (1 <<< (zi_bI b &&& 31)) := by
    unfold noK
    rw [show x1 (10 + 2 * c) 5 = 0 by rw [ex1, sg_5], Int32.zero_or, bit_b]
  have Q := P.w hN hm hc (w := 5) (by decide) (by decide) (1 <<< (zi_bI b &&& 31))
  refine ⟨noK x1 c b, ?_, ?_⟩
  · have nc : (nI c).toNatClampNeg = c := nI_clamp (by omega)
    have hzc : ¬ (nI c < 0 ∨ 3 ≤ c) := by have q := zj_n (N := 3) hc (by decide); rw [nc] at q; exact q
    rw [b77_0 (by first | (simp +decide only [zC_n, zC_k, zC_r, S.n, wk_0 S V, wk_1 S V, wr_0_0 S V, wr_0_1 S V, wk_9 S V, nc, cl_k S V hc, cl_r S V hc, cl_p S V hc, cl_q S V hc, zq_rf, hzc]; done) | (simp only [zC_n, zC_r, S.n, wr_0_0 S V, wr_0_1 S V, nc, cl_r S V hc, cl_p S V hc, zq_rf]; have := V.lt; omega)) (by first | (simp +decide only [zC_n, zC_k, zC_r, S.n, wk_0 S V, wk_1 S V, wr_0_0 S V, wr_0_1 S V, wk_9 S V, nc, cl_k S V hc, cl_r S V hc, cl_p S V hc, cl_q S V hc, zq_rf, hzc]; done) | (simp only [zC_n, zC_r, S.n, wr_0_0 S V, wr_0_1 S V, nc, cl_r S V hc, cl_p S V hc, zq_rf]; have := V.lt; omega)) (by first | (simp +decide only [zC_n, zC_k, zC_r, S.n, wk_0 S V, wk_1 S V, wr_0_0 S V, wr_0_1 S V, wk_9 S V, nc, cl_k S V hc, cl_r S V hc, cl_p S V hc, cl_q S V hc, zq_rf, hzc]; done) | (simp only [zC_n, zC_r, S.n, wr_0_0 S V, wr_0_1 S V, nc, cl_r S V hc, cl_p S V hc, zq_rf]; have := V.lt; omega)) (by first | (simp +decide only [zC_n, zC_k, zC_r, S.n, wk_0 S V, wk_1 S V, wr_0_0 S V, wr_0_1 S V, wk_9 S V, nc, cl_k S V hc, cl_r S V hc, cl_p S V hc, cl_q S V hc, zq_rf, hzc]; done) | (simp only [zC_n, zC_r, S.n, wr_0_0 S V, wr_0_1 S V, nc, cl_r S V hc, cl_p S V hc, zq_rf]; have := V.lt; omega)) (by first | (simp +decide only [zC_n, zC_k, zC_r, S.n, wk_0 S V, wk_1 S V, wr_0_0 S V, wr_0_1 S V, wk_9 S V, nc, cl_k S V hc, cl_r S V hc, cl_p S V hc, cl_q S V hc, zq_rf, hzc]; done) | (simp only [zC_n, zC_r, S.n, wr_0_0 S V, wr_0_1 S V, nc, cl_r S V hc, cl_p S V hc, zq_rf]; have := V.lt; omega)) (by first | (simp +decide only [zC_n, zC_k, zC_r, S.n, wk_0 S V, wk_1 S V, wr_0_0 S V, wr_0_1 S V, wk_9 S V, nc, cl_k S V hc, cl_r S V hc, cl_p S V hc, cl_q S V hc, zq_rf, hzc]; done) | (simp only [zC_n, zC_r, S.n, wr_0_0 S V, wr_0_1 S V, nc, cl_r S V hc, cl_p S V hc, zq_rf]; have := V.lt; omega)) (by first | (simp +decide only [zC_n, zC_k, zC_r, S.n, wk_0 S V, wk_1 S V, wr_0_0 S V, wr_0_1 S V, wk_9 S V, nc, cl_k S V hc, cl_r S V hc, cl_p S V hc, cl_q S V hc, zq_rf, hzc]; done) | (simp only [zC_n, zC_r, S.n, wr_0_0 S V, wr_0_1 S V, nc, cl_r S V hc, cl_p S V hc, zq_rf]; have := V.lt; omega)) (by first | (simp +decide only [zC_n, zC_k, zC_r, S.n, wk_0 S V, wk_1 S V, wr_0_0 S V, wr_0_1 S V, wk_9 S V, nc, cl_k S V hc, cl_r S V hc, cl_p S V hc, cl_q S V hc, zq_rf, hzc]; done) | (simp only [zC_n, zC_r, S.n, wr_0_0 S V, wr_0_1 S V, nc, cl_r S V hc, cl_p S V hc, zq_rf]; have := V.lt; omega)) (by first | (simp +decide only [zC_n, zC_k, zC_r, S.n, wk_0 S V, wk_1 S V, wr_0_0 S V, wr_0_1 S V, wk_9 S V, nc, cl_k S V hc, cl_r S V hc, cl_p S V hc, cl_q S V hc, zq_rf, hzc]; done) | (simp only [zC_n, zC_r, S.n, wr_0_0 S V, wr_0_1 S V, nc, cl_r S V hc, cl_p S V hc, zq_rf]; have := V.lt; omega)) (by first | (simp +decide only [zC_n, zC_k, zC_r, S.n, wk_0 S V, wk_1 S V, wr_0_0 S V, wr_0_1 S V, wk_9 S V, nc, cl_k S V hc, cl_r S V hc, cl_p S V hc, cl_q S V hc, zq_rf, hzc]; done) | (simp only [zC_n, zC_r, S.n, wr_0_0 S V, wr_0_1 S V, nc, cl_r S V hc, cl_p S V hc, zq_rf]; have := V.lt; omega)) (by first | (simp +decide only [zC_n, zC_k, zC_r, S.n, wk_0 S V, wk_1 S V, wr_0_0 S V, wr_0_1 S V, wk_9 S V, nc, cl_k S V hc, cl_r S V hc, cl_p S V hc, cl_q S V hc, zq_rf, hzc]; done) | (simp only [zC_n, zC_r, S.n, wr_0_0 S V, wr_0_1 S V, nc, cl_r S V hc, cl_p S V hc, zq_rf]; have := V.lt; omega)) (by first | (simp +decide only [zC_n, zC_k, zC_r, S.n, wk_0 S V, wk_1 S V, wr_0_0 S V, wr_0_1 S V, wk_9 S V, nc, cl_k S V hc, cl_r S V hc, cl_p S V hc, cl_q S V hc, zq_rf, hzc]; done) | (simp only [zC_n, zC_r, S.n, wr_0_0 S V, wr_0_1 S V, nc, cl_r S V hc, cl_p S V hc, zq_rf]; have := V.lt; omega))]
    simp only [zC_r, wr_0_1 S V, wr_0_0 S V, zq_rf, nc, cl_r S V hc]
    rw [zC_i (by decide), k_sa S V hc, ← ex1]
    simp only [Option.bind_some, Option.toList_some, Option.toList_none, List.cons_append, List.nil_append]
    rw [b77_22 (by first | (simp +decide only [zC_n, zC_k, zC_r, S.n, wk_0 S V, wk_1 S V, wr_0_0 S V, wr_0_1 S V, wk_9 S V, nc, cl_k S V hc, cl_r S V hc, cl_p S V hc, cl_q S V hc, zq_rf, hzc]; done) | (simp only [zC_n, zC_r, S.n, wr_0_0 S V, wr_0_1 S V, nc, cl_r S V hc, cl_p S V hc, zq_rf]; have := V.lt; omega)) (by first | (simp +decide only [zC_n, zC_k, zC_r, S.n, wk_0 S V, wk_1 S V, wr_0_0 S V, wr_0_1 S V, wk_9 S V, nc, cl_k S V hc, cl_r S V hc, cl_p S V hc, cl_q S V hc, zq_rf, hzc]; done) | (simp only [zC_n, zC_r, S.n, wr_0_0 S V, wr_0_1 S V, nc, cl_r S V hc, cl_p S V hc, zq_rf]; have := V.lt; omega)), eb]
    simp only [Option.bind_some, Option.toList_some, Option.toList_none, List.cons_append, List.nil_append]
    rw [b77_28]
  · rw [ebe, eno]
    refine ⟨Q.1, Q.2, fun d hd hod => ?_⟩
    have un : ∀ j, j < 315 → up t (315 + 24 * c + 5) (1 <<< (zi_bI b &&& 31)) j = t j := fun j hj => up_n _ _ (by omega)
    rw [thA_cl J un]
    by_cases q : d = c
    · subst q
      rw [up_s, up_n _ _ (by omega), show t (315 + 24 * d + 2) = nI k by rw [et, bf_2], ← hbt, Int32.or_self]
    · rw [up_n _ _ (by omega), up_n _ _ (by omega), thA_cl I tn, show t (315 + 24 * d + 2) = s (315 + 24 * d + 2) by rw [et, bf_o (by omega)], show t (315 + 24 * d + 5) = s (315 + 24 * d + 5) by rw [et, bf_o (by omega)]]
      refine T.2.2 d hd ?_
      unfold onB at hod ⊢
      rw [up_n _ _ (by omega), show t (315 + 24 * d) = s (315 + 24 * d) by rw [et, bf_o (by omega)]] at hod
      exact hod
/-- a client is idle -/
theorem CR.idle (T : CR x y s N m) (I : InvG s N R M B L m H r K C f) (hc : c < 3) : CR (u2 x (10 + 2 * c) 0 0) y (up s (315 + 24 * c) 0) N m := by
  have hN := I.1.1.2.2
  have hm : ∀ n, n < N → m n ≤ 4 := fun n hn => by have := (I.1.2.2.2.1 n hn).2.2.2.2.2.2.2.1; have := I.1.2.2.1.2.2; omega
  have kc : KR (u2 x (10 + 2 * c) 0 0) y (up s (315 + 24 * c) 0) c := by
    unfold KR
    rw [up_s]
    exact ⟨u2_s _ _ _ _, fun q => absurd rfl q, fun q => by rcases q with q | q <;> exact absurd q (by decide), fun q => absurd rfl q⟩
  have P : NB (u2 x (10 + 2 * c) 0 0) y (up s (315 + 24 * c) 0) N m := NB.of T (c := c) (T.1.cl hN hm (fun o j ho => u2_n _ _ (by omega)) (fun _ => rfl) (fun j hj => up_n _ _ (by omega))) (fun j _ hj => up_n _ _ (by omega)) (fun o j _ h9 _ => u2_n _ _ (Or.inl h9)) (fun _ _ _ _ => rfl) kc
  refine ⟨P.1, P.2, fun d hd hod => ?_⟩
  by_cases q : d = c
  · subst q
    unfold onB at hod
    rw [up_s] at hod
    exact absurd hod (by decide)
  · rw [thA_cl I (fun j hj => up_n _ _ (by omega)), up_n _ _ (by omega), up_n _ _ (by omega)]
    refine T.2.2 d hd ?_
    unfold onB at hod ⊢
    rw [up_n _ _ (by omega)] at hod
    exact hod
end R32D
