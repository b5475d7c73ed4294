/-! BOTH SIDES: check -/
theorem itF_all {g : Nat → Bool → Bool} {P : Nat → Prop} {N : Nat} (hg : ∀ n a, n < N → (g n a = true ↔ a = true ∧ P n)) : ∀ d n a, n + d = N → (itF g d n a = true ↔ a = true ∧ ∀ k, n ≤ k → k < N → P k)
  | 0, n, a, hn => by
    show a = true ↔ _
    exact ⟨fun q => ⟨q, fun k h1 h2 => absurd h2 (by omega)⟩, fun q => q.1⟩
  | d + 1, n, a, hn => by
    show itF g d (n + 1) (g n a) = true ↔ _
    rw [itF_all hg d (n + 1) (g n a) (by omega), hg n a (by omega)]
    constructor
    · rintro ⟨⟨q1, q2⟩, q3⟩
      refine ⟨q1, fun k h1 h2 => ?_⟩
      by_cases e : k = n
      · rw [e]; exact q2
      · exact q3 k (by omega) h2
    · rintro ⟨q1, q2⟩
      exact ⟨⟨q1, q2 n (Nat.le_refl _) (by omega)⟩, fun k h1 h2 => q2 k (by omega) h2⟩
section R34D
variable {h : zi_Hp} {W : Nat} {x x1 : Nat → Nat → Int32} {y y1 : Nat → Nat → Bool} {s s1 : Nat → Int32} {N R M B c n : Nat} {L m H r : Nat → Nat} {K C : Nat → Nat → Nat} {f : Nat → Nat}
theorem k_tw2 (S : Sh h) (V : Wa W) {u1 u2 : Value} : ∃ b : Bool, zv 3 99 0 [.ref W, u1, u2] [] (zC h W x y) = some (some (.int (zi_bI (!b))), zC h W x y) ∧ (b = true ↔ ∀ c, 0 ≤ c → c < 3 → ((x (10 + 2 * c) 0 = 2 ∨ x (10 + 2 * c) 0 = 4) → hoK x (x (10 + 2 * c) 3) = nI c)) := by
  rw [b99_0]
  refine lpE 0 (F := fun (v : Value) c => zv 3 99 2 [.ref W, .int c, v] [] (zC h W x y)) (E := fun b => some (some (.int (zi_bI (!b))), zC h W x y)) (P := fun c => ((x (10 + 2 * c) 0 = 2 ∨ x (10 + 2 * c) 0 = 4) → hoK x (x (10 + 2 * c) 3) = nI c)) (N := 3) (fun c _ hc v => ?_) (fun v => ?_) 3 0 u2 (Nat.le_refl _) rfl
  · have nc : (nI c).toNatClampNeg = c := nI_clamp (by omega)
    have hzc : ¬ (nI c < 0 ∨ 3 ≤ c) := by have q := zj_n (N := 3) hc (by decide); rw [nc] at q; exact q
    try dsimp only
    have go : zv 3 99 2 [.ref W, .int (nI c), v] [] (zC h W x y) = if zi_bI (decide ((x (10 + 2 * c) 0 = 2 ∨ x (10 + 2 * c) 0 = 4) ∧ x (10 + 2 * c) 3 = x (10 + 2 * c) 3)) = 0 then zv 3 99 41 [.ref W, .int (nI c), .int (x (10 + 2 * c) 3)] [] (zC h W x y) else zv 3 99 30 [.ref W, .int (nI c), .int (x (10 + 2 * c) 3)] [] (zC h W x y) := by
      rw [b99_2, if_pos (show nI c < 3 from nI_lt (b := 3) hc (by decide)), b99_7 (by first | (simp +decide only [zC_n, zC_k, zC_r, S.n, wk_0 S V, wk_1 S V, wr_0_0 S V, wr_0_1 S V, wk_9 S V, nc, cl_k S V hc, cl_r S V hc, cl_p S V hc, cl_q S V hc, zq_rf, hzc]; done) | (simp only [zC_n, zC_r, S.n, wr_0_0 S V, wr_0_1 S V, nc, cl_r S V hc, cl_p S V hc, zq_rf]; have := V.lt; omega)) (by first | (simp +decide only [zC_n, zC_k, zC_r, S.n, wk_0 S V, wk_1 S V, wr_0_0 S V, wr_0_1 S V, wk_9 S V, nc, cl_k S V hc, cl_r S V hc, cl_p S V hc, cl_q S V hc, zq_rf, hzc]; done) | (simp only [zC_n, zC_r, S.n, wr_0_0 S V, wr_0_1 S V, nc, cl_r S V hc, cl_p S V hc, zq_rf]; have := V.lt; omega)) (by first | (simp +decide only [zC_n, zC_k, zC_r, S.n, wk_0 S V, wk_1 S V, wr_0_0 S V, wr_0_1 S V, wk_9 S V, nc, cl_k S V hc, cl_r S V hc, cl_p S V hc, cl_q S V hc, zq_rf, hzc]; done) | (simp only [zC_n, zC_r, S.n, wr_0_0 S V, wr_0_1 S V, nc, cl_r S V hc, cl_p S V hc, zq_rf]; have := V.lt; omega)) (by first | (simp +decide only [zC_n, zC_k, zC_r, S.n, wk_0 S V, wk_1 S V, wr_0_0 S V, wr_0_1 S V, wk_9 S V, nc, cl_k S V hc, cl_r S V hc, cl_p S V hc, cl_q S V hc, zq_rf, hzc]; done) | (simp only [zC_n, zC_r, S.n, wr_0_0 S V, wr_0_1 S V, nc, cl_r S V hc, cl_p S V hc, zq_rf]; have := V.lt; omega)) (by first | (simp +decide only [zC_n, zC_k, zC_r, S.n, wk_0 S V, wk_1 S V, wr_0_0 S V, wr_0_1 S V, wk_9 S V, nc, cl_k S V hc, cl_r S V hc, cl_p S V hc, cl_q S V hc, zq_rf, hzc]; done) | (simp only [zC_n, zC_r, S.n, wr_0_0 S V, wr_0_1 S V, nc, cl_r S V hc, cl_p S V hc, zq_rf]; have := V.lt; omega)) (by first | (simp +decide only [zC_n, zC_k, zC_r, S.n, wk_0 S V, wk_1 S V, wr_0_0 S V, wr_0_1 S V, wk_9 S V, nc, cl_k S V hc, cl_r S V hc, cl_p S V hc, cl_q S V hc, zq_rf, hzc]; done) | (simp only [zC_n, zC_r, S.n, wr_0_0 S V, wr_0_1 S V, nc, cl_r S V hc, cl_p S V hc, zq_rf]; have := V.lt; omega)) (by first | (simp +decide only [zC_n, zC_k, zC_r, S.n, wk_0 S V, wk_1 S V, wr_0_0 S V, wr_0_1 S V, wk_9 S V, nc, cl_k S V hc, cl_r S V hc, cl_p S V hc, cl_q S V hc, zq_rf, hzc]; done) | (simp only [zC_n, zC_r, S.n, wr_0_0 S V, wr_0_1 S V, nc, cl_r S V hc, cl_p S V hc, zq_rf]; have := V.lt; omega)) (by first | (simp +decide only [zC_n, zC_k, zC_r, S.n, wk_0 S V, wk_1 S V, wr_0_0 S V, wr_0_1 S V, wk_9 S V, nc, cl_k S V hc, cl_r S V hc, cl_p S V hc, cl_q S V hc, zq_rf, hzc]; done) | (simp only [zC_n, zC_r, S.n, wr_0_0 S V, wr_0_1 S V, nc, cl_r S V hc, cl_p S V hc, zq_rf]; have := V.lt; omega)) (by first | (simp +decide only [zC_n, zC_k, zC_r, S.n, wk_0 S V, wk_1 S V, wr_0_0 S V, wr_0_1 S V, wk_9 S V, nc, cl_k S V hc, cl_r S V hc, cl_p S V hc, cl_q S V hc, zq_rf, hzc]; done) | (simp only [zC_n, zC_r, S.n, wr_0_0 S V, wr_0_1 S V, nc, cl_r S V hc, cl_p S V hc, zq_rf]; have := V.lt; omega)), zC_r, zC_r, wr_0_1 S V, zq_rf, nc, cl_r S V hc, zq_rf, zC_i (by omega), k_ho S V hc]
      simp only [Option.bind_some, Option.toList_some, Option.toList_none, List.cons_append, List.nil_append]
      rw [b99_27]
    by_cases ho : x (10 + 2 * c) 0 = 2 ∨ x (10 + 2 * c) 0 = 4
    · have g2 : zv 3 99 2 [.ref W, .int (nI c), v] [] (zC h W x y) = if hoK x (x (10 + 2 * c) 3) = nI c then zv 3 99 41 [.ref W, .int (nI c), .int (x (10 + 2 * c) 3)] [] (zC h W x y) else zv 3 99 39 [.ref W, .int (nI c), .int (x (10 + 2 * c) 3)] [] (zC h W x y) := by
        rw [go, decide_eq_true ⟨ho, rfl⟩, zi_bI_t, if_neg (by decide), b99_30 (by first | (simp only [zC_n, zC_k, zC_r, S.n, wk_0 S V, wk_1 S V, wr_0_0 S V, wr_0_1 S V, wk_9 S V, cl_k S V hc, cl_r S V hc, cl_p S V hc, cl_q S V hc, zq_rf]; done) | (simp only [zC_n, zC_r, S.n, wr_0_0 S V, wr_0_1 S V, cl_r S V hc, cl_p S V hc, zq_rf]; have := V.lt; omega)) (by first | (simp only [zC_n, zC_k, zC_r, S.n, wk_0 S V, wk_1 S V, wr_0_0 S V, wr_0_1 S V, wk_9 S V, cl_k S V hc, cl_r S V hc, cl_p S V hc, cl_q S V hc, zq_rf]; done) | (simp only [zC_n, zC_r, S.n, wr_0_0 S V, wr_0_1 S V, cl_r S V hc, cl_p S V hc, zq_rf]; have := V.lt; omega)), k_hd S V]
        simp only [Option.bind_some, Option.toList_some, Option.toList_none, List.cons_append, List.nil_append]
        rw [b99_35]
      by_cases q : hoK x (x (10 + 2 * c) 3) = nI c
      · exact Or.inl ⟨fun _ => q, _, by rw [g2, if_pos q, b99_41, nI_s]⟩
      · exact Or.inr ⟨fun w => q (w ho), by rw [g2, if_neg q, b99_39]; rfl⟩
    · exact Or.inl ⟨fun w => absurd w ho, _, by rw [go, decide_eq_false (fun q => ho q.1), zi_bI_f, if_pos rfl, b99_41, nI_s]⟩
  · try dsimp only
    rw [b99_2, if_neg (by decide), b99_47]; rfl
/-- a key is looked for from the ROOT, by both -/
theorem j_fo (S : Sh h) (V : Wa W) (T : CR x y s N m) (I : InvG s N R M B L m H r K C f) {ke : Nat} (hke : ke ≤ 99) : ∃ b : Bool, (∀ u2 u3 : Value, zv 4 69 0 [.ref (W + 1), .int (nI ke), u2, u3] [] (zC h W x y) = some (some (.int (zi_bI b)), zC h W x y)) ∧ ∀ (h1 : zi_Hp) (q : zQs) (u : Value), Sh h1 → zv 3 228 0 [.ref 211, .int (nI ke), u] [] (zQ h1 q s) = some (some (.int (zi_bI b)), zQ h1 q s) := by
  have hy : True := trivial
  have hz : True := trivial
  obtain ⟨⟨a1, a2, a3⟩, ⟨b1, b2⟩, ⟨d1, d2, d3⟩, G, o, z⟩ := id I.1
  have eN : x 1 0 = nI N := by rw [T.1.1.1]; exact a1
  have key : ∀ d i n, i + d ≤ 25 → n < N → N ≤ f n + d → ∃ b : Bool, zv 4 69 7 [.ref (W + 1), .int (nI ke), .int (nI n), .int (nI i)] [] (zC h W x y) = some (some (.int (zi_bI b)), zC h W x y) ∧ ∀ (h1 : zi_Hp) (q : zQs), Sh h1 → zv 3 228 9 [.ref 211, .int (nI ke), .int (nI n)] [] (zQ h1 q s) = some (some (.int (zi_bI b)), zQ h1 q s) := by
    intro d
    induction d with
    | zero => intro i n hi hn hf; have := (G n hn).2.2.2.2.2.2.2.2.2; omega
    | succ d ih =>
      intro i n hi hn hf
      obtain ⟨⟨g1, g2, g3⟩, g4, g5, g6, g7, g8, g9, g10, g11, g12⟩ := G n hn
      obtain ⟨⟨t2, t3, t4, t5, t6⟩, tk⟩ := T.1.2 n hn
      have em : x 3 n = nI (m n) := by rw [t3]; exact g2
      have hm5 : m n ≤ 5 := by omega
      have ln := I.lv hn
      have go : zv 4 69 7 [.ref (W + 1), .int (nI ke), .int (nI n), .int (nI i)] [] (zC h W x y) = if zi_bI (y 6 n) = 0 then zv 4 69 21 [.ref (W + 1), .int (nI ke), .int (nI n), .int (nI i)] [] (zC h W x y) else zv 4 69 30 [.ref (W + 1), .int (nI ke), .int (nI n), .int (nI i)] [] (zC h W x y) := by
        rw [b69_7, if_neg (fun q => by rw [show (24 : Int32) = nI 24 from rfl, nI_lt' (by omega) (by omega)] at q; omega), b69_13 (by first | (simp +decide only [zC_n, zC_k, zC_r, S.n, wk_0 S V, wk_1 S V, wk_2 S V, wk_3 S V, wk_4 S V, wk_5 S V, wk_6 S V, wk_7 S V, wk_8 S V, wk_9 S V, wk_10 S V, wk_11 S V, wk_12 S V, wk_13 S V, wk_14 S V, wk_15 S V, wr_0_0 S V, wr_0_1 S V, wr_1_3 S V, wr_1_4 S V, wr_1_5 S V, wr_1_6 S V, wr_1_7 S V, wr_1_8 S V, wr_1_9 S V, wr_9_0 S V, wr_9_1 S V, wr_9_2 S V, wr_10_12 S V, wr_12_12 S V, wr_14_12 S V, zq_rf, hz, hy]; done) | (simp only [zC_n, zC_r, S.n, wk_0 S V, wk_1 S V, wk_2 S V, wk_3 S V, wk_4 S V, wk_5 S V, wk_6 S V, wk_7 S V, wk_8 S V, wk_9 S V, wk_10 S V, wk_11 S V, wk_12 S V, wk_13 S V, wk_14 S V, wk_15 S V, wr_0_0 S V, wr_0_1 S V, wr_1_3 S V, wr_1_4 S V, wr_1_5 S V, wr_1_6 S V, wr_1_7 S V, wr_1_8 S V, wr_1_9 S V, wr_9_0 S V, wr_9_1 S V, wr_9_2 S V, wr_10_12 S V, wr_12_12 S V, wr_14_12 S V, zq_rf]; have := V.lt; omega)) (by first | (simp +decide only [zC_n, zC_k, zC_r, S.n, wk_0 S V, wk_1 S V, wk_2 S V, wk_3 S V, wk_4 S V, wk_5 S V, wk_6 S V, wk_7 S V, wk_8 S V, wk_9 S V, wk_10 S V, wk_11 S V, wk_12 S V, wk_13 S V, wk_14 S V, wk_15 S V, wr_0_0 S V, wr_0_1 S V, wr_1_3 S V, wr_1_4 S V, wr_1_5 S V, wr_1_6 S V, wr_1_7 S V, wr_1_8 S V, wr_1_9 S V, wr_9_0 S V, wr_9_1 S V, wr_9_2 S V, wr_10_12 S V, wr_12_12 S V, wr_14_12 S V, zq_rf, hz, hy]; done) | (simp only [zC_n, zC_r, S.n, wk_0 S V, wk_1 S V, wk_2 S V, wk_3 S V, wk_4 S V, wk_5 S V, wk_6 S V, wk_7 S V, wk_8 S V, wk_9 S V, wk_10 S V, wk_11 S V, wk_12 S V, wk_13 S V, wk_14 S V, wk_15 S V, wr_0_0 S V, wr_0_1 S V, wr_1_3 S V, wr_1_4 S V, wr_1_5 S V, wr_1_6 S V, wr_1_7 S V, wr_1_8 S V, wr_1_9 S V, wr_9_0 S V, wr_9_1 S V, wr_9_2 S V, wr_10_12 S V, wr_12_12 S V, wr_14_12 S V, zq_rf]; have := V.lt; omega)), t_de S V eN a3 hn]
        simp only [Option.bind_some, Option.toList_some, Option.toList_none, List.cons_append, List.nil_append]
        rw [b69_18]
      have rc : s (13 * n + 3) = nI (r n) → zv 4 69 30 [.ref (W + 1), .int (nI ke), .int (nI n), .int (nI i)] [] (zC h W x y) = zv 4 69 7 [.ref (W + 1), .int (nI ke), .int (nI (r n)), .int (nI (i + 1))] [] (zC h W x y) := fun q1 => by
        rw [b69_30 (by first | (simp +decide only [zC_n, zC_k, zC_r, S.n, wk_0 S V, wk_1 S V, wk_2 S V, wk_3 S V, wk_4 S V, wk_5 S V, wk_6 S V, wk_7 S V, wk_8 S V, wk_9 S V, wk_10 S V, wk_11 S V, wk_12 S V, wk_13 S V, wk_14 S V, wk_15 S V, wr_0_0 S V, wr_0_1 S V, wr_1_3 S V, wr_1_4 S V, wr_1_5 S V, wr_1_6 S V, wr_1_7 S V, wr_1_8 S V, wr_1_9 S V, wr_9_0 S V, wr_9_1 S V, wr_9_2 S V, wr_10_12 S V, wr_12_12 S V, wr_14_12 S V, zq_rf, hz, hy]; done) | (simp only [zC_n, zC_r, S.n, wk_0 S V, wk_1 S V, wk_2 S V, wk_3 S V, wk_4 S V, wk_5 S V, wk_6 S V, wk_7 S V, wk_8 S V, wk_9 S V, wk_10 S V, wk_11 S V, wk_12 S V, wk_13 S V, wk_14 S V, wk_15 S V, wr_0_0 S V, wr_0_1 S V, wr_1_3 S V, wr_1_4 S V, wr_1_5 S V, wr_1_6 S V, wr_1_7 S V, wr_1_8 S V, wr_1_9 S V, wr_9_0 S V, wr_9_1 S V, wr_9_2 S V, wr_10_12 S V, wr_12_12 S V, wr_14_12 S V, zq_rf]; have := V.lt; omega)) (by first | (simp +decide only [zC_n, zC_k, zC_r, S.n, wk_0 S V, wk_1 S V, wk_2 S V, wk_3 S V, wk_4 S V, wk_5 S V, wk_6 S V, wk_7 S V, wk_8 S V, wk_9 S V, wk_10 S V, wk_11 S V, wk_12 S V, wk_13 S V, wk_14 S V, wk_15 S V, wr_0_0 S V, wr_0_1 S V, wr_1_3 S V, wr_1_4 S V, wr_1_5 S V, wr_1_6 S V, wr_1_7 S V, wr_1_8 S V, wr_1_9 S V, wr_9_0 S V, wr_9_1 S V, wr_9_2 S V, wr_10_12 S V, wr_12_12 S V, wr_14_12 S V, zq_rf, hz, hy]; done) | (simp only [zC_n, zC_r, S.n, wk_0 S V, wk_1 S V, wk_2 S V, wk_3 S V, wk_4 S V, wk_5 S V, wk_6 S V, wk_7 S V, wk_8 S V, wk_9 S V, wk_10 S V, wk_11 S V, wk_12 S V, wk_13 S V, wk_14 S V, wk_15 S V, wr_0_0 S V, wr_0_1 S V, wr_1_3 S V, wr_1_4 S V, wr_1_5 S V, wr_1_6 S V, wr_1_7 S V, wr_1_8 S V, wr_1_9 S V, wr_9_0 S V, wr_9_1 S V, wr_9_2 S V, wr_10_12 S V, wr_12_12 S V, wr_14_12 S V, zq_rf]; have := V.lt; omega)), t_ri S V eN a3 hn, t5, q1]
        simp only [Option.bind_some, Option.toList_some, Option.toList_none, List.cons_append, List.nil_append]
        rw [b69_35, b69_69, nI_s]
      have rr : (s (13 * n + 4) = 1 ∨ s (13 * n + 2) < nI ke) → s (13 * n + 3) = nI (r n) → ∀ (h1 : zi_Hp) (q : zQs), Sh h1 → zv 3 228 38 [.ref 211, .int (nI ke), .int (nI n)] [] (zQ h1 q s) = zv 3 228 9 [.ref 211, .int (nI ke), .int (nI (r n))] [] (zQ h1 q s) := fun hr q1 h1 q S => by
        have e58 : zv 3 228 58 [.ref 211, .int (nI ke), .int (nI n)] [] (zQ h1 q s) = zv 3 228 9 [.ref 211, .int (nI ke), .int (nI (r n))] [] (zQ h1 q s) := by
          rw [b228_58 (q_g0 S) (q_g1 S), q_of3 S (by omega)]
          simp only [Option.bind_some, Option.toList_some, Option.toList_none, List.cons_append, List.nil_append]
          rw [b228_64, b228_81, q1]
        rw [b228_38 (q_g0 S) (q_g1 S), q_of4 S (by omega)]
        simp only [Option.bind_some, Option.toList_some, Option.toList_none, List.cons_append, List.nil_append]
        rw [b228_44]
        by_cases h4 : s (13 * n + 4) = 1
        · rw [if_pos h4, e58]
        · rw [if_neg h4, b228_48 (q_g0 S) (q_g1 S), q_of2 S (by omega)]
          simp only [Option.bind_some, Option.toList_some, Option.toList_none, List.cons_append, List.nil_append]
          rw [b228_55, if_pos (hr.resolve_left h4), e58]
      have right : (s (13 * n + 4) = 1 ∨ s (13 * n + 2) < nI ke) → s (13 * n + 3) = nI (r n) ∧ r n < N ∧ L (r n) = L n ∧ f n < f (r n) := fun hr => by
        rcases g4 with ⟨q1, q2⟩ | q
        · rcases hr with w | w
          · rcases g5 with w2 | ⟨-, w2, -⟩
            · rw [w2] at w; exact absurd w (by decide)
            · exact absurd q1 w2
          · rw [g3, nI_lt' (by omega) (by omega)] at w
            omega
        · exact q
      by_cases h4 : s (13 * n + 4) = 1
      · obtain ⟨q1, q2, q3, q4⟩ := right (Or.inl h4)
        obtain ⟨b, e1, e2⟩ := ih (i + 1) (r n) (by omega) q2 (by omega)
        refine ⟨b, ?_, fun h1 q S => ?_⟩
        · rw [go, t6, decide_eq_true h4, zi_bI_t, if_neg (by decide), rc q1, e1]
        · rw [b228_9 (q_g0 S) (q_g1 S), q_of4 S (by omega)]
          simp only [Option.bind_some, Option.toList_some, Option.toList_none, List.cons_append, List.nil_append]
          rw [b228_15, if_pos h4, rr (Or.inl h4) q1 h1 q S, e2 h1 q S]
      · have gc : zv 4 69 7 [.ref (W + 1), .int (nI ke), .int (nI n), .int (nI i)] [] (zC h W x y) = if s (13 * n + 2) < nI ke then zv 4 69 30 [.ref (W + 1), .int (nI ke), .int (nI n), .int (nI i)] [] (zC h W x y) else zv 4 69 39 [.ref (W + 1), .int (nI ke), .int (nI n), .int (nI i)] [] (zC h W x y) := by
          rw [go, t6, decide_eq_false h4, zi_bI_f, if_pos rfl, b69_21 (by first | (simp +decide only [zC_n, zC_k, zC_r, S.n, wk_0 S V, wk_1 S V, wk_2 S V, wk_3 S V, wk_4 S V, wk_5 S V, wk_6 S V, wk_7 S V, wk_8 S V, wk_9 S V, wk_10 S V, wk_11 S V, wk_12 S V, wk_13 S V, wk_14 S V, wk_15 S V, wr_0_0 S V, wr_0_1 S V, wr_1_3 S V, wr_1_4 S V, wr_1_5 S V, wr_1_6 S V, wr_1_7 S V, wr_1_8 S V, wr_1_9 S V, wr_9_0 S V, wr_9_1 S V, wr_9_2 S V, wr_10_12 S V, wr_12_12 S V, wr_14_12 S V, zq_rf, hz, hy]; done) | (simp only [zC_n, zC_r, S.n, wk_0 S V, wk_1 S V, wk_2 S V, wk_3 S V, wk_4 S V, wk_5 S V, wk_6 S V, wk_7 S V, wk_8 S V, wk_9 S V, wk_10 S V, wk_11 S V, wk_12 S V, wk_13 S V, wk_14 S V, wk_15 S V, wr_0_0 S V, wr_0_1 S V, wr_1_3 S V, wr_1_4 S V, wr_1_5 S V, wr_1_6 S V, wr_1_7 S V, wr_1_8 S V, wr_1_9 S V, wr_9_0 S V, wr_9_1 S V, wr_9_2 S V, wr_10_12 S V, wr_12_12 S V, wr_14_12 S V, zq_rf]; have := V.lt; omega)) (by first | (simp +decide only [zC_n, zC_k, zC_r, S.n, wk_0 S V, wk_1 S V, wk_2 S V, wk_3 S V, wk_4 S V, wk_5 S V, wk_6 S V, wk_7 S V, wk_8 S V, wk_9 S V, wk_10 S V, wk_11 S V, wk_12 S V, wk_13 S V, wk_14 S V, wk_15 S V, wr_0_0 S V, wr_0_1 S V, wr_1_3 S V, wr_1_4 S V, wr_1_5 S V, wr_1_6 S V, wr_1_7 S V, wr_1_8 S V, wr_1_9 S V, wr_9_0 S V, wr_9_1 S V, wr_9_2 S V, wr_10_12 S V, wr_12_12 S V, wr_14_12 S V, zq_rf, hz, hy]; done) | (simp only [zC_n, zC_r, S.n, wk_0 S V, wk_1 S V, wk_2 S V, wk_3 S V, wk_4 S V, wk_5 S V, wk_6 S V, wk_7 S V, wk_8 S V, wk_9 S V, wk_10 S V, wk_11 S V, wk_12 S V, wk_13 S V, wk_14 S V, wk_15 S V, wr_0_0 S V, wr_0_1 S V, wr_1_3 S V, wr_1_4 S V, wr_1_5 S V, wr_1_6 S V, wr_1_7 S V, wr_1_8 S V, wr_1_9 S V, wr_9_0 S V, wr_9_1 S V, wr_9_2 S V, wr_10_12 S V, wr_12_12 S V, wr_14_12 S V, zq_rf]; have := V.lt; omega)), t_hi S V eN a3 hn]
          simp only [Option.bind_some, Option.toList_some, Option.toList_none, List.cons_append, List.nil_append]
          rw [b69_27, t4]
        have gr : ∀ (h1 : zi_Hp) (q : zQs), Sh h1 → zv 3 228 9 [.ref 211, .int (nI ke), .int (nI n)] [] (zQ h1 q s) = if s (13 * n + 2) < nI ke then zv 3 228 38 [.ref 211, .int (nI ke), .int (nI n)] [] (zQ h1 q s) else zv 3 228 29 [.ref 211, .int (nI ke), .int (nI n)] [] (zQ h1 q s) := fun h1 q S => by
          rw [b228_9 (q_g0 S) (q_g1 S), q_of4 S (by omega)]
          simp only [Option.bind_some, Option.toList_some, Option.toList_none, List.cons_append, List.nil_append]
          rw [b228_15, if_neg h4, b228_19 (q_g0 S) (q_g1 S), q_of2 S (by omega)]
          simp only [Option.bind_some, Option.toList_some, Option.toList_none, List.cons_append, List.nil_append]
          rw [b228_26]
        by_cases h2 : s (13 * n + 2) < nI ke
        · obtain ⟨q1, q2, q3, q4⟩ := right (Or.inr h2)
          obtain ⟨b, e1, e2⟩ := ih (i + 1) (r n) (by omega) q2 (by omega)
          exact ⟨b, by rw [gc, if_pos h2, rc q1, e1], fun h1 q S => by rw [gr h1 q S, if_pos h2, rr (Or.inr h2) q1 h1 q S, e2 h1 q S]⟩
        · have hkH : ke ≤ H n := by
            have h9 := h2
            rw [g3, nI_lt' (by omega) (by omega)] at h9
            omega
          obtain ⟨j, hj, hlt, hge⟩ := pl_ex (P := fun i => s (13 * n + (5 + i)) < nI ke) (m n)
          have hlt' : ∀ i, i < j → x 7 (5 * n + i) < nI ke := fun i hi => by rw [(tk i (by omega)).1]; exact hlt i hi
          have hge' : j < m n → ¬ x 7 (5 * n + j) < nI ke := fun hjm => by rw [(tk j hjm).1]; exact hge hjm
          have cl : zv 4 69 39 [.ref (W + 1), .int (nI ke), .int (nI n), .int (nI i)] [] (zC h W x y) = if 0 < x 2 n then zv 4 69 47 [.ref (W + 1), .int (nI ke), .int (nI n), .int (nI i)] [] (zC h W x y) else zv 4 69 62 [.ref (W + 1), .int (nI ke), .int (nI n), .int (nI i)] [] (zC h W x y) := by
            rw [b69_39 (by first | (simp +decide only [zC_n, zC_k, zC_r, S.n, wk_0 S V, wk_1 S V, wk_2 S V, wk_3 S V, wk_4 S V, wk_5 S V, wk_6 S V, wk_7 S V, wk_8 S V, wk_9 S V, wk_10 S V, wk_11 S V, wk_12 S V, wk_13 S V, wk_14 S V, wk_15 S V, wr_0_0 S V, wr_0_1 S V, wr_1_3 S V, wr_1_4 S V, wr_1_5 S V, wr_1_6 S V, wr_1_7 S V, wr_1_8 S V, wr_1_9 S V, wr_9_0 S V, wr_9_1 S V, wr_9_2 S V, wr_10_12 S V, wr_12_12 S V, wr_14_12 S V, zq_rf, hz, hy]; done) | (simp only [zC_n, zC_r, S.n, wk_0 S V, wk_1 S V, wk_2 S V, wk_3 S V, wk_4 S V, wk_5 S V, wk_6 S V, wk_7 S V, wk_8 S V, wk_9 S V, wk_10 S V, wk_11 S V, wk_12 S V, wk_13 S V, wk_14 S V, wk_15 S V, wr_0_0 S V, wr_0_1 S V, wr_1_3 S V, wr_1_4 S V, wr_1_5 S V, wr_1_6 S V, wr_1_7 S V, wr_1_8 S V, wr_1_9 S V, wr_9_0 S V, wr_9_1 S V, wr_9_2 S V, wr_10_12 S V, wr_12_12 S V, wr_14_12 S V, zq_rf]; have := V.lt; omega)) (by first | (simp +decide only [zC_n, zC_k, zC_r, S.n, wk_0 S V, wk_1 S V, wk_2 S V, wk_3 S V, wk_4 S V, wk_5 S V, wk_6 S V, wk_7 S V, wk_8 S V, wk_9 S V, wk_10 S V, wk_11 S V, wk_12 S V, wk_13 S V, wk_14 S V, wk_15 S V, wr_0_0 S V, wr_0_1 S V, wr_1_3 S V, wr_1_4 S V, wr_1_5 S V, wr_1_6 S V, wr_1_7 S V, wr_1_8 S V, wr_1_9 S V, wr_9_0 S V, wr_9_1 S V, wr_9_2 S V, wr_10_12 S V, wr_12_12 S V, wr_14_12 S V, zq_rf, hz, hy]; done) | (simp only [zC_n, zC_r, S.n, wk_0 S V, wk_1 S V, wk_2 S V, wk_3 S V, wk_4 S V, wk_5 S V, wk_6 S V, wk_7 S V, wk_8 S V, wk_9 S V, wk_10 S V, wk_11 S V, wk_12 S V, wk_13 S V, wk_14 S V, wk_15 S V, wr_0_0 S V, wr_0_1 S V, wr_1_3 S V, wr_1_4 S V, wr_1_5 S V, wr_1_6 S V, wr_1_7 S V, wr_1_8 S V, wr_1_9 S V, wr_9_0 S V, wr_9_1 S V, wr_9_2 S V, wr_10_12 S V, wr_12_12 S V, wr_14_12 S V, zq_rf]; have := V.lt; omega)), t_lv S V eN a3 hn]
            simp only [Option.bind_some, Option.toList_some, Option.toList_none, List.cons_append, List.nil_append]
            rw [b69_44]
          have rl : ∀ (h1 : zi_Hp) (q : zQs), Sh h1 → zv 3 228 29 [.ref 211, .int (nI ke), .int (nI n)] [] (zQ h1 q s) = if 0 < s (13 * n) then zv 3 228 38 [.ref 211, .int (nI ke), .int (nI n)] [] (zQ h1 q s) else zv 3 228 85 [.ref 211, .int (nI ke), .int (nI n)] [] (zQ h1 q s) := fun h1 q S => by
            rw [b228_29 (q_g0 S) (q_g1 S), q_of0 S (by omega)]
            simp only [Option.bind_some, Option.toList_some, Option.toList_none, List.cons_append, List.nil_append]
            rw [b228_35]
          by_cases hl : 0 < L n
          · have h0 : 0 < s (13 * n) := by rw [g1]; exact nI_lt (a := 0) hl (by omega)
            have h0' : 0 < x 2 n := by rw [t2]; exact h0
            obtain ⟨m0, mK, mC, mB⟩ := g8 hl
            have hjm : j < m n := by
              refine Nat.not_le.mp (fun w => ?_)
              have h9 := hlt (m n - 1) (by omega)
              rw [(g6 (m n - 1) (by omega)).1, nI_lt' (by have := (g6 (m n - 1) (by omega)).2; omega) (by omega), mK] at h9
              omega
            obtain ⟨q1, q2, q3⟩ := mC j hjm
            have f9 := o n (C n j) hn q2 (by omega)
            have e9 : (9 : Int32) + nI j = nI (9 + j) := nI_add 9 j
            obtain ⟨b, e1, e2⟩ := ih (i + 1) (C n j) (by omega) q2 (by omega)
            refine ⟨b, ?_, fun h1 q S => ?_⟩
            · rw [gc, if_neg h2, cl, if_pos h0', b69_47 (by first | (simp +decide only [zC_n, zC_k, zC_r, S.n, wk_0 S V, wk_1 S V, wk_2 S V, wk_3 S V, wk_4 S V, wk_5 S V, wk_6 S V, wk_7 S V, wk_8 S V, wk_9 S V, wk_10 S V, wk_11 S V, wk_12 S V, wk_13 S V, wk_14 S V, wk_15 S V, wr_0_0 S V, wr_0_1 S V, wr_1_3 S V, wr_1_4 S V, wr_1_5 S V, wr_1_6 S V, wr_1_7 S V, wr_1_8 S V, wr_1_9 S V, wr_9_0 S V, wr_9_1 S V, wr_9_2 S V, wr_10_12 S V, wr_12_12 S V, wr_14_12 S V, zq_rf, hz, hy]; done) | (simp only [zC_n, zC_r, S.n, wk_0 S V, wk_1 S V, wk_2 S V, wk_3 S V, wk_4 S V, wk_5 S V, wk_6 S V, wk_7 S V, wk_8 S V, wk_9 S V, wk_10 S V, wk_11 S V, wk_12 S V, wk_13 S V, wk_14 S V, wk_15 S V, wr_0_0 S V, wr_0_1 S V, wr_1_3 S V, wr_1_4 S V, wr_1_5 S V, wr_1_6 S V, wr_1_7 S V, wr_1_8 S V, wr_1_9 S V, wr_9_0 S V, wr_9_1 S V, wr_9_2 S V, wr_10_12 S V, wr_12_12 S V, wr_14_12 S V, zq_rf]; have := V.lt; omega)) (by first | (simp +decide only [zC_n, zC_k, zC_r, S.n, wk_0 S V, wk_1 S V, wk_2 S V, wk_3 S V, wk_4 S V, wk_5 S V, wk_6 S V, wk_7 S V, wk_8 S V, wk_9 S V, wk_10 S V, wk_11 S V, wk_12 S V, wk_13 S V, wk_14 S V, wk_15 S V, wr_0_0 S V, wr_0_1 S V, wr_1_3 S V, wr_1_4 S V, wr_1_5 S V, wr_1_6 S V, wr_1_7 S V, wr_1_8 S V, wr_1_9 S V, wr_9_0 S V, wr_9_1 S V, wr_9_2 S V, wr_10_12 S V, wr_12_12 S V, wr_14_12 S V, zq_rf, hz, hy]; done) | (simp only [zC_n, zC_r, S.n, wk_0 S V, wk_1 S V, wk_2 S V, wk_3 S V, wk_4 S V, wk_5 S V, wk_6 S V, wk_7 S V, wk_8 S V, wk_9 S V, wk_10 S V, wk_11 S V, wk_12 S V, wk_13 S V, wk_14 S V, wk_15 S V, wr_0_0 S V, wr_0_1 S V, wr_1_3 S V, wr_1_4 S V, wr_1_5 S V, wr_1_6 S V, wr_1_7 S V, wr_1_8 S V, wr_1_9 S V, wr_9_0 S V, wr_9_1 S V, wr_9_2 S V, wr_10_12 S V, wr_12_12 S V, wr_14_12 S V, zq_rf]; have := V.lt; omega)), t_pl S V eN a3 hn em hm5 hj hlt' hge']
              simp only [Option.bind_some, Option.toList_some, Option.toList_none, List.cons_append, List.nil_append]
              rw [b69_55 (by first | (simp +decide only [zC_n, zC_k, zC_r, S.n, wk_0 S V, wk_1 S V, wk_2 S V, wk_3 S V, wk_4 S V, wk_5 S V, wk_6 S V, wk_7 S V, wk_8 S V, wk_9 S V, wk_10 S V, wk_11 S V, wk_12 S V, wk_13 S V, wk_14 S V, wk_15 S V, wr_0_0 S V, wr_0_1 S V, wr_1_3 S V, wr_1_4 S V, wr_1_5 S V, wr_1_6 S V, wr_1_7 S V, wr_1_8 S V, wr_1_9 S V, wr_9_0 S V, wr_9_1 S V, wr_9_2 S V, wr_10_12 S V, wr_12_12 S V, wr_14_12 S V, zq_rf, hz, hy]; done) | (simp only [zC_n, zC_r, S.n, wk_0 S V, wk_1 S V, wk_2 S V, wk_3 S V, wk_4 S V, wk_5 S V, wk_6 S V, wk_7 S V, wk_8 S V, wk_9 S V, wk_10 S V, wk_11 S V, wk_12 S V, wk_13 S V, wk_14 S V, wk_15 S V, wr_0_0 S V, wr_0_1 S V, wr_1_3 S V, wr_1_4 S V, wr_1_5 S V, wr_1_6 S V, wr_1_7 S V, wr_1_8 S V, wr_1_9 S V, wr_9_0 S V, wr_9_1 S V, wr_9_2 S V, wr_10_12 S V, wr_12_12 S V, wr_14_12 S V, zq_rf]; have := V.lt; omega)) (by first | (simp +decide only [zC_n, zC_k, zC_r, S.n, wk_0 S V, wk_1 S V, wk_2 S V, wk_3 S V, wk_4 S V, wk_5 S V, wk_6 S V, wk_7 S V, wk_8 S V, wk_9 S V, wk_10 S V, wk_11 S V, wk_12 S V, wk_13 S V, wk_14 S V, wk_15 S V, wr_0_0 S V, wr_0_1 S V, wr_1_3 S V, wr_1_4 S V, wr_1_5 S V, wr_1_6 S V, wr_1_7 S V, wr_1_8 S V, wr_1_9 S V, wr_9_0 S V, wr_9_1 S V, wr_9_2 S V, wr_10_12 S V, wr_12_12 S V, wr_14_12 S V, zq_rf, hz, hy]; done) | (simp only [zC_n, zC_r, S.n, wk_0 S V, wk_1 S V, wk_2 S V, wk_3 S V, wk_4 S V, wk_5 S V, wk_6 S V, wk_7 S V, wk_8 S V, wk_9 S V, wk_10 S V, wk_11 S V, wk_12 S V, wk_13 S V, wk_14 S V, wk_15 S V, wr_0_0 S V, wr_0_1 S V, wr_1_3 S V, wr_1_4 S V, wr_1_5 S V, wr_1_6 S V, wr_1_7 S V, wr_1_8 S V, wr_1_9 S V, wr_9_0 S V, wr_9_1 S V, wr_9_2 S V, wr_10_12 S V, wr_12_12 S V, wr_14_12 S V, zq_rf]; have := V.lt; omega)), t_ch S V eN a3 hn em hm5 (i := j) (by omega), if_pos ⟨h0', hjm⟩, (tk j hjm).2 h0, q1]
              simp only [Option.bind_some, Option.toList_some, Option.toList_none, List.cons_append, List.nil_append]
              rw [b69_58, b69_69, nI_s, e1]
            · rw [gr h1 q S, if_neg h2, rl h1 q S, if_pos h0, b228_38 (q_g0 S) (q_g1 S), q_of4 S (by omega)]
              simp only [Option.bind_some, Option.toList_some, Option.toList_none, List.cons_append, List.nil_append]
              rw [b228_44, if_neg h4, b228_48 (q_g0 S) (q_g1 S), q_of2 S (by omega)]
              simp only [Option.bind_some, Option.toList_some, Option.toList_none, List.cons_append, List.nil_append]
              rw [b228_55, if_neg h2, b228_67 (q_g0 S) (q_g1 S), q_ef S (by omega) (j := j) (by omega) hlt (hge hjm)]
              simp only [Option.bind_some, Option.toList_some, Option.toList_none, List.cons_append, List.nil_append]
              rw [b228_77 (q_g0 S) (q_g1 S), e9, q_of S (by omega) (by omega)]
              simp only [Option.bind_some, Option.toList_some, Option.toList_none, List.cons_append, List.nil_append]
              rw [b228_81, q1, e2 h1 q S]
          · have hL0 : L n = 0 := by omega
            have h0 : ¬ 0 < s (13 * n) := by rw [g1, hL0]; decide
            have h0' : ¬ 0 < x 2 n := by rw [t2]; exact h0
            refine ⟨hkF s n (nI ke) (m n), ?_, fun h1 q S => ?_⟩
            · rw [gc, if_neg h2, cl, if_neg h0', b69_62 (by first | (simp +decide only [zC_n, zC_k, zC_r, S.n, wk_0 S V, wk_1 S V, wk_2 S V, wk_3 S V, wk_4 S V, wk_5 S V, wk_6 S V, wk_7 S V, wk_8 S V, wk_9 S V, wk_10 S V, wk_11 S V, wk_12 S V, wk_13 S V, wk_14 S V, wk_15 S V, wr_0_0 S V, wr_0_1 S V, wr_1_3 S V, wr_1_4 S V, wr_1_5 S V, wr_1_6 S V, wr_1_7 S V, wr_1_8 S V, wr_1_9 S V, wr_9_0 S V, wr_9_1 S V, wr_9_2 S V, wr_10_12 S V, wr_12_12 S V, wr_14_12 S V, zq_rf, hz, hy]; done) | (simp only [zC_n, zC_r, S.n, wk_0 S V, wk_1 S V, wk_2 S V, wk_3 S V, wk_4 S V, wk_5 S V, wk_6 S V, wk_7 S V, wk_8 S V, wk_9 S V, wk_10 S V, wk_11 S V, wk_12 S V, wk_13 S V, wk_14 S V, wk_15 S V, wr_0_0 S V, wr_0_1 S V, wr_1_3 S V, wr_1_4 S V, wr_1_5 S V, wr_1_6 S V, wr_1_7 S V, wr_1_8 S V, wr_1_9 S V, wr_9_0 S V, wr_9_1 S V, wr_9_2 S V, wr_10_12 S V, wr_12_12 S V, wr_14_12 S V, zq_rf]; have := V.lt; omega)) (by first | (simp +decide only [zC_n, zC_k, zC_r, S.n, wk_0 S V, wk_1 S V, wk_2 S V, wk_3 S V, wk_4 S V, wk_5 S V, wk_6 S V, wk_7 S V, wk_8 S V, wk_9 S V, wk_10 S V, wk_11 S V, wk_12 S V, wk_13 S V, wk_14 S V, wk_15 S V, wr_0_0 S V, wr_0_1 S V, wr_1_3 S V, wr_1_4 S V, wr_1_5 S V, wr_1_6 S V, wr_1_7 S V, wr_1_8 S V, wr_1_9 S V, wr_9_0 S V, wr_9_1 S V, wr_9_2 S V, wr_10_12 S V, wr_12_12 S V, wr_14_12 S V, zq_rf, hz, hy]; done) | (simp only [zC_n, zC_r, S.n, wk_0 S V, wk_1 S V, wk_2 S V, wk_3 S V, wk_4 S V, wk_5 S V, wk_6 S V, wk_7 S V, wk_8 S V, wk_9 S V, wk_10 S V, wk_11 S V, wk_12 S V, wk_13 S V, wk_14 S V, wk_15 S V, wr_0_0 S V, wr_0_1 S V, wr_1_3 S V, wr_1_4 S V, wr_1_5 S V, wr_1_6 S V, wr_1_7 S V, wr_1_8 S V, wr_1_9 S V, wr_9_0 S V, wr_9_1 S V, wr_9_2 S V, wr_10_12 S V, wr_12_12 S V, wr_14_12 S V, zq_rf]; have := V.lt; omega)), t_co S V eN a3 hn em hm5 hj hlt' hge']
              simp only [Option.bind_some, Option.toList_some, Option.toList_none, List.cons_append, List.nil_append]
              rw [b69_68 (zi_bI_01 _)]
              have hb : decide ((if j < m n then x 7 (5 * n + j) else -4) = nI ke) = hkF s n (nI ke) (m n) := by
                rw [Bool.eq_iff_iff, decide_eq_true_eq, hkF_iff]
                constructor
                · intro w
                  by_cases hjm : j < m n
                  · rw [if_pos hjm, (tk j hjm).1] at w
                    exact ⟨j, hjm, w⟩
                  · rw [if_neg hjm] at w
                    exact absurd w.symm (nI_n4 ke (by omega))
                · rintro ⟨i', hi', w⟩
                  have ge : ¬ i' < j := fun q => by
                    have := hlt i' q
                    rw [w] at this
                    exact absurd this Int32.lt_irrefl
                  have hjm : j < m n := by omega
                  rw [if_pos hjm, (tk j hjm).1]
                  by_cases ej : i' = j
                  · rw [← ej]; exact w
                  · exfalso
                    have h9 := hge hjm
                    have k1 := g6 j hjm
                    have k2 := g6 i' hi'
                    rw [k2.1] at w
                    have w' := (nI_eq' (by omega) (by omega)).mp w
                    rw [k1.1, nI_lt' (by omega) (by omega)] at h9
                    have := rise_lt g7 (i := j) (j := i') (by omega) hi'
                    omega
              rw [hb]
            · rw [gr h1 q S, if_neg h2, rl h1 q S, if_neg h0, b228_85 (q_g0 S) (q_g1 S), q_has S (by omega) (show m n ≤ 4 by omega) g2]
              simp only [Option.bind_some, Option.toList_some, Option.toList_none, List.cons_append, List.nil_append]
              rw [b228_91 (bI_01 _)]
  obtain ⟨b, e1, e2⟩ := key 24 0 R (by omega) b2 (by omega)
  refine ⟨b, fun u2 u3 => ?_, fun h1 q u S => ?_⟩
  · rw [b69_0 (by first | (simp +decide only [zC_n, zC_k, zC_r, S.n, wk_0 S V, wk_1 S V, wk_2 S V, wk_3 S V, wk_4 S V, wk_5 S V, wk_6 S V, wk_7 S V, wk_8 S V, wk_9 S V, wk_10 S V, wk_11 S V, wk_12 S V, wk_13 S V, wk_14 S V, wk_15 S V, wr_0_0 S V, wr_0_1 S V, wr_1_3 S V, wr_1_4 S V, wr_1_5 S V, wr_1_6 S V, wr_1_7 S V, wr_1_8 S V, wr_1_9 S V, wr_9_0 S V, wr_9_1 S V, wr_9_2 S V, wr_10_12 S V, wr_12_12 S V, wr_14_12 S V, zq_rf, hz, hy]; done) | (simp only [zC_n, zC_r, S.n, wk_0 S V, wk_1 S V, wk_2 S V, wk_3 S V, wk_4 S V, wk_5 S V, wk_6 S V, wk_7 S V, wk_8 S V, wk_9 S V, wk_10 S V, wk_11 S V, wk_12 S V, wk_13 S V, wk_14 S V, wk_15 S V, wr_0_0 S V, wr_0_1 S V, wr_1_3 S V, wr_1_4 S V, wr_1_5 S V, wr_1_6 S V, wr_1_7 S V, wr_1_8 S V, wr_1_9 S V, wr_9_0 S V, wr_9_1 S V, wr_9_2 S V, wr_10_12 S V, wr_12_12 S V, wr_14_12 S V, zq_rf]; have := V.lt; omega)) (by first | (simp +decide only [zC_n, zC_k, zC_r, S.n, wk_0 S V, wk_1 S V, wk_2 S V, wk_3 S V, wk_4 S V, wk_5 S V, wk_6 S V, wk_7 S V, wk_8 S V, wk_9 S V, wk_10 S V, wk_11 S V, wk_12 S V, wk_13 S V, wk_14 S V, wk_15 S V, wr_0_0 S V, wr_0_1 S V, wr_1_3 S V, wr_1_4 S V, wr_1_5 S V, wr_1_6 S V, wr_1_7 S V, wr_1_8 S V, wr_1_9 S V, wr_9_0 S V, wr_9_1 S V, wr_9_2 S V, wr_10_12 S V, wr_12_12 S V, wr_14_12 S V, zq_rf, hz, hy]; done) | (simp only [zC_n, zC_r, S.n, wk_0 S V, wk_1 S V, wk_2 S V, wk_3 S V, wk_4 S V, wk_5 S V, wk_6 S V, wk_7 S V, wk_8 S V, wk_9 S V, wk_10 S V, wk_11 S V, wk_12 S V, wk_13 S V, wk_14 S V, wk_15 S V, wr_0_0 S V, wr_0_1 S V, wr_1_3 S V, wr_1_4 S V, wr_1_5 S V, wr_1_6 S V, wr_1_7 S V, wr_1_8 S V, wr_1_9 S V, wr_9_0 S V, wr_9_1 S V, wr_9_2 S V, wr_10_12 S V, wr_12_12 S V, wr_14_12 S V, zq_rf]; have := V.lt; omega)), zC_i (by decide), T.1.1.2.1, b1]
    exact e1
  · rw [b228_0 (q_g0 S) (q_g1 S) (by rw [q_r0 S, zq_rf]) (by rw [q_r0 S, zq_rf, zQ_n, S.n]; decide) (by rw [q_r0 S, zq_rf, zQ_k, S.k, kx_212]; decide) (by rw [q_r0 S, zq_rf, zQ_k, S.k, kx_212]), q_r0 S, zq_rf, zQ_212, b1]
    exact e2 h1 q S
/-- all keys are found -/
theorem j_af (S : Sh h) (V : Wa W) (T : CR x y s N m) (I : InvG s N R M B L m H r K C f) : ∃ b : Bool, (∀ u : Value, zv 5 68 0 [.ref (W + 1), u] [] (zC h W x y) = some (some (.int (zi_bI b)), zC h W x y)) ∧ ∀ (h1 : zi_Hp) (q : zQs) (u u' : Value), Sh h1 → zv 4 229 0 [.ref 211, u, u'] [] (zQ h1 q s) = some (some (.int (zi_bI b)), zQ h1 q s) := by
  have hy : True := trivial
  have hz : True := trivial
  obtain ⟨eN, -, hN, hM, -⟩ := T.tr I
  obtain ⟨th, hth, hiff⟩ := t_thF S V (y := y) eN hN hM
  have eth : ∀ key, th key = thA s key := fun key => T.1.th I (hiff key)
  have off : ∀ d k, k + d = 100 → ∀ (h1 : zi_Hp) (q : zQs), Sh h1 → zv 4 229 4 [.ref 211, .int 0, .int (nI k)] [] (zQ h1 q s) = some (some (.int 0), zQ h1 q s) := by
    intro d
    induction d with
    | zero =>
      intro k hk h1 q S
      have e : k = 100 := by omega
      subst e
      rw [b229_4, if_pos (by decide), b229_42 (Or.inl rfl)]
    | succ d ih =>
      intro k hk h1 q S
      rw [b229_4, if_neg (show ¬ 99 < nI k from nI_nlt (a := 99) (by omega) (by decide)), b229_10, if_pos rfl, b229_34, b229_35, nI_s]
      exact ih (k + 1) (by omega) h1 q S
  have key : ∀ d k, k + d = 100 → ∃ b : Bool, zv 5 68 2 [.ref (W + 1), .int (nI k)] [] (zC h W x y) = some (some (.int (zi_bI b)), zC h W x y) ∧ ∀ (h1 : zi_Hp) (q : zQs), Sh h1 → zv 4 229 4 [.ref 211, .int 1, .int (nI k)] [] (zQ h1 q s) = some (some (.int (zi_bI b)), zQ h1 q s) := by
    intro d
    induction d with
    | zero =>
      intro k hk
      have e : k = 100 := by omega
      subst e
      exact ⟨true, by rw [b68_2, if_neg (by decide), b68_32]; rfl, fun h1 q S => by rw [b229_4, if_pos (by decide), b229_42 (Or.inr rfl)]; rfl⟩
    | succ d ih =>
      intro k hk
      have cg : zv 5 68 2 [.ref (W + 1), .int (nI k)] [] (zC h W x y) = if zi_bI (thA s (nI k)) = 0 then zv 5 68 26 [.ref (W + 1), .int (nI k)] [] (zC h W x y) else zv 5 68 16 [.ref (W + 1), .int (nI k)] [] (zC h W x y) := by
        rw [b68_2, if_pos (show nI k < 100 from nI_lt (b := 100) (by omega) (by decide)), b68_8 (by first | (simp +decide only [zC_n, zC_k, zC_r, S.n, wk_0 S V, wk_1 S V, wk_2 S V, wk_3 S V, wk_4 S V, wk_5 S V, wk_6 S V, wk_7 S V, wk_8 S V, wk_9 S V, wk_10 S V, wk_11 S V, wk_12 S V, wk_13 S V, wk_14 S V, wk_15 S V, wr_0_0 S V, wr_0_1 S V, wr_1_3 S V, wr_1_4 S V, wr_1_5 S V, wr_1_6 S V, wr_1_7 S V, wr_1_8 S V, wr_1_9 S V, wr_9_0 S V, wr_9_1 S V, wr_9_2 S V, wr_10_12 S V, wr_12_12 S V, wr_14_12 S V, zq_rf, hz, hy]; done) | (simp only [zC_n, zC_r, S.n, wk_0 S V, wk_1 S V, wk_2 S V, wk_3 S V, wk_4 S V, wk_5 S V, wk_6 S V, wk_7 S V, wk_8 S V, wk_9 S V, wk_10 S V, wk_11 S V, wk_12 S V, wk_13 S V, wk_14 S V, wk_15 S V, wr_0_0 S V, wr_0_1 S V, wr_1_3 S V, wr_1_4 S V, wr_1_5 S V, wr_1_6 S V, wr_1_7 S V, wr_1_8 S V, wr_1_9 S V, wr_9_0 S V, wr_9_1 S V, wr_9_2 S V, wr_10_12 S V, wr_12_12 S V, wr_14_12 S V, zq_rf]; have := V.lt; omega)) (by first | (simp +decide only [zC_n, zC_k, zC_r, S.n, wk_0 S V, wk_1 S V, wk_2 S V, wk_3 S V, wk_4 S V, wk_5 S V, wk_6 S V, wk_7 S V, wk_8 S V, wk_9 S V, wk_10 S V, wk_11 S V, wk_12 S V, wk_13 S V, wk_14 S V, wk_15 S V, wr_0_0 S V, wr_0_1 S V, wr_1_3 S V, wr_1_4 S V, wr_1_5 S V, wr_1_6 S V, wr_1_7 S V, wr_1_8 S V, wr_1_9 S V, wr_9_0 S V, wr_9_1 S V, wr_9_2 S V, wr_10_12 S V, wr_12_12 S V, wr_14_12 S V, zq_rf, hz, hy]; done) | (simp only [zC_n, zC_r, S.n, wk_0 S V, wk_1 S V, wk_2 S V, wk_3 S V, wk_4 S V, wk_5 S V, wk_6 S V, wk_7 S V, wk_8 S V, wk_9 S V, wk_10 S V, wk_11 S V, wk_12 S V, wk_13 S V, wk_14 S V, wk_15 S V, wr_0_0 S V, wr_0_1 S V, wr_1_3 S V, wr_1_4 S V, wr_1_5 S V, wr_1_6 S V, wr_1_7 S V, wr_1_8 S V, wr_1_9 S V, wr_9_0 S V, wr_9_1 S V, wr_9_2 S V, wr_10_12 S V, wr_12_12 S V, wr_14_12 S V, zq_rf]; have := V.lt; omega)), hth, eth]
        simp only [Option.bind_some, Option.toList_some, Option.toList_none, List.cons_append, List.nil_append]
        rw [b68_13]
      have rg9 : ∀ (h1 : zi_Hp) (q : zQs), Sh h1 → zv 4 229 4 [.ref 211, .int 1, .int (nI k)] [] (zQ h1 q s) = if zi_bI (thA s (nI k)) = 0 then zv 4 229 4 [.ref 211, .int 1, .int (nI (k + 1))] [] (zQ h1 q s) else zv 4 229 22 [.ref 211, .int 1, .int (nI k)] [] (zQ h1 q s) := fun h1 q S => by
        rw [b229_4, if_neg (show ¬ 99 < nI k from nI_nlt (a := 99) (by omega) (by decide)), b229_10, if_neg (by decide), b229_14 (q_g0 S) (q_g1 S), q_thA S I]
        simp only [Option.bind_some, Option.toList_some, Option.toList_none, List.cons_append, List.nil_append]
        rw [b229_19, b229_30, b229_35, nI_s]
      obtain ⟨b, e1, e2⟩ := ih (k + 1) (by omega)
      cases ht : thA s (nI k) with
      | false => exact ⟨b, by rw [cg, ht, zi_bI_f, if_pos rfl, b68_26, nI_s, e1], fun h1 q S => by rw [rg9 h1 q S, ht, zi_bI_f, if_pos rfl, e2 h1 q S]⟩
      | true =>
        obtain ⟨b', f1, f2⟩ := j_fo S V T I (ke := k) (by omega)
        cases b' with
        | false =>
          refine ⟨false, ?_, fun h1 q S => ?_⟩
          · rw [cg, ht, zi_bI_t, if_neg (by decide), b68_16 (by first | (simp +decide only [zC_n, zC_k, zC_r, S.n, wk_0 S V, wk_1 S V, wk_2 S V, wk_3 S V, wk_4 S V, wk_5 S V, wk_6 S V, wk_7 S V, wk_8 S V, wk_9 S V, wk_10 S V, wk_11 S V, wk_12 S V, wk_13 S V, wk_14 S V, wk_15 S V, wr_0_0 S V, wr_0_1 S V, wr_1_3 S V, wr_1_4 S V, wr_1_5 S V, wr_1_6 S V, wr_1_7 S V, wr_1_8 S V, wr_1_9 S V, wr_9_0 S V, wr_9_1 S V, wr_9_2 S V, wr_10_12 S V, wr_12_12 S V, wr_14_12 S V, zq_rf, hz, hy]; done) | (simp only [zC_n, zC_r, S.n, wk_0 S V, wk_1 S V, wk_2 S V, wk_3 S V, wk_4 S V, wk_5 S V, wk_6 S V, wk_7 S V, wk_8 S V, wk_9 S V, wk_10 S V, wk_11 S V, wk_12 S V, wk_13 S V, wk_14 S V, wk_15 S V, wr_0_0 S V, wr_0_1 S V, wr_1_3 S V, wr_1_4 S V, wr_1_5 S V, wr_1_6 S V, wr_1_7 S V, wr_1_8 S V, wr_1_9 S V, wr_9_0 S V, wr_9_1 S V, wr_9_2 S V, wr_10_12 S V, wr_12_12 S V, wr_14_12 S V, zq_rf]; have := V.lt; omega)) (by first | (simp +decide only [zC_n, zC_k, zC_r, S.n, wk_0 S V, wk_1 S V, wk_2 S V, wk_3 S V, wk_4 S V, wk_5 S V, wk_6 S V, wk_7 S V, wk_8 S V, wk_9 S V, wk_10 S V, wk_11 S V, wk_12 S V, wk_13 S V, wk_14 S V, wk_15 S V, wr_0_0 S V, wr_0_1 S V, wr_1_3 S V, wr_1_4 S V, wr_1_5 S V, wr_1_6 S V, wr_1_7 S V, wr_1_8 S V, wr_1_9 S V, wr_9_0 S V, wr_9_1 S V, wr_9_2 S V, wr_10_12 S V, wr_12_12 S V, wr_14_12 S V, zq_rf, hz, hy]; done) | (simp only [zC_n, zC_r, S.n, wk_0 S V, wk_1 S V, wk_2 S V, wk_3 S V, wk_4 S V, wk_5 S V, wk_6 S V, wk_7 S V, wk_8 S V, wk_9 S V, wk_10 S V, wk_11 S V, wk_12 S V, wk_13 S V, wk_14 S V, wk_15 S V, wr_0_0 S V, wr_0_1 S V, wr_1_3 S V, wr_1_4 S V, wr_1_5 S V, wr_1_6 S V, wr_1_7 S V, wr_1_8 S V, wr_1_9 S V, wr_9_0 S V, wr_9_1 S V, wr_9_2 S V, wr_10_12 S V, wr_12_12 S V, wr_14_12 S V, zq_rf]; have := V.lt; omega)), f1]
            simp only [Option.bind_some, Option.toList_some, Option.toList_none, List.cons_append, List.nil_append]
            rw [b68_21, zi_bI_f, if_pos rfl, b68_24]
          · rw [rg9 h1 q S, ht, zi_bI_t, if_neg (by decide), b229_22 (q_g0 S) (q_g1 S), f2 h1 q _ S]
            simp only [Option.bind_some, Option.toList_some, Option.toList_none, List.cons_append, List.nil_append]
            rw [b229_27, zi_bI_f, if_pos rfl, b229_34, b229_35, nI_s]
            exact off d (k + 1) (by omega) h1 q S
        | true =>
          refine ⟨b, ?_, fun h1 q S => ?_⟩
          · rw [cg, ht, zi_bI_t, if_neg (by decide), b68_16 (by first | (simp +decide only [zC_n, zC_k, zC_r, S.n, wk_0 S V, wk_1 S V, wk_2 S V, wk_3 S V, wk_4 S V, wk_5 S V, wk_6 S V, wk_7 S V, wk_8 S V, wk_9 S V, wk_10 S V, wk_11 S V, wk_12 S V, wk_13 S V, wk_14 S V, wk_15 S V, wr_0_0 S V, wr_0_1 S V, wr_1_3 S V, wr_1_4 S V, wr_1_5 S V, wr_1_6 S V, wr_1_7 S V, wr_1_8 S V, wr_1_9 S V, wr_9_0 S V, wr_9_1 S V, wr_9_2 S V, wr_10_12 S V, wr_12_12 S V, wr_14_12 S V, zq_rf, hz, hy]; done) | (simp only [zC_n, zC_r, S.n, wk_0 S V, wk_1 S V, wk_2 S V, wk_3 S V, wk_4 S V, wk_5 S V, wk_6 S V, wk_7 S V, wk_8 S V, wk_9 S V, wk_10 S V, wk_11 S V, wk_12 S V, wk_13 S V, wk_14 S V, wk_15 S V, wr_0_0 S V, wr_0_1 S V, wr_1_3 S V, wr_1_4 S V, wr_1_5 S V, wr_1_6 S V, wr_1_7 S V, wr_1_8 S V, wr_1_9 S V, wr_9_0 S V, wr_9_1 S V, wr_9_2 S V, wr_10_12 S V, wr_12_12 S V, wr_14_12 S V, zq_rf]; have := V.lt; omega)) (by first | (simp +decide only [zC_n, zC_k, zC_r, S.n, wk_0 S V, wk_1 S V, wk_2 S V, wk_3 S V, wk_4 S V, wk_5 S V, wk_6 S V, wk_7 S V, wk_8 S V, wk_9 S V, wk_10 S V, wk_11 S V, wk_12 S V, wk_13 S V, wk_14 S V, wk_15 S V, wr_0_0 S V, wr_0_1 S V, wr_1_3 S V, wr_1_4 S V, wr_1_5 S V, wr_1_6 S V, wr_1_7 S V, wr_1_8 S V, wr_1_9 S V, wr_9_0 S V, wr_9_1 S V, wr_9_2 S V, wr_10_12 S V, wr_12_12 S V, wr_14_12 S V, zq_rf, hz, hy]; done) | (simp only [zC_n, zC_r, S.n, wk_0 S V, wk_1 S V, wk_2 S V, wk_3 S V, wk_4 S V, wk_5 S V, wk_6 S V, wk_7 S V, wk_8 S V, wk_9 S V, wk_10 S V, wk_11 S V, wk_12 S V, wk_13 S V, wk_14 S V, wk_15 S V, wr_0_0 S V, wr_0_1 S V, wr_1_3 S V, wr_1_4 S V, wr_1_5 S V, wr_1_6 S V, wr_1_7 S V, wr_1_8 S V, wr_1_9 S V, wr_9_0 S V, wr_9_1 S V, wr_9_2 S V, wr_10_12 S V, wr_12_12 S V, wr_14_12 S V, zq_rf]; have := V.lt; omega)), f1]
            simp only [Option.bind_some, Option.toList_some, Option.toList_none, List.cons_append, List.nil_append]
            rw [b68_21, zi_bI_t, if_neg (by decide), b68_26, nI_s, e1]
          · rw [rg9 h1 q S, ht, zi_bI_t, if_neg (by decide), b229_22 (q_g0 S) (q_g1 S), f2 h1 q _ S]
            simp only [Option.bind_some, Option.toList_some, Option.toList_none, List.cons_append, List.nil_append]
            rw [b229_27, zi_bI_t, if_neg (by decide), b229_30, b229_35, nI_s, e2 h1 q S]
  obtain ⟨b, e1, e2⟩ := key 100 0 (Nat.zero_add _)
  exact ⟨b, fun u => by rw [b68_0]; exact e1, fun h1 q u u' S => by rw [b229_0]; exact e2 h1 q S⟩
def chV (b1 b2 b3 b4 b5 b6 : Bool) : Int32 := if b1 = false then 1 else if b2 = false then 2 else if b3 = false then 3 else if b4 = false then 4 else if b5 = false then 5 else if b6 = false then 6 else 0
theorem j_check (O : GO h) (G : Gs (wx h 1) (wy h 1) s) : ∃ v, (∀ u, zv 6 123 0 [.ref 0, u] [] h = some (some (.int v), h)) ∧ ∀ (h1 : zi_Hp) (q : zQs), Sh h1 → zv 5 230 0 [.ref 211] [] (zQ h1 q s) = some (some (.int v), zQ h1 q s) := by
  obtain ⟨S, -⟩ := id O
  obtain ⟨N, R, M, B, L, m, H, r, K, C, f, I, T⟩ := G
  obtain ⟨eN, hN1, hN, hM, hR⟩ := T.tr I
  obtain ⟨⟨a1, a2, a3⟩, ⟨b1', b2'⟩, ⟨d1, d2, d3⟩, GG, -⟩ := id I.1
  obtain ⟨b1, e1, i1⟩ := t_kr S V1 (x := wx h 1) (y := wy h 1) eN hN hM (u1 := .double 0) (u2 := .double 0)
  obtain ⟨b2, e2, i2⟩ := t_kb S V1 (x := wx h 1) (y := wy h 1) eN hN hM (u1 := .double 0)
  obtain ⟨b3, e3, i3⟩ := t_hr S V1 (x := wx h 1) (y := wy h 1) eN hN hR (u1 := .double 0) (u2 := .double 0)
  obtain ⟨b4, e4, i4⟩ := t_rl S V1 (x := wx h 1) (y := wy h 1) eN hN hR (u1 := .double 0) (u2 := .double 0)
  obtain ⟨b5, e5, i5⟩ := k_tw2 S V1 (x := wx h 1) (y := wy h 1) (u1 := .double 0) (u2 := .double 0)
  obtain ⟨b6, e6, e6r⟩ := j_af S V1 T I
  have e6 := e6 (.double 0)
  rw [zC_wx] at e1 e2 e3 e4 e5 e6
  have f1 : zv 3 64 0 [.ref 2, .double 0, .double 0] [] h = some (some (.int (zi_bI b1)), h) := e1
  have f2 : zv 3 65 0 [.ref 2, .double 0] [] h = some (some (.int (zi_bI b2)), h) := e2
  have f3 : zv 3 66 0 [.ref 2, .double 0, .double 0] [] h = some (some (.int (zi_bI b3)), h) := e3
  have f4 : zv 3 67 0 [.ref 2, .double 0, .double 0] [] h = some (some (.int (zi_bI b4)), h) := e4
  have f6 : zv 5 68 0 [.ref 2, .double 0] [] h = some (some (.int (zi_bI b6)), h) := e6
  have h1 : b1 = true := i1.mpr (fun n _ hn i hi him => by
    obtain ⟨-, tk⟩ := T.1.2 n hn
    obtain ⟨-, -, -, g6, g7, -⟩ := GG n hn
    rw [(tk (i - 1) (by omega)).1, (tk i him).1, (g6 (i - 1) (by omega)).1, (g6 i him).1, nI_lt' (by have := (g6 (i - 1) (by omega)).2; omega) (by have := (g6 i him).2; omega)]
    have := g7 (i - 1) (by omega)
    rw [show i - 1 + 1 = i by omega] at this
    exact this)
  have h2 : b2 = itF (bhG s) N 0 true := by
    rw [Bool.eq_iff_iff, i2, itF_all (g := bhG s) (P := fun n => (s (13 * n) = 0 ∧ s (13 * n + 4) = 0 ∧ 0 < s (13 * n + 1)) → ¬ s (13 * n + 2) < s (13 * n + (5 + ((s (13 * n + 1)).toNatClampNeg - 1)))) (N := N) (fun n a hn => by
      unfold bhG
      by_cases q : s (13 * n) = 0 ∧ s (13 * n + 4) = 0 ∧ 0 < s (13 * n + 1)
      · rw [if_pos q, Bool.and_eq_true, decide_eq_true_eq]
        exact ⟨fun w => ⟨w.1, fun _ => w.2⟩, fun w => ⟨w.1, w.2 q⟩⟩
      · rw [if_neg q]
        exact ⟨fun w => ⟨w, fun z => absurd z q⟩, fun w => w.1⟩) N 0 true (Nat.zero_add _)]
    have nd : ∀ n, n < N → (¬ ((wx h 1 2 n = 0 ∧ wy h 1 6 n = false) ∧ 0 < m n ∧ wx h 1 4 n < wx h 1 7 (5 * n + (m n - 1))) ↔ ((s (13 * n) = 0 ∧ s (13 * n + 4) = 0 ∧ 0 < s (13 * n + 1)) → ¬ s (13 * n + 2) < s (13 * n + (5 + ((s (13 * n + 1)).toNatClampNeg - 1))))) := fun n hn => by
      obtain ⟨⟨t2, t3, t4, t5, t6⟩, tk⟩ := T.1.2 n hn
      obtain ⟨⟨g1, g2, g3⟩, g4, g5, -, -, -, -, g10, -⟩ := GG n hn
      rw [t2, t4, t6, g2, nI_clamp (by omega), decide_eq_false_iff_not, show (0 : Int32) = nI 0 from rfl, nI_lt' (by decide) (by omega)]
      constructor
      · rintro w ⟨q1, q2, q3⟩ q4
        refine w ⟨⟨q1, ?_⟩, q3, ?_⟩
        · rw [q2]; decide
        · rw [(tk (m n - 1) (by omega)).1]; exact q4
      · rintro w ⟨⟨q1, q2⟩, q3, q4⟩
        rw [(tk (m n - 1) (by omega)).1] at q4
        exact w ⟨q1, g5.elim id (fun z => absurd z.1 q2), q3⟩ q4
    exact ⟨fun w => ⟨rfl, fun n _ hn => (nd n hn).mp (w n (Nat.zero_le _) hn)⟩, fun w n _ hn => (nd n hn).mpr (w.2 n (Nat.zero_le _) hn)⟩
  have rt : ∀ n, n < N → (wx h 1 5 n < 0 ↔ s (13 * n + 3) = -4) := fun n hn => by
    obtain ⟨⟨t2, t3, t4, t5, t6⟩, tk⟩ := T.1.2 n hn
    rw [t5]
    rcases (GG n hn).2.1 with ⟨w, -⟩ | ⟨w, w2, -⟩
    · rw [w]; decide
    · rw [w]
      exact ⟨fun z => absurd z (nI_pos (by omega)), fun z => absurd z (nI_n4 _ (by omega))⟩
  have h3 : b3 = itF (rhG s 0) N 0 true := by
    rw [Bool.eq_iff_iff, i3, itF_all (g := rhG s 0) (P := fun n => ¬ s (13 * n + 3) = -4 → (s (13 * n + 4) = 1 ∨ s (13 * n + 2) < s (13 * (s (13 * n + 3)).toNatClampNeg + 2))) (N := N) (fun n a hn => by
      unfold rhG
      by_cases q : s (13 * n + 3) = -4
      · rw [if_pos q]; exact ⟨fun w => ⟨w, fun z => absurd q z⟩, fun w => w.1⟩
      · rw [if_neg q, if_pos rfl, Bool.and_eq_true, decide_eq_true_eq]
        exact ⟨fun w => ⟨w.1, fun _ => w.2⟩, fun w => ⟨w.1, w.2 q⟩⟩) N 0 true (Nat.zero_add _)]
    have nd : ∀ n, n < N → (¬ (¬ wx h 1 5 n < 0 ∧ wy h 1 6 n = false ∧ ¬ wx h 1 4 n < wx h 1 4 (wx h 1 5 n).toNatClampNeg) ↔ (¬ s (13 * n + 3) = -4 → (s (13 * n + 4) = 1 ∨ s (13 * n + 2) < s (13 * (s (13 * n + 3)).toNatClampNeg + 2)))) := fun n hn => by
      obtain ⟨⟨t2, t3, t4, t5, t6⟩, tk⟩ := T.1.2 n hn
      rw [rt n hn, t5, t4, t6, decide_eq_false_iff_not]
      rcases (GG n hn).2.1 with ⟨w, -⟩ | ⟨w1, w2, -⟩
      · exact ⟨fun _ z => absurd w z, fun _ z => z.1 w⟩
      · rw [w1, nI_clamp (by omega), (T.1.2 (r n) w2).1.2.2.1]
        constructor
        · intro w z
          by_cases q : s (13 * n + 4) = 1
          · exact Or.inl q
          · exact Or.inr (Decidable.not_not.mp (fun q2 => w ⟨z, q, q2⟩))
        · rintro w ⟨z1, z2, z3⟩
          rcases w z1 with q | q
          · exact z2 q
          · exact z3 q
    exact ⟨fun w => ⟨rfl, fun n _ hn => (nd n hn).mp (w n (Nat.zero_le _) hn)⟩, fun w n _ hn => (nd n hn).mpr (w.2 n (Nat.zero_le _) hn)⟩
  have h4 : b4 = itF (rhG s 1) N 0 true := by
    rw [Bool.eq_iff_iff, i4, itF_all (g := rhG s 1) (P := fun n => ¬ s (13 * n + 3) = -4 → s (13 * n) = s (13 * (s (13 * n + 3)).toNatClampNeg)) (N := N) (fun n a hn => by
      unfold rhG
      by_cases q : s (13 * n + 3) = -4
      · rw [if_pos q]; exact ⟨fun w => ⟨w, fun z => absurd q z⟩, fun w => w.1⟩
      · rw [if_neg q, if_neg (by decide), Bool.and_eq_true, decide_eq_true_eq]
        exact ⟨fun w => ⟨w.1, fun _ => w.2⟩, fun w => ⟨w.1, w.2 q⟩⟩) N 0 true (Nat.zero_add _)]
    have nd : ∀ n, n < N → ((wx h 1 5 n < 0 ∨ wx h 1 2 n = wx h 1 2 (wx h 1 5 n).toNatClampNeg) ↔ (¬ s (13 * n + 3) = -4 → s (13 * n) = s (13 * (s (13 * n + 3)).toNatClampNeg))) := fun n hn => by
      obtain ⟨⟨t2, t3, t4, t5, t6⟩, tk⟩ := T.1.2 n hn
      rw [rt n hn, t5, t2]
      rcases (GG n hn).2.1 with ⟨w, -⟩ | ⟨w1, w2, -⟩
      · exact ⟨fun _ z => absurd w z, fun _ => Or.inl w⟩
      · rw [w1, nI_clamp (by omega), (T.1.2 (r n) w2).1.1]
        constructor
        · rintro (w | w) z
          · exact absurd w z
          · exact w
        · intro w
          exact Or.inr (w (nI_n4 _ (by omega)))
    exact ⟨fun w => ⟨rfl, fun n _ hn => (nd n hn).mp (w n (Nat.zero_le _) hn)⟩, fun w n _ hn => (nd n hn).mpr (w.2 n (Nat.zero_le _) hn)⟩
  have h5 : b5 = itF (haG s) 3 0 true := by
    rw [Bool.eq_iff_iff, i5, itF_all (g := haG s) (P := fun c => hoC s c → lkB s (s (315 + 24 * c + 3)) = nI c) (N := 3) (fun n a hn => by
      unfold haG
      rw [Bool.and_eq_true, decide_eq_true_eq]) 3 0 true rfl]
    have nd : ∀ c, c < 3 → (((wx h 1 (10 + 2 * c) 0 = 2 ∨ wx h 1 (10 + 2 * c) 0 = 4) → hoK (wx h 1) (wx h 1 (10 + 2 * c) 3) = nI c) ↔ (hoC s c → lkB s (s (315 + 24 * c + 3)) = nI c)) := fun c hc => by
      obtain ⟨k0, k1, -, -⟩ := T.2.1 c hc
      rw [k0, T.ho]
      unfold hoC
      constructor
      · intro w z
        rw [← k1 (fun q => by rw [q] at z; rcases z with z | z <;> exact absurd z (by decide)) 3 (by decide) (by decide)]
        exact w z
      · intro w z
        rw [k1 (fun q => by rw [q] at z; rcases z with z | z <;> exact absurd z (by decide)) 3 (by decide) (by decide)]
        exact w z
    exact ⟨fun w => ⟨rfl, fun n _ hn => (nd n hn).mp (w n (Nat.zero_le _) hn)⟩, fun w n _ hn => (nd n hn).mpr (w.2 n (Nat.zero_le _) hn)⟩
  refine ⟨chV true b2 b3 b4 b5 b6, fun u => ?_, fun h1 q S => ?_⟩
  · subst h1
    have e5' : zv 3 99 0 [.ref 1, .double 0, .double 0] [] h = some (some (.int (zi_bI (!b5))), h) := e5
    simp +decide only [b123_0, b123_12, b123_15, b123_17, b123_21, b123_24, b123_26, b123_30, b123_33, b123_35, b123_39, b123_42, b123_44, b123_51, b123_54, b123_56, b123_60, b123_63, b123_67, b123_69, S.n, S.k, S.r, hp_n_wi, hp_k_wi, hp_r_wi, hp_n_wl, hp_k_wl, hp_r_wl, hp_n_wb, hp_k_wb, hp_r_wb, zq_rf, kx_0, kx_1, kx_2, kx_3, kx_4, kx_5, kx_6, kx_7, kx_8, kx_9, kx_10, kx_11, kx_12, kx_13, kx_14, kx_15, kx_16, kx_17, kx_33, kx_34, kx_50, kx_66, kx_67, kx_68, kx_69, kx_197, kx_198, kx_199, kx_200, kx_201, kx_202, kx_203, kx_204, kx_205, kx_206, kx_207, kx_208, kx_209, kx_210, rx_0_0, rx_0_1, rx_0_2, rx_0_3, rx_0_4, rx_0_5, rx_0_6, rx_0_7, rx_1_0, rx_1_1, rx_2_3, rx_2_4, rx_2_5, rx_2_6, rx_2_7, rx_2_8, rx_2_9, rx_10_0, rx_10_1, rx_10_2, rx_33_0, rx_33_1, rx_67_0, rx_68_0, rx_197_0, rx_199_5, rx_199_6, rx_199_7, rx_203_0, rx_203_1, rx_203_2, rx_206_0, rx_206_1, rx_206_2, rx_206_3, Option.bind_some, Option.toList_some, Option.toList_none, List.cons_append, List.nil_append, ↓reduceIte, f1, f2, f3, f4, e5', f6]
    cases b2 <;> cases b3 <;> cases b4 <;> cases b5 <;> cases b6 <;> rfl
  · rw [b230_0 (q_g0 S) (q_g1 S), q_ri S I]
    simp only [Option.bind_some, Option.toList_some, Option.toList_none, List.cons_append, List.nil_append]
    rw [b230_4, if_neg (by decide), b230_9 (q_g0 S) (q_g1 S), q_bh S I, ← h2]
    simp only [Option.bind_some, Option.toList_some, Option.toList_none, List.cons_append, List.nil_append]
    rw [b230_13]
    cases b2 with
    | false => rw [zi_bI_f, if_pos rfl, b230_16]; rfl
    | true =>
      rw [zi_bI_t, if_neg (by decide), b230_18 (q_g0 S) (q_g1 S), q_rh S I, ← h3]
      simp only [Option.bind_some, Option.toList_some, Option.toList_none, List.cons_append, List.nil_append]
      rw [b230_23]
      cases b3 with
      | false => rw [zi_bI_f, if_pos rfl, b230_26]; rfl
      | true =>
        rw [zi_bI_t, if_neg (by decide), b230_28 (q_g0 S) (q_g1 S), q_rh S I, ← h4]
        simp only [Option.bind_some, Option.toList_some, Option.toList_none, List.cons_append, List.nil_append]
        rw [b230_33]
        cases b4 with
        | false => rw [zi_bI_f, if_pos rfl, b230_36]; rfl
        | true =>
          rw [zi_bI_t, if_neg (by decide), b230_38 (q_g0 S) (q_g1 S), q_ha S, ← h5]
          simp only [Option.bind_some, Option.toList_some, Option.toList_none, List.cons_append, List.nil_append]
          rw [b230_42]
          cases b5 with
          | false => rw [zi_bI_f, if_pos rfl, b230_45, b230_62]; rfl
          | true =>
            rw [zi_bI_t, if_neg (by decide), b230_49 (q_g0 S) (q_g1 S), e6r h1 q _ _ S]
            simp only [Option.bind_some, Option.toList_some, Option.toList_none, List.cons_append, List.nil_append]
            rw [b230_53]
            cases b6 with
            | false => rw [zi_bI_f, if_pos rfl, b230_56, b230_62]; rfl
            | true => rw [zi_bI_t, if_neg (by decide), b230_61, b230_62]; rfl
end R34D
