/-! CLASS AND REFERENCE: a KEY is taken out -/
section R31N
variable {h : zi_Hp} {W : Nat} {x x0 x1 X : Nat → Nat → Int32} {y y1 : Nat → Nat → Bool} {s s1 t : Nat → Int32} {N R M B c n k : Nat} {L m H r : Nat → Nat} {K C : Nat → Nat → Nat} {f : Nat → Nat}
section
variable {j b i : Nat}
theorem tr_g {o k : Nat} (hb : b ≤ 5) (h1 : o ≠ 3 ∨ k ≠ n) (h2 : (o ≠ 7 ∧ o ≠ 8) ∨ k < 5 * n ∨ 5 * n + 5 ≤ k) : trF x n j b o k = x o k := by
  unfold trF slF
  rw [u2_n _ _ h1, if_neg (fun q => by omega)]
theorem tr_3 : trF x n j b 3 n = nI (b - 1) := by unfold trF; rw [u2_s]
theorem tr_7 (hi : i < b - 1) : trF x n j b 7 (5 * n + i) = if i < j then x 7 (5 * n + i) else x 7 (5 * n + (i + 1)) := by
  unfold trF slF
  rw [u2_n _ _ (Or.inl (by decide))]
  by_cases q : i < j
  · rw [if_neg (show ¬ ((7 = 7 ∨ 7 = 8) ∧ 5 * n + j ≤ 5 * n + i ∧ 5 * n + i < 5 * n + (b - 1)) by omega), if_pos q]
  · rw [if_pos (show (7 = 7 ∨ 7 = 8) ∧ 5 * n + j ≤ 5 * n + i ∧ 5 * n + i < 5 * n + (b - 1) by omega), if_neg q, Nat.add_assoc]
end
theorem sim_2T (S : Sh h) (V : Wa W) (T : CR x y s N m) (I : InvG s N R M B L m H r K C f) (hc : c < 3) (h2 : s (315 + 24 * c) = 2) (ha1 : ¬ s (315 + 24 * c + 1) = 1) (hmv : msF s c = true) {cd : Int32} (D : StT s c cd s1) {N' R' M' B' : Nat} {L' m' H' r' : Nat → Nat} {K' C' : Nat → Nat → Nat} {f' : Nat → Nat} (J : InvG s1 N' R' M' B' L' m' H' r' K' C' f') {v2 v3 v4 : Value} : ∃ x' y', zv 5 80 0 [.ref W, .int (nI c), v2, v3, v4] [] (zC h W x y) = some (some (.int cd), zC h W x' y') ∧ CR x' y' (stF s s1 c cd) N' m' := by
  obtain ⟨⟨a1, a2, a3⟩, ⟨b1, b2⟩, ⟨d1, d2, d3⟩, G, o, z⟩ := id I.1
  have hon : onB s c = true := by unfold onB; rw [h2]; decide
  have KC := T.2.1 c hc
  obtain ⟨k0, k1, k2, k3⟩ := id KC
  obtain ⟨-, ke, a, eke, hke, ea, ha, pa, hLa⟩ := at_2 I hc h2
  have hs0 : ¬ s (315 + 24 * c) = 0 := by rw [h2]; decide
  have hs5 : ¬ s (315 + 24 * c) = 5 := by rw [h2]; decide
  have w1 := k1 hs0 1 (by decide) (by decide)
  have w2 := k1 hs0 2 (by decide) (by decide)
  have w3 := k1 hs0 3 (by decide) (by decide)
  have eN : x 1 0 = nI N := by rw [T.1.1.1]; exact a1
  have xa : x (10 + 2 * c) 3 = nI a := by rw [w3]; exact ea
  have go : zv 5 80 0 [.ref W, .int (nI c), v2, v3, v4] [] (zC h W x y) = zv 5 80 86 [.ref W, .int (nI c), .ref (W + (10 + 2 * c)), .int 1, v4] [] (zC h W x y) := by
    rw [adv_go S V hc eN a3 (n := a) (fun _ => ⟨xa, ha⟩) (by rw [T.mv I hc (fun _ => ⟨ea, ha⟩)]; exact hmv), b80_30_c2 (by first | (simp only [zC_n, zC_k, zC_r, S.n, wk_0 S V, wk_1 S V, wr_0_0 S V, wr_0_1 S V, wk_9 S V, cl_k S V hc, cl_r S V hc, cl_p S V hc, cl_q S V hc, zq_rf]; done) | (simp only [zC_n, zC_r, S.n, wr_0_0 S V, wr_0_1 S V, cl_r S V hc, cl_p S V hc, zq_rf]; have := V.lt; omega)) (by first | (simp only [zC_n, zC_k, zC_r, S.n, wk_0 S V, wk_1 S V, wr_0_0 S V, wr_0_1 S V, wk_9 S V, cl_k S V hc, cl_r S V hc, cl_p S V hc, cl_q S V hc, zq_rf]; done) | (simp only [zC_n, zC_r, S.n, wr_0_0 S V, wr_0_1 S V, cl_r S V hc, cl_p S V hc, zq_rf]; have := V.lt; omega)) (by rw [zC_i (by omega), k0]; exact h2), k0, h2, decide_eq_true rfl, zi_bI_t, b80_70 (by first | (simp only [zC_n, zC_k, zC_r, S.n, wk_0 S V, wk_1 S V, wr_0_0 S V, wr_0_1 S V, wk_9 S V, cl_k S V hc, cl_r S V hc, cl_p S V hc, cl_q S V hc, zq_rf]; done) | (simp only [zC_n, zC_r, S.n, wr_0_0 S V, wr_0_1 S V, cl_r S V hc, cl_p S V hc, zq_rf]; have := V.lt; omega)) (by first | (simp only [zC_n, zC_k, zC_r, S.n, wk_0 S V, wk_1 S V, wr_0_0 S V, wr_0_1 S V, wk_9 S V, cl_k S V hc, cl_r S V hc, cl_p S V hc, cl_q S V hc, zq_rf]; done) | (simp only [zC_n, zC_r, S.n, wr_0_0 S V, wr_0_1 S V, cl_r S V hc, cl_p S V hc, zq_rf]; have := V.lt; omega)), zC_i (by omega), w1, if_neg ha1]
  have fin : ∀ {x1 : Nat → Nat → Int32} {y1 : Nat → Nat → Bool}, 0 < cd → zv 4 89 0 [.ref W, .ref (W + (10 + 2 * c))] [] (zC h W x y) = some (some (.int cd), zC h W x1 y1) → NB x1 y1 s1 N' m' → ¬ s1 (315 + 24 * c) = 0 → (∀ d, d < 3 → d ≠ c → s1 (315 + 24 * d) = s (315 + 24 * d)) → ∃ x' y', zv 5 80 0 [.ref W, .int (nI c), v2, v3, v4] [] (zC h W x y) = some (some (.int cd), zC h W x' y') ∧ CR x' y' (stF s s1 c cd) N' m' := fun {x1 y1} hp e1 Z hs est => by
    obtain ⟨x', e', R⟩ := sim_h S V hc hp Z J hon hs est
    refine ⟨x', y1, ?_, R⟩
    rw [go, b80_86 (by first | (simp only [zC_n, zC_k, zC_r, S.n, wk_0 S V, wk_1 S V, wr_0_0 S V, wr_0_1 S V, wk_9 S V, cl_k S V hc, cl_r S V hc, cl_p S V hc, cl_q S V hc, zq_rf]; done) | (simp only [zC_n, zC_r, S.n, wr_0_0 S V, wr_0_1 S V, cl_r S V hc, cl_p S V hc, zq_rf]; have := V.lt; omega)) (by first | (simp only [zC_n, zC_k, zC_r, S.n, wk_0 S V, wk_1 S V, wr_0_0 S V, wr_0_1 S V, wk_9 S V, cl_k S V hc, cl_r S V hc, cl_p S V hc, cl_q S V hc, zq_rf]; done) | (simp only [zC_n, zC_r, S.n, wr_0_0 S V, wr_0_1 S V, cl_r S V hc, cl_p S V hc, zq_rf]; have := V.lt; omega)), e1]
    simp only [Option.bind_some, Option.toList_some, Option.toList_none, List.cons_append, List.nil_append]
    rw [b80_91, e']
  obtain ⟨n, mm, hn24, hm4, en, emm, e00, D⟩ := D
  have hna : n = a := by rw [ea] at en; exact ((nI_eq' (by omega) (by omega)).mp en).symm
  subst hna
  obtain ⟨⟨g1, g2, g3⟩, g4, g5, g6, g7, g8, g9, g10, g11, g12⟩ := G n ha
  obtain ⟨⟨t2, t3, t4, t5, t6⟩, tk⟩ := T.1.2 n ha
  have hmm' : mm = m n := by rw [g2] at emm; exact ((nI_eq' (by omega) (by omega)).mp emm).symm
  subst hmm'
  have em : x 3 n = nI (m n) := by rw [t3]; exact g2
  have n13 : ¬ 0 < s (13 * n) := by rw [e00]; decide
  rcases D with ⟨hk, rfl, e1⟩ | ⟨hk, p, hp, ep, hne, D⟩
  · have hnk : ∀ i, i < m n → ¬ s (13 * n + (5 + i)) = s (315 + 24 * c + 2) := fun i hi q => by
      have : hkF s n (s (315 + 24 * c + 2)) (m n) = true := hkF_iff.mpr ⟨i, hi, q⟩
      rw [hk] at this; exact absurd this (by decide)
    obtain ⟨j, hj, hlt, hge⟩ := pl_ex (P := fun i => x 7 (5 * n + i) < x (10 + 2 * c) 2) (m n)
    have hne : ¬ (if j < m n then x 7 (5 * n + j) else -4) = x (10 + 2 * c) 2 := by
      by_cases q : j < m n
      · rw [if_pos q, (tk j q).1, w2]; exact hnk j q
      · rw [if_neg q, w2, eke]
        exact fun w => by have := nI_pos (n := ke) (by omega); rw [← w] at this; exact this (by decide)
    have so : ∀ k, k ≠ 315 + 24 * c → k ≠ 315 + 24 * c + 4 → s1 k = s k := fun k hk h4 => by rw [e1, up_n _ _ hk, up_n _ _ h4]
    have hN' : N' = N := nI_Neq J (by omega) (by rw [so _ (by omega) (by omega)]; exact a1)
    subst hN'
    refine fin (by decide) (e_n S V hc eN a3 xa ha em (by omega) hj hlt hge hne) (NB.of T (c := c) ?_ (fun k _ hk => so k (by omega) (by omega)) (fun o j _ h9 _ => by rw [u2_n _ _ (Or.inl h9), u2_n _ _ (Or.inl h9)]) (fun _ _ _ _ => rfl) (KC.dn hs0 (by rw [e1, up_s]) (by rw [e1, up_n _ _ (by omega), up_s]) (fun w _ _ _ => so _ (by omega) (by omega)) (fun _ => rfl))) (by rw [e1, up_s]; decide) (fun d hd hdc => so _ (by omega) (by omega))
    have hm' : ∀ b, b < N' → m' b = m b := fun b hb => mI_eq J hb (by have := (G b hb).2.2.2.2.2.2.2.1; omega) (by rw [so _ (by omega) (by omega)]; exact (G b hb).1.2.1)
    have q := T.1.cl (x' := u2 (u2 x (10 + 2 * c) 4 0) (10 + 2 * c) 0 5) (y' := y) (s' := s1) a3 (fun b hb => by have := (G b hb).2.2.2.2.2.2.2.1; omega) (fun o j ho => by rw [u2_n _ _ (Or.inl (by omega)), u2_n _ _ (Or.inl (by omega))]) (fun _ => rfl) (fun k hk => so k (by omega) (by omega))
    exact ⟨q.1, fun b hb => ⟨(q.2 b hb).1, fun i hi => (q.2 b hb).2 i (by rw [← hm' b hb]; exact hi)⟩⟩
  · have cls := e_h S V hc (y := y) eN a3 xa ha em (by omega) hp (fun i hi => by
      rw [(tk i (by omega)).1, w2, ← ep, (g6 i (by omega)).1, (g6 p hp).1]
      exact nI_lt (K_lt I ha hi hp) (by have := (g6 p hp).2; omega)) (by rw [(tk p hp).1, w2]; exact ep)
    obtain ⟨X, eX⟩ : ∃ X, X = trF x n p (m n) := ⟨_, rfl⟩
    rw [← eX, t5] at cls
    have Xo : ∀ o k, (o ≠ 3 ∨ k ≠ n) → ((o ≠ 7 ∧ o ≠ 8) ∨ k < 5 * n ∨ 5 * n + 5 ≤ k) → X o k = x o k := fun o k h1 h2 => by rw [eX, tr_g (by omega) h1 h2]
    have X3 : X 3 n = nI (m n - 1) := by rw [eX, tr_3]
    have Xk : ∀ i, i < m n - 1 → X 7 (5 * n + i) = rmF s n 5 p i := fun i hi => by
      rw [eX, tr_7 hi]
      unfold rmF
      by_cases q : i < p
      · rw [if_pos q, if_pos q]; exact (tk i (by omega)).1
      · rw [if_neg q, if_neg q]; exact (tk (i + 1) (by omega)).1
    have Xc : ∀ o k, 9 ≤ o → X o k = x o k := fun o k ho => Xo o k (by omega) (by omega)
    rcases D with ⟨hor, rfl, e1⟩ | ⟨hm1, hr, rfl, e1⟩
    · have eo : ∀ k, k < 315 → s1 k = nH s n (rmF s n 5 p) (fun _ => -4) (m n - 1) k := fun k hk => by rw [e1, up_n _ _ (by omega), up_n _ _ (by omega)]
      have hN' : N' = N := nI_Neq J (by omega) (by rw [eo _ (by decide), nH_o (by omega) (by omega)]; exact a1)
      subst hN'
      have so : ∀ k, 315 ≤ k → k ≠ 315 + 24 * c → k ≠ 315 + 24 * c + 4 → s1 k = s k := fun k h3 hk h4 => by rw [e1, up_n _ _ hk, up_n _ _ h4, nH_o (by omega) (by omega)]
      refine fin (x1 := u2 (u2 X (10 + 2 * c) 4 1) (10 + 2 * c) 0 5) (y1 := y) (by decide) ?_ (NB.of T (c := c) (T.1.node I ha (by omega) J eo (fun o k ho h1 h2 => ?_) ?_ (fun i hi => ?_)) (fun k h3 hk => so k h3 (by omega) (by omega)) (fun o j h10 h9 _ => by rw [u2_n _ _ (Or.inl h9), u2_n _ _ (Or.inl h9), Xc _ _ (by omega)]) (fun _ _ _ _ => rfl) (KC.dn hs0 (by rw [e1, up_s]) (by rw [e1, up_n _ _ (by omega), up_s]) (fun w _ _ _ => so _ (by omega) (by omega) (by omega)) (fun w => Xc _ _ (by omega)))) (by rw [e1, up_s]; decide) (fun d hd hdc => so _ (by omega) (by omega) (by omega))
      · rw [cls, if_pos ?_]
        rcases hor with q | q
        · exact Or.inl (nI_lt (a := 0) (by omega) (by omega))
        · exact Or.inr (by rw [q]; decide)
      · rw [u2_n _ _ (Or.inl (by omega)), u2_n _ _ (Or.inl (by omega)), Xo o k h1 h2]
      · rw [u2_n _ _ (Or.inl (by omega)), u2_n _ _ (Or.inl (by omega)), X3]
      · rw [u2_n _ _ (Or.inl (by omega)), u2_n _ _ (Or.inl (by omega))]; exact ⟨Xk i hi, fun q => absurd q n13⟩
    · have hRr : s (13 * n + 3) = nI (r n) ∧ r n < N := by
        rcases g4 with ⟨q1, q2⟩ | q
        · exact absurd q1 hr
        · exact ⟨q.1, q.2.1⟩
      have eo : ∀ k, k < 315 → k ≠ 13 * n + 4 → s1 k = nH s n (rmF s n 5 0) (fun _ => -4) 0 k := fun k hk h4 => by rw [e1, po_o (by omega), up_n _ _ h4, up_n _ _ (by omega)]
      have e4 : s1 (13 * n + 4) = 1 := by rw [e1, po_o (by omega), up_s]
      have hN' : N' = N := nI_Neq J (by omega) (by rw [eo _ (by decide) (by omega), nH_o (by omega) (by omega)]; exact a1)
      subst hN'
      have bg : ∀ k, 313 ≤ k → k ≠ 315 + 24 * c + 4 → (up (up (nH s n (rmF s n 5 0) (fun _ => -4) 0) (315 + 24 * c + 4) 1) (13 * n + 4) 1) k = s k := fun k hk h4 => by rw [up_n _ _ (by omega), up_n _ _ h4, nH_o (by omega) (by omega)]
      have mn : m' n = 0 := mI_eq J ha (by omega) (by rw [eo _ (by omega) (by omega), nH_1])
      have ma : ∀ b, b < N' → b ≠ n → m' b = m b := fun b hb hbn => mI_eq J hb (by have := (G b hb).2.2.2.2.2.2.2.1; omega) (by rw [eo _ (by omega) (by omega), nH_ne (by omega) hbn (by decide)]; exact (G b hb).1.2.1)
      obtain ⟨x1, ex1⟩ : ∃ x1, x1 = diK X c n := ⟨_, rfl⟩
      obtain ⟨y1, ey1⟩ : ∃ y1, y1 = u2 (u2 y 6 n true) (10 + 2 * c) 11 true := ⟨_, rfl⟩
      have x1o : ∀ o k, o ≠ 10 + 2 * c → x1 o k = X o k := fun o k ho => by
        rw [ex1]; unfold diK riK
        rw [u2_n _ _ (Or.inl ho), u2_n _ _ (Or.inl ho), u2_n _ _ (Or.inl ho), u2_n _ _ (Or.inl ho), u2_n _ _ (Or.inl ho), u2_n _ _ (Or.inl ho)]
      have Z : CN x1 y1 s1 N' m' := by
        refine ⟨⟨?_, ?_, ?_⟩, fun b hb => ?_⟩
        · rw [x1o _ _ (by omega), Xo _ _ (by omega) (by omega), eo _ (by omega) (by omega), nH_o (by omega) (by omega)]; exact T.1.1.1
        · rw [x1o _ _ (by omega), Xo _ _ (by omega) (by omega), eo _ (by omega) (by omega), nH_o (by omega) (by omega)]; exact T.1.1.2.1
        · rw [x1o _ _ (by omega), Xo _ _ (by omega) (by omega), eo _ (by omega) (by omega), nH_o (by omega) (by omega)]; exact T.1.1.2.2
        · by_cases hbn : b = n
          · subst hbn
            refine ⟨⟨?_, ?_, ?_, ?_, ?_⟩, fun i hi => ?_⟩
            · rw [x1o _ _ (by omega), Xo _ _ (by omega) (by omega), eo _ (by omega) (by omega), nH_o (by omega) (by omega)]; exact t2
            · rw [x1o _ _ (by omega), X3, eo _ (by omega) (by omega), nH_1, hm1]
            · rw [x1o _ _ (by omega), Xo _ _ (by omega) (by omega), eo _ (by omega) (by omega), nH_o (by omega) (by omega)]; exact t4
            · rw [x1o _ _ (by omega), Xo _ _ (by omega) (by omega), eo _ (by omega) (by omega), nH_o (by omega) (by omega)]; exact t5
            · rw [ey1, u2_n _ _ (by omega), u2_s, e4]; rfl
            · rw [mn] at hi; exact absurd hi (Nat.not_lt_zero _)
          · obtain ⟨⟨q2, q3, q4, q5, q6⟩, qk⟩ := T.1.2 b hb
            have g10' := (G b hb).2.2.2.2.2.2.2.1
            refine ⟨⟨?_, ?_, ?_, ?_, ?_⟩, fun i hi => ?_⟩
            · rw [x1o _ _ (by omega), Xo _ _ (by omega) (by omega), eo _ (by omega) (by omega), nH_o (by omega) (by omega)]; exact q2
            · rw [x1o _ _ (by omega), Xo _ _ (by omega) (by omega), eo _ (by omega) (by omega), nH_o (by omega) (by omega)]; exact q3
            · rw [x1o _ _ (by omega), Xo _ _ (by omega) (by omega), eo _ (by omega) (by omega), nH_o (by omega) (by omega)]; exact q4
            · rw [x1o _ _ (by omega), Xo _ _ (by omega) (by omega), eo _ (by omega) (by omega), nH_o (by omega) (by omega)]; exact q5
            · rw [ey1, u2_n _ _ (by omega), u2_n _ _ (by omega), eo _ (by omega) (by omega), nH_o (by omega) (by omega)]; exact q6
            · rw [ma b hb hbn] at hi
              rw [x1o _ _ (by omega), x1o _ _ (by omega), Xo _ _ (by omega) (by omega), Xo _ _ (by omega) (by omega), eo _ (by omega) (by omega), nH_o (by omega) (by omega), eo _ (by omega) (by omega), nH_o (by omega) (by omega), eo _ (by omega) (by omega), nH_o (by omega) (by omega)]
              exact qk i hi
      have kc : KR x1 y1 s1 c := by
        rw [ex1]; unfold diK
        refine KC.ri hs0 hs5 (l := 1) (by omega) ?_ (mid := s (13 * n + 2)) (what := nI n) (dead := 1) (fun w hw => ?_) (fun w => ?_) ?_ ?_ ?_ ?_ ?_ (fun w hw => ?_) ?_ ?_ ?_ ?_ ?_ ?_ (fun w hw => ?_)
        · rcases pa 1 (by omega) with q | ⟨b, q, hb, -⟩
          · exact Or.inl q
          · exact Or.inr ⟨b, q, by omega⟩
        · rw [u2_n _ _ (by omega), u2_n _ _ (by omega), Xc _ _ (by omega)]
        · rw [u2_n _ _ (by omega), u2_n _ _ (by omega), Xc _ _ (by omega)]
        · rw [u2_n _ _ (by omega), u2_n _ _ (by omega), Xo _ _ (by omega) (by omega)]; exact T.1.1.2.1
        · rw [u2_s, Xo _ _ (by omega) (by omega)]; exact t4
        · rw [u2_n _ _ (by omega), u2_s]
        · rw [ey1, u2_s]; rfl
        · rw [e1, po_0]
        · rw [e1, po_w (by omega), bg _ (by omega) (by omega)]
        · rw [e1, po_3, bg _ (by omega) (by omega), bg _ (by omega) (by omega)]
        · rw [e1, po_w (by omega), up_n _ _ (by omega), up_s]
        · rw [e1, po_8]
        · rw [e1, po_9]
        · rw [e1, po_10]
        · rw [e1, po_11]
        · rw [e1, po_w (by omega), bg _ (by omega) (by omega)]
      refine fin (x1 := x1) (y1 := y1) (by decide) ?_ (NB.of T (c := c) Z (fun k h3 hk => by rw [e1, po_o (by omega), bg _ (by omega) (by omega)]) (fun o k h10 h9 _ => by rw [x1o _ _ h9, Xc _ _ (by omega)]) (fun o k h10 h9 => by rw [ey1, u2_n _ _ (Or.inl h9), u2_n _ _ (by omega)]) kc) (by rw [e1, po_0]; decide) (fun d hd hdc => by rw [e1, po_o (by omega), bg _ (by omega) (by omega)])
      rw [cls, if_neg ?_, e_d S V hc (x := X) (by rw [Xo _ _ (by omega) (by omega)]; exact eN) a3 (by rw [Xc _ _ (by omega)]; exact xa) ha, ex1, ey1]
      rw [hm1, hRr.1]
      rintro (q | q)
      · exact absurd q (by decide)
      · exact nI_pos (by omega) q
end R31N
