/-! CLASS AND REFERENCE: ABOVE, of a dead leaf -/
section R31H
variable {h : zi_Hp} {W : Nat} {x x1 : Nat → Nat → Int32} {y y1 : Nat → Nat → Bool} {s s1 : Nat → Int32} {N R M B c n : Nat} {L m H r : Nat → Nat} {K C : Nat → Nat → Nat} {f : Nat → Nat}
theorem sim_4X (S : Sh h) (V : Wa W) (T : CR x y s N m) (I : InvG s N R M B L m H r K C f) (hc : c < 3) (h4 : s (315 + 24 * c) = 4) (hdd : s (315 + 24 * c + 11) = 1) (hmv : msF s c = true) {cd : Int32} (D : StX s c cd s1) {N' R' M' B' : Nat} {L' m' H' r' : Nat → Nat} {K' C' : Nat → Nat → Nat} {f' : Nat → Nat} (J : InvG s1 N' R' M' B' L' m' H' r' K' C' f') {v2 v3 v4 : Value} : ∃ x' y', zv 5 80 0 [.ref W, .int (nI c), v2, v3, v4] [] (zC h W x y) = some (some (.int cd), zC h W x' y') ∧ CR x' y' (stF s s1 c cd) N' m' := by
  obtain ⟨⟨a1, a2, a3⟩, ⟨b1, b2⟩, ⟨d1, d2, d3⟩, G, o, z⟩ := id I.1
  have hx0 : ¬ cd = 0 := ms_x I hc hmv (Or.inr (Or.inr (Or.inr (Or.inr (Or.inl ⟨h4, hdd, D⟩)))))
  have hon : onB s c = true := by unfold onB; rw [h4]; decide
  obtain ⟨k0, k1, k2, k3⟩ := T.2.1 c hc
  obtain ⟨-, -, a, ea, ha, -, md, p, t, w8, w9, w10, hmd, hp, ht1, ht2, w11, w4⟩ := at_3 I hc (k0 := 4) (Or.inr rfl) h4
  obtain ⟨hLt, hmH⟩ := w4 rfl
  have hs0 : ¬ s (315 + 24 * c) = 0 := by rw [h4]; decide
  have hs5 : ¬ s (315 + 24 * c) = 5 := by rw [h4]; decide
  have w3 := k1 hs0 3 (by decide) (by decide)
  obtain ⟨y8, y9, y10, y11⟩ := k2 (Or.inr h4)
  have eN : x 1 0 = nI N := by rw [T.1.1.1]; exact a1
  have xa : x (10 + 2 * c) 3 = nI a := by rw [w3]; exact ea
  have go : zv 5 80 0 [.ref W, .int (nI c), v2, v3, v4] [] (zC h W x y) = zv 5 80 113 [.ref W, .int (nI c), .ref (W + (10 + 2 * c)), .int 0, v4] [] (zC h W x y) := by
    rw [adv_go S V hc eN a3 (n := a) (fun _ => ⟨xa, ha⟩) (by rw [T.mv I hc (fun _ => ⟨ea, ha⟩)]; exact hmv), b80_30_d (by first | (simp only [zC_n, zC_k, zC_r, S.n, wk_0 S V, wk_1 S V, wr_0_0 S V, wr_0_1 S V, wk_9 S V, cl_k S V hc, cl_r S V hc, cl_p S V hc, cl_q S V hc, zq_rf]; done) | (simp only [zC_n, zC_r, S.n, wr_0_0 S V, wr_0_1 S V, cl_r S V hc, cl_p S V hc, zq_rf]; have := V.lt; omega)) (by first | (simp only [zC_n, zC_k, zC_r, S.n, wk_0 S V, wk_1 S V, wr_0_0 S V, wr_0_1 S V, wk_9 S V, cl_k S V hc, cl_r S V hc, cl_p S V hc, cl_q S V hc, zq_rf]; done) | (simp only [zC_n, zC_r, S.n, wr_0_0 S V, wr_0_1 S V, cl_r S V hc, cl_p S V hc, zq_rf]; have := V.lt; omega)) (by rw [zC_i (by omega), k0, h4]; exact Or.inr (by decide)), k0, h4, decide_eq_false (by decide), zi_bI_f, b80_106 (by first | (simp only [zC_n, zC_k, zC_r, S.n, wk_0 S V, wk_1 S V, wr_0_0 S V, wr_0_1 S V, wk_9 S V, cl_k S V hc, cl_r S V hc, cl_p S V hc, cl_q S V hc, zq_rf]; done) | (simp only [zC_n, zC_r, S.n, wr_0_0 S V, wr_0_1 S V, cl_r S V hc, cl_p S V hc, zq_rf]; have := V.lt; omega)) (by first | (simp only [zC_n, zC_k, zC_r, S.n, wk_0 S V, wk_1 S V, wr_0_0 S V, wr_0_1 S V, wk_9 S V, cl_k S V hc, cl_r S V hc, cl_p S V hc, cl_q S V hc, zq_rf]; done) | (simp only [zC_n, zC_r, S.n, wr_0_0 S V, wr_0_1 S V, cl_r S V hc, cl_p S V hc, zq_rf]; have := V.lt; omega)), zC_b (by omega), y11, hdd, decide_eq_true rfl, zi_bI_t, if_neg (by decide)]
  have fin : ∀ {x1 : Nat → Nat → Int32} {y1 : Nat → Nat → Bool}, zv 3 93 0 [.ref W, .ref (W + (10 + 2 * c)), .double 0, .double 0] [] (zC h W x y) = some (some (.int cd), zC h W x1 y1) → CR (tdK x1 c cd) y1 (stF s s1 c cd) N' m' → ∃ x' y', zv 5 80 0 [.ref W, .int (nI c), v2, v3, v4] [] (zC h W x y) = some (some (.int cd), zC h W x' y') ∧ CR x' y' (stF s s1 c cd) N' m' := fun {x1 y1} e1 e2 => by
    refine ⟨tdK x1 c cd, y1, ?_, e2⟩
    rw [go, b80_113 (by first | (simp only [zC_n, zC_k, zC_r, S.n, wk_0 S V, wk_1 S V, wr_0_0 S V, wr_0_1 S V, wk_9 S V, cl_k S V hc, cl_r S V hc, cl_p S V hc, cl_q S V hc, zq_rf]; done) | (simp only [zC_n, zC_r, S.n, wr_0_0 S V, wr_0_1 S V, cl_r S V hc, cl_p S V hc, zq_rf]; have := V.lt; omega)) (by first | (simp only [zC_n, zC_k, zC_r, S.n, wk_0 S V, wk_1 S V, wr_0_0 S V, wr_0_1 S V, wk_9 S V, cl_k S V hc, cl_r S V hc, cl_p S V hc, cl_q S V hc, zq_rf]; done) | (simp only [zC_n, zC_r, S.n, wr_0_0 S V, wr_0_1 S V, cl_r S V hc, cl_p S V hc, zq_rf]; have := V.lt; omega)), e1]
    simp only [Option.bind_some, Option.toList_some, Option.toList_none, List.cons_append, List.nil_append]
    rw [b80_118, b80_126, adv_t S V hc hx0]
  obtain ⟨n, mm, j, hn24, hmm, hj, en, emm, hlt, hge, D⟩ := D
  have hna : n = a := by rw [ea] at en; exact ((nI_eq' (by omega) (by omega)).mp en).symm
  subst hna
  obtain ⟨⟨g1, g2, g3⟩, g4, g5, g6, g7, g8, g9, g10, g11, g12⟩ := G n ha
  obtain ⟨⟨t2, t3, t4, t5, t6⟩, tk⟩ := T.1.2 n ha
  have hmm' : mm = m n := by rw [g2] at emm; exact ((nI_eq' (by omega) (by omega)).mp emm).symm
  subst hmm'
  have ln := I.lv ha
  have em : x 3 n = nI (m n) := by rw [t3]; exact g2
  have hs13 : 0 < s (13 * n) := by rw [g1]; exact nI_lt (a := 0) (by omega) (by omega)
  have cls := a_d S V hc (y := y) eN a3 xa ha em (by omega) hj (fun i hi => by rw [(tk i (by omega)).1, y8]; exact hlt i hi) (by rw [(tk j hj).1, y8]; exact hge) (by rw [t2]; exact hs13) (fun i hi => by rw [(tk i hi).1, (g6 i hi).1]; exact nI_pos (by have := (g6 i hi).2; omega)) (v2 := .double 0) (v3 := .double 0)
  rw [(tk j hj).1, (tk j hj).2 hs13, y8, y10] at cls
  have kr : ∀ {x1 : Nat → Nat → Int32} {s1 : Nat → Int32}, (∀ w, x1 (10 + 2 * c) w = if w = 0 then 5 else x (10 + 2 * c) w) → s1 (315 + 24 * c) = 5 → (∀ w, 1 ≤ w → w < 24 → s1 (315 + 24 * c + w) = s (315 + 24 * c + w)) → KR x1 y s1 c := fun {x1 s1} e1 e2 e3 => by
    unfold KR
    rw [e2]
    refine ⟨by rw [e1]; rfl, fun _ w h1 h7 => by rw [e1, if_neg (by omega), e3 w h1 (by omega)]; exact k1 hs0 w h1 h7, fun q => ?_, fun _ q => absurd rfl q⟩
    rcases q with q | q <;> exact absurd q (by decide)
  rcases D with ⟨hno, rfl, e1⟩ | ⟨hj2, x1', x2', rfl, e1⟩
  · have hN' : N' = N := nI_Neq J (by omega) (by rw [e1, up_n _ _ (by omega)]; exact a1)
    subst hN'
    have so : ∀ k, k ≠ 315 + 24 * c → s1 k = s k := fun k hk => by rw [e1, up_n _ _ hk]
    refine fin (x1 := u2 x (10 + 2 * c) 0 5) (y1 := y) ?_ (sim_n T J (fun key => thA_cl I (fun k hk => so k (by omega)) key) ?_ hc (by decide) hon (fun k _ hk => so k (by omega)) (so _ (by omega)) (so _ (by omega)) (fun o j _ h9 _ => u2_n _ _ (Or.inl h9)) (fun _ _ _ _ => rfl) (kr (fun w => ?_) (by rw [e1, up_s]) (fun w _ _ => so _ (by omega))) (by rw [e1, up_s]; decide))
    · rw [cls, if_neg (fun q => by
        rcases hno with w | w | w
        · exact w q.1
        · exact w q.2.1
        · omega)]
    · have hm' : ∀ b, b < N' → m' b = m b := fun b hb => mI_eq J hb (by have := (G b hb).2.2.2.2.2.2.2.1; omega) (by rw [so _ (by omega)]; exact (G b hb).1.2.1)
      have q := T.1.cl (x' := u2 x (10 + 2 * c) 0 5) (y' := y) (s' := s1) a3 (fun b hb => by have := (G b hb).2.2.2.2.2.2.2.1; omega) (fun o j ho => u2_n _ _ (Or.inl (by omega))) (fun _ => rfl) (fun k hk => so k (by omega))
      exact ⟨q.1, fun b hb => ⟨(q.2 b hb).1, fun i hi => (q.2 b hb).2 i (by rw [← hm' b hb]; exact hi)⟩⟩
    · by_cases e0 : w = 0
      · subst e0; rw [u2_s]; rfl
      · rw [u2_n _ _ (Or.inr e0), if_neg e0]
  · have eo : ∀ k, k < 315 → s1 k = nH s n (rmF s n 5 j) (rmF s n 9 j) (m n - 1) k := fun k hk => by rw [e1, up_n _ _ (by omega)]
    have hN' : N' = N := nI_Neq J (by omega) (by rw [eo _ (by decide), nH_o (by omega) (by omega)]; exact a1)
    subst hN'
    have so : ∀ k, 315 ≤ k → k ≠ 315 + 24 * c → s1 k = s k := fun k h3 hk => by rw [e1, up_n _ _ hk, nH_o (by omega) (by omega)]
    have ro : ∀ o k, o ≠ 3 → o ≠ 7 → o ≠ 8 → trF x n j (m n) o k = x o k := fun o k h1 h2 h3 => by
      unfold trF slF
      rw [u2_n _ _ (Or.inl h1), if_neg (fun q => by omega)]
    refine fin (x1 := u2 (trF x n j (m n)) (10 + 2 * c) 0 5) (y1 := y) (by rw [cls, if_pos ⟨x1', x2', hj2⟩]) (sim_n T J (thA_node I ha (by omega) (by omega) J eo) (T.1.node I ha (by omega) J eo (fun o k ho h1 h2 => ?_) ?_ (fun i hi => ?_)) hc (by decide) hon (fun k h3 hk => so k h3 (by omega)) (so _ (by omega) (by omega)) (so _ (by omega) (by omega)) (fun o k h10 h9 _ => by rw [u2_n _ _ (Or.inl h9), ro _ _ (by omega) (by omega) (by omega)]) (fun _ _ _ _ => rfl) (kr (fun w => ?_) (by rw [e1, up_s]) (fun w _ _ => so _ (by omega) (by omega))) (by rw [e1, up_s]; decide))
    · rw [u2_n _ _ (Or.inl (by omega))]
      unfold trF slF
      rw [u2_n _ _ h1, if_neg (fun q => by omega)]
    · rw [u2_n _ _ (Or.inl (by omega))]; unfold trF; rw [u2_s]
    · rw [u2_n _ _ (Or.inl (by omega)), u2_n _ _ (Or.inl (by omega))]
      unfold trF slF rmF
      rw [u2_n _ _ (Or.inl (by decide)), u2_n _ _ (Or.inl (by decide))]
      by_cases q : i < j
      · rw [if_neg (show ¬ ((7 = 7 ∨ 7 = 8) ∧ 5 * n + j ≤ 5 * n + i ∧ 5 * n + i < 5 * n + (m n - 1)) by omega), if_neg (show ¬ ((8 = 7 ∨ 8 = 8) ∧ 5 * n + j ≤ 5 * n + i ∧ 5 * n + i < 5 * n + (m n - 1)) by omega), if_pos q, if_pos q]; exact tk i (by omega)
      · rw [if_pos (show (7 = 7 ∨ 7 = 8) ∧ 5 * n + j ≤ 5 * n + i ∧ 5 * n + i < 5 * n + (m n - 1) by omega), if_pos (show (8 = 7 ∨ 8 = 8) ∧ 5 * n + j ≤ 5 * n + i ∧ 5 * n + i < 5 * n + (m n - 1) by omega), if_neg q, if_neg q]; exact tk (i + 1) (by omega)
    · by_cases e0 : w = 0
      · subst e0; rw [u2_s]; rfl
      · rw [u2_n _ _ (Or.inr e0), if_neg e0, ro _ _ (by omega) (by omega) (by omega)]
end R31H
