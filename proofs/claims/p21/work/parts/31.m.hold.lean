/-! CLASS AND REFERENCE: the steps that HOLD -/
section R31M
variable {h : zi_Hp} {W : Nat} {x x0 x1 X : Nat → Nat → Int32} {y y1 : Nat → Nat → Bool} {s s1 t : Nat → Int32} {N R M B c n k : Nat} {L m H r : Nat → Nat} {K C : Nat → Nat → Nat} {f : Nat → Nat}
theorem NB.of (T : CR x y s N m) {N' : Nat} {m' : Nat → Nat} (Z : CN x1 y1 s1 N' m') (e : ∀ k, 315 ≤ k → (k < 315 + 24 * c ∨ 315 + 24 * c + 24 ≤ k) → s1 k = s k) (ex : ∀ o j, 10 ≤ o → o ≠ 10 + 2 * c → o ≠ 11 + 2 * c → x1 o j = x o j) (ey : ∀ o j, 10 ≤ o → o ≠ 10 + 2 * c → y1 o j = y o j) (k : KR x1 y1 s1 c) : NB x1 y1 s1 N' m' := by
  refine ⟨Z, fun d hd => ?_⟩
  by_cases q : d = c
  · rw [q]; exact k
  · obtain ⟨k0, k1, k2, k3⟩ := T.2.1 d hd
    have ez : ∀ w, w < 24 → s1 (315 + 24 * d + w) = s (315 + 24 * d + w) := fun w hw => e _ (by omega) (by omega)
    have ez0 : s1 (315 + 24 * d) = s (315 + 24 * d) := ez 0 (by decide)
    have exd : ∀ j, x1 (10 + 2 * d) j = x (10 + 2 * d) j := fun j => ex _ _ (by omega) (by omega) (by omega)
    have exp : ∀ j, x1 (11 + 2 * d) j = x (11 + 2 * d) j := fun j => ex _ _ (by omega) (by omega) (by omega)
    unfold KR
    rw [ez0, exd 0, exd 8, exd 9, exd 10, ez 8 (by decide), ez 9 (by decide), ez 10 (by decide), ez 11 (by decide), ey _ _ (by omega) (by omega)]
    exact ⟨k0, fun h1 w w1 w7 => by rw [exd, ez w (by omega)]; exact k1 h1 w w1 w7, k2, fun h1 h2 l hl => by rw [exp, ez (12 + l) (by omega)]; exact k3 h1 h2 l hl⟩
theorem KR.dn (k : KR x y s c) (hs0 : ¬ s (315 + 24 * c) = 0) {ans : Int32} (e0 : s1 (315 + 24 * c) = 5) (e4 : s1 (315 + 24 * c + 4) = ans) (e : ∀ w, 1 ≤ w → w ≤ 7 → w ≠ 4 → s1 (315 + 24 * c + w) = s (315 + 24 * c + w)) (eX : ∀ w, X (10 + 2 * c) w = x (10 + 2 * c) w) : KR (u2 (u2 X (10 + 2 * c) 4 ans) (10 + 2 * c) 0 5) y1 s1 c := by
  unfold KR
  rw [e0]
  refine ⟨u2_s _ _ _ _, fun _ w h1 h7 => ?_, fun q => ?_, fun _ q => absurd rfl q⟩
  · rw [u2_n _ _ (by omega)]
    by_cases w4 : w = 4
    · subst w4; rw [u2_s, e4]
    · rw [u2_n _ _ (by omega), eX, e w h1 h7 w4]; exact k.2.1 hs0 w h1 h7
  · rcases q with q | q <;> exact absurd q (by decide)
theorem pl_ex {P : Nat → Prop} : ∀ b : Nat, ∃ j, j ≤ b ∧ (∀ i, i < j → P i) ∧ (j < b → ¬ P j)
  | 0 => ⟨0, Nat.le_refl _, fun i hi => absurd hi (Nat.not_lt_zero _), fun q => absurd q (Nat.not_lt_zero _)⟩
  | b + 1 => by
    obtain ⟨j, h1, h2, h3⟩ := pl_ex (P := P) b
    by_cases e : j = b
    · subst e
      by_cases p : P j
      · refine ⟨j + 1, Nat.le_refl _, fun i hi => ?_, fun q => absurd q (Nat.lt_irrefl _)⟩
        by_cases q : i = j
        · rw [q]; exact p
        · exact h2 i (by omega)
      · exact ⟨j, by omega, h2, fun _ => p⟩
    · exact ⟨j, by omega, h2, fun _ => h3 (by omega)⟩
theorem K_lt (I : InvG s N R M B L m H r K C f) (hn : n < N) : ∀ {j i : Nat}, i < j → j < m n → K n i < K n j
  | 0, i, hi, _ => absurd hi (Nat.not_lt_zero _)
  | j + 1, i, hi, hj => by
    have g7 := (I.1.2.2.2.1 n hn).2.2.2.2.1
    by_cases e : i = j
    · rw [e]; exact g7 j hj
    · have := K_lt I hn (j := j) (i := i) (by omega) (by omega)
      have := g7 j hj
      omega
theorem sim_2P (S : Sh h) (V : Wa W) (T : CR x y s N m) (I : InvG s N R M B L m H r K C f) (hc : c < 3) (h2 : s (315 + 24 * c) = 2) (ha1 : s (315 + 24 * c + 1) = 1) (hmv : msF s c = true) {cd : Int32} (D : StP s c cd s1) {N' R' M' B' : Nat} {L' m' H' r' : Nat → Nat} {K' C' : Nat → Nat → Nat} {f' : Nat → Nat} (J : InvG s1 N' R' M' B' L' m' H' r' K' C' f') {v2 v3 v4 : Value} : ∃ x' y', zv 5 80 0 [.ref W, .int (nI c), v2, v3, v4] [] (zC h W x y) = some (some (.int cd), zC h W x' y') ∧ CR x' y' (stF s s1 c cd) N' m' := by
  obtain ⟨⟨a1, a2, a3⟩, ⟨b1, b2⟩, ⟨d1, d2, d3⟩, G, o, z⟩ := id I.1
  have hon : onB s c = true := by unfold onB; rw [h2]; decide
  have KC := T.2.1 c hc
  obtain ⟨k0, k1, k2, k3⟩ := id KC
  obtain ⟨-, ke, a, eke, hke, ea, ha, pa, hLa⟩ := at_2 I hc h2
  have hs0 : ¬ s (315 + 24 * c) = 0 := by rw [h2]; decide
  have hs5 : ¬ s (315 + 24 * c) = 5 := by rw [h2]; decide
  have w1 := k1 hs0 1 (by decide) (by decide)
  have w2 := k1 hs0 2 (by decide) (by decide)
  have w3 := k1 hs0 3 (by decide) (by decide)
  have eN : x 1 0 = nI N := by rw [T.1.1.1]; exact a1
  have eM : x 1 2 = nI M := by rw [T.1.1.2.2]; exact d1
  have xa : x (10 + 2 * c) 3 = nI a := by rw [w3]; exact ea
  have go : zv 5 80 0 [.ref W, .int (nI c), v2, v3, v4] [] (zC h W x y) = zv 5 80 78 [.ref W, .int (nI c), .ref (W + (10 + 2 * c)), .int 1, v4] [] (zC h W x y) := by
    rw [adv_go S V hc eN a3 (n := a) (fun _ => ⟨xa, ha⟩) (by rw [T.mv I hc (fun _ => ⟨ea, ha⟩)]; exact hmv), b80_30_c2 (by first | (simp only [zC_n, zC_k, zC_r, S.n, wk_0 S V, wk_1 S V, wr_0_0 S V, wr_0_1 S V, wk_9 S V, cl_k S V hc, cl_r S V hc, cl_p S V hc, cl_q S V hc, zq_rf]; done) | (simp only [zC_n, zC_r, S.n, wr_0_0 S V, wr_0_1 S V, cl_r S V hc, cl_p S V hc, zq_rf]; have := V.lt; omega)) (by first | (simp only [zC_n, zC_k, zC_r, S.n, wk_0 S V, wk_1 S V, wr_0_0 S V, wr_0_1 S V, wk_9 S V, cl_k S V hc, cl_r S V hc, cl_p S V hc, cl_q S V hc, zq_rf]; done) | (simp only [zC_n, zC_r, S.n, wr_0_0 S V, wr_0_1 S V, cl_r S V hc, cl_p S V hc, zq_rf]; have := V.lt; omega)) (by rw [zC_i (by omega), k0]; exact h2), k0, h2, decide_eq_true rfl, zi_bI_t, b80_70 (by first | (simp only [zC_n, zC_k, zC_r, S.n, wk_0 S V, wk_1 S V, wr_0_0 S V, wr_0_1 S V, wk_9 S V, cl_k S V hc, cl_r S V hc, cl_p S V hc, cl_q S V hc, zq_rf]; done) | (simp only [zC_n, zC_r, S.n, wr_0_0 S V, wr_0_1 S V, cl_r S V hc, cl_p S V hc, zq_rf]; have := V.lt; omega)) (by first | (simp only [zC_n, zC_k, zC_r, S.n, wk_0 S V, wk_1 S V, wr_0_0 S V, wr_0_1 S V, wk_9 S V, cl_k S V hc, cl_r S V hc, cl_p S V hc, cl_q S V hc, zq_rf]; done) | (simp only [zC_n, zC_r, S.n, wr_0_0 S V, wr_0_1 S V, cl_r S V hc, cl_p S V hc, zq_rf]; have := V.lt; omega)), zC_i (by omega), w1, ha1, if_pos rfl]
  have fin : ∀ {x1 : Nat → Nat → Int32} {y1 : Nat → Nat → Bool}, 0 < cd → zv 4 86 0 [.ref W, .ref (W + (10 + 2 * c)), .double 0] [] (zC h W x y) = some (some (.int cd), zC h W x1 y1) → NB x1 y1 s1 N' m' → ¬ s1 (315 + 24 * c) = 0 → (∀ d, d < 3 → d ≠ c → s1 (315 + 24 * d) = s (315 + 24 * d)) → ∃ x' y', zv 5 80 0 [.ref W, .int (nI c), v2, v3, v4] [] (zC h W x y) = some (some (.int cd), zC h W x' y') ∧ CR x' y' (stF s s1 c cd) N' m' := fun {x1 y1} hp e1 Z hs est => by
    obtain ⟨x', e', R⟩ := sim_h S V hc hp Z J hon hs est
    refine ⟨x', y1, ?_, R⟩
    rw [go, b80_78 (by first | (simp only [zC_n, zC_k, zC_r, S.n, wk_0 S V, wk_1 S V, wr_0_0 S V, wr_0_1 S V, wk_9 S V, cl_k S V hc, cl_r S V hc, cl_p S V hc, cl_q S V hc, zq_rf]; done) | (simp only [zC_n, zC_r, S.n, wr_0_0 S V, wr_0_1 S V, cl_r S V hc, cl_p S V hc, zq_rf]; have := V.lt; omega)) (by first | (simp only [zC_n, zC_k, zC_r, S.n, wk_0 S V, wk_1 S V, wr_0_0 S V, wr_0_1 S V, wk_9 S V, cl_k S V hc, cl_r S V hc, cl_p S V hc, cl_q S V hc, zq_rf]; done) | (simp only [zC_n, zC_r, S.n, wr_0_0 S V, wr_0_1 S V, cl_r S V hc, cl_p S V hc, zq_rf]; have := V.lt; omega)), e1]
    simp only [Option.bind_some, Option.toList_some, Option.toList_none, List.cons_append, List.nil_append]
    rw [b80_83, b80_91, e']
  obtain ⟨n, mm, MM, hn24, hmM, hM2, hM4, en, emm, eMM, e00, D⟩ := D
  have hna : n = a := by rw [ea] at en; exact ((nI_eq' (by omega) (by omega)).mp en).symm
  subst hna
  obtain ⟨⟨g1, g2, g3⟩, g4, g5, g6, g7, g8, g9, g10, g11, g12⟩ := G n ha
  obtain ⟨⟨t2, t3, t4, t5, t6⟩, tk⟩ := T.1.2 n ha
  have hmm' : mm = m n := by rw [g2] at emm; exact ((nI_eq' (by omega) (by omega)).mp emm).symm
  subst hmm'
  have hMM' : MM = M := by rw [d1] at eMM; exact ((nI_eq' (by omega) (by omega)).mp eMM).symm
  subst hMM'
  have em : x 3 n = nI (m n) := by rw [t3]; exact g2
  have n13 : ¬ 0 < s (13 * n) := by rw [e00]; decide
  -- the row's nodes stay
  have still : ∀ {ans : Int32}, s1 = up (up s (315 + 24 * c + 4) ans) (315 + 24 * c) 5 → NB (u2 (u2 x (10 + 2 * c) 4 ans) (10 + 2 * c) 0 5) y s1 N' m' := fun {ans} e1 => by
    have so : ∀ k, k ≠ 315 + 24 * c → k ≠ 315 + 24 * c + 4 → s1 k = s k := fun k hk h4 => by rw [e1, up_n _ _ hk, up_n _ _ h4]
    have hN' : N' = N := nI_Neq J (by omega) (by rw [so _ (by omega) (by omega)]; exact a1)
    subst hN'
    refine NB.of T (c := c) ?_ (fun k _ hk => so k (by omega) (by omega)) (fun o j _ h9 _ => by rw [u2_n _ _ (Or.inl h9), u2_n _ _ (Or.inl h9)]) (fun _ _ _ _ => rfl) (KC.dn hs0 (by rw [e1, up_s]) (by rw [e1, up_n _ _ (by omega), up_s]) (fun w _ _ _ => so _ (by omega) (by omega)) (fun _ => rfl))
    have hm' : ∀ b, b < N' → m' b = m b := fun b hb => mI_eq J hb (by have := (G b hb).2.2.2.2.2.2.2.1; omega) (by rw [so _ (by omega) (by omega)]; exact (G b hb).1.2.1)
    have q := T.1.cl (x' := u2 (u2 x (10 + 2 * c) 4 ans) (10 + 2 * c) 0 5) (y' := y) (s' := s1) a3 (fun b hb => by have := (G b hb).2.2.2.2.2.2.2.1; omega) (fun o j ho => by rw [u2_n _ _ (Or.inl (by omega)), u2_n _ _ (Or.inl (by omega))]) (fun _ => rfl) (fun k hk => so k (by omega) (by omega))
    exact ⟨q.1, fun b hb => ⟨(q.2 b hb).1, fun i hi => (q.2 b hb).2 i (by rw [← hm' b hb]; exact hi)⟩⟩
  have stS : ∀ {ans : Int32}, s1 = up (up s (315 + 24 * c + 4) ans) (315 + 24 * c) 5 → ¬ s1 (315 + 24 * c) = 0 ∧ (∀ d, d < 3 → d ≠ c → s1 (315 + 24 * d) = s (315 + 24 * d)) := fun {ans} e1 => ⟨by rw [e1, up_s]; decide, fun d hd hdc => by rw [e1, up_n _ _ (by omega), up_n _ _ (by omega)]⟩
  rcases D with ⟨hk, rfl, e1⟩ | ⟨hk, p, hp, hlo, hhi, D⟩
  · obtain ⟨i, hi, ei⟩ := hkF_iff.mp hk
    refine fin (by decide) (f_h S V hc eN a3 xa ha em (by omega) hi (fun j hj => ?_) ?_) (still e1) (stS e1).1 (stS e1).2
    · rw [(tk j (by omega)).1, w2, ← ei, (g6 j (by omega)).1, (g6 i hi).1]
      exact nI_lt (K_lt I ha hj hi) (by have := (g6 i hi).2; omega)
    · rw [(tk i hi).1, w2]; exact ei
  · have hnk : ∀ i, i < m n → ¬ s (13 * n + (5 + i)) = s (315 + 24 * c + 2) := fun i hi q => by
      have : hkF s n (s (315 + 24 * c + 2)) (m n) = true := hkF_iff.mpr ⟨i, hi, q⟩
      rw [hk] at this; exact absurd this (by decide)
    have hlt : ∀ i, i < p → x 7 (5 * n + i) < x (10 + 2 * c) 2 := fun i hi => by
      have q1 := hlo i hi
      have q2 := hnk i (by omega)
      have q3 := g6 i (by omega)
      rw [(tk i (by omega)).1, w2, q3.1, eke]
      rw [q3.1, eke, nI_lt' (by omega) (by omega)] at q1
      rw [q3.1, eke] at q2
      have q4 : ¬ K n i = ke := fun w => q2 (by rw [w])
      exact nI_lt (by omega) (by omega)
    have hge : p < m n → ¬ x 7 (5 * n + p) < x (10 + 2 * c) 2 := fun hp' => by
      have q1 := hhi p (Nat.le_refl _) hp'
      have q3 := g6 p hp'
      rw [(tk p hp').1, w2, q3.1, eke, nI_lt' (by omega) (by omega)]
      rw [q3.1, eke, nI_lt' (by omega) (by omega)] at q1
      omega
    have hne : ¬ (if p < m n then x 7 (5 * n + p) else -4) = x (10 + 2 * c) 2 := by
      by_cases q : p < m n
      · rw [if_pos q, (tk p q).1, w2]; exact hnk p q
      · rw [if_neg q, w2, eke]
        exact fun w => by have := nI_pos (n := ke) (by omega); rw [← w] at this; exact this (by decide)
    obtain ⟨x0, ex0⟩ : ∃ x0, x0 = tiF x n p (m n) (x (10 + 2 * c) 2) (-4) := ⟨_, rfl⟩
    have cls := f_n S V hc (y := y) eN a3 xa ha em (by omega) hp hlt hge hne (v2 := .double 0)
    have ins := fun (v : Int32) => f_i S V hc (y := y) eN a3 xa ha em (by omega) hp hlt hge (v := v)
    rw [← ex0] at ins
    have x0o : ∀ o k, (o ≠ 3 ∨ k ≠ n) → ((o ≠ 7 ∧ o ≠ 8) ∨ k < 5 * n ∨ 5 * n + 5 ≤ k) → x0 o k = x o k := fun o k h1 h2 => by rw [ex0, ti_g hp (by omega) h1 h2]
    have x03 : x0 3 n = nI (m n + 1) := by rw [ex0, ti_3]
    have x0k : ∀ i, i < m n + 1 → x0 7 (5 * n + i) = blF s n p (s (315 + 24 * c + 2)) i ∧ (0 < s (13 * n) → x0 8 (5 * n + i) = (fun _ => -4 : Nat → Int32) i) := fun i hi => by
      refine ⟨?_, fun q => absurd q n13⟩
      rw [ex0, ti_7 (by omega)]
      unfold blF
      by_cases q : i < p
      · rw [if_pos q, if_pos q]; exact (tk i (by omega)).1
      · rw [if_neg q, if_neg q]
        by_cases q2 : i = p
        · rw [if_pos q2, if_pos q2]; exact w2
        · rw [if_neg q2, if_neg q2]; exact (tk (i - 1) (by omega)).1
    have x0c : ∀ o k, 9 ≤ o → x0 o k = x o k := fun o k ho => x0o o k (by omega) (by omega)
    rcases D with ⟨hlM, rfl, e1⟩ | ⟨hmM2, h24, rfl, e1⟩ | ⟨hmM2, v, ls, hv, hnv, ev, hls, rfl, e1⟩
    · have eo : ∀ k, k < 315 → s1 k = nH s n (blF s n p (s (315 + 24 * c + 2))) (fun _ => -4) (m n + 1) k := fun k hk => by rw [e1, up_n _ _ (by omega), up_n _ _ (by omega)]
      have hN' : N' = N := nI_Neq J (by omega) (by rw [eo _ (by decide), nH_o (by omega) (by omega)]; exact a1)
      subst hN'
      have so : ∀ k, 315 ≤ k → k ≠ 315 + 24 * c → k ≠ 315 + 24 * c + 4 → s1 k = s k := fun k h3 hk h4 => by rw [e1, up_n _ _ hk, up_n _ _ h4, nH_o (by omega) (by omega)]
      refine fin (x1 := u2 (u2 x0 (10 + 2 * c) 4 1) (10 + 2 * c) 0 5) (y1 := y) (by decide) ?_ (NB.of T (c := c) (T.1.node I ha (by omega) J eo (fun o k ho h1 h2 => ?_) ?_ (fun i hi => ?_)) (fun k h3 hk => so k h3 (by omega) (by omega)) (fun o j h10 h9 _ => by rw [u2_n _ _ (Or.inl h9), u2_n _ _ (Or.inl h9), x0c _ _ (by omega)]) (fun _ _ _ _ => rfl) (KC.dn hs0 (by rw [e1, up_s]) (by rw [e1, up_n _ _ (by omega), up_s]) (fun w _ _ _ => so _ (by omega) (by omega) (by omega)) (fun w => x0c _ _ (by omega)))) (by rw [e1, up_s]; decide) (fun d hd hdc => so _ (by omega) (by omega) (by omega))
      · rw [cls, if_pos (by rw [em, eM]; exact nI_lt (by omega) (by omega)), ins, f_o S V hc]
      · rw [u2_n _ _ (Or.inl (by omega)), u2_n _ _ (Or.inl (by omega)), x0o o k h1 h2]
      · rw [u2_n _ _ (Or.inl (by omega)), u2_n _ _ (Or.inl (by omega)), x03]
      · rw [u2_n _ _ (Or.inl (by omega)), u2_n _ _ (Or.inl (by omega)), u2_n _ _ (Or.inl (by omega)), u2_n _ _ (Or.inl (by omega))]; exact x0k i hi
    · refine fin (by decide) ?_ (still e1) (stS e1).1 (stS e1).2
      rw [cls, if_neg (by rw [em, eM, hmM2]; exact Int32.lt_irrefl), if_pos (by rw [a1] at h24; exact (nI_eq' (b := 24) (by omega) (by decide)).mp h24)]
    · have hvN : N = v := by rw [a1] at ev; exact (nI_eq' (by omega) (by omega)).mp ev
      subst hvN
      obtain ⟨bk, ebk⟩ : ∃ bk, bk = blF s n p (s (315 + 24 * c + 2)) := ⟨_, rfl⟩
      rw [← ebk] at e1
      simp only [← ebk] at x0k
      have e2 : s1 = up (poF (s2F s n N (fun i => bk (ls + i)) (fun i => (fun _ => -4 : Nat → Int32) (ls + i)) bk (fun _ => -4) (m n + 1 - ls) ls (bk (ls - 1))) c (0 + 1) (bk (ls - 1)) (nI N) 0) (315 + 24 * c + 4) 1 := by rw [e1, sp_eq]
      have eo : ∀ k, k < 315 → s1 k = s2F s n N (fun i => bk (ls + i)) (fun i => (fun _ => -4 : Nat → Int32) (ls + i)) bk (fun _ => -4) (m n + 1 - ls) ls (bk (ls - 1)) k := fun k hk => by rw [e2, up_n _ _ (by omega), po_o (by omega)]
      have bg : ∀ k, 313 ≤ k → s2F s n N (fun i => bk (ls + i)) (fun i => (fun _ => -4 : Nat → Int32) (ls + i)) bk (fun _ => -4) (m n + 1 - ls) ls (bk (ls - 1)) k = s k := fun k hk => s2_g (by omega) (by omega) (by omega) (by omega) (by omega)
      have hN' : N' = N + 1 := nI_Neq J (by omega) (by
        rw [eo _ (by decide)]; unfold s2F
        rw [up_n _ _ (by omega), up_n _ _ (by omega), nH_o (by omega) (by omega), nH_o (by omega) (by omega), nn_N hv])
      subst hN'
      obtain ⟨x1, ex1⟩ : ∃ x1, x1 = ptK x0 c n N (m n + 1) ls 0 1 := ⟨_, rfl⟩
      obtain ⟨y1, ey1⟩ : ∃ y1, y1 = u2 (u2 y 6 N false) (10 + 2 * c) 11 false := ⟨_, rfl⟩
      have Z := (T.1.split (y1 := y1) I ha hv hls J eo (fun o k _ h1 h2 => x0o o k h1 h2) x0k (x1 := x1) (fun o k ho => by rw [ex1, pt_o (by omega)]) (fun k => by rw [ey1, u2_n _ _ (by omega)])).1
      have kc : KR x1 y1 s1 c := by
        rw [ex1, pt_eq]
        refine KC.ri hs0 hs5 (l := 0 + 1) (by omega) ?_ (mid := bk (ls - 1)) (what := nI N) (dead := 0) (fun w hw => ?_) (fun w => ?_) ?_ ?_ ?_ ?_ ?_ (fun w hw => ?_) ?_ ?_ ?_ ?_ ?_ ?_ (fun w hw => ?_)
        · rcases pa (0 + 1) (by omega) with q | ⟨b, q, hb, -⟩
          · exact Or.inl q
          · exact Or.inr ⟨b, q, by omega⟩
        · rw [u2_n _ _ (by omega), u2_n _ _ (by omega), ts_o ha (by omega), x0c _ _ (by omega)]
        · rw [u2_n _ _ (by omega), u2_n _ _ (by omega), ts_o ha (by omega), x0c _ _ (by omega)]
        · rw [u2_n _ _ (by omega), u2_n _ _ (by omega), ts_o ha (by omega), x0o _ _ (by omega) (by omega)]; exact T.1.1.2.1
        · rw [u2_s, ts_4n ha (by omega)]; exact (x0k (ls - 1) (by omega)).1
        · rw [u2_n _ _ (by omega), u2_s]
        · rw [ey1, u2_s]; decide
        · rw [e2, up_n _ _ (by omega), po_0]
        · rw [e2, up_n _ _ (by omega), po_w (by omega), bg _ (by omega)]
        · rw [e2, up_n _ _ (by omega), po_3, bg _ (by omega), bg _ (by omega)]
        · rw [e2, up_s]
        · rw [e2, up_n _ _ (by omega), po_8]
        · rw [e2, up_n _ _ (by omega), po_9]
        · rw [e2, up_n _ _ (by omega), po_10]
        · rw [e2, up_n _ _ (by omega), po_11]
        · rw [e2, up_n _ _ (by omega), po_w (by omega), bg _ (by omega)]
      refine fin (x1 := x1) (y1 := y1) (by decide) ?_ (NB.of T (c := c) Z (fun k h3 hk => by rw [e2, up_n _ _ (by omega), po_o (by omega), bg _ (by omega)]) (fun o k h10 h9 _ => by rw [ex1, pt_o h9, ts_o ha (by omega), x0c _ _ (by omega)]) (fun o k h10 h9 => by rw [ey1, u2_n _ _ (Or.inl h9), u2_n _ _ (by omega)]) kc) (by rw [e2, up_n _ _ (by omega), po_0]; decide) (fun d hd hdc => by rw [e2, up_n _ _ (by omega), po_o (by omega), bg _ (by omega)])
      rw [cls, if_neg (by rw [em, eM, hmM2]; exact Int32.lt_irrefl), if_neg (by omega), ins, f_s S V hc (x := x0) (by rw [x0o _ _ (by omega) (by omega)]; exact eN) hv (by rw [x0c _ _ (by omega)]; exact xa) ha x03 hls (lv := 0) (by rw [x0o _ _ (by omega) (by omega), t2]; exact e00) (by omega), ex1, ey1]
end R31M
