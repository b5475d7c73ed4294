/-! CLASS AND REFERENCE: the steps DOWN -/
section R31D
variable {h : zi_Hp} {W : Nat} {x x1 : Nat → Nat → Int32} {y y1 : Nat → Nat → Bool} {s s1 : Nat → Int32} {N R M B c n : Nat} {L m H r : Nat → Nat} {K C : Nat → Nat → Nat} {f : Nat → Nat}
theorem adv_t (S : Sh h) (V : Wa W) (hc : c < 3) {cd : Int32} (h0 : ¬ cd = 0) : zv 5 80 128 [.ref W, .int (nI c), .ref (W + (10 + 2 * c)), .int 0, .int cd] [] (zC h W x y) = some (some (.int cd), zC h W (tdK x c cd) y) := by
  rw [k_end S V hc h0, b80_159, if_pos rfl, b80_168]
/-- a client that stands DOWN: what both sides know -/
theorem sim_1 (S : Sh h) (V : Wa W) (T : CR x y s N m) (I : InvG s N R M B L m H r K C f) (hc : c < 3) (h1 : s (315 + 24 * c) = 1) (hmv : msF s c = true) {cd : Int32} (D : StD s c cd s1) {v2 v3 v4 : Value} : ∃ x' y', zv 5 80 0 [.ref W, .int (nI c), v2, v3, v4] [] (zC h W x y) = some (some (.int cd), zC h W x' y') ∧ CR x' y' (stF s s1 c cd) N m := by
  obtain ⟨⟨a1, a2, a3⟩, ⟨b1, b2⟩, ⟨d1, d2, d3⟩, G, o, z⟩ := id I.1
  have hx0 : ¬ cd = 0 := ms_x I hc hmv (Or.inl ⟨h1, D⟩)
  have hon : onB s c = true := by unfold onB; rw [h1]; decide
  obtain ⟨a, ha, ea⟩ := I.at hc hon
  obtain ⟨k0, k1, k2, k3⟩ := T.2.1 c hc
  have hs0 : ¬ s (315 + 24 * c) = 0 := by rw [h1]; decide
  have hs5 : ¬ s (315 + 24 * c) = 5 := by rw [h1]; decide
  have w1 := k1 hs0 1 (by decide) (by decide)
  have w2 := k1 hs0 2 (by decide) (by decide)
  have w3 := k1 hs0 3 (by decide) (by decide)
  have eN : x 1 0 = nI N := by rw [T.1.1.1]; exact a1
  have xa : x (10 + 2 * c) 3 = nI a := by rw [w3]; exact ea
  have go : zv 5 80 0 [.ref W, .int (nI c), v2, v3, v4] [] (zC h W x y) = zv 5 80 60 [.ref W, .int (nI c), .ref (W + (10 + 2 * c)), .int 0, v4] [] (zC h W x y) := by
    rw [adv_go S V hc eN a3 (n := a) (fun _ => ⟨xa, ha⟩) (by rw [T.mv I hc (fun _ => ⟨ea, ha⟩)]; exact hmv), b80_30_c1 (by first | (simp only [zC_n, zC_k, zC_r, S.n, wk_0 S V, wk_1 S V, wr_0_0 S V, wr_0_1 S V, wk_9 S V, cl_k S V hc, cl_r S V hc, cl_p S V hc, cl_q S V hc, zq_rf]; done) | (simp only [zC_n, zC_r, S.n, wr_0_0 S V, wr_0_1 S V, cl_r S V hc, cl_p S V hc, zq_rf]; have := V.lt; omega)) (by first | (simp only [zC_n, zC_k, zC_r, S.n, wk_0 S V, wk_1 S V, wr_0_0 S V, wr_0_1 S V, wk_9 S V, cl_k S V hc, cl_r S V hc, cl_p S V hc, cl_q S V hc, zq_rf]; done) | (simp only [zC_n, zC_r, S.n, wr_0_0 S V, wr_0_1 S V, cl_r S V hc, cl_p S V hc, zq_rf]; have := V.lt; omega)) (by rw [zC_i (by omega), k0]; exact h1), k0, h1, decide_eq_false (by decide), zi_bI_f]
  -- the tail behind a method's answer
  have fin : ∀ {x1 : Nat → Nat → Int32} {y1 : Nat → Nat → Bool}, zv 4 85 0 [.ref W, .ref (W + (10 + 2 * c)), .double 0] [] (zC h W x y) = some (some (.int cd), zC h W x1 y1) → CR (tdK x1 c cd) y1 (stF s s1 c cd) N m → ∃ x' y', zv 5 80 0 [.ref W, .int (nI c), v2, v3, v4] [] (zC h W x y) = some (some (.int cd), zC h W x' y') ∧ CR x' y' (stF s s1 c cd) N m := fun {x1 y1} e1 e2 => by
    refine ⟨tdK x1 c cd, y1, ?_, e2⟩
    rw [go, b80_60 (by first | (simp only [zC_n, zC_k, zC_r, S.n, wk_0 S V, wk_1 S V, wr_0_0 S V, wr_0_1 S V, wk_9 S V, cl_k S V hc, cl_r S V hc, cl_p S V hc, cl_q S V hc, zq_rf]; done) | (simp only [zC_n, zC_r, S.n, wr_0_0 S V, wr_0_1 S V, cl_r S V hc, cl_p S V hc, zq_rf]; have := V.lt; omega)) (by first | (simp only [zC_n, zC_k, zC_r, S.n, wk_0 S V, wk_1 S V, wr_0_0 S V, wr_0_1 S V, wk_9 S V, cl_k S V hc, cl_r S V hc, cl_p S V hc, cl_q S V hc, zq_rf]; done) | (simp only [zC_n, zC_r, S.n, wr_0_0 S V, wr_0_1 S V, cl_r S V hc, cl_p S V hc, zq_rf]; have := V.lt; omega)), e1]
    simp only [Option.bind_some, Option.toList_some, Option.toList_none, List.cons_append, List.nil_append]
    rw [b80_65, adv_t S V hc hx0]
  obtain ⟨n, hn24, en, D⟩ := D
  have hna : n = a := by rw [ea] at en; exact ((nI_eq' (by omega) (by omega)).mp en).symm
  subst hna
  obtain ⟨⟨g1, g2, g3⟩, g4, g5, g6, g7, g8, g9, g10, g11, g12⟩ := G n ha
  obtain ⟨⟨t2, t3, t4, t5, t6⟩, tk⟩ := T.1.2 n ha
  have em : x 3 n = nI (m n) := by rw [t3]; exact g2
  have r0 : ∀ {o j : Nat} {v : Int32}, o ≠ 10 + 2 * c → u2 x (10 + 2 * c) j v o = x o := fun {o j v} ho => by funext k; exact u2_n _ _ (Or.inl ho)
  rcases D with ⟨hd, rfl, rfl⟩ | ⟨hd, hk, ⟨t, j, ht0, ht, et, hj4, hlt, hge, rfl, rfl⟩ | ⟨hl0, ⟨hact, mm, hmm, emm, rfl, rfl⟩ | ⟨hact, hlk, rfl, rfl⟩ | ⟨hact, hlk, rfl, rfl⟩⟩⟩
  · -- to the right
    have hR : s (13 * n + 3) = nI (r n) ∧ r n < N := by
      obtain ⟨k, kk1, kk2, kk3⟩ := I.2.1.1 c hc
      have hk1 : k = 1 := by rw [h1] at kk1; exact ((nI_eq' (a := 1) (by decide) (by omega)).mp kk1).symm
      subst hk1
      obtain ⟨-, ⟨ke, ke1, ke2⟩, -⟩ := kk3 (by decide) (by decide)
      rcases g4 with ⟨q1, q2⟩ | q
      · rcases hd with w | w
        · rcases g5 with w2 | ⟨-, w2, -⟩
          · rw [w2] at w; exact absurd w (by decide)
          · exact absurd q1 w2
        · rw [g3, ke1, nI_lt' (by omega) (by omega)] at w
          omega
      · exact ⟨q.1, q.2.1⟩
    refine fin (d_r S V hc eN a3 xa ha ?_ ?_) (sim_cl T I hc (by decide) hon (fun k hk => up_n _ _ (by omega)) (uc_cc _ _ (by decide)) (uc_cc _ _ (by decide)) (fun o j h9 _ => u2_n _ _ (Or.inl h9)) (fun _ _ _ => rfl) ⟨?_, fun _ w h1w h7w => ?_, fun q => ?_, fun _ _ l hl => ?_⟩ ?_)
    · rcases hd with w | w
      · exact Or.inl (by rw [t6]; exact decide_eq_true w)
      · exact Or.inr (by rw [t4, w2]; exact w)
    · rw [t5, hR.1]; exact nI_pos (by omega)
    · rw [u2_n _ _ (Or.inr (by decide)), uc_c0 _ _ (by decide)]; exact k0
    · by_cases e3 : w = 3
      · subst e3; rw [u2_s, up_s, t5]
      · rw [u2_n _ _ (Or.inr e3), uc_cc _ _ e3]; exact k1 hs0 w h1w h7w
    · rw [uc_c0 _ _ (by decide), h1] at q; rcases q with q | q <;> exact absurd q (by decide)
    · rw [u2_n _ _ (Or.inl (by omega)), uc_cc _ _ (by omega)]; exact k3 hs0 hs5 l hl
    · rw [uc_c0 _ _ (by decide)]; exact hs0
  · -- to a child
    have ln := I.lv ha
    have hLt : L n = t := by rw [g1] at et; exact (nI_eq' (by omega) (by omega)).mp et
    obtain ⟨m0, mK, mC, mB⟩ := g8 (by omega)
    have hj : j < m n := by
      refine Nat.not_le.mp (fun w => ?_)
      have h9 := hlt (m n - 1) (by omega)
      refine absurd (?_ : s (13 * n + 2) < s (315 + 24 * c + 2)) hk
      rw [(g6 (m n - 1) (by omega)).1, mK] at h9
      rw [g3]; exact h9
    obtain ⟨q1, q2, q3⟩ := mC j hj
    have hs13 : 0 < s (13 * n) := by rw [et]; exact nI_lt (a := 0) ht0 (by omega)
    have x8 : x 8 (5 * n + j) = s (13 * n + (9 + j)) := (tk j hj).2 hs13
    refine fin (d_c S V hc eN a3 xa ha (by rw [t6]; exact decide_eq_false hd) (by rw [t4, w2]; exact hk) (t := t) (by rw [t2]; exact et) ht0 (by omega) em (by omega) hj (fun i hi => by rw [(tk i (by omega)).1, w2]; exact hlt i hi) (by rw [(tk j hj).1, w2]; exact hge) (by rw [x8, q1]; exact nI_pos (by omega))) (sim_cl T I hc (by decide) hon (fun k hk => by rw [up_n _ _ (by omega), up_n _ _ (by omega)]) (by rw [uc_cc _ _ (by decide), uc_cc _ _ (by omega)]) (by rw [uc_cc _ _ (by decide), uc_cc _ _ (by omega)]) (fun o j h9 h10 => by rw [u2_n _ _ (Or.inl h9), u2_n _ _ (Or.inl h10)]) (fun _ _ _ => rfl) ⟨?_, fun _ w h1w h7w => ?_, fun q => ?_, fun _ _ l hl => ?_⟩ ?_)
    · rw [u2_n _ _ (Or.inr (by decide)), u2_n _ _ (Or.inl (by omega)), uc_c0 _ _ (by decide), uc_c0 _ _ (by omega)]; exact k0
    · by_cases e3 : w = 3
      · subst e3; rw [u2_s, up_s, x8]
      · rw [u2_n _ _ (Or.inr e3), u2_n _ _ (Or.inl (by omega)), uc_cc _ _ e3, uc_cc _ _ (by omega)]; exact k1 hs0 w h1w h7w
    · rw [uc_c0 _ _ (by decide), uc_c0 _ _ (by omega), h1] at q; rcases q with q | q <;> exact absurd q (by decide)
    · rw [u2_n _ _ (Or.inl (by omega)), uc_cc _ _ (by omega)]
      by_cases e3 : l = t
      · subst e3; rw [u2_s, up_s]
      · rw [u2_n _ _ (Or.inr e3), uc_cc _ _ (by omega)]; exact k3 hs0 hs5 l hl
    · rw [uc_c0 _ _ (by decide), uc_c0 _ _ (by omega)]; exact hs0
  · -- FIND
    have hmm' : mm = m n := by rw [g2] at emm; exact ((nI_eq' (by omega) (by omega)).mp emm).symm
    subst hmm'
    obtain ⟨j, j1, j2, j3⟩ := fst_ex (fun i => ¬ s (13 * n + (5 + i)) < s (315 + 24 * c + 2)) (m n)
    have jl : ∀ i, i < j → s (13 * n + (5 + i)) < s (315 + 24 * c + 2) := fun i hi => Decidable.not_not.mp (j2 i hi)
    have hke : ∃ ke, s (315 + 24 * c + 2) = nI ke ∧ ke ≤ 99 := by
      obtain ⟨k, kk1, kk2, kk3⟩ := I.2.1.1 c hc
      have hk1 : k = 1 := by rw [h1] at kk1; exact ((nI_eq' (a := 1) (by decide) (by omega)).mp kk1).symm
      subst hk1
      obtain ⟨-, q, -⟩ := kk3 (by decide) (by decide)
      exact q
    obtain ⟨ke, eke, hke⟩ := hke
    have same : decide ((if j < m n then x 7 (5 * n + j) else -4) = x (10 + 2 * c) 2) = hkF s n (s (315 + 24 * c + 2)) (m n) := by
      rw [Bool.eq_iff_iff, decide_eq_true_eq, hkF_iff, w2]
      constructor
      · intro q
        by_cases hj : j < m n
        · rw [if_pos hj, (tk j hj).1] at q; exact ⟨j, hj, q⟩
        · rw [if_neg hj, eke] at q; exact absurd q.symm (nI_n4 ke (by omega))
      · rintro ⟨i, hi, q⟩
        have hij : ¬ i < j := fun w => by have := jl i w; rw [q] at this; exact absurd this Int32.lt_irrefl
        have hj : j < m n := by omega
        rw [if_pos hj, (tk j hj).1]
        by_cases e3 : i = j
        · subst e3; exact q
        · have hr := rise_lt g7 (i := j) (j := i) (by omega) hi
          have hg := j3 hj
          rw [(g6 i hi).1, eke, nI_eq' (by have := (g6 i hi).2; omega) (by omega)] at q
          exact absurd (by rw [(g6 j hj).1, eke]; exact nI_lt (by omega) (by omega)) hg
    refine fin (d_f S V hc eN a3 xa ha (by rw [t6]; exact decide_eq_false hd) (by rw [t4, w2]; exact hk) (by rw [t2]; exact hl0) (by rw [w1]; exact hact) em (by omega) j1 (fun i hi => by rw [(tk i (by omega)).1, w2]; exact jl i hi) (fun hj => by rw [(tk j hj).1, w2]; exact j3 hj)) ?_
    rw [same]
    refine sim_cl T I hc (by decide) hon (fun k hk => by rw [up_n _ _ (by omega), up_n _ _ (by omega)]) (by rw [uc_0c _ _ (by decide), uc_cc _ _ (by decide)]) (by rw [uc_0c _ _ (by decide), uc_cc _ _ (by decide)]) (fun o j h9 _ => by rw [u2_n _ _ (Or.inl h9), u2_n _ _ (Or.inl h9)]) (fun _ _ _ => rfl) ⟨?_, fun _ w h1w h7w => ?_, fun q => ?_, fun _ q l hl => ?_⟩ ?_
    · rw [u2_s, up_s]
    · rw [u2_n _ _ (Or.inr (by omega)), uc_0c _ _ (by omega)]
      by_cases e4 : w = 4
      · subst e4; rw [u2_s, up_s]
      · rw [u2_n _ _ (Or.inr e4), uc_cc _ _ e4]; exact k1 hs0 w h1w h7w
    · rw [up_s] at q; rcases q with q | q <;> exact absurd q (by decide)
    · rw [up_s] at q; exact absurd rfl q
    · rw [up_s]; decide
  · -- it is held
    refine fin (d_l S V hc eN a3 xa ha (by rw [t6]; exact decide_eq_false hd) (by rw [t4, w2]; exact hk) (by rw [t2]; exact hl0) (by rw [w1]; exact hact)) (sim_cl T I hc (by decide) hon (fun k hk => up_n _ _ (by omega)) (uc_0c _ _ (by decide)) (uc_0c _ _ (by decide)) (fun o j h9 _ => u2_n _ _ (Or.inl h9)) (fun _ _ _ => rfl) ⟨?_, fun _ w h1w h7w => ?_, fun q => ?_, fun _ _ l hl => ?_⟩ ?_)
    · rw [u2_s, up_s]
    · rw [u2_n _ _ (Or.inr (by omega)), uc_0c _ _ (by omega)]; exact k1 hs0 w h1w h7w
    · rw [up_s] at q; rcases q with q | q <;> exact absurd q (by decide)
    · rw [u2_n _ _ (Or.inl (by omega)), uc_0c _ _ (by omega)]; exact k3 hs0 hs5 l hl
    · rw [up_s]; decide
  · exact absurd rfl hx0
end R31D
