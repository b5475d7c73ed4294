/-! CLASS AND REFERENCE: the steps that POST, but a new root -/
section R31E
variable {h : zi_Hp} {W : Nat} {x x1 : Nat → Nat → Int32} {y y1 : Nat → Nat → Bool} {s s1 : Nat → Int32} {N R M B c n : Nat} {L m H r : Nat → Nat} {K C : Nat → Nat → Nat} {f : Nat → Nat}
theorem sim_3 (S : Sh h) (V : Wa W) (T : CR x y s N m) (I : InvG s N R M B L m H r K C f) (hc : c < 3) (h3 : s (315 + 24 * c) = 3) (hmv : msF s c = true) {cd : Int32} (D : StO s c cd s1) (h7 : ¬ cd = 7) {v2 v3 v4 : Value} : ∃ x' y', zv 5 80 0 [.ref W, .int (nI c), v2, v3, v4] [] (zC h W x y) = some (some (.int cd), zC h W x' y') ∧ CR x' y' (stF s s1 c cd) N m := by
  obtain ⟨⟨a1, a2, a3⟩, ⟨b1, b2⟩, ⟨d1, d2, d3⟩, G, o, z⟩ := id I.1
  have hx0 : ¬ cd = 0 := ms_x I hc hmv (Or.inr (Or.inr (Or.inr (Or.inl ⟨h3, D⟩))))
  have hon : onB s c = true := by unfold onB; rw [h3]; decide
  obtain ⟨k0, k1, k2, k3⟩ := T.2.1 c hc
  obtain ⟨-, -, a, ea, ha, -, md, p, t, w8, w9, w10, hmd, hp, ht1, ht2, w11, -⟩ := at_3 I hc (k0 := 3) (Or.inl rfl) h3
  have hs0 : ¬ s (315 + 24 * c) = 0 := by rw [h3]; decide
  have hs5 : ¬ s (315 + 24 * c) = 5 := by rw [h3]; decide
  have w3 := k1 hs0 3 (by decide) (by decide)
  obtain ⟨y8, y9, y10, y11⟩ := k2 (Or.inl h3)
  have eN : x 1 0 = nI N := by rw [T.1.1.1]; exact a1
  have eR : x 1 1 = nI R := by rw [T.1.1.2.1]; exact b1
  have xa : x (10 + 2 * c) 3 = nI a := by rw [w3]; exact ea
  have go : zv 5 80 0 [.ref W, .int (nI c), v2, v3, v4] [] (zC h W x y) = zv 5 80 96 [.ref W, .int (nI c), .ref (W + (10 + 2 * c)), .int 0, v4] [] (zC h W x y) := by
    rw [adv_go S V hc eN a3 (n := a) (fun _ => ⟨xa, ha⟩) (by rw [T.mv I hc (fun _ => ⟨ea, ha⟩)]; exact hmv), b80_30_c3 (by first | (simp only [zC_n, zC_k, zC_r, S.n, wk_0 S V, wk_1 S V, wr_0_0 S V, wr_0_1 S V, wk_9 S V, cl_k S V hc, cl_r S V hc, cl_p S V hc, cl_q S V hc, zq_rf]; done) | (simp only [zC_n, zC_r, S.n, wr_0_0 S V, wr_0_1 S V, cl_r S V hc, cl_p S V hc, zq_rf]; have := V.lt; omega)) (by first | (simp only [zC_n, zC_k, zC_r, S.n, wk_0 S V, wk_1 S V, wr_0_0 S V, wr_0_1 S V, wk_9 S V, cl_k S V hc, cl_r S V hc, cl_p S V hc, cl_q S V hc, zq_rf]; done) | (simp only [zC_n, zC_r, S.n, wr_0_0 S V, wr_0_1 S V, cl_r S V hc, cl_p S V hc, zq_rf]; have := V.lt; omega)) (by rw [zC_i (by omega), k0]; exact h3), k0, h3, decide_eq_false (by decide), zi_bI_f]
  have fin : ∀ {x1 : Nat → Nat → Int32} {y1 : Nat → Nat → Bool}, zv 4 90 0 [.ref W, .ref (W + (10 + 2 * c)), .double 0] [] (zC h W x y) = some (some (.int cd), zC h W x1 y1) → CR (tdK x1 c cd) y1 (stF s s1 c cd) N m → ∃ x' y', zv 5 80 0 [.ref W, .int (nI c), v2, v3, v4] [] (zC h W x y) = some (some (.int cd), zC h W x' y') ∧ CR x' y' (stF s s1 c cd) N m := fun {x1 y1} e1 e2 => by
    refine ⟨tdK x1 c cd, y1, ?_, e2⟩
    rw [go, b80_96 (by first | (simp only [zC_n, zC_k, zC_r, S.n, wk_0 S V, wk_1 S V, wr_0_0 S V, wr_0_1 S V, wk_9 S V, cl_k S V hc, cl_r S V hc, cl_p S V hc, cl_q S V hc, zq_rf]; done) | (simp only [zC_n, zC_r, S.n, wr_0_0 S V, wr_0_1 S V, cl_r S V hc, cl_p S V hc, zq_rf]; have := V.lt; omega)) (by first | (simp only [zC_n, zC_k, zC_r, S.n, wk_0 S V, wk_1 S V, wr_0_0 S V, wr_0_1 S V, wk_9 S V, cl_k S V hc, cl_r S V hc, cl_p S V hc, cl_q S V hc, zq_rf]; done) | (simp only [zC_n, zC_r, S.n, wr_0_0 S V, wr_0_1 S V, cl_r S V hc, cl_p S V hc, zq_rf]; have := V.lt; omega)), e1]
    simp only [Option.bind_some, Option.toList_some, Option.toList_none, List.cons_append, List.nil_append]
    rw [b80_101, adv_t S V hc hx0]
  -- another place, and nothing else
  have move : ∀ {v : Int32}, 0 < cd → s1 = up s (315 + 24 * c + 3) v → CR (tdK (u2 x (10 + 2 * c) 3 v) c cd) y (stF s s1 c cd) N m := fun {v} hcd e1 => by
    subst e1
    refine sim_cl T I hc hcd hon (fun k hk => up_n _ _ (by omega)) (uc_cc _ _ (by decide)) (uc_cc _ _ (by decide)) (fun o j h9 _ => u2_n _ _ (Or.inl h9)) (fun _ _ _ => rfl) ⟨?_, fun _ w h1w h7w => ?_, fun q => ?_, fun _ _ l hl => ?_⟩ ?_
    · rw [u2_n _ _ (Or.inr (by decide)), uc_c0 _ _ (by decide)]; exact k0
    · by_cases e3 : w = 3
      · subst e3; rw [u2_s, up_s]
      · rw [u2_n _ _ (Or.inr e3), uc_cc _ _ e3]; exact k1 hs0 w h1w h7w
    · rw [u2_n _ _ (Or.inr (by decide)), u2_n _ _ (Or.inr (by decide)), u2_n _ _ (Or.inr (by decide)), uc_cc _ _ (by decide), uc_cc _ _ (by decide), uc_cc _ _ (by decide), uc_cc _ _ (by decide)]; exact ⟨y8, y9, y10, y11⟩
    · rw [u2_n _ _ (Or.inl (by omega)), uc_cc _ _ (by omega)]; exact k3 hs0 hs5 l hl
    · rw [uc_c0 _ _ (by decide)]; exact hs0
  -- another state, and nothing else
  have state : ∀ {v : Int32}, 0 < cd → (v = 5 ∨ v = 4) → s1 = up s (315 + 24 * c) v → CR (tdK (u2 x (10 + 2 * c) 0 v) c cd) y (stF s s1 c cd) N m := fun {v} hcd hv e1 => by
    subst e1
    refine sim_cl T I hc hcd hon (fun k hk => up_n _ _ (by omega)) (uc_0c _ _ (by decide)) (uc_0c _ _ (by decide)) (fun o j h9 _ => u2_n _ _ (Or.inl h9)) (fun _ _ _ => rfl) ⟨?_, fun _ w h1w h7w => ?_, fun q => ?_, fun _ _ l hl => ?_⟩ ?_
    · rw [u2_s, up_s]
    · rw [u2_n _ _ (Or.inr (by omega)), uc_0c _ _ (by omega)]; exact k1 hs0 w h1w h7w
    · rw [u2_n _ _ (Or.inr (by decide)), u2_n _ _ (Or.inr (by decide)), u2_n _ _ (Or.inr (by decide)), uc_0c _ _ (by decide), uc_0c _ _ (by decide), uc_0c _ _ (by decide), uc_0c _ _ (by decide)]; exact ⟨y8, y9, y10, y11⟩
    · rw [u2_n _ _ (Or.inl (by omega)), uc_0c _ _ (by omega)]; exact k3 hs0 hs5 l hl
    · rw [up_s]; rcases hv with rfl | rfl <;> decide
  obtain ⟨n, rr, hn24, hr24, en, er, D⟩ := D
  have hna : n = a := by rw [ea] at en; exact ((nI_eq' (by omega) (by omega)).mp en).symm
  have hrr : rr = R := by rw [b1] at er; exact ((nI_eq' (by omega) (by omega)).mp er).symm
  subst hna hrr
  obtain ⟨⟨g1, g2, g3⟩, g4, g5, g6, g7, g8, g9, g10, g11, g12⟩ := G n ha
  obtain ⟨⟨t2, t3, t4, t5, t6⟩, tk⟩ := T.1.2 n ha
  have tR := (T.1.2 rr b2).1.1
  have em : x 3 n = nI (m n) := by rw [t3]; exact g2
  rcases D with ⟨hl, ⟨hd, rfl, e1⟩ | ⟨hd, v, hv, ev, rfl, e1⟩⟩ | ⟨hl, ⟨h1, rfl, e1⟩ | ⟨h1, ⟨h2, rfl, e1⟩ | ⟨h2, ⟨h4, j, hj4, hlt, hge, rfl, e1⟩ | ⟨h4, hlk, rfl, e1⟩ | ⟨h4, hlk, rfl, e1⟩⟩⟩⟩
  · refine fin ?_ (state (v := 5) (by decide) (Or.inl rfl) e1)
    rw [p_top S V hc eN a3 eR b2 (by rw [tR, y9]; exact hl), if_pos ?_]
    rcases hd with q | q
    · exact Or.inl (by rw [y11]; exact decide_eq_true q)
    · exact Or.inr (by rw [a1] at q; exact (nI_eq' (b := 24) (by omega) (by decide)).mp q)
  · exact absurd rfl h7
  · refine fin ?_ (move (v := nI rr) (by decide) e1)
    rw [p_low S V hc eN a3 eR b2 (by rw [tR, y9]; exact hl) xa ha, if_pos (by rw [t2, y9]; exact h1), eR]
  · have hR : s (13 * n + 3) = nI (r n) ∧ r n < N := by
      rcases g4 with ⟨q1, q2⟩ | q
      · rw [g3, w8, nI_lt' (by omega) (by omega)] at h2
        omega
      · exact ⟨q.1, q.2.1⟩
    refine fin ?_ (move (v := x 5 n) (by decide) (by rw [t5]; exact e1))
    rw [p_low S V hc eN a3 eR b2 (by rw [tR, y9]; exact hl) xa ha, if_neg (by rw [t2, y9]; exact h1), if_pos (by rw [t4, y8]; exact h2), p_r S V hc eN a3 xa ha (by rw [t5, hR.1]; exact nI_pos (by omega))]
  · have ln := I.lv ha
    have lr := I.lv b2
    have hL : t < L n := by rw [w10, g1, nI_lt' (by omega) (by omega)] at h4; exact h4
    obtain ⟨m0, mK, mC, mB⟩ := g8 (by omega)
    have hj : j < m n := by
      refine Nat.not_le.mp (fun w => ?_)
      have h9 := hlt (m n - 1) (by omega)
      refine absurd (?_ : s (13 * n + 2) < s (315 + 24 * c + 8)) h2
      rw [(g6 (m n - 1) (by omega)).1, mK] at h9
      rw [g3]; exact h9
    obtain ⟨q1, q2, q3⟩ := mC j hj
    have hs13 : 0 < s (13 * n) := by rw [g1]; exact nI_lt (a := 0) (by omega) (by omega)
    have x8 : x 8 (5 * n + j) = s (13 * n + (9 + j)) := (tk j hj).2 hs13
    refine fin ?_ (move (v := x 8 (5 * n + j)) (by decide) (by rw [x8]; exact e1))
    rw [p_low S V hc eN a3 eR b2 (by rw [tR, y9]; exact hl) xa ha, if_neg (by rw [t2, y9]; exact h1), if_neg (by rw [t4, y8]; exact h2), if_pos (by rw [t2, y9]; exact h4), p_c S V hc eN a3 xa ha em (by omega) hj (fun i hi => by rw [(tk i (by omega)).1, y8]; exact hlt i hi) (by rw [(tk j hj).1, y8]; exact hge) (by rw [t2]; exact hs13) (by rw [x8, q1]; exact nI_pos (by omega))]
  · refine fin ?_ (state (v := 4) (by decide) (Or.inr rfl) e1)
    rw [p_low S V hc eN a3 eR b2 (by rw [tR, y9]; exact hl) xa ha, if_neg (by rw [t2, y9]; exact h1), if_neg (by rw [t4, y8]; exact h2), if_neg (by rw [t2, y9]; exact h4)]
  · exact absurd rfl hx0
end R31E
