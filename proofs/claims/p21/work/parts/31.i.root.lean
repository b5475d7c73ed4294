/-! CLASS AND REFERENCE: a new root -/
section R31I
variable {h : zi_Hp} {W : Nat} {x x1 : Nat → Nat → Int32} {y y1 : Nat → Nat → Bool} {s s1 : Nat → Int32} {N R M B c n : Nat} {L m H r : Nat → Nat} {K C : Nat → Nat → Nat} {f : Nat → Nat}
theorem sh_id (x : Nat → Nat → Int32) (n k : Nat) : shF x n k k = x := by
  funext o j
  unfold shF
  rw [if_neg (by omega)]
theorem nr_eq : nrK x c N = u2 (u2 (u2 (u2 (u2 (u2 (u2 (u2 (taF x N (x (10 + 2 * c) 9)) 7 (5 * N + 0) (x (10 + 2 * c) 8)) 8 (5 * N + 0) (x 1 1)) 3 N (nI 1)) 7 (5 * N + 1) 100) 8 (5 * N + 1) (x (10 + 2 * c) 10)) 3 N (nI 2)) 1 1 (nI N)) (10 + 2 * c) 0 5 := by
  unfold nrK tiF
  rw [sh_id, sh_id]
theorem nr_o {o j : Nat} (e : (o = 1 ∧ j = 2) ∨ (2 ≤ o ∧ o ≤ 5 ∧ j ≠ N) ∨ ((o = 7 ∨ o = 8) ∧ (j < 5 * N ∨ 5 * N + 5 ≤ j)) ∨ (9 ≤ o ∧ (o ≠ 10 + 2 * c ∨ j ≠ 0))) : nrK x c N o j = x o j := by
  rw [nr_eq, u2_n _ _ (by omega), u2_n _ _ (by omega), u2_n _ _ (by omega), u2_n _ _ (by omega), u2_n _ _ (by omega), u2_n _ _ (by omega), u2_n _ _ (by omega), u2_n _ _ (by omega), taF, u2_n _ _ (by omega), u2_n _ _ (by omega), u2_n _ _ (by omega), u2_n _ _ (by omega), u2_n _ _ (by omega)]
theorem nr_10 : nrK x c N 1 0 = nI (N + 1) := by
  rw [nr_eq, u2_n _ _ (by omega), u2_n _ _ (by omega), u2_n _ _ (by omega), u2_n _ _ (by omega), u2_n _ _ (by omega), u2_n _ _ (by omega), u2_n _ _ (by omega), u2_n _ _ (by omega), taF, u2_n _ _ (by omega), u2_n _ _ (by omega), u2_n _ _ (by omega), u2_n _ _ (by omega), u2_s]
theorem nr_11 : nrK x c N 1 1 = nI N := by rw [nr_eq, u2_n _ _ (by omega), u2_s]
theorem nr_2 : nrK x c N 2 N = x (10 + 2 * c) 9 := by
  rw [nr_eq, u2_n _ _ (by omega), u2_n _ _ (by omega), u2_n _ _ (by omega), u2_n _ _ (by omega), u2_n _ _ (by omega), u2_n _ _ (by omega), u2_n _ _ (by omega), u2_n _ _ (by omega), taF, u2_n _ _ (by omega), u2_n _ _ (by omega), u2_n _ _ (by omega), u2_s]
theorem nr_3 : nrK x c N 3 N = nI 2 := by rw [nr_eq, u2_n _ _ (by omega), u2_n _ _ (by omega), u2_s]
theorem nr_4 : nrK x c N 4 N = 100 := by
  rw [nr_eq, u2_n _ _ (by omega), u2_n _ _ (by omega), u2_n _ _ (by omega), u2_n _ _ (by omega), u2_n _ _ (by omega), u2_n _ _ (by omega), u2_n _ _ (by omega), u2_n _ _ (by omega), taF, u2_n _ _ (by omega), u2_s]
theorem nr_5 : nrK x c N 5 N = -4 := by
  rw [nr_eq, u2_n _ _ (by omega), u2_n _ _ (by omega), u2_n _ _ (by omega), u2_n _ _ (by omega), u2_n _ _ (by omega), u2_n _ _ (by omega), u2_n _ _ (by omega), u2_n _ _ (by omega), taF, u2_s]
theorem nr_70 : nrK x c N 7 (5 * N + 0) = x (10 + 2 * c) 8 := by
  rw [nr_eq, u2_n _ _ (by omega), u2_n _ _ (by omega), u2_n _ _ (by omega), u2_n _ _ (by omega), u2_n _ _ (by omega), u2_n _ _ (by omega), u2_n _ _ (by omega), u2_s]
theorem nr_71 : nrK x c N 7 (5 * N + 1) = 100 := by rw [nr_eq, u2_n _ _ (by omega), u2_n _ _ (by omega), u2_n _ _ (by omega), u2_n _ _ (by omega), u2_s]
theorem nr_80 : nrK x c N 8 (5 * N + 0) = x 1 1 := by
  rw [nr_eq, u2_n _ _ (by omega), u2_n _ _ (by omega), u2_n _ _ (by omega), u2_n _ _ (by omega), u2_n _ _ (by omega), u2_n _ _ (by omega), u2_s]
theorem nr_81 : nrK x c N 8 (5 * N + 1) = x (10 + 2 * c) 10 := by rw [nr_eq, u2_n _ _ (by omega), u2_n _ _ (by omega), u2_n _ _ (by omega), u2_s]
theorem nr_c0 : nrK x c N (10 + 2 * c) 0 = 5 := by rw [nr_eq, u2_s]
theorem sim_3N (S : Sh h) (V : Wa W) (T : CR x y s N m) (I : InvG s N R M B L m H r K C f) (hc : c < 3) (h3 : s (315 + 24 * c) = 3) (hmv : msF s c = true) (D : StO s c 7 s1) {N' R' M' B' : Nat} {L' m' H' r' : Nat → Nat} {K' C' : Nat → Nat → Nat} {f' : Nat → Nat} (J : InvG s1 N' R' M' B' L' m' H' r' K' C' f') {v2 v3 v4 : Value} : ∃ x' y', zv 5 80 0 [.ref W, .int (nI c), v2, v3, v4] [] (zC h W x y) = some (some (.int 7), zC h W x' y') ∧ CR x' y' (stF s s1 c 7) N' m' := by
  obtain ⟨⟨a1, a2, a3⟩, ⟨b1, b2⟩, ⟨d1, d2, d3⟩, G, o, z⟩ := id I.1
  have hon : onB s c = true := by unfold onB; rw [h3]; decide
  obtain ⟨k0, k1, k2, k3⟩ := T.2.1 c hc
  obtain ⟨-, -, a, ea, ha, -, md, p, t, w8, w9, w10, hmd, hp, ht1, ht2, w11, -⟩ := at_3 I hc (k0 := 3) (Or.inl rfl) h3
  have hs0 : ¬ s (315 + 24 * c) = 0 := by rw [h3]; decide
  have w3 := k1 hs0 3 (by decide) (by decide)
  obtain ⟨y8, y9, y10, y11⟩ := k2 (Or.inl h3)
  have eN : x 1 0 = nI N := by rw [T.1.1.1]; exact a1
  have eR : x 1 1 = nI R := by rw [T.1.1.2.1]; exact b1
  have xa : x (10 + 2 * c) 3 = nI a := by rw [w3]; exact ea
  have go : zv 5 80 0 [.ref W, .int (nI c), v2, v3, v4] [] (zC h W x y) = zv 5 80 96 [.ref W, .int (nI c), .ref (W + (10 + 2 * c)), .int 0, v4] [] (zC h W x y) := by
    rw [adv_go S V hc eN a3 (n := a) (fun _ => ⟨xa, ha⟩) (by rw [T.mv I hc (fun _ => ⟨ea, ha⟩)]; exact hmv), b80_30_c3 (by first | (simp only [zC_n, zC_k, zC_r, S.n, wk_0 S V, wk_1 S V, wr_0_0 S V, wr_0_1 S V, wk_9 S V, cl_k S V hc, cl_r S V hc, cl_p S V hc, cl_q S V hc, zq_rf]; done) | (simp only [zC_n, zC_r, S.n, wr_0_0 S V, wr_0_1 S V, cl_r S V hc, cl_p S V hc, zq_rf]; have := V.lt; omega)) (by first | (simp only [zC_n, zC_k, zC_r, S.n, wk_0 S V, wk_1 S V, wr_0_0 S V, wr_0_1 S V, wk_9 S V, cl_k S V hc, cl_r S V hc, cl_p S V hc, cl_q S V hc, zq_rf]; done) | (simp only [zC_n, zC_r, S.n, wr_0_0 S V, wr_0_1 S V, cl_r S V hc, cl_p S V hc, zq_rf]; have := V.lt; omega)) (by rw [zC_i (by omega), k0]; exact h3), k0, h3, decide_eq_false (by decide), zi_bI_f]
  obtain ⟨n, rr, hn24, hr24, en, er, D⟩ := D
  have hrr : rr = R := by rw [b1] at er; exact ((nI_eq' (by omega) (by omega)).mp er).symm
  subst hrr
  have tR := (T.1.2 rr b2).1.1
  have main : ∃ v, s (13 * rr) < s (315 + 24 * c + 10) ∧ ¬ s (315 + 24 * c + 11) = 1 ∧ v < 24 ∧ s 312 = nI v ∧ s1 = up (up (nH (nnF s v (s (315 + 24 * c + 10)) 100 (-4)) v (fun i => if i = 0 then s (315 + 24 * c + 8) else 100) (fun i => if i = 0 then s 313 else s (315 + 24 * c + 9)) 2) 313 (nI v)) (315 + 24 * c) 5 := by
    rcases D with ⟨hl, ⟨_, q, _⟩ | ⟨hd, v, hv, ev, _, e1⟩⟩ | ⟨_, ⟨_, q, _⟩ | ⟨_, ⟨_, q, _⟩ | ⟨_, ⟨_, _, _, _, _, q, _⟩ | ⟨_, _, q, _⟩ | ⟨_, _, q, _⟩⟩⟩⟩
    · exact absurd q (by decide)
    · exact ⟨v, hl, hd, hv, ev, e1⟩
    · exact absurd q (by decide)
    · exact absurd q (by decide)
    · exact absurd q (by decide)
    · exact absurd q (by decide)
    · exact absurd q (by decide)
  obtain ⟨v, hl, hd, hv, ev, e1⟩ := main
  have hvN : N = v := by rw [a1] at ev; exact (nI_eq' (by omega) (by omega)).mp ev
  subst hvN
  have lr := I.lv b2
  -- the new row
  have e_o : ∀ k, k < 13 * N → s1 k = s k := fun k hk => by rw [e1, up_n _ _ (by omega), up_n _ _ (by omega), nH_o (by decide) (by omega), nn_o (by omega) (by omega)]
  have e_c : ∀ k, 314 ≤ k → k ≠ 315 + 24 * c → s1 k = s k := fun k h1 hk => by rw [e1, up_n _ _ hk, up_n _ _ (by omega), nH_o (by decide) (by omega), nn_o (by omega) (by omega)]
  have e_0 : s1 (315 + 24 * c) = 5 := by rw [e1, up_s]
  have e_N : s1 312 = nI (N + 1) := by rw [e1, up_n _ _ (by omega), up_n _ _ (by omega), nH_o (by decide) (by omega), nn_N (by omega)]
  have e_R : s1 313 = nI N := by rw [e1, up_n _ _ (by omega), up_s]
  have e_v0 : s1 (13 * N) = s (315 + 24 * c + 10) := by rw [e1, up_n _ _ (by omega), up_n _ _ (by omega), nH_o (by decide) (by omega), nn_0]
  have e_v1 : s1 (13 * N + 1) = nI 2 := by rw [e1, up_n _ _ (by omega), up_n _ _ (by omega), nH_1]
  have e_v2 : s1 (13 * N + 2) = 100 := by rw [e1, up_n _ _ (by omega), up_n _ _ (by omega), nH_o (by decide) (by omega), nn_2]
  have e_v3 : s1 (13 * N + 3) = -4 := by rw [e1, up_n _ _ (by omega), up_n _ _ (by omega), nH_o (by decide) (by omega), nn_3]
  have e_v4 : s1 (13 * N + 4) = 0 := by rw [e1, up_n _ _ (by omega), up_n _ _ (by omega), nH_o (by decide) (by omega), nn_4]
  have e_vk : ∀ i, i < 2 → s1 (13 * N + (5 + i)) = if i = 0 then s (315 + 24 * c + 8) else 100 := fun i hi => by rw [e1, up_n _ _ (by omega), up_n _ _ (by omega), nH_k hi (by decide)]
  have e_vc : ∀ i, i < 2 → s1 (13 * N + (9 + i)) = if i = 0 then s 313 else s (315 + 24 * c + 9) := fun i hi => by rw [e1, up_n _ _ (by omega), up_n _ _ (by omega), nH_c hi (by decide)]
  have hN' : N' = N + 1 := nI_Neq J (by omega) e_N
  subst hN'
  have hm' : ∀ b, b < N → m' b = m b := fun b hb => mI_eq J (by omega) (by have := (G b hb).2.2.2.2.2.2.2.1; omega) (by rw [e_o _ (by omega)]; exact (G b hb).1.2.1)
  have hmN : m' N = 2 := mI_eq J (by omega) (by decide) e_v1
  have hlN : ¬ s1 (13 * N) = 0 := fun q => by
    rw [e_v0, w10] at q
    have := (nI_eq' (b := 0) (by omega) (by decide)).mp q
    omega
  have hth : ∀ key, thA s1 key = thA s key := fun key => by
    rw [Bool.eq_iff_iff, thA_iff I, thA_iff J]
    constructor
    · rintro ⟨b, hb, h2, h3, i, h4, h5⟩
      have hbN : b < N := by
        refine Nat.lt_of_le_of_ne (by omega) (fun q => ?_)
        subst q; exact hlN h2
      have g10 := (G b hbN).2.2.2.2.2.2.2.1
      rw [hm' b hbN] at h4
      rw [e_o _ (by omega)] at h2 h3 h5
      exact ⟨b, hbN, h2, h3, i, h4, h5⟩
    · rintro ⟨b, hb, h2, h3, i, h4, h5⟩
      have g10 := (G b hb).2.2.2.2.2.2.2.1
      exact ⟨b, by omega, by rw [e_o _ (by omega)]; exact h2, by rw [e_o _ (by omega)]; exact h3, i, by rw [hm' b hb]; exact h4, by rw [e_o _ (by omega)]; exact h5⟩
  have Z : CN (nrK x c N) (u2 y 6 N false) s1 (N + 1) m' := by
    refine ⟨⟨by rw [nr_10, e_N], by rw [nr_11, e_R], by rw [nr_o (by omega), e_c _ (by omega) (by omega)]; exact T.1.1.2.2⟩, fun b hb => ?_⟩
    by_cases ebN : b = N
    · subst ebN
      refine ⟨⟨by rw [nr_2, e_v0]; exact y9, by rw [nr_3, e_v1], by rw [nr_4, e_v2], by rw [nr_5, e_v3], by rw [u2_s, e_v4]; decide⟩, fun i hi => ?_⟩
      rw [hmN] at hi
      rw [e_vk i hi, e_vc i hi]
      by_cases i0 : i = 0
      · subst i0
        rw [nr_70, nr_80, if_pos rfl, if_pos rfl]
        exact ⟨y8, fun _ => T.1.1.2.1⟩
      · have : i = 1 := by omega
        subst this
        rw [nr_71, nr_81, if_neg (by decide), if_neg (by decide)]
        exact ⟨rfl, fun _ => y10⟩
    · obtain ⟨⟨v2, v3, v4, v5, v6⟩, vk⟩ := T.1.2 b (by omega)
      have g10 := (G b (by omega)).2.2.2.2.2.2.2.1
      refine ⟨⟨by rw [nr_o (by omega), e_o _ (by omega)]; exact v2, by rw [nr_o (by omega), e_o _ (by omega)]; exact v3, by rw [nr_o (by omega), e_o _ (by omega)]; exact v4, by rw [nr_o (by omega), e_o _ (by omega)]; exact v5, by rw [u2_n _ _ (by omega), e_o _ (by omega)]; exact v6⟩, fun i hi => ?_⟩
      rw [hm' b (by omega)] at hi
      rw [nr_o (by omega), nr_o (by omega), e_o _ (by omega), e_o _ (by omega), e_o _ (by omega)]
      exact vk i hi
  refine ⟨tdK (nrK x c N) c 7, u2 y 6 N false, ?_, sim_n T J hth Z hc (by decide) hon (fun k h1 h2 => e_c k (by omega) (by omega)) (e_c _ (by omega) (by omega)) (e_c _ (by omega) (by omega)) (fun o j h10 h9 _ => nr_o (by omega)) (fun o j h10 _ => u2_n _ _ (by omega)) ?_ (by rw [e_0]; decide)⟩
  · rw [go, b80_96 (by first | (simp only [zC_n, zC_k, zC_r, S.n, wk_0 S V, wk_1 S V, wr_0_0 S V, wr_0_1 S V, wk_9 S V, cl_k S V hc, cl_r S V hc, cl_p S V hc, cl_q S V hc, zq_rf]; done) | (simp only [zC_n, zC_r, S.n, wr_0_0 S V, wr_0_1 S V, cl_r S V hc, cl_p S V hc, zq_rf]; have := V.lt; omega)) (by first | (simp only [zC_n, zC_k, zC_r, S.n, wk_0 S V, wk_1 S V, wr_0_0 S V, wr_0_1 S V, wk_9 S V, cl_k S V hc, cl_r S V hc, cl_p S V hc, cl_q S V hc, zq_rf]; done) | (simp only [zC_n, zC_r, S.n, wr_0_0 S V, wr_0_1 S V, cl_r S V hc, cl_p S V hc, zq_rf]; have := V.lt; omega)), p_top S V hc eN a3 eR b2 (by rw [tR, y9]; exact hl), if_neg ?_]
    · simp only [Option.bind_some, Option.toList_some, Option.toList_none, List.cons_append, List.nil_append]
      rw [b80_101, adv_t S V hc (by decide)]
    · rintro (q | q)
      · rw [y11] at q; exact hd (of_decide_eq_true q)
      · omega
  · unfold KR
    rw [e_0]
    refine ⟨nr_c0, fun _ w h1 h7 => by rw [nr_o (by omega), e_c _ (by omega) (by omega)]; exact k1 hs0 w h1 h7, fun q => ?_, fun _ q => absurd rfl q⟩
    rcases q with q | q <;> exact absurd q (by decide)
end R31I
