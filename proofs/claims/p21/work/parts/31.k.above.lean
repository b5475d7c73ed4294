/-! CLASS AND REFERENCE: ABOVE, of a split -/
section R31K
variable {h : zi_Hp} {W : Nat} {x x0 x1 : Nat → Nat → Int32} {y y1 : Nat → Nat → Bool} {s s1 : Nat → Int32} {N R M B c n : Nat} {L m H r : Nat → Nat} {K C : Nat → Nat → Nat} {f : Nat → Nat}
section
variable {j b i : Nat} {key ch : Int32}
theorem ti_7 (hi : i ≤ b) : tiF x n j b key ch 7 (5 * n + i) = if i < j then x 7 (5 * n + i) else if i = j then key else x 7 (5 * n + (i - 1)) := by
  unfold tiF
  rw [u2_n _ _ (by omega), u2_n _ _ (by omega)]
  by_cases e : i = j
  · subst e; rw [u2_s, if_neg (Nat.lt_irrefl _), if_pos rfl]
  · rw [u2_n _ _ (by omega), if_neg e]
    unfold shF
    by_cases l : i < j
    · rw [if_pos l, if_neg (by omega)]
    · rw [if_neg l, if_pos (by omega), show 5 * n + i - 1 = 5 * n + (i - 1) by omega]
theorem ti_8 (hi : i ≤ b) : tiF x n j b key ch 8 (5 * n + i) = if i < j then x 8 (5 * n + i) else if i = j then ch else x 8 (5 * n + (i - 1)) := by
  unfold tiF
  rw [u2_n _ _ (by omega)]
  by_cases e : i = j
  · subst e; rw [u2_s, if_neg (Nat.lt_irrefl _), if_pos rfl]
  · rw [u2_n _ _ (by omega), u2_n _ _ (by omega), if_neg e]
    unfold shF
    by_cases l : i < j
    · rw [if_pos l, if_neg (by omega)]
    · rw [if_neg l, if_pos (by omega), show 5 * n + i - 1 = 5 * n + (i - 1) by omega]
theorem ti_3 : tiF x n j b key ch 3 n = nI (b + 1) := by unfold tiF; rw [u2_s]
theorem ti_g {o k : Nat} (hj : j ≤ b) (hb : b ≤ 4) (h1 : o ≠ 3 ∨ k ≠ n) (h2 : (o ≠ 7 ∧ o ≠ 8) ∨ k < 5 * n ∨ 5 * n + 5 ≤ k) : tiF x n j b key ch o k = x o k := by
  unfold tiF
  rw [u2_n _ _ (by omega), u2_n _ _ (by omega), u2_n _ _ (by omega)]
  unfold shF
  rw [if_neg (by omega)]
end
theorem pt_o {o j b ls lv : Nat} {ans : Int32} (ho : o ≠ 10 + 2 * c) : ptK x c n N b ls lv ans o j = tsF x n N b ls o j := by
  unfold ptK riK
  try dsimp only
  rw [u2_n _ _ (Or.inl ho), u2_n _ _ (Or.inl ho), u2_n _ _ (Or.inl ho), u2_n _ _ (Or.inl ho), u2_n _ _ (Or.inl ho), u2_n _ _ (Or.inl ho)]
theorem pt_eq {b ls lv : Nat} {ans : Int32} : ptK x c n N b ls lv ans = riK (u2 (u2 (tsF x n N b ls) (10 + 2 * c) 10 (nI N)) (10 + 2 * c) 8 (tsF x n N b ls 4 n)) c (lv + 1) ans := rfl
theorem sp_eq {v t ls bm : Nat} {bk bc : Nat → Int32} : spF s c n v t ls bm bk bc = poF (s2F s n v (fun i => bk (ls + i)) (fun i => bc (ls + i)) bk bc (bm - ls) ls (bk (ls - 1))) c (t + 1) (bk (ls - 1)) (nI v) 0 := rfl
theorem sim_4Y (S : Sh h) (V : Wa W) (T : CR x y s N m) (I : InvG s N R M B L m H r K C f) (hc : c < 3) (h4 : s (315 + 24 * c) = 4) (hdd : ¬ s (315 + 24 * c + 11) = 1) (hmv : msF s c = true) {cd : Int32} (D : StY s c cd s1) {N' R' M' B' : Nat} {L' m' H' r' : Nat → Nat} {K' C' : Nat → Nat → Nat} {f' : Nat → Nat} (J : InvG s1 N' R' M' B' L' m' H' r' K' C' f') {v2 v3 v4 : Value} : ∃ x' y', zv 5 80 0 [.ref W, .int (nI c), v2, v3, v4] [] (zC h W x y) = some (some (.int cd), zC h W x' y') ∧ CR x' y' (stF s s1 c cd) N' m' := by
  obtain ⟨⟨a1, a2, a3⟩, ⟨b1, b2⟩, ⟨d1, d2, d3⟩, G, o, z⟩ := id I.1
  have hx0 : ¬ cd = 0 := ms_x I hc hmv (Or.inr (Or.inr (Or.inr (Or.inr (Or.inr (Or.inl ⟨h4, hdd, D⟩))))))
  have hon : onB s c = true := by unfold onB; rw [h4]; decide
  obtain ⟨k0, k1, k2, k3⟩ := id (T.2.1 c hc)
  obtain ⟨-, -, a, ea, ha, pa, md, p, t, w8, w9, w10, hmd, hp, ht1, ht2, w11, w4⟩ := at_3 I hc (k0 := 4) (Or.inr rfl) h4
  obtain ⟨hLt, hmH⟩ := w4 rfl
  have hs0 : ¬ s (315 + 24 * c) = 0 := by rw [h4]; decide
  have hs5 : ¬ s (315 + 24 * c) = 5 := by rw [h4]; decide
  have w3 := k1 hs0 3 (by decide) (by decide)
  obtain ⟨y8, y9, y10, y11⟩ := k2 (Or.inr h4)
  have eN : x 1 0 = nI N := by rw [T.1.1.1]; exact a1
  have eM : x 1 2 = nI M := by rw [T.1.1.2.2]; exact d1
  have xa : x (10 + 2 * c) 3 = nI a := by rw [w3]; exact ea
  have go : zv 5 80 0 [.ref W, .int (nI c), v2, v3, v4] [] (zC h W x y) = zv 5 80 121 [.ref W, .int (nI c), .ref (W + (10 + 2 * c)), .int 0, v4] [] (zC h W x y) := by
    rw [adv_go S V hc eN a3 (n := a) (fun _ => ⟨xa, ha⟩) (by rw [T.mv I hc (fun _ => ⟨ea, ha⟩)]; exact hmv), b80_30_d (by first | (simp only [zC_n, zC_k, zC_r, S.n, wk_0 S V, wk_1 S V, wr_0_0 S V, wr_0_1 S V, wk_9 S V, cl_k S V hc, cl_r S V hc, cl_p S V hc, cl_q S V hc, zq_rf]; done) | (simp only [zC_n, zC_r, S.n, wr_0_0 S V, wr_0_1 S V, cl_r S V hc, cl_p S V hc, zq_rf]; have := V.lt; omega)) (by first | (simp only [zC_n, zC_k, zC_r, S.n, wk_0 S V, wk_1 S V, wr_0_0 S V, wr_0_1 S V, wk_9 S V, cl_k S V hc, cl_r S V hc, cl_p S V hc, cl_q S V hc, zq_rf]; done) | (simp only [zC_n, zC_r, S.n, wr_0_0 S V, wr_0_1 S V, cl_r S V hc, cl_p S V hc, zq_rf]; have := V.lt; omega)) (by rw [zC_i (by omega), k0, h4]; exact Or.inr (by decide)), k0, h4, decide_eq_false (by decide), zi_bI_f, b80_106 (by first | (simp only [zC_n, zC_k, zC_r, S.n, wk_0 S V, wk_1 S V, wr_0_0 S V, wr_0_1 S V, wk_9 S V, cl_k S V hc, cl_r S V hc, cl_p S V hc, cl_q S V hc, zq_rf]; done) | (simp only [zC_n, zC_r, S.n, wr_0_0 S V, wr_0_1 S V, cl_r S V hc, cl_p S V hc, zq_rf]; have := V.lt; omega)) (by first | (simp only [zC_n, zC_k, zC_r, S.n, wk_0 S V, wk_1 S V, wr_0_0 S V, wr_0_1 S V, wk_9 S V, cl_k S V hc, cl_r S V hc, cl_p S V hc, cl_q S V hc, zq_rf]; done) | (simp only [zC_n, zC_r, S.n, wr_0_0 S V, wr_0_1 S V, cl_r S V hc, cl_p S V hc, zq_rf]; have := V.lt; omega)), zC_b (by omega), y11, decide_eq_false hdd, zi_bI_f, if_pos rfl]
  have fin : ∀ {x1 : Nat → Nat → Int32} {y1 : Nat → Nat → Bool}, zv 4 92 0 [.ref W, .ref (W + (10 + 2 * c)), .double 0, .double 0] [] (zC h W x y) = some (some (.int cd), zC h W x1 y1) → CR (tdK x1 c cd) y1 (stF s s1 c cd) N' m' → ∃ x' y', zv 5 80 0 [.ref W, .int (nI c), v2, v3, v4] [] (zC h W x y) = some (some (.int cd), zC h W x' y') ∧ CR x' y' (stF s s1 c cd) N' m' := fun {x1 y1} e1 e2 => by
    refine ⟨tdK x1 c cd, y1, ?_, e2⟩
    rw [go, b80_121 (by first | (simp only [zC_n, zC_k, zC_r, S.n, wk_0 S V, wk_1 S V, wr_0_0 S V, wr_0_1 S V, wk_9 S V, cl_k S V hc, cl_r S V hc, cl_p S V hc, cl_q S V hc, zq_rf]; done) | (simp only [zC_n, zC_r, S.n, wr_0_0 S V, wr_0_1 S V, cl_r S V hc, cl_p S V hc, zq_rf]; have := V.lt; omega)) (by first | (simp only [zC_n, zC_k, zC_r, S.n, wk_0 S V, wk_1 S V, wr_0_0 S V, wr_0_1 S V, wk_9 S V, cl_k S V hc, cl_r S V hc, cl_p S V hc, cl_q S V hc, zq_rf]; done) | (simp only [zC_n, zC_r, S.n, wr_0_0 S V, wr_0_1 S V, cl_r S V hc, cl_p S V hc, zq_rf]; have := V.lt; omega)), e1]
    simp only [Option.bind_some, Option.toList_some, Option.toList_none, List.cons_append, List.nil_append]
    rw [b80_126, adv_t S V hc hx0]
  obtain ⟨n, mm, j, MM, hn24, hmM, hM2, hM4, hj, en, emm, eMM, hlt, hge, D⟩ := D
  have hna : n = a := by rw [ea] at en; exact ((nI_eq' (by omega) (by omega)).mp en).symm
  subst hna
  obtain ⟨⟨g1, g2, g3⟩, g4, g5, g6, g7, g8, g9, g10, g11, g12⟩ := G n ha
  obtain ⟨⟨t2, t3, t4, t5, t6⟩, tk⟩ := T.1.2 n ha
  have hmm' : mm = m n := by rw [g2] at emm; exact ((nI_eq' (by omega) (by omega)).mp emm).symm
  subst hmm'
  have hMM' : MM = M := by rw [d1] at eMM; exact ((nI_eq' (by omega) (by omega)).mp eMM).symm
  subst hMM'
  have ln := I.lv ha
  have em : x 3 n = nI (m n) := by rw [t3]; exact g2
  have hs13 : 0 < s (13 * n) := by rw [g1]; exact nI_lt (a := 0) (by omega) (by omega)
  have cls := a_s S V hc (y := y) eN a3 xa ha em (by omega) hj (fun i hi => by rw [(tk i (by omega)).1, y8]; exact hlt i hi) (by rw [(tk j hj).1, y8]; exact hge) (by rw [t2]; exact hs13) (v2 := .double 0) (v3 := .double 0)
  obtain ⟨x0, ex0⟩ : ∃ x0, x0 = u2 (tiF x n j (m n) (x (10 + 2 * c) 8) (x 8 (5 * n + j))) 8 (5 * n + (j + 1)) (x (10 + 2 * c) 10) := ⟨_, rfl⟩
  rw [← ex0, (tk j hj).1, y8] at cls
  have x0o : ∀ o k, (o ≠ 3 ∨ k ≠ n) → ((o ≠ 7 ∧ o ≠ 8) ∨ k < 5 * n ∨ 5 * n + 5 ≤ k) → x0 o k = x o k := fun o k h1 h2 => by
    rw [ex0, u2_n _ _ (by omega), ti_g (by omega) (by omega) h1 h2]
  have x03 : x0 3 n = nI (m n + 1) := by rw [ex0, u2_n _ _ (by omega), ti_3]
  have x0k : ∀ i, i < m n + 1 → x0 7 (5 * n + i) = blF s n j (s (315 + 24 * c + 8)) i ∧ (0 < s (13 * n) → x0 8 (5 * n + i) = icF s n j (s (315 + 24 * c + 9)) i) := fun i hi => by
    constructor
    · rw [ex0, u2_n _ _ (by omega), ti_7 (by omega)]
      unfold blF
      by_cases q : i < j
      · rw [if_pos q, if_pos q]; exact (tk i (by omega)).1
      · rw [if_neg q, if_neg q]
        by_cases q2 : i = j
        · rw [if_pos q2, if_pos q2]; exact y8
        · rw [if_neg q2, if_neg q2]; exact (tk (i - 1) (by omega)).1
    · intro _
      rw [ex0]
      unfold icF
      by_cases q3 : i = j + 1
      · subst q3
        rw [u2_s, if_neg (by omega), if_pos rfl]; exact y10
      · rw [u2_n _ _ (by omega), ti_8 (by omega)]
        by_cases q : i < j
        · rw [if_pos q, if_pos (by omega)]; exact (tk i (by omega)).2 hs13
        · rw [if_neg q]
          by_cases q2 : i = j
          · subst q2
            rw [if_pos rfl, if_pos (Nat.le_refl _)]; exact (tk i hj).2 hs13
          · rw [if_neg q2, if_neg (by omega), if_neg q3]; exact (tk (i - 1) (by omega)).2 hs13
  have x0c : ∀ o k, 9 ≤ o → x0 o k = x o k := fun o k ho => x0o o k (by omega) (by omega)
  have kr : ∀ {x1 : Nat → Nat → Int32} {s1 : Nat → Int32}, (∀ w, x1 (10 + 2 * c) w = if w = 0 then 5 else x (10 + 2 * c) w) → s1 (315 + 24 * c) = 5 → (∀ w, 1 ≤ w → w < 24 → s1 (315 + 24 * c + w) = s (315 + 24 * c + w)) → KR x1 y s1 c := fun {x1 s1} e1 e2 e3 => by
    unfold KR
    rw [e2]
    refine ⟨by rw [e1]; rfl, fun _ w h1 h7 => by rw [e1, if_neg (by omega), e3 w h1 (by omega)]; exact k1 hs0 w h1 h7, fun q => ?_, fun _ q => absurd rfl q⟩
    rcases q with q | q <;> exact absurd q (by decide)
  have same : cd = 3 → s1 = up s (315 + 24 * c) 5 → CR (tdK (u2 x (10 + 2 * c) 0 5) c cd) y (stF s s1 c cd) N' m' := fun hcd e1 => by
    subst hcd
    have hN' : N' = N := nI_Neq J (by omega) (by rw [e1, up_n _ _ (by omega)]; exact a1)
    subst hN'
    have so : ∀ k, k ≠ 315 + 24 * c → s1 k = s k := fun k hk => by rw [e1, up_n _ _ hk]
    refine sim_n T J (fun key => thA_cl I (fun k hk => so k (by omega)) key) ?_ hc (by decide) hon (fun k _ hk => so k (by omega)) (so _ (by omega)) (so _ (by omega)) (fun o j _ h9 _ => u2_n _ _ (Or.inl h9)) (fun _ _ _ _ => rfl) (kr (fun w => ?_) (by rw [e1, up_s]) (fun w _ _ => so _ (by omega))) (by rw [e1, up_s]; decide)
    · have hm' : ∀ b, b < N' → m' b = m b := fun b hb => mI_eq J hb (by have := (G b hb).2.2.2.2.2.2.2.1; omega) (by rw [so _ (by omega)]; exact (G b hb).1.2.1)
      have q := T.1.cl (x' := u2 x (10 + 2 * c) 0 5) (y' := y) (s' := s1) a3 (fun b hb => by have := (G b hb).2.2.2.2.2.2.2.1; omega) (fun o j ho => u2_n _ _ (Or.inl (by omega))) (fun _ => rfl) (fun k hk => so k (by omega))
      exact ⟨q.1, fun b hb => ⟨(q.2 b hb).1, fun i hi => (q.2 b hb).2 i (by rw [← hm' b hb]; exact hi)⟩⟩
    · by_cases e0 : w = 0
      · subst e0; rw [u2_s]; rfl
      · rw [u2_n _ _ (Or.inr e0), if_neg e0]
  rcases D with ⟨he, rfl, e1⟩ | ⟨he, ⟨hlM, rfl, e1⟩ | ⟨hmM2, h24, rfl, e1⟩ | ⟨hmM2, v, tt, ls, hv, hnv, ev, et, htt, hls, rfl, e1⟩⟩
  · exact fin (by rw [cls, if_pos he]) (same rfl e1)
  · have eo : ∀ k, k < 315 → s1 k = nH s n (blF s n j (s (315 + 24 * c + 8))) (icF s n j (s (315 + 24 * c + 9))) (m n + 1) k := fun k hk => by rw [e1, up_n _ _ (by omega)]
    have hN' : N' = N := nI_Neq J (by omega) (by rw [eo _ (by decide), nH_o (by omega) (by omega)]; exact a1)
    subst hN'
    have so : ∀ k, 315 ≤ k → k ≠ 315 + 24 * c → s1 k = s k := fun k h3 hk => by rw [e1, up_n _ _ hk, nH_o (by omega) (by omega)]
    refine fin (x1 := u2 x0 (10 + 2 * c) 0 5) (y1 := y) ?_ (sim_n T J (thA_node I ha (by omega) (by omega) J eo) (T.1.node I ha (by omega) J eo (fun o k ho h1 h2 => ?_) ?_ (fun i hi => ?_)) hc (by decide) hon (fun k h3 hk => so k h3 (by omega)) (so _ (by omega) (by omega)) (so _ (by omega) (by omega)) (fun o k h10 h9 _ => by rw [u2_n _ _ (Or.inl h9), x0c _ _ (by omega)]) (fun _ _ _ _ => rfl) (kr (fun w => ?_) (by rw [e1, up_s]) (fun w _ _ => so _ (by omega) (by omega))) (by rw [e1, up_s]; decide))
    · rw [cls, if_neg he, if_pos (by rw [em, eM]; exact nI_lt (by omega) (by omega)), a_o S V hc]
    · rw [u2_n _ _ (Or.inl (by omega)), x0o o k h1 h2]
    · rw [u2_n _ _ (Or.inl (by omega)), x03]
    · rw [u2_n _ _ (Or.inl (by omega)), u2_n _ _ (Or.inl (by omega))]; exact x0k i hi
    · by_cases e0 : w = 0
      · subst e0; rw [u2_s]; rfl
      · rw [u2_n _ _ (Or.inr e0), if_neg e0, x0c _ _ (by omega)]
  · refine fin ?_ (same rfl e1)
    rw [cls, if_neg he, if_neg (by rw [em, eM, hmM2]; exact Int32.lt_irrefl), if_pos (by rw [a1] at h24; exact (nI_eq' (b := 24) (by omega) (by decide)).mp h24)]
  · have hvN : N = v := by rw [a1] at ev; exact (nI_eq' (by omega) (by omega)).mp ev
    subst hvN
    have e2 : s1 = poF (s2F s n N (fun i => blF s n j (s (315 + 24 * c + 8)) (ls + i)) (fun i => icF s n j (s (315 + 24 * c + 9)) (ls + i)) (blF s n j (s (315 + 24 * c + 8))) (icF s n j (s (315 + 24 * c + 9))) (m n + 1 - ls) ls (blF s n j (s (315 + 24 * c + 8)) (ls - 1))) c (tt + 1) (blF s n j (s (315 + 24 * c + 8)) (ls - 1)) (nI N) 0 := by rw [e1, sp_eq]
    have eo : ∀ k, k < 315 → s1 k = s2F s n N (fun i => blF s n j (s (315 + 24 * c + 8)) (ls + i)) (fun i => icF s n j (s (315 + 24 * c + 9)) (ls + i)) (blF s n j (s (315 + 24 * c + 8))) (icF s n j (s (315 + 24 * c + 9))) (m n + 1 - ls) ls (blF s n j (s (315 + 24 * c + 8)) (ls - 1)) k := fun k hk => by rw [e2, po_o (by omega)]
    have bg : ∀ k, 313 ≤ k → s2F s n N (fun i => blF s n j (s (315 + 24 * c + 8)) (ls + i)) (fun i => icF s n j (s (315 + 24 * c + 9)) (ls + i)) (blF s n j (s (315 + 24 * c + 8))) (icF s n j (s (315 + 24 * c + 9))) (m n + 1 - ls) ls (blF s n j (s (315 + 24 * c + 8)) (ls - 1)) k = s k := fun k hk => s2_g (by omega) (by omega) (by omega) (by omega) (by omega)
    have hN' : N' = N + 1 := nI_Neq J (by omega) (by
      rw [eo _ (by decide)]; unfold s2F
      rw [up_n _ _ (by omega), up_n _ _ (by omega), nH_o (by omega) (by omega), nH_o (by omega) (by omega), nn_N hv])
    subst hN'
    obtain ⟨x1, ex1⟩ : ∃ x1, x1 = ptK x0 c n N (m n + 1) ls tt (x0 (10 + 2 * c) 4) := ⟨_, rfl⟩
    obtain ⟨y1, ey1⟩ : ∃ y1, y1 = u2 (u2 y 6 N false) (10 + 2 * c) 11 false := ⟨_, rfl⟩
    have hls' : m n + 1 = 3 ∧ ls = 2 ∨ m n + 1 = 4 ∧ ls = 2 ∨ m n + 1 = 5 ∧ ls = 3 := hls
    obtain ⟨Z, mN, mn, ma, ⟨q0, q4, p0, p4⟩, -, -, oth⟩ := T.1.split (y1 := y1) I ha hv hls' J eo (fun o k _ h1 h2 => x0o o k h1 h2) x0k (x1 := x1) (fun o k ho => by rw [ex1, pt_o (by omega)]) (fun k => by rw [ey1, u2_n _ _ (by omega)])
    have no : ¬ s (13 * n) = 0 := fun q => by rw [q] at hs13; exact absurd hs13 (by decide)
    have hth : ∀ key, thA s1 key = thA s key := fun key => by
      rw [Bool.eq_iff_iff, thA_iff I, thA_iff J]
      constructor
      · rintro ⟨b, hb, h2, h3, i, h4, h5⟩
        have hbN : b ≠ N := fun q => by subst q; rw [q0] at h2; exact no h2
        have hbn : b ≠ n := fun q => by subst q; rw [p0] at h2; exact no h2
        have g10 := (G b (by omega)).2.2.2.2.2.2.2.1
        rw [ma b (by omega) hbn] at h4
        rw [oth b _ (by omega) hbn (by decide)] at h3
        rw [oth b _ (by omega) hbn (by omega)] at h5
        rw [show s1 (13 * b) = s (13 * b) from oth b 0 (by omega) hbn (by decide)] at h2
        exact ⟨b, by omega, h2, h3, i, h4, h5⟩
      · rintro ⟨b, hb, h2, h3, i, h4, h5⟩
        have hbn : b ≠ n := fun q => by subst q; exact no h2
        have g10 := (G b hb).2.2.2.2.2.2.2.1
        exact ⟨b, by omega, by rw [show s1 (13 * b) = s (13 * b) from oth b 0 hb hbn (by decide)]; exact h2, by rw [oth b _ hb hbn (by decide)]; exact h3, i, by rw [ma b hb hbn]; exact h4, by rw [oth b _ hb hbn (by omega)]; exact h5⟩
    have kc : KR x1 y1 s1 c := by
      rw [ex1, pt_eq]
      refine (T.2.1 c hc).ri hs0 hs5 (l := tt + 1) (by omega) ?_ (mid := blF s n j (s (315 + 24 * c + 8)) (ls - 1)) (what := nI N) (dead := 0) (fun w hw => ?_) (fun w => ?_) ?_ ?_ ?_ ?_ ?_ (fun w hw => ?_) ?_ ?_ ?_ ?_ ?_ ?_ (fun w hw => ?_)
      · rcases pa (tt + 1) (by omega) with q | ⟨b, q, hb, -⟩
        · exact Or.inl q
        · exact Or.inr ⟨b, q, by omega⟩
      · rw [u2_n _ _ (by omega), u2_n _ _ (by omega), ts_o ha (by omega), x0c _ _ (by omega)]
      · rw [u2_n _ _ (by omega), u2_n _ _ (by omega), ts_o ha (by omega), x0c _ _ (by omega)]
      · rw [u2_n _ _ (by omega), u2_n _ _ (by omega), ts_o ha (by omega), x0o _ _ (by omega) (by omega)]; exact T.1.1.2.1
      · rw [u2_s, ts_4n ha (by omega)]; exact (x0k (ls - 1) (by omega)).1
      · rw [u2_n _ _ (by omega), u2_s]
      · rw [ey1, u2_s]; decide
      · rw [e2, po_0]
      · rw [e2, po_w (by omega), bg _ (by omega)]
      · rw [e2, po_3, bg _ (by omega), bg _ (by omega)]
      · rw [e2, po_w (by omega), bg _ (by omega), x0c _ _ (by omega)]; exact (k1 hs0 4 (by decide) (by decide)).symm
      · rw [e2, po_8]
      · rw [e2, po_9]
      · rw [e2, po_10]
      · rw [e2, po_11]
      · rw [e2, po_w (by omega), bg _ (by omega)]
    refine fin (x1 := x1) (y1 := y1) ?_ (sim_n T J hth Z hc (by decide) hon (fun k h3 hk => by rw [e2, po_o (by omega), bg _ (by omega)]) (by rw [e2, po_w (by omega), bg _ (by omega)]) (by rw [e2, po_w (by omega), bg _ (by omega)]) (fun o k h10 h9 _ => by rw [ex1, pt_o h9, ts_o ha (by omega), x0c _ _ (by omega)]) (fun o k h10 h9 => by rw [ey1, u2_n _ _ (Or.inl h9), u2_n _ _ (by omega)]) kc (by rw [e2, po_0]; decide))
    rw [cls, if_neg he, if_neg (by rw [em, eM, hmM2]; exact Int32.lt_irrefl), if_neg (by omega), a_p S V hc (x := x0) (by rw [x0o _ _ (by omega) (by omega)]; exact eN) hv (by rw [x0c _ _ (by omega)]; exact xa) ha x03 hls' (by rw [x0o _ _ (by omega) (by omega), t2]; exact et) (by omega), ex1, ey1]
end R31K
