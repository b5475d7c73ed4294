/-! THE STEPS: TAKE, POSTS, ABOVE -/
section IVT
variable {s s' : Nat → Int32} {N R M B : Nat} {L m H r : Nat → Nat} {K C : Nat → Nat → Nat} {f : Nat → Nat} {c : Nat}
/-- a node has other keys, entries, its holder is done -/
theorem InvG.nodeD (I : InvG s N R M B L m H r K C f) (hc : c < 3) {a k : Nat} (ha : a < N) {g gc : Nat → Int32} {K2 C2 : Nat → Nat} (hk : k ≤ M) (h1 : ∀ i, i < k → g i = nI (K2 i) ∧ K2 i ≤ 100) (h2 : ∀ i, i + 1 < k → K2 i < K2 (i + 1)) (h3 : 0 < L a → 0 < k ∧ K2 (k - 1) = H a ∧ ∀ i, i < k → gc i = nI (C2 i) ∧ C2 i < N ∧ L (C2 i) + 1 = L a) (hx : (if L a = 0 then 0 else k - 1) ≤ exN L m a + pnC s c) (e : ∀ j, j < 315 + 24 * c ∨ 315 + 24 * c + 24 ≤ j → s' j = nH s a g gc k j) (h5 : s' (315 + 24 * c) = 5) : InvG s' N R M B L (fun x => if x = a then k else m x) H r (fun x => if x = a then K2 else K x) (fun x => if x = a then C2 else C x) f := by
  obtain ⟨iN, iC, iS⟩ := I
  have hM : M ≤ 4 := iN.2.2.1.2.2
  have ha24 : a < 24 := by have := iN.1.2.2; omega
  have hN := InvN.big iN ha (g := g) (gc := gc) (k := k) (K2 := K2) (C2 := C2) hk h1 h2 h3
  have ed : ∀ d, d < 3 → d ≠ c → ∀ w, w < 24 → s' (315 + 24 * d + w) = s (315 + 24 * d + w) := fun d hd hn w hw => by rw [e _ (by omega), nH_o (by omega) (by omega)]
  refine ⟨hN.same (fun j hj => e j (by omega)), iC.gen hc ed (clG.off (k := 5) h5 (Or.inr rfl)) (fun w => ?_) (Nat.le_refl _) (fun b _ => ⟨rfl, Nat.le_refl _⟩) (Nat.le_refl _) (fun d _ _ a _ _ _ => Nat.le_refl _), ?_⟩
  · unfold hoC at w
    rw [h5] at w
    rcases w with q | q <;> exact absurd q (by decide)
  · unfold InvS at *
    have p1 := pn_sum hc ed
    have p2 : pnC s' c = 0 := pn_0 (k := 5) h5 (by omega)
    have q3 := sumN_one (g := exN L m) (g' := exN L (fun x => if x = a then k else m x)) ha (fun i hi e9 => by simp only [exN, e9, if_false])
    have q6 : exN L (fun x => if x = a then k else m x) a = if L a = 0 then 0 else k - 1 := by simp only [exN, if_true]
    omega
/-- TAKE -/
theorem stI_2T (I : InvG s N R M B L m H r K C f) (hc : c < 3) (h2 : s (315 + 24 * c) = 2) (hact : ¬ s (315 + 24 * c + 1) = 1) : StI s L f c := by
  obtain ⟨iN, iC, iS⟩ := id I
  obtain ⟨⟨a1, a2, a3⟩, ⟨b1, b2⟩, ⟨d1, d2, d3⟩, G, o, z⟩ := id iN
  obtain ⟨c1, ke, a, e1, e2, at1, at2, at3, hL⟩ := at_2 I hc h2
  obtain ⟨⟨g1, g2, g3⟩, g4, g5, g6, g7, g8, g9, g10, g11, g12⟩ := G a at2
  have hs0 : s (13 * a) = 0 := by rw [g1, hL]; rfl
  have muS : mu s L f c = 599 := mu_2 h2
  have hp0 : pnC s c = 0 := pn_0 (k := 2) h2 (by omega)
  cases hb : hkF s a (s (315 + 24 * c + 2)) (m a) with
  | false =>
    have e0 : up (up s (315 + 24 * c + 4) 0) (315 + 24 * c) 5 (315 + 24 * c) = 5 := up_s _ _ _
    exact ⟨3, _, N, R, M, B, L, m, H, r, K, C, f, Or.inr (Or.inr (Or.inl ⟨h2, hact, a, m a, by omega, by omega, at1, g2, hs0, Or.inl ⟨hb, rfl, rfl⟩⟩)), I.done hc (fun k hk => by rw [up_n _ _ (by omega), up_n _ _ (by omega)]) e0, fun w => absurd w (by decide), fun _ => by rw [muS, mu_5 e0]; omega⟩
  | true =>
    obtain ⟨p, p1, p2⟩ := hkF_iff.mp hb
    have pne : ∀ i, i < m a → i ≠ p → ¬ s (13 * a + (5 + i)) = s (315 + 24 * c + 2) := fun i hi hip w => by
      rw [← p2, (g6 i hi).1, (g6 p p1).1, nI_eq' (by have := (g6 i hi).2; omega) (by have := (g6 p p1).2; omega)] at w
      by_cases h9 : i < p
      · have := rise_lt g7 h9 p1; omega
      · have := rise_lt g7 (i := p) (j := i) (by omega) hi; omega
    by_cases hd : 1 < m a ∨ s (13 * a + 3) = -4
    · have e0 : up (up (nH s a (rmF s a 5 p) (fun _ => -4) (m a - 1)) (315 + 24 * c + 4) 1) (315 + 24 * c) 5 (315 + 24 * c) = 5 := up_s _ _ _
      refine ⟨3, _, N, R, M, B, L, _, H, r, _, _, f, Or.inr (Or.inr (Or.inl ⟨h2, hact, a, m a, by omega, by omega, at1, g2, hs0, Or.inr ⟨hb, p, p1, p2, pne, Or.inl ⟨hd, rfl, rfl⟩⟩⟩)), I.leafD hc hp0 at2 hL (k := m a - 1) (g := rmF s a 5 p) (gc := fun _ => -4) (K2 := fun i => if i < p then K a i else K a (i + 1)) (by omega) (fun i hi => ?_) (fun i hi => ?_) (fun j hj => by rw [up_n _ _ (by omega), up_n _ _ (by omega)]) e0, fun w => absurd w (by decide), fun _ => by rw [muS, mu_5 e0]; omega⟩
      · try dsimp only
        unfold rmF
        by_cases q1 : i < p
        · rw [if_pos q1, if_pos q1]; exact g6 i (by omega)
        · rw [if_neg q1, if_neg q1]; exact g6 (i + 1) (by omega)
      · try dsimp only
        by_cases q1 : i + 1 < p
        · rw [if_pos (by omega), if_pos q1]; exact g7 i (by omega)
        · rw [if_neg q1]
          by_cases q2 : i < p
          · rw [if_pos q2]; exact rise_lt g7 (by omega) (by omega)
          · rw [if_neg q2]; exact g7 (i + 1) (by omega)
    · have hr4 : ¬ s (13 * a + 3) = -4 := fun w => hd (Or.inr w)
      have hm1 : m a = 1 := by omega
      have hp : p = 0 := by omega
      subst hp
      have hN1 := InvN.big iN at2 (g := rmF s a 5 0) (gc := fun _ => -4) (k := 0) (K2 := fun _ => 0) (C2 := fun _ => 0) (by omega) (fun i hi => absurd hi (Nat.not_lt_zero i)) (fun i hi => by omega) (fun w => by omega)
      have hN2 : InvN (up (nH s a (rmF s a 5 0) (fun _ => -4) 0) (315 + 24 * c + 4) 1) N R M B L (fun x => if x = a then 0 else m x) H r (fun x => if x = a then (fun _ => 0) else K x) (fun x => if x = a then (fun _ => 0) else C x) f := hN1.same (fun k hk => up_n _ _ (by omega))
      have hN3 := hN2.dies at2 hL (by rw [up_n _ _ (by omega), nH_o (by decide) (by omega)]; exact hr4)
      have eo : ∀ j, 312 ≤ j → j ≠ 315 + 24 * c + 4 → up (up (nH s a (rmF s a 5 0) (fun _ => -4) 0) (315 + 24 * c + 4) 1) (13 * a + 4) 1 j = s j := fun j h1 h3 => by rw [up_n _ _ (by omega), up_n _ _ h3, nH_o (by decide) (by omega)]
      generalize hs3 : up (up (nH s a (rmF s a 5 0) (fun _ => -4) 0) (315 + 24 * c + 4) 1) (13 * a + 4) 1 = s3 at hN3 eo
      have ed : ∀ d, d < 3 → d ≠ c → ∀ w, w < 24 → poF s3 c 1 (s (13 * a + 2)) (nI a) 1 (315 + 24 * d + w) = s (315 + 24 * d + w) := fun d hd hn w hw => by rw [po_o (by omega), eo _ (by omega) (by omega)]
      obtain ⟨an, an2, an1⟩ : ∃ an, an < N ∧ poF s3 c 1 (s (13 * a + 2)) (nI a) 1 (315 + 24 * c + 3) = nI an := by
        rw [po_3, eo _ (by omega) (by omega), eo _ (by omega) (by omega)]
        rcases at3 1 (by omega) with q | ⟨b, q1, q2, q3⟩
        · rw [if_pos q]; exact ⟨R, b2, b1⟩
        · rw [if_neg (by rw [q1]; exact nI_n4 b (by omega))]; exact ⟨b, q2, q1⟩
      refine ⟨6, poF s3 c 1 (s (13 * a + 2)) (nI a) 1, N, R, M, B, L, _, H, r, _, _, f, Or.inr (Or.inr (Or.inl ⟨h2, hact, a, m a, by omega, by omega, at1, g2, hs0, Or.inr ⟨hb, 0, p1, p2, pne, Or.inr ⟨hm1, hr4, rfl, by rw [hs3]⟩⟩⟩)), ⟨hN3.same (fun k hk => po_o (by omega)), iC.gen hc ed ⟨3, po_0, by decide, fun _ _ => ⟨?_, ⟨ke, by rw [po_w (by omega), eo _ (by omega) (by omega)]; exact e1, e2⟩, an, an1, an2, fun l hl => ?_, fun w => absurd w (by decide), fun _ => ⟨H a, a, 1, by rw [po_8]; exact g3, po_9, po_10, g11, at2, Nat.le_refl _, by omega, Or.inl ⟨po_11, rfl⟩, fun w => absurd w (by decide)⟩⟩⟩ (fun w => ?_) (Nat.le_refl _) (fun b _ => ⟨rfl, Nat.le_refl _⟩) (Nat.le_refl _) (fun d _ _ a _ _ _ => Nat.le_refl _), ?_⟩, fun w => absurd w (by decide), fun _ => ?_⟩
      · obtain ⟨ac, q1, q2⟩ := c1
        exact ⟨ac, by rw [po_w (by omega), eo _ (by omega) (by omega)]; exact q1, q2⟩
      · rw [po_w (by omega), eo _ (by omega) (by omega)]; exact at3 l hl
      · unfold hoC at w
        rw [po_0] at w
        rcases w with q | q <;> exact absurd q (by decide)
      · unfold InvS at *
        have p1 := pn_sum hc ed
        have p2 : pnC (poF s3 c 1 (s (13 * a + 2)) (nI a) 1) c = 0 := pn_d po_11
        have q3 := sumN_congr (n := N) (g := exN L m) (g' := exN L (fun x => if x = a then 0 else m x)) (fun i hi => by
          by_cases e9 : i = a
          · subst e9; simp only [exN, hL, if_true]
          · simp only [exN, e9, if_false])
        omega
      · rw [muS, mu_3 po_0 an1 po_10 (by omega) (by omega)]
        split <;> omega
/-- what a client that POSTS knows -/
theorem at_3 (I : InvG s N R M B L m H r K C f) (hc : c < 3) {k0 : Nat} (h0 : k0 = 3 ∨ k0 = 4) (h3 : s (315 + 24 * c) = nI k0) : (∃ ac, s (315 + 24 * c + 1) = nI ac ∧ ac ≤ 2) ∧ (∃ ke, s (315 + 24 * c + 2) = nI ke ∧ ke ≤ 99) ∧ ∃ a, s (315 + 24 * c + 3) = nI a ∧ a < N ∧ (∀ l, l < 12 → s (315 + 24 * c + (12 + l)) = -4 ∨ ∃ b, s (315 + 24 * c + (12 + l)) = nI b ∧ b < N ∧ L b = l) ∧
    ∃ md p t, s (315 + 24 * c + 8) = nI md ∧ s (315 + 24 * c + 9) = nI p ∧ s (315 + 24 * c + 10) = nI t ∧ md ≤ 100 ∧ p < N ∧ 1 ≤ t ∧ t ≤ L R + 1 ∧ (s (315 + 24 * c + 11) = 1 ∧ t = 1 ∨ s (315 + 24 * c + 11) = 0 ∧ L p + 1 = t ∧ 1 ≤ f p ∧ md ≤ 99) ∧ (k0 = 4 → L a = t ∧ md ≤ H a) := by
  obtain ⟨k, k1, k2, k3⟩ := I.2.1.1 c hc
  have hk : k = k0 := by
    rw [h3] at k1
    exact ((nI_eq' (by omega) (by omega)).mp k1).symm
  subst hk
  obtain ⟨c1, e1, a, at1, at2, at3, h9, h8⟩ := k3 (by omega) (by omega)
  exact ⟨c1, e1, a, at1, at2, at3, h8 (by omega)⟩
/-- POSTS -/
theorem stI_3 (I : InvG s N R M B L m H r K C f) (hc : c < 3) (h3 : s (315 + 24 * c) = 3) : StI s L f c := by
  obtain ⟨iN, iC, iS⟩ := id I
  obtain ⟨⟨a1, a2, a3⟩, ⟨b1, b2⟩, ⟨d1, d2, d3⟩, G, o, z⟩ := id iN
  obtain ⟨c1, c2, a, at1, at2, at3, md, p, t, w8, w9, w10, hmd, hp, ht1, ht2, w11, -⟩ := at_3 I hc (k0 := 3) (Or.inl rfl) h3
  obtain ⟨⟨g1, g2, g3⟩, g4, g5, g6, g7, g8, g9, g10, g11, g12⟩ := G a at2
  have lR := I.lv b2
  have la := I.lv at2
  have gR := (G R b2).1.1
  have muS : mu s L f c = (12 - t) * 40 + 8 + (if L a < t then 26 else 24 - f a) := mu_3 h3 at1 w10 (by omega) (by omega)
  have eR : s (13 * R) < s (315 + 24 * c + 10) ↔ L R < t := by rw [gR, w10, nI_lt' (by omega) (by omega)]
  have ea : s (13 * a) < s (315 + 24 * c + 10) ↔ L a < t := by rw [g1, w10, nI_lt' (by omega) (by omega)]
  have ea' : s (315 + 24 * c + 10) < s (13 * a) ↔ t < L a := by rw [g1, w10, nI_lt' (by omega) (by omega)]
  have eh : s (13 * a + 2) < s (315 + 24 * c + 8) ↔ H a < md := by rw [g3, w8, nI_lt' (by omega) (by omega)]
  -- another place, nothing else
  have move : ∀ b, b < N → InvG (up s (315 + 24 * c + 3) (nI b)) N R M B L m H r K C f := fun b hb => by
    have ex : ∀ w, w ≠ 3 → up s (315 + 24 * c + 3) (nI b) (315 + 24 * c + w) = s (315 + 24 * c + w) := fun w hw => uc_cc _ _ hw
    have e0 : up s (315 + 24 * c + 3) (nI b) (315 + 24 * c) = 3 := by rw [uc_c0 _ _ (by decide)]; exact h3
    refine I.cl hc (fun k hk => up_n _ _ (by omega)) ⟨3, e0, by decide, fun _ _ => ⟨by rw [ex 1 (by decide)]; exact c1, by rw [ex 2 (by decide)]; exact c2, b, up_s _ _ _, hb, fun l hl => by rw [ex (12 + l) (by omega)]; exact at3 l hl, fun w => absurd w (by decide), fun _ => ⟨md, p, t, by rw [ex 8 (by decide)]; exact w8, by rw [ex 9 (by decide)]; exact w9, by rw [ex 10 (by decide)]; exact w10, hmd, hp, ht1, ht2, by rw [ex 11 (by decide)]; exact w11, fun w => absurd w (by decide)⟩⟩⟩ ?_ (fun w => ?_)
    · rw [pnC_e (s := s) (by rw [e0, h3]) (ex 11 (by decide))]; omega
    · unfold hoC at w
      rw [e0] at w
      rcases w with q | q <;> exact absurd q (by decide)
  have mv0 : ∀ b, up s (315 + 24 * c + 3) (nI b) (315 + 24 * c) = 3 := fun b => by rw [uc_c0 _ _ (by decide)]; exact h3
  have mv10 : ∀ b, up s (315 + 24 * c + 3) (nI b) (315 + 24 * c + 10) = nI t := fun b => by rw [uc_cc _ _ (by decide)]; exact w10
  have muM : ∀ b, b < N → mu (up s (315 + 24 * c + 3) (nI b)) L f c = (12 - t) * 40 + 8 + (if L b < t then 26 else 24 - f b) := fun b hb => mu_3 (mv0 b) (up_s _ _ _) (mv10 b) (by omega) (by omega)
  have fN : ∀ b, b < N → f b < N := fun b hb => (G b hb).2.2.2.2.2.2.2.2.2
  by_cases hR : L R < t
  · have htR : t = L R + 1 := by omega
    by_cases hd : s (315 + 24 * c + 11) = 1 ∨ s 312 = 24
    · have e0 : up s (315 + 24 * c) 5 (315 + 24 * c) = 5 := up_s _ _ _
      exact ⟨3, _, N, R, M, B, L, m, H, r, K, C, f, Or.inr (Or.inr (Or.inr (Or.inl ⟨h3, a, R, by omega, by omega, at1, b1, Or.inl ⟨eR.mpr hR, Or.inl ⟨hd, rfl, rfl⟩⟩⟩))), I.done hc (fun k hk => by rw [up_n _ _ (by omega)]) e0, fun w => absurd w (by decide), fun _ => by rw [muS, mu_5 e0]; omega⟩
    · have hd1 : ¬ s (315 + 24 * c + 11) = 1 := fun w => hd (Or.inl w)
      have hN24 : N < 24 := by
        refine Nat.lt_of_le_of_ne a3 (fun w => hd (Or.inr ?_))
        rw [a1, w]; rfl
      obtain ⟨w0, w1, w2, w3⟩ : s (315 + 24 * c + 11) = 0 ∧ L p + 1 = t ∧ 1 ≤ f p ∧ md ≤ 99 := by
        rcases w11 with q | q
        · exact absurd q.1 hd1
        · exact q
      have pn1 : pnC s c = 1 := pn_1 (Or.inl h3) hd1
      have hB : B + 2 ≤ N := by
        unfold InvS at iS
        have := sumN_ge (g := pnC s) hc
        omega
      have hN1 := InvN.root iN hN24 w3 hp (by omega) w2 hB (g := fun i => if i = 0 then nI md else 100) (gc := fun i => if i = 0 then nI R else nI p) rfl rfl rfl rfl
      have e0 : up (up (nH (nnF s N (nI (L R + 1)) 100 (-4)) N (fun i => if i = 0 then nI md else 100) (fun i => if i = 0 then nI R else nI p) 2) 313 (nI N)) (315 + 24 * c) 5 (315 + 24 * c) = 5 := up_s _ _ _
      have ed : ∀ d, d < 3 → d ≠ c → ∀ w, w < 24 → up (up (nH (nnF s N (nI (L R + 1)) 100 (-4)) N (fun i => if i = 0 then nI md else 100) (fun i => if i = 0 then nI R else nI p) 2) 313 (nI N)) (315 + 24 * c) 5 (315 + 24 * d + w) = s (315 + 24 * d + w) := fun d hd hn w hw => by rw [up_n _ _ (by omega), up_n _ _ (by omega), nH_o (by decide) (by omega), nn_o (by omega) (by omega)]
      refine ⟨7, up (up (nH (nnF s N (nI (L R + 1)) 100 (-4)) N (fun i => if i = 0 then nI md else 100) (fun i => if i = 0 then nI R else nI p) 2) 313 (nI N)) (315 + 24 * c) 5, N + 1, N, M, B + 1, _, _, _, r, _, _, _, Or.inr (Or.inr (Or.inr (Or.inl ⟨h3, a, R, by omega, by omega, at1, b1, Or.inl ⟨eR.mpr hR, Or.inr ⟨hd1, N, hN24, a1, rfl, by rw [w8, w9, w10, b1, htR]⟩⟩⟩))), ⟨hN1.same (fun k hk => up_n _ _ (by omega)), iC.gen hc ed (clG.off (k := 5) e0 (Or.inr rfl)) (fun w => ?_) (by omega) (fun b hb => ?_) ?_ (fun d _ _ b hb _ _ => ?_), ?_⟩, fun w => absurd w (by decide), fun _ => by rw [muS, mu_5 e0]; omega⟩
      · unfold hoC at w
        rw [e0] at w
        rcases w with q | q <;> exact absurd q (by decide)
      · have : ¬ b = N := by omega
        simp only [this, if_false]
        exact ⟨trivial, by omega⟩
      · simp only [if_true]; omega
      · have : ¬ b = N := by omega
        simp only [this, if_false]
        exact Nat.le_refl _
      · unfold InvS at *
        have q1 := pn_sum hc ed
        have q2 : pnC (up (up (nH (nnF s N (nI (L R + 1)) 100 (-4)) N (fun i => if i = 0 then nI md else 100) (fun i => if i = 0 then nI R else nI p) 2) 313 (nI N)) (315 + 24 * c) 5) c = 0 := pn_0 (k := 5) e0 (by omega)
        have q3 : sumN (exN (fun x => if x = N then L R + 1 else L x) (fun x => if x = N then 2 else m x)) N = sumN (exN L m) N := sumN_congr (fun i hi => by
          have : ¬ i = N := by omega
          simp only [exN, this, if_false])
        have q4 : sumN (exN (fun x => if x = N then L R + 1 else L x) (fun x => if x = N then 2 else m x)) (N + 1) = sumN (exN (fun x => if x = N then L R + 1 else L x) (fun x => if x = N then 2 else m x)) N + exN (fun x => if x = N then L R + 1 else L x) (fun x => if x = N then 2 else m x) N := rfl
        have q5 : exN (fun x => if x = N then L R + 1 else L x) (fun x => if x = N then 2 else m x) N = 1 := by simp [exN]
        omega
  · have hR' : ¬ s (13 * R) < s (315 + 24 * c + 10) := fun w => hR (eR.mp w)
    have mk : ∀ x s', (s (13 * a) < s (315 + 24 * c + 10) ∧ x = 9 ∧ s' = up s (315 + 24 * c + 3) (nI R) ∨ ¬ s (13 * a) < s (315 + 24 * c + 10) ∧ _) → StA s c x s' := fun x s' w => Or.inr (Or.inr (Or.inr (Or.inl ⟨h3, a, R, by omega, by omega, at1, b1, Or.inr ⟨hR', w⟩⟩)))
    by_cases hla : L a < t
    · refine ⟨9, up s (315 + 24 * c + 3) (nI R), N, R, M, B, L, m, H, r, K, C, f, mk _ _ (Or.inl ⟨ea.mpr hla, rfl, rfl⟩), move R b2, fun w => absurd w (by decide), fun _ => ?_⟩
      rw [muS, muM R b2, if_pos hla, if_neg hR]; omega
    · have hla' : ¬ s (13 * a) < s (315 + 24 * c + 10) := fun w => hla (ea.mp w)
      rw [if_neg hla] at muS
      by_cases hH : H a < md
      · obtain ⟨r1, r2, r3, r4⟩ : s (13 * a + 3) = nI (r a) ∧ r a < N ∧ L (r a) = L a ∧ f a < f (r a) := by
          rcases g4 with ⟨-, q2⟩ | q
          · omega
          · exact q
        refine ⟨1, up s (315 + 24 * c + 3) (nI (r a)), N, R, M, B, L, m, H, r, K, C, f, mk _ _ (Or.inr ⟨hla', Or.inl ⟨eh.mpr hH, rfl, by rw [r1]⟩⟩), move _ r2, fun w => absurd w (by decide), fun _ => ?_⟩
        rw [muS, muM _ r2, if_neg (by omega)]
        have := fN _ r2
        omega
      · have hH' : ¬ s (13 * a + 2) < s (315 + 24 * c + 8) := fun w => hH (eh.mp w)
        by_cases hlt : t < L a
        · obtain ⟨m0, mK, mC, mB⟩ := g8 (by omega)
          obtain ⟨j, j1, j2, j3⟩ := fst_ex (fun i => ¬ s (13 * a + (5 + i)) < s (315 + 24 * c + 8)) (m a)
          have hj : j < m a := by
            refine Nat.not_le.mp (fun w => ?_)
            have h9 := j2 (m a - 1) (by omega)
            refine h9 ?_
            rw [(g6 (m a - 1) (by omega)).1, w8, nI_lt' (by have := (g6 (m a - 1) (by omega)).2; omega) (by omega), mK]
            omega
          obtain ⟨q1, q2, q3⟩ := mC j hj
          have f9 := o a (C a j) at2 q2 (by omega)
          refine ⟨2, up s (315 + 24 * c + 3) (nI (C a j)), N, R, M, B, L, m, H, r, K, C, f, mk _ _ (Or.inr ⟨hla', Or.inr ⟨hH', Or.inl ⟨ea'.mpr hlt, j, by omega, fun i hi => Decidable.not_not.mp (j2 i hi), j3 hj, rfl, by rw [q1]⟩⟩⟩), move _ q2, fun w => absurd w (by decide), fun _ => ?_⟩
          rw [muS, muM _ q2, if_neg (by omega)]
          have := fN _ q2
          omega
        · have hlt' : ¬ s (315 + 24 * c + 10) < s (13 * a) := fun w => hlt (ea'.mp w)
          by_cases hlk : lkB s (nI a) = -4
          · have e0 : up s (315 + 24 * c) 4 (315 + 24 * c) = 4 := up_s _ _ _
            have ex : ∀ w, w ≠ 0 → up s (315 + 24 * c) 4 (315 + 24 * c + w) = s (315 + 24 * c + w) := fun w hw => uc_0c _ _ hw
            refine ⟨4, up s (315 + 24 * c) 4, N, R, M, B, L, m, H, r, K, C, f, mk _ _ (Or.inr ⟨hla', Or.inr ⟨hH', Or.inr (Or.inl ⟨hlt', hlk, rfl, rfl⟩)⟩⟩), ?_, fun w => absurd w (by decide), fun _ => by rw [muS, mu_4 e0 (by rw [ex 10 (by decide)]; exact w10) (by omega)]; omega⟩
            refine I.cl hc (fun k hk => up_n _ _ (by omega)) ⟨4, e0, by decide, fun _ _ => ⟨by rw [ex 1 (by decide)]; exact c1, by rw [ex 2 (by decide)]; exact c2, a, by rw [ex 3 (by decide)]; exact at1, at2, fun l hl => by rw [ex (12 + l) (by omega)]; exact at3 l hl, fun w => absurd w (by decide), fun _ => ⟨md, p, t, by rw [ex 8 (by decide)]; exact w8, by rw [ex 9 (by decide)]; exact w9, by rw [ex 10 (by decide)]; exact w10, hmd, hp, ht1, ht2, by rw [ex 11 (by decide)]; exact w11, fun _ => ⟨by omega, by omega⟩⟩⟩⟩ ?_ (fun _ => Or.inr (fun d hd hho => ?_))
            · by_cases hd : s (315 + 24 * c + 11) = 1
              · rw [pn_d (by rw [ex 11 (by decide)]; exact hd)]; omega
              · rw [pn_1 (s := s) (Or.inl h3) hd]; exact pn_le
            · rw [ex 3 (by decide), at1]
              exact lkB_no hlk d hd hho
          · exact ⟨0, s, N, R, M, B, L, m, H, r, K, C, f, mk _ _ (Or.inr ⟨hla', Or.inr ⟨hH', Or.inr (Or.inr ⟨hlt', hlk, rfl, rfl⟩)⟩⟩), I, fun _ => rfl, fun w => absurd rfl w⟩
/-- ABOVE -/
theorem stI_4 (I : InvG s N R M B L m H r K C f) (hc : c < 3) (h4 : s (315 + 24 * c) = 4) : StI s L f c := by
  obtain ⟨iN, iC, iS⟩ := id I
  obtain ⟨⟨a1, a2, a3⟩, ⟨b1, b2⟩, ⟨d1, d2, d3⟩, G, o, z⟩ := id iN
  obtain ⟨c1, c2, a, at1, at2, at3, md, p, t, w8, w9, w10, hmd, hp, ht1, ht2, w11, w4⟩ := at_3 I hc (k0 := 4) (Or.inr rfl) h4
  obtain ⟨hLt, hmH⟩ := w4 rfl
  obtain ⟨⟨g1, g2, g3⟩, g4, g5, g6, g7, g8, g9, g10, g11, g12⟩ := G a at2
  obtain ⟨m0, mK, mC, mB⟩ := g8 (by omega)
  have la := I.lv at2
  have muS : mu s L f c = (12 - t) * 40 + 5 := mu_4 h4 w10 (by omega)
  have cmp : ∀ i, i < m a → (s (13 * a + (5 + i)) < s (315 + 24 * c + 8) ↔ K a i < md) := fun i hi => by
    rw [(g6 i hi).1, w8, nI_lt' (by have := (g6 i hi).2; omega) (by omega)]
  obtain ⟨j, j1, j2, j3⟩ := fst_ex (fun i => ¬ s (13 * a + (5 + i)) < s (315 + 24 * c + 8)) (m a)
  have hj : j < m a := by
    refine Nat.not_le.mp (fun w => ?_)
    refine j2 (m a - 1) (by omega) ?_
    rw [cmp _ (by omega), mK]
    omega
  have jl : ∀ i, i < j → s (13 * a + (5 + i)) < s (315 + 24 * c + 8) := fun i hi => Decidable.not_not.mp (j2 i hi)
  have jl' : ∀ i, i < j → K a i < md := fun i hi => (cmp i (by omega)).mp (jl i hi)
  have jg := j3 hj
  have jg' : md ≤ K a j := by rw [cmp j hj] at jg; omega
  have ejk : s (13 * a + (5 + j)) = s (315 + 24 * c + 8) ↔ K a j = md := by rw [(g6 j hj).1, w8, nI_eq' (by have := (g6 j hj).2; omega) (by omega)]
  have dn : InvG (up s (315 + 24 * c) 5) N R M B L m H r K C f := I.done hc (fun k hk => by rw [up_n _ _ (by omega)]) (up_s _ _ _)
  have mu0 : mu (up s (315 + 24 * c) 5) L f c < mu s L f c := by rw [muS, mu_5 (up_s _ _ _)]; omega
  by_cases hd : s (315 + 24 * c + 11) = 1
  · have mk : ∀ x s', _ → StA s c x s' := fun x s' w => Or.inr (Or.inr (Or.inr (Or.inr (Or.inl ⟨h4, hd, a, m a, j, by omega, by omega, hj, at1, g2, jl, jg, w⟩))))
    by_cases hx : ¬ s (13 * a + (5 + j)) = s (315 + 24 * c + 8) ∨ ¬ s (13 * a + (9 + j)) = s (315 + 24 * c + 9) ∨ j + 1 = m a
    · exact ⟨3, _, N, R, M, B, L, m, H, r, K, C, f, mk _ _ (Or.inl ⟨hx, rfl, rfl⟩), dn, fun w => absurd w (by decide), fun _ => mu0⟩
    · have x1 : s (13 * a + (5 + j)) = s (315 + 24 * c + 8) := Decidable.not_not.mp (fun w => hx (Or.inl w))
      have x2 : s (13 * a + (9 + j)) = s (315 + 24 * c + 9) := Decidable.not_not.mp (fun w => hx (Or.inr (Or.inl w)))
      have x3 : j + 1 < m a := by
        have : ¬ j + 1 = m a := fun w => hx (Or.inr (Or.inr w))
        omega
      have e0 : up (nH s a (rmF s a 5 j) (rmF s a 9 j) (m a - 1)) (315 + 24 * c) 5 (315 + 24 * c) = 5 := up_s _ _ _
      refine ⟨8, _, N, R, M, B, L, _, H, r, _, _, f, mk _ _ (Or.inr ⟨x3, x1, x2, rfl, rfl⟩), I.nodeD hc at2 (k := m a - 1) (g := rmF s a 5 j) (gc := rmF s a 9 j) (K2 := fun i => if i < j then K a i else K a (i + 1)) (C2 := fun i => if i < j then C a i else C a (i + 1)) (by omega) (fun i hi => ?_) (fun i hi => ?_) (fun _ => ⟨by omega, ?_, fun i hi => ?_⟩) ?_ (fun j hj => by rw [up_n _ _ (by omega)]) e0, fun w => absurd w (by decide), fun _ => by rw [muS, mu_5 e0]; omega⟩
      · try dsimp only
        unfold rmF
        by_cases q1 : i < j
        · rw [if_pos q1, if_pos q1]; exact g6 i (by omega)
        · rw [if_neg q1, if_neg q1]; exact g6 (i + 1) (by omega)
      · try dsimp only
        by_cases q1 : i + 1 < j
        · rw [if_pos (by omega), if_pos q1]; exact g7 i (by omega)
        · rw [if_neg q1]
          by_cases q2 : i < j
          · rw [if_pos q2]; exact rise_lt g7 (by omega) (by omega)
          · rw [if_neg q2]; exact g7 (i + 1) (by omega)
      · try dsimp only
        rw [if_neg (by omega), show m a - 1 - 1 + 1 = m a - 1 by omega]; exact mK
      · try dsimp only
        unfold rmF
        by_cases q1 : i < j
        · rw [if_pos q1, if_pos q1]; exact mC i (by omega)
        · rw [if_neg q1, if_neg q1]; exact mC (i + 1) (by omega)
      · unfold exN
        rw [if_neg (by omega), if_neg (by omega)]
        omega
  · obtain ⟨w0, w1, w2, w3⟩ : s (315 + 24 * c + 11) = 0 ∧ L p + 1 = t ∧ 1 ≤ f p ∧ md ≤ 99 := by
      rcases w11 with q | q
      · exact absurd q.1 hd
      · exact q
    have pn1 : pnC s c = 1 := pn_1 (Or.inr h4) hd
    have mk : ∀ x s', _ → StA s c x s' := fun x s' w => Or.inr (Or.inr (Or.inr (Or.inr (Or.inr (Or.inl ⟨h4, hd, a, m a, j, M, by omega, g10, d2, d3, hj, at1, g2, d1, jl, jg, w⟩)))))
    by_cases hx : s (13 * a + (5 + j)) = s (315 + 24 * c + 8)
    · exact ⟨3, _, N, R, M, B, L, m, H, r, K, C, f, mk _ _ (Or.inl ⟨hx, rfl, rfl⟩), dn, fun w => absurd w (by decide), fun _ => mu0⟩
    · have jg2 : md < K a j := by
        have : ¬ K a j = md := fun w => hx (ejk.mpr w)
        omega
      have bv : ∀ i, i < m a + 1 → blF s a j (s (315 + 24 * c + 8)) i = nI (if i < j then K a i else if i = j then md else K a (i - 1)) ∧ (if i < j then K a i else if i = j then md else K a (i - 1)) ≤ 100 := by
        intro i hi
        unfold blF
        by_cases q1 : i < j
        · rw [if_pos q1, if_pos q1]; exact g6 i (by omega)
        · rw [if_neg q1, if_neg q1]
          by_cases q2 : i = j
          · rw [if_pos q2, if_pos q2]; exact ⟨w8, by omega⟩
          · rw [if_neg q2, if_neg q2]; exact g6 (i - 1) (by omega)
      have br : ∀ i, i + 1 < m a + 1 → (if i < j then K a i else if i = j then md else K a (i - 1)) < (if i + 1 < j then K a (i + 1) else if i + 1 = j then md else K a (i + 1 - 1)) := by
        intro i hi
        by_cases q1 : i + 1 < j
        · rw [if_pos (by omega), if_pos q1]; exact g7 i (by omega)
        · by_cases q2 : i + 1 = j
          · rw [if_pos (by omega), if_neg q1, if_pos q2]; exact jl' i (by omega)
          · by_cases q3 : i = j
            · subst q3
              rw [if_neg (by omega), if_pos rfl, if_neg q1, if_neg q2, Nat.add_sub_cancel]; exact jg2
            · rw [if_neg (by omega), if_neg q3, if_neg q1, if_neg q2, Nat.add_sub_cancel]
              have := g7 (i - 1) (by omega)
              rw [show i - 1 + 1 = i by omega] at this
              exact this
      have cv : ∀ i, i < m a + 1 → icF s a j (s (315 + 24 * c + 9)) i = nI (if i ≤ j then C a i else if i = j + 1 then p else C a (i - 1)) ∧ (if i ≤ j then C a i else if i = j + 1 then p else C a (i - 1)) < N ∧ L (if i ≤ j then C a i else if i = j + 1 then p else C a (i - 1)) + 1 = L a := by
        intro i hi
        unfold icF
        by_cases q1 : i ≤ j
        · rw [if_pos q1, if_pos q1]; exact mC i (by omega)
        · rw [if_neg q1, if_neg q1]
          by_cases q2 : i = j + 1
          · rw [if_pos q2, if_pos q2]; exact ⟨w9, hp, by omega⟩
          · rw [if_neg q2, if_neg q2]; exact mC (i - 1) (by omega)
      have bl : (if m a < j then K a (m a) else if m a = j then md else K a (m a - 1)) = H a := by
        rw [if_neg (by omega), if_neg (by omega)]; exact mK
      by_cases hf : m a + 1 ≤ M
      · have e0 : up (nH s a (blF s a j (s (315 + 24 * c + 8))) (icF s a j (s (315 + 24 * c + 9))) (m a + 1)) (315 + 24 * c) 5 (315 + 24 * c) = 5 := up_s _ _ _
        refine ⟨8, _, N, R, M, B, L, _, H, r, _, _, f, mk _ _ (Or.inr ⟨hx, Or.inl ⟨hf, rfl, rfl⟩⟩), I.nodeD hc at2 (K2 := fun i => if i < j then K a i else if i = j then md else K a (i - 1)) (C2 := fun i => if i ≤ j then C a i else if i = j + 1 then p else C a (i - 1)) hf bv br (fun _ => ⟨by omega, bl, cv⟩) ?_ (fun j hj => by rw [up_n _ _ (by omega)]) e0, fun w => absurd w (by decide), fun _ => by rw [muS, mu_5 e0]; omega⟩
        unfold exN
        rw [if_neg (by omega), if_neg (by omega), pn1]
        omega
      · have hmM : m a = M := by omega
        by_cases h24 : N = 24
        · exact ⟨3, _, N, R, M, B, L, m, H, r, K, C, f, mk _ _ (Or.inr ⟨hx, Or.inr (Or.inl ⟨hmM, by rw [a1, h24]; rfl, rfl, rfl⟩)⟩), dn, fun w => absurd w (by decide), fun _ => mu0⟩
        · obtain ⟨ls, hls⟩ : ∃ ls, m a + 1 = 3 ∧ ls = 2 ∨ m a + 1 = 4 ∧ ls = 2 ∨ m a + 1 = 5 ∧ ls = 3 := by
            have : M = 2 ∨ M = 3 ∨ M = 4 := by omega
            rcases this with q | q | q
            · exact ⟨2, Or.inl ⟨by omega, rfl⟩⟩
            · exact ⟨2, Or.inr (Or.inl ⟨by omega, rfl⟩)⟩
            · exact ⟨3, Or.inr (Or.inr ⟨by omega, rfl⟩)⟩
          have hla := I.lvS at2 (by omega) hc pn1 (by omega)
          have hmid : (if ls - 1 < j then K a (ls - 1) else if ls - 1 = j then md else K a (ls - 1 - 1)) ≤ 99 := by
            have h8 := br (ls - 1) (by omega)
            have h9 := (bv (ls - 1 + 1) (by omega)).2
            omega
          have eS : spF s c a N t ls (m a + 1) (blF s a j (s (315 + 24 * c + 8))) (icF s a j (s (315 + 24 * c + 9))) = poF (s2F s a N (fun i => blF s a j (s (315 + 24 * c + 8)) (ls + i)) (fun i => icF s a j (s (315 + 24 * c + 9)) (ls + i)) (blF s a j (s (315 + 24 * c + 8))) (icF s a j (s (315 + 24 * c + 9))) (m a + 1 - ls) ls (blF s a j (s (315 + 24 * c + 8)) (ls - 1))) c (t + 1) (blF s a j (s (315 + 24 * c + 8)) (ls - 1)) (nI N) 0 := rfl
          have bl2 : (if ls + (m a + 1 - ls - 1) < j then K a (ls + (m a + 1 - ls - 1)) else if ls + (m a + 1 - ls - 1) = j then md else K a (ls + (m a + 1 - ls - 1) - 1)) = H a := by
            rw [show ls + (m a + 1 - ls - 1) = m a by omega]; exact bl
          obtain ⟨B', L', m', H', r', K', C', f', J, j0, j10, an, an2, an1⟩ := I.splits (s' := spF s c a N t ls (m a + 1) (blF s a j (s (315 + 24 * c + 8))) (icF s a j (s (315 + 24 * c + 9)))) hc at2 (by omega) (Or.inr h4) at1 hla c1 c2 at3 (gv := fun i => blF s a j (s (315 + 24 * c + 8)) (ls + i)) (gcv := fun i => icF s a j (s (315 + 24 * c + 9)) (ls + i)) (gn := blF s a j (s (315 + 24 * c + 8))) (gcn := icF s a j (s (315 + 24 * c + 9))) (kv := m a + 1 - ls) (kn := ls) (hm := if ls - 1 < j then K a (ls - 1) else if ls - 1 = j then md else K a (ls - 1 - 1)) (Kv := fun i => if ls + i < j then K a (ls + i) else if ls + i = j then md else K a (ls + i - 1)) (Cv := fun i => if ls + i ≤ j then C a (ls + i) else if ls + i = j + 1 then p else C a (ls + i - 1)) (Kn := fun i => if i < j then K a i else if i = j then md else K a (i - 1)) (Cn := fun i => if i ≤ j then C a i else if i = j + 1 then p else C a (i - 1)) (by omega) (by omega) hmid (fun i hi => bv (ls + i) (by omega)) (fun i hi => br (ls + i) (by omega)) (fun _ => ⟨by omega, bl2, fun i hi => cv (ls + i) (by omega)⟩) (fun i hi => bv i (by omega)) (fun i hi => br i (by omega)) (fun _ => ⟨by omega, rfl, fun i hi => cv i (by omega)⟩) (Or.inr ⟨by omega, pn1, by omega, by omega, by omega, by omega⟩) (fun k hk => by rw [eS, ← (bv (ls - 1) (by omega)).1, hLt])
          refine ⟨5, spF s c a N t ls (m a + 1) (blF s a j (s (315 + 24 * c + 8))) (icF s a j (s (315 + 24 * c + 9))), N + 1, R, M, B', L', m', H', r', K', C', f', mk _ _ (Or.inr ⟨hx, Or.inr (Or.inr ⟨hmM, N, t, ls, by omega, at2, a1, by rw [g1, hLt], by omega, hls, rfl, rfl⟩)⟩), J, fun w => absurd w (by decide), fun _ => ?_⟩
          rw [muS, mu_3 j0 an1 j10 (by omega) (by omega)]
          split <;> omega
/-- a step of any client -/
theorem stI (I : InvG s N R M B L m H r K C f) (hc : c < 3) : StI s L f c := by
  obtain ⟨k, k1, k2, -⟩ := I.2.1.1 c hc
  have : k = 0 ∨ k = 1 ∨ k = 2 ∨ k = 3 ∨ k = 4 ∨ k = 5 := by omega
  rcases this with rfl | rfl | rfl | rfl | rfl | rfl
  · exact ⟨0, s, N, R, M, B, L, m, H, r, K, C, f, Or.inr (Or.inr (Or.inr (Or.inr (Or.inr (Or.inr ⟨Or.inl k1, rfl, rfl⟩))))), I, fun _ => rfl, fun w => absurd rfl w⟩
  · exact stI_1 I hc k1
  · by_cases ha : s (315 + 24 * c + 1) = 1
    · exact stI_2P I hc k1 ha
    · exact stI_2T I hc k1 ha
  · exact stI_3 I hc k1
  · exact stI_4 I hc k1
  · exact ⟨0, s, N, R, M, B, L, m, H, r, K, C, f, Or.inr (Or.inr (Or.inr (Or.inr (Or.inr (Or.inr ⟨Or.inr k1, rfl, rfl⟩))))), I, fun _ => rfl, fun w => absurd rfl w⟩
end IVT
