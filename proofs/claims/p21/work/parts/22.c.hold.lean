/-! THE STEPS of one that HOLDS -/
section IVH
variable {s s' : Nat → Int32} {N R M B : Nat} {L m H r : Nat → Nat} {K C : Nat → Nat → Nat} {f : Nat → Nat} {c : Nat}
theorem rise_le {g : Nat → Nat} {k : Nat} (h : ∀ i, i + 1 < k → g i < g (i + 1)) : ∀ d i, i + d < k → g i ≤ g (i + d)
  | 0, i, _ => Nat.le_refl _
  | d + 1, i, hk => by
    have h1 := rise_le h d i (by omega)
    have h2 := h (i + d) (by omega)
    have e : i + (d + 1) = i + d + 1 := rfl
    rw [e]
    omega
theorem rise_lt {g : Nat → Nat} {k : Nat} (h : ∀ i, i + 1 < k → g i < g (i + 1)) {i j : Nat} (hij : i < j) (hj : j < k) : g i < g j := by
  have h1 := h i (by omega)
  have h2 := rise_le h (j - (i + 1)) (i + 1) (by omega)
  rw [show i + 1 + (j - (i + 1)) = j by omega] at h2
  omega
section PO
variable {t : Nat} {mid what dead : Int32}
theorem po_0 : poF s c t mid what dead (315 + 24 * c) = 3 := up_s _ _ _
theorem po_3 : poF s c t mid what dead (315 + 24 * c + 3) = if s (315 + 24 * c + (12 + t)) = -4 then s 313 else s (315 + 24 * c + (12 + t)) := by rw [poF, uc_0c _ _ (by decide), up_s]
theorem po_8 : poF s c t mid what dead (315 + 24 * c + 8) = mid := by rw [poF, uc_0c _ _ (by decide), uc_cc _ _ (by decide), uc_cc _ _ (by decide), uc_cc _ _ (by decide), uc_cc _ _ (by decide), up_s]
theorem po_9 : poF s c t mid what dead (315 + 24 * c + 9) = what := by rw [poF, uc_0c _ _ (by decide), uc_cc _ _ (by decide), uc_cc _ _ (by decide), uc_cc _ _ (by decide), up_s]
theorem po_10 : poF s c t mid what dead (315 + 24 * c + 10) = nI t := by rw [poF, uc_0c _ _ (by decide), uc_cc _ _ (by decide), uc_cc _ _ (by decide), up_s]
theorem po_11 : poF s c t mid what dead (315 + 24 * c + 11) = dead := by rw [poF, uc_0c _ _ (by decide), uc_cc _ _ (by decide), up_s]
theorem po_w {w : Nat} (h : w = 1 ∨ w = 2 ∨ (3 < w ∧ w < 8) ∨ 12 ≤ w) : poF s c t mid what dead (315 + 24 * c + w) = s (315 + 24 * c + w) := by rw [poF, uc_0c _ _ (by omega), uc_cc _ _ (by omega), uc_cc _ _ (by omega), uc_cc _ _ (by omega), uc_cc _ _ (by omega), uc_cc _ _ (by omega)]
theorem po_o {k : Nat} (h : k < 315 + 24 * c ∨ 315 + 24 * c + 24 ≤ k) : poF s c t mid what dead k = s k := by rw [poF, up_n _ _ (by omega), up_n _ _ (by omega), up_n _ _ (by omega), up_n _ _ (by omega), up_n _ _ (by omega), up_n _ _ (by omega)]
end PO
/-- what a client that HOLDS a leaf knows -/
theorem at_2 (I : InvG s N R M B L m H r K C f) (hc : c < 3) (h2 : s (315 + 24 * c) = 2) : (∃ ac, s (315 + 24 * c + 1) = nI ac ∧ ac ≤ 2) ∧ ∃ ke a, s (315 + 24 * c + 2) = nI ke ∧ ke ≤ 99 ∧ s (315 + 24 * c + 3) = nI a ∧ a < N ∧ (∀ l, l < 12 → s (315 + 24 * c + (12 + l)) = -4 ∨ ∃ b, s (315 + 24 * c + (12 + l)) = nI b ∧ b < N ∧ L b = l) ∧ L a = 0 := by
  obtain ⟨k, k1, k2, k3⟩ := I.2.1.1 c hc
  have hk : k = 2 := by
    rw [h2] at k1
    exact ((nI_eq' (a := 2) (by decide) (by omega)).mp k1).symm
  subst hk
  obtain ⟨c1, ⟨ke, e1, e2⟩, a, at1, at2, at3, h9, -⟩ := k3 (by decide) (by decide)
  exact ⟨c1, ke, a, e1, e2, at1, at2, at3, h9 rfl⟩
/-- a leaf has other keys, its holder is done -/
theorem InvG.leafD (I : InvG s N R M B L m H r K C f) (hc : c < 3) (hp0 : pnC s c = 0) {a k : Nat} (ha : a < N) (hL : L a = 0) {g gc : Nat → Int32} {K2 : Nat → Nat} (hk : k ≤ M) (h1 : ∀ i, i < k → g i = nI (K2 i) ∧ K2 i ≤ 100) (h2 : ∀ i, i + 1 < k → K2 i < K2 (i + 1)) (e : ∀ j, j < 315 + 24 * c ∨ 315 + 24 * c + 24 ≤ j → s' j = nH s a g gc k j) (h5 : s' (315 + 24 * c) = 5) : InvG s' N R M B L (fun x => if x = a then k else m x) H r (fun x => if x = a then K2 else K x) (fun x => if x = a then (fun _ => 0) else C x) f := by
  obtain ⟨iN, iC, iS⟩ := I
  have hM : M ≤ 4 := iN.2.2.1.2.2
  have ha24 : a < 24 := by have := iN.1.2.2; omega
  have hN := InvN.big iN ha (g := g) (gc := gc) (k := k) (K2 := K2) (C2 := fun _ => 0) hk h1 h2 (fun w => by omega)
  have ed : ∀ d, d < 3 → d ≠ c → ∀ w, w < 24 → s' (315 + 24 * d + w) = s (315 + 24 * d + w) := fun d hd hn w hw => by rw [e _ (by omega), nH_o (by omega) (by omega)]
  refine ⟨hN.same (fun j hj => e j (by omega)), iC.gen hc ed (clG.off (k := 5) h5 (Or.inr rfl)) (fun w => ?_) (Nat.le_refl _) (fun b _ => ⟨rfl, Nat.le_refl _⟩) (Nat.le_refl _) (fun d _ _ a _ _ _ => Nat.le_refl _), ?_⟩
  · unfold hoC at w
    rw [h5] at w
    rcases w with q | q <;> exact absurd q (by decide)
  · unfold InvS at *
    have p1 := pn_sum hc ed
    have p2 : pnC s' c = 0 := pn_0 (k := 5) h5 (by omega)
    have p3 : sumN (exN L (fun x => if x = a then k else m x)) N = sumN (exN L m) N := sumN_congr (fun i hi => by
      unfold exN
      by_cases e9 : i = a
      · subst e9; rw [if_pos hL, if_pos hL]
      · dsimp only; rw [if_neg e9])
    omega
/-- a node splits, its holder posts -/
theorem InvG.splits (I : InvG s N R M B L m H r K C f) (hc : c < 3) {n : Nat} (hn : n < N) (hN : N < 24) (ho : hoC s c) (at1 : s (315 + 24 * c + 3) = nI n) (hT : L n < 11) (c1 : ∃ ac, s (315 + 24 * c + 1) = nI ac ∧ ac ≤ 2) (c2 : ∃ ke, s (315 + 24 * c + 2) = nI ke ∧ ke ≤ 99) (at3 : ∀ l, l < 12 → s (315 + 24 * c + (12 + l)) = -4 ∨ ∃ b, s (315 + 24 * c + (12 + l)) = nI b ∧ b < N ∧ L b = l)
    {gv gcv gn gcn : Nat → Int32} {kv kn hm : Nat} {Kv Cv Kn Cn : Nat → Nat} (hkv : kv ≤ M) (hkn : kn ≤ M) (hhm : hm ≤ 99)
    (v1 : ∀ i, i < kv → gv i = nI (Kv i) ∧ Kv i ≤ 100) (v2 : ∀ i, i + 1 < kv → Kv i < Kv (i + 1)) (v3 : 0 < L n → 0 < kv ∧ Kv (kv - 1) = H n ∧ ∀ i, i < kv → gcv i = nI (Cv i) ∧ Cv i < N ∧ L (Cv i) + 1 = L n)
    (n1 : ∀ i, i < kn → gn i = nI (Kn i) ∧ Kn i ≤ 100) (n2 : ∀ i, i + 1 < kn → Kn i < Kn (i + 1)) (n3 : 0 < L n → 0 < kn ∧ Kn (kn - 1) = hm ∧ ∀ i, i < kn → gcn i = nI (Cn i) ∧ Cn i < N ∧ L (Cn i) + 1 = L n)
    (hsum : (L n = 0 ∧ pnC s c = 0) ∨ (0 < L n ∧ pnC s c = 1 ∧ kn + kv = m n + 1 ∧ 1 ≤ kn ∧ 1 ≤ kv ∧ 1 ≤ m n))
    (hs' : ∀ k, k ≠ 315 + 24 * c + 4 → s' k = poF (s2F s n N gv gcv gn gcn kv kn (nI hm)) c (L n + 1) (nI hm) (nI N) 0 k) :
    ∃ B' L' m' H' r' K' C' f', InvG s' (N + 1) R M B' L' m' H' r' K' C' f' ∧ s' (315 + 24 * c) = 3 ∧ s' (315 + 24 * c + 10) = nI (L n + 1) ∧ ∃ an, an < N ∧ s' (315 + 24 * c + 3) = nI an := by
  obtain ⟨iN, iC, iS⟩ := I
  obtain ⟨⟨a1, a2, a3⟩, ⟨b1, b2⟩, ⟨d1, d2, d3⟩, G, o, z⟩ := id iN
  have hNN := InvN.split iN hn hN (gv := gv) (gcv := gcv) (gn := gn) (gcn := gcn) (kv := kv) (kn := kn) (hm := hm) (Kv := Kv) (Cv := Cv) (Kn := Kn) (Cn := Cn) hkv hkn (by omega) v1 v2 v3 n1 n2 n3
  have g9 := (G n hn).2.2.2.2.2.2.1
  generalize hs2 : s2F s n N gv gcv gn gcn kv kn (nI hm) = s2 at hNN hs'
  have s2o : ∀ j, 313 ≤ j → s2 j = s j := fun j hj => by rw [← hs2, s2_o (by omega) (by omega) (by omega) (by omega) (by omega)]
  have e0 : s' (315 + 24 * c) = 3 := by rw [hs' _ (by omega), po_0]
  have e10 : s' (315 + 24 * c + 10) = nI (L n + 1) := by rw [hs' _ (by omega), po_10]
  have ed : ∀ d, d < 3 → d ≠ c → ∀ w, w < 24 → s' (315 + 24 * d + w) = s (315 + 24 * d + w) := fun d hd hn w hw => by rw [hs' _ (by omega), po_o (by omega), s2o _ (by omega)]
  obtain ⟨an, an2, an1⟩ : ∃ an, an < N ∧ s' (315 + 24 * c + 3) = nI an := by
    rw [hs' _ (by omega), po_3, s2o _ (by omega), s2o _ (by omega)]
    rcases at3 (L n + 1) (by omega) with q | ⟨b, q1, q2, q3⟩
    · rw [if_pos q]; exact ⟨R, b2, b1⟩
    · rw [if_neg (by rw [q1]; exact nI_n4 b (by omega))]; exact ⟨b, q2, q1⟩
  have hRN : R ≠ N := by omega
  refine ⟨_, _, _, _, _, _, _, _, ⟨hNN.same (fun k hk => by rw [hs' _ (by omega), po_o (by omega)]), ?_, ?_⟩, e0, e10, an, an2, an1⟩
  · refine iC.gen hc ed ⟨3, e0, by decide, fun _ _ => ⟨?_, ?_, an, an1, by omega, fun l hl => ?_, fun w => absurd w (by decide), fun _ => ⟨hm, N, L n + 1, by rw [hs' _ (by omega), po_8], by rw [hs' _ (by omega), po_9], e10, by omega, by omega, by omega, ?_, Or.inr ⟨by rw [hs' _ (by omega), po_11], ?_, ?_, hhm⟩, fun w => absurd w (by decide)⟩⟩⟩ (fun w => ?_) (by omega) (fun b hb9 => ?_) ?_ (fun d hd hdc b hb9 w1 w2 => ?_)
    · obtain ⟨ac, q1, q2⟩ := c1
      exact ⟨ac, by rw [hs' _ (by omega), po_w (by omega), s2o _ (by omega)]; exact q1, q2⟩
    · obtain ⟨ke, q1, q2⟩ := c2
      exact ⟨ke, by rw [hs' _ (by omega), po_w (by omega), s2o _ (by omega)]; exact q1, q2⟩
    · rw [hs' _ (by omega), po_w (by omega), s2o _ (by omega)]
      rcases at3 l hl with q | ⟨b, q1, q2, q3⟩
      · exact Or.inl q
      · refine Or.inr ⟨b, q1, by omega, ?_⟩
        try dsimp only
        rw [if_neg (by omega)]; exact q3
    · try dsimp only
      rw [if_neg hRN]; omega
    · try dsimp only
      rw [if_pos rfl]
    · try dsimp only
      rw [if_pos rfl]; omega
    · unfold hoC at w
      rw [e0] at w
      rcases w with q | q <;> exact absurd q (by decide)
    · try dsimp only
      rw [if_neg (by omega), if_neg (by omega)]
      refine ⟨rfl, ?_⟩
      split <;> omega
    · try dsimp only
      rw [if_neg hRN]; exact Nat.le_refl _
    · have hne : ¬ b = n := fun w => by
        subst w
        exact iC.2 c d hc hd (fun w => hdc w.symm) ho (Or.inr w1) (by rw [at1, w2])
      try dsimp only
      rw [if_neg (by omega), if_neg hne]
      exact Nat.le_refl _
  · unfold InvS at *
    have q1 := pn_sum hc ed
    have q2 := pn_le (s := s') (c := c)
    have hoth : ∀ i, i < N → i ≠ n → exN (fun x => if x = N then L n else L x) (fun x => if x = N then kv else if x = n then kn else m x) i = exN L m i := fun i hi e9 => by
      have w1 : ¬ i = N := by omega
      simp only [exN, w1, e9, if_false]
    have q3 := sumN_one (g := exN L m) (g' := exN (fun x => if x = N then L n else L x) (fun x => if x = N then kv else if x = n then kn else m x)) hn hoth
    have q4 : sumN (exN (fun x => if x = N then L n else L x) (fun x => if x = N then kv else if x = n then kn else m x)) (N + 1) = sumN (exN (fun x => if x = N then L n else L x) (fun x => if x = N then kv else if x = n then kn else m x)) N + exN (fun x => if x = N then L n else L x) (fun x => if x = N then kv else if x = n then kn else m x) N := rfl
    have q5 : exN (fun x => if x = N then L n else L x) (fun x => if x = N then kv else if x = n then kn else m x) N = if L n = 0 then 0 else kv - 1 := by
      simp only [exN, if_true]
    have q6 : exN (fun x => if x = N then L n else L x) (fun x => if x = N then kv else if x = n then kn else m x) n = if L n = 0 then 0 else kn - 1 := by
      have w1 : ¬ n = N := by omega
      simp only [exN, w1, if_false, if_true]
    have q7 : exN L m n = if L n = 0 then 0 else m n - 1 := rfl
    rcases hsum with ⟨h0, hp⟩ | ⟨h0, hp, k1, k2, k3, k4⟩
    · rw [if_pos h0] at q5 q6 q7 ⊢
      omega
    · rw [if_neg (by omega)] at q5 q6 q7 ⊢
      omega
/-- PUT -/
theorem stI_2P (I : InvG s N R M B L m H r K C f) (hc : c < 3) (h2 : s (315 + 24 * c) = 2) (hact : s (315 + 24 * c + 1) = 1) : StI s L f c := by
  obtain ⟨iN, iC, iS⟩ := id I
  obtain ⟨⟨a1, a2, a3⟩, ⟨b1, b2⟩, ⟨d1, d2, d3⟩, G, o, z⟩ := id iN
  obtain ⟨c1, ke, a, e1, e2, at1, at2, at3, hL⟩ := at_2 I hc h2
  obtain ⟨⟨g1, g2, g3⟩, g4, g5, g6, g7, g8, g9, g10, g11, g12⟩ := G a at2
  have hs0 : s (13 * a) = 0 := by rw [g1, hL]; rfl
  have muS : mu s L f c = 599 := mu_2 h2
  have hp0 : pnC s c = 0 := pn_0 (k := 2) h2 (by omega)
  cases hb : hkF s a (s (315 + 24 * c + 2)) (m a) with
  | true =>
    have e0 : up (up s (315 + 24 * c + 4) 0) (315 + 24 * c) 5 (315 + 24 * c) = 5 := up_s _ _ _
    exact ⟨3, _, N, R, M, B, L, m, H, r, K, C, f, Or.inr (Or.inl ⟨h2, hact, a, m a, M, by omega, g10, d2, d3, at1, g2, d1, hs0, Or.inl ⟨hb, rfl, rfl⟩⟩), I.done hc (fun k hk => by rw [up_n _ _ (by omega), up_n _ _ (by omega)]) e0, fun w => absurd w (by decide), fun _ => by rw [muS, mu_5 e0]; omega⟩
  | false =>
    have hno : ∀ i, i < m a → ¬ K a i = ke := fun i hi w => by
      have : hkF s a (s (315 + 24 * c + 2)) (m a) = true := hkF_iff.mpr ⟨i, hi, by rw [(g6 i hi).1, e1, w]⟩
      rw [hb] at this
      cases this
    obtain ⟨p, p1, p2, p3⟩ := fst_ex (fun i => s (315 + 24 * c + 2) < s (13 * a + (5 + i))) (m a)
    have cmp : ∀ i, i < m a → (s (315 + 24 * c + 2) < s (13 * a + (5 + i)) ↔ ke < K a i) := fun i hi => by
      rw [(g6 i hi).1, e1, nI_lt' (by omega) (by have := (g6 i hi).2; omega)]
    have pl : ∀ i, i < p → K a i < ke := fun i hi => by
      have h8 := p2 i hi
      rw [cmp i (by omega)] at h8
      have h9 := hno i (by omega)
      omega
    have pg : ∀ i, p ≤ i → i < m a → ke < K a i := fun i hi hm => by
      have h8 := p3 (by omega)
      rw [cmp p (by omega)] at h8
      by_cases e9 : i = p
      · subst e9; exact h8
      · have := rise_lt g7 (i := p) (j := i) (by omega) hm
        omega
    have pg' : ∀ i, p ≤ i → i < m a → s (315 + 24 * c + 2) < s (13 * a + (5 + i)) := fun i hi hm => (cmp i hm).mpr (pg i hi hm)
    -- the row with the key in it
    have bv : ∀ i, i < m a + 1 → blF s a p (s (315 + 24 * c + 2)) i = nI (if i < p then K a i else if i = p then ke else K a (i - 1)) ∧ (if i < p then K a i else if i = p then ke else K a (i - 1)) ≤ 100 := by
      intro i hi
      unfold blF
      by_cases q1 : i < p
      · rw [if_pos q1, if_pos q1]; exact g6 i (by omega)
      · rw [if_neg q1, if_neg q1]
        by_cases q2 : i = p
        · rw [if_pos q2, if_pos q2]; exact ⟨e1, by omega⟩
        · rw [if_neg q2, if_neg q2]; exact g6 (i - 1) (by omega)
    have br : ∀ i, i + 1 < m a + 1 → (if i < p then K a i else if i = p then ke else K a (i - 1)) < (if i + 1 < p then K a (i + 1) else if i + 1 = p then ke else K a (i + 1 - 1)) := by
      intro i hi
      by_cases q1 : i + 1 < p
      · rw [if_pos (by omega), if_pos q1]; exact g7 i (by omega)
      · by_cases q2 : i + 1 = p
        · rw [if_pos (by omega), if_neg q1, if_pos q2]; exact pl i (by omega)
        · by_cases q3 : i = p
          · rw [if_neg (by omega), if_pos q3, if_neg q1, if_neg q2, Nat.add_sub_cancel]; exact pg i (by omega) (by omega)
          · rw [if_neg (by omega), if_neg q3, if_neg q1, if_neg q2, Nat.add_sub_cancel]
            have := g7 (i - 1) (by omega)
            rw [show i - 1 + 1 = i by omega] at this
            exact this
    by_cases hf : m a + 1 ≤ M
    · have e0 : up (up (nH s a (blF s a p (s (315 + 24 * c + 2))) (fun _ => -4) (m a + 1)) (315 + 24 * c + 4) 1) (315 + 24 * c) 5 (315 + 24 * c) = 5 := up_s _ _ _
      exact ⟨3, _, N, R, M, B, L, _, H, r, _, _, f, Or.inr (Or.inl ⟨h2, hact, a, m a, M, by omega, g10, d2, d3, at1, g2, d1, hs0, Or.inr ⟨hb, p, p1, p2, pg', Or.inl ⟨hf, rfl, rfl⟩⟩⟩), I.leafD hc hp0 at2 hL hf bv br (fun j hj => by rw [up_n _ _ (by omega), up_n _ _ (by omega)]) e0, fun w => absurd w (by decide), fun _ => by rw [muS, mu_5 e0]; omega⟩
    · have hmM : m a = M := by omega
      by_cases h24 : N = 24
      · have e0 : up (up s (315 + 24 * c + 4) (-3)) (315 + 24 * c) 5 (315 + 24 * c) = 5 := up_s _ _ _
        exact ⟨3, _, N, R, M, B, L, m, H, r, K, C, f, Or.inr (Or.inl ⟨h2, hact, a, m a, M, by omega, g10, d2, d3, at1, g2, d1, hs0, Or.inr ⟨hb, p, p1, p2, pg', Or.inr (Or.inl ⟨hmM, by rw [a1, h24]; rfl, rfl, rfl⟩)⟩⟩), I.done hc (fun k hk => by rw [up_n _ _ (by omega), up_n _ _ (by omega)]) e0, fun w => absurd w (by decide), fun _ => by rw [muS, mu_5 e0]; omega⟩
      · obtain ⟨ls, hls⟩ : ∃ ls, m a + 1 = 3 ∧ ls = 2 ∨ m a + 1 = 4 ∧ ls = 2 ∨ m a + 1 = 5 ∧ ls = 3 := by
          have : M = 2 ∨ M = 3 ∨ M = 4 := by omega
          rcases this with q | q | q
          · exact ⟨2, Or.inl ⟨by omega, rfl⟩⟩
          · exact ⟨2, Or.inr (Or.inl ⟨by omega, rfl⟩)⟩
          · exact ⟨3, Or.inr (Or.inr ⟨by omega, rfl⟩)⟩
        have hmid : (if ls - 1 < p then K a (ls - 1) else if ls - 1 = p then ke else K a (ls - 1 - 1)) ≤ 99 := by
          have h8 := br (ls - 1) (by omega)
          have h9 := (bv (ls - 1 + 1) (by omega)).2
          omega
        have eS : spF s c a N 0 ls (m a + 1) (blF s a p (s (315 + 24 * c + 2))) (fun _ => -4) = poF (s2F s a N (fun i => blF s a p (s (315 + 24 * c + 2)) (ls + i)) (fun _ => -4) (blF s a p (s (315 + 24 * c + 2))) (fun _ => -4) (m a + 1 - ls) ls (blF s a p (s (315 + 24 * c + 2)) (ls - 1))) c 1 (blF s a p (s (315 + 24 * c + 2)) (ls - 1)) (nI N) 0 := rfl
        obtain ⟨B', L', m', H', r', K', C', f', J, j0, j10, an, an2, an1⟩ := I.splits (s' := up (spF s c a N 0 ls (m a + 1) (blF s a p (s (315 + 24 * c + 2))) (fun _ => -4)) (315 + 24 * c + 4) 1) hc at2 (by omega) (Or.inl h2) at1 (by omega) c1 ⟨ke, e1, e2⟩ at3 (gv := fun i => blF s a p (s (315 + 24 * c + 2)) (ls + i)) (gcv := fun _ => -4) (gn := blF s a p (s (315 + 24 * c + 2))) (gcn := fun _ => -4) (kv := m a + 1 - ls) (kn := ls) (hm := if ls - 1 < p then K a (ls - 1) else if ls - 1 = p then ke else K a (ls - 1 - 1)) (Kv := fun i => if ls + i < p then K a (ls + i) else if ls + i = p then ke else K a (ls + i - 1)) (Cv := fun _ => 0) (Kn := fun i => if i < p then K a i else if i = p then ke else K a (i - 1)) (Cn := fun _ => 0) (by omega) (by omega) hmid (fun i hi => bv (ls + i) (by omega)) (fun i hi => br (ls + i) (by omega)) (fun w => by omega) (fun i hi => bv i (by omega)) (fun i hi => br i (by omega)) (fun w => by omega) (Or.inl ⟨hL, hp0⟩) (fun k hk => by rw [up_n _ _ hk, eS, ← (bv (ls - 1) (by omega)).1, hL])
        refine ⟨5, up (spF s c a N 0 ls (m a + 1) (blF s a p (s (315 + 24 * c + 2))) (fun _ => -4)) (315 + 24 * c + 4) 1, N + 1, R, M, B', L', m', H', r', K', C', f', Or.inr (Or.inl ⟨h2, hact, a, m a, M, by omega, g10, d2, d3, at1, g2, d1, hs0, Or.inr ⟨hb, p, p1, p2, pg', Or.inr (Or.inr ⟨hmM, N, ls, by omega, at2, a1, hls, rfl, rfl⟩)⟩⟩), J, fun w => absurd w (by decide), fun _ => ?_⟩
        rw [muS, mu_3 j0 an1 j10 (by omega) (by omega)]
        split <;> omega
end IVH
