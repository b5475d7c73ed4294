/-! A STEP is always there, and keeps what always holds -/
section IVS
variable {s s' : Nat → Int32} {N R M B : Nat} {L m H r : Nat → Nat} {K C : Nat → Nat → Nat} {f : Nat → Nat} {c : Nat}
theorem fst_ex (P : Nat → Prop) : ∀ k, ∃ p, p ≤ k ∧ (∀ i, i < p → ¬ P i) ∧ (p < k → P p)
  | 0 => ⟨0, Nat.le_refl _, fun i hi => absurd hi (Nat.not_lt_zero i), fun h => absurd h (Nat.lt_irrefl _)⟩
  | k + 1 => by
    obtain ⟨p, h1, h2, h3⟩ := fst_ex P k
    by_cases hp : p < k
    · exact ⟨p, by omega, h2, fun _ => h3 hp⟩
    · have e : p = k := by omega
      subst e
      by_cases hP : P p
      · exact ⟨p, by omega, h2, fun _ => hP⟩
      · refine ⟨p + 1, by omega, fun i hi => ?_, fun w => by omega⟩
        by_cases e : i = p
        · subst e; exact hP
        · exact h2 i (by omega)
theorem hkF_iff {n : Nat} {key : Int32} : ∀ {k : Nat}, hkF s n key k = true ↔ ∃ i, i < k ∧ s (13 * n + (5 + i)) = key
  | 0 => by simp [hkF]
  | k + 1 => by
    rw [hkF, Bool.or_eq_true, hkF_iff, decide_eq_true_eq]
    constructor
    · rintro (⟨i, h1, h2⟩ | h)
      · exact ⟨i, by omega, h2⟩
      · exact ⟨k, by omega, h⟩
    · rintro ⟨i, h1, h2⟩
      by_cases e : i = k
      · subst e; exact Or.inr h2
      · exact Or.inl ⟨i, by omega, h2⟩
theorem nI_lt' {a b : Nat} (ha : a < 1000) (hb : b < 1000) : nI a < nI b ↔ a < b := nI_ltI (by omega) (by omega)
theorem nI_eq' {a b : Nat} (ha : a < 1000) (hb : b < 1000) : nI a = nI b ↔ a = b := nI_eq (by omega) (by omega)
theorem nI_n4 (a : Nat) (ha : a < 1000) : ¬ nI a = -4 := fun w => by
  have h9 : ¬ nI a < 0 := nI_pos (by omega)
  rw [w] at h9
  exact h9 (by decide)
/-- levels are small -/
theorem InvG.lv (I : InvG s N R M B L m H r K C f) {n : Nat} (hn : n < N) : L n < 12 := by
  obtain ⟨⟨⟨a1, a2, a3⟩, b1, d1, G, o, z⟩, -, hS⟩ := I
  obtain ⟨-, -, -, -, -, g8, g9, -⟩ := G n hn
  by_cases h0 : L n = 0
  · omega
  · have h1 := (g8 (by omega)).2.2.2
    have h2 := z (by omega)
    omega
/-- levels of a node that splits are smaller -/
theorem InvG.lvS (I : InvG s N R M B L m H r K C f) {n : Nat} (hn : n < N) (hN : N < 24) (hc : c < 3) (hp : pnC s c = 1) (hm : 2 ≤ m n) : L n < 11 := by
  obtain ⟨⟨⟨a1, a2, a3⟩, b1, d1, G, o, z⟩, -, hS⟩ := I
  obtain ⟨-, -, -, -, -, g8, g9, -⟩ := G n hn
  by_cases h0 : L n = 0
  · omega
  · have h1 := (g8 (by omega)).2.2.2
    have h2 : exN L m n ≤ sumN (exN L m) N := sumN_ge hn
    have h3 : pnC s c ≤ sumN (pnC s) 3 := sumN_ge hc
    unfold exN at h2
    rw [if_neg h0] at h2
    unfold InvS exN at hS
    have h4 : sumN (fun n => if L n = 0 then 0 else m n - 1) N = sumN (exN L m) N := rfl
    omega
/-- how far a client still has to go -/
def mu (s : Nat → Int32) (L f : Nat → Nat) (c : Nat) : Nat :=
  if s (315 + 24 * c) = 1 then 600 + (24 - f (s (315 + 24 * c + 3)).toNatClampNeg)
  else if s (315 + 24 * c) = 2 then 599
  else if s (315 + 24 * c) = 3 then (12 - (s (315 + 24 * c + 10)).toNatClampNeg) * 40 + 8 + (if L (s (315 + 24 * c + 3)).toNatClampNeg < (s (315 + 24 * c + 10)).toNatClampNeg then 26 else 24 - f (s (315 + 24 * c + 3)).toNatClampNeg)
  else if s (315 + 24 * c) = 4 then (12 - (s (315 + 24 * c + 10)).toNatClampNeg) * 40 + 5
  else 0
theorem mu_1 (h : s (315 + 24 * c) = 1) {a : Nat} (ha : s (315 + 24 * c + 3) = nI a) (h9 : a < 1000) : mu s L f c = 600 + (24 - f a) := by rw [mu, if_pos h, ha, nI_clamp (by omega)]
theorem mu_2 (h : s (315 + 24 * c) = 2) : mu s L f c = 599 := by rw [mu, if_neg (by rw [h]; decide), if_pos h]
theorem mu_3 (h : s (315 + 24 * c) = 3) {a t : Nat} (ha : s (315 + 24 * c + 3) = nI a) (ht : s (315 + 24 * c + 10) = nI t) (h9 : a < 1000) (h8 : t < 1000) : mu s L f c = (12 - t) * 40 + 8 + (if L a < t then 26 else 24 - f a) := by
  rw [mu, if_neg (by rw [h]; decide), if_neg (by rw [h]; decide), if_pos h, ha, ht, nI_clamp (by omega), nI_clamp (by omega)]
theorem mu_4 (h : s (315 + 24 * c) = 4) {t : Nat} (ht : s (315 + 24 * c + 10) = nI t) (h8 : t < 1000) : mu s L f c = (12 - t) * 40 + 5 := by
  rw [mu, if_neg (by rw [h]; decide), if_neg (by rw [h]; decide), if_neg (by rw [h]; decide), if_pos h, ht, nI_clamp (by omega)]
theorem mu_5 (h : s (315 + 24 * c) = 5) : mu s L f c = 0 := by
  rw [mu, if_neg (by rw [h]; decide), if_neg (by rw [h]; decide), if_neg (by rw [h]; decide), if_neg (by rw [h]; decide)]
/-- it ends, and no node changes -/
theorem InvG.done (I : InvG s N R M B L m H r K C f) (hc : c < 3) (e : ∀ k, k < 315 + 24 * c ∨ 315 + 24 * c + 24 ≤ k → s' k = s k) (h5 : s' (315 + 24 * c) = 5) : InvG s' N R M B L m H r K C f := by
  refine I.cl hc e (clG.off (k := 5) h5 (Or.inr rfl)) ?_ (fun w => ?_)
  · have : pnC s' c = 0 := by
      unfold pnC
      rw [h5]
      exact if_neg (fun w => by rcases w.1 with q | q <;> exact absurd q (by decide))
    omega
  · unfold hoC at w
    rw [h5] at w
    rcases w with q | q <;> exact absurd q (by decide)
/-- the clients behind a step of one of them that holds nothing then -/
theorem InvC.gen {N' R' : Nat} {L' H' f' : Nat → Nat} (I : InvC s N R L H f) (hc : c < 3) (ed : ∀ d, d < 3 → d ≠ c → ∀ k, k < 24 → s' (315 + 24 * d + k) = s (315 + 24 * d + k)) (hk : clG s' N' R' L' H' f' c) (hh : ¬ hoC s' c) (hN : N ≤ N') (hL : ∀ b, b < N → L' b = L b ∧ f b ≤ f' b) (hR : L R ≤ L' R') (hH : ∀ d, d < 3 → d ≠ c → ∀ a, a < N → s (315 + 24 * d) = 4 → s (315 + 24 * d + 3) = nI a → H a ≤ H' a) : InvC s' N' R' L' H' f' := by
  obtain ⟨i2, i3⟩ := I
  have ed0 : ∀ d, d < 3 → d ≠ c → s' (315 + 24 * d) = s (315 + 24 * d) := fun d hd hn => ed d hd hn 0 (by decide)
  refine ⟨fun d hd => ?_, fun a b ha hb hab h1 h2 => ?_⟩
  · by_cases hdc : d = c
    · subst hdc; exact hk
    · exact (i2 d hd).mono hd (ed d hd hdc) hN hL hR (hH d hd hdc)
  · have hac : a ≠ c := fun w => hh (by rw [← w]; exact h1)
    have hbc : b ≠ c := fun w => hh (by rw [← w]; exact h2)
    have h1' : hoC s a := by unfold hoC at *; rw [ed0 a ha hac] at h1; exact h1
    have h2' : hoC s b := by unfold hoC at *; rw [ed0 b hb hbc] at h2; exact h2
    rw [ed a ha hac 3 (by decide), ed b hb hbc 3 (by decide)]
    exact i3 a b ha hb hab h1' h2'
theorem pn_sum (hc : c < 3) (ed : ∀ d, d < 3 → d ≠ c → ∀ k, k < 24 → s' (315 + 24 * d + k) = s (315 + 24 * d + k)) : sumN (pnC s') 3 + pnC s c = sumN (pnC s) 3 + pnC s' c := sumN_one hc (fun d hd hn => pnC_e (ed d hd hn 0 (by decide)) (ed d hd hn 11 (by decide)))
theorem pn_0 {k : Nat} (h : s (315 + 24 * c) = nI k) (hk : k = 0 ∨ k = 1 ∨ k = 2 ∨ k = 5) : pnC s c = 0 := by
  unfold pnC
  rw [h]
  refine if_neg (fun w => ?_)
  rcases hk with rfl | rfl | rfl | rfl <;> rcases w.1 with q | q <;> exact absurd q (by decide)
theorem pn_1 (h : s (315 + 24 * c) = 3 ∨ s (315 + 24 * c) = 4) (hd : ¬ s (315 + 24 * c + 11) = 1) : pnC s c = 1 := by
  unfold pnC
  exact if_pos ⟨h, hd⟩
theorem pn_d (hd : s (315 + 24 * c + 11) = 1) : pnC s c = 0 := by
  unfold pnC
  exact if_neg (fun w => w.2 hd)
theorem pn_le : pnC s c ≤ 1 := by
  unfold pnC
  split <;> omega
def StI (s : Nat → Int32) (L f : Nat → Nat) (c : Nat) : Prop := ∃ x s' N' R' M' B' L' m' H' r' K' C' f', StA s c x s' ∧ InvG s' N' R' M' B' L' m' H' r' K' C' f' ∧ (x = 0 → s' = s) ∧ (¬ x = 0 → mu s' L' f' c < mu s L f c)
/-- DOWN -/
theorem stI_1 (I : InvG s N R M B L m H r K C f) (hc : c < 3) (h1 : s (315 + 24 * c) = 1) : StI s L f c := by
  obtain ⟨iN, iC, iS⟩ := id I
  obtain ⟨⟨a1, a2, a3⟩, ⟨b1, b2⟩, ⟨d1, d2, d3⟩, G, o, z⟩ := iN
  obtain ⟨k, k1, k2, k3⟩ := iC.1 c hc
  have hk : k = 1 := by
    rw [h1] at k1
    exact ((nI_eq' (a := 1) (by decide) (by omega)).mp k1).symm
  subst hk
  obtain ⟨⟨ac, c1, c2⟩, ⟨ke, e1, e2⟩, a, at1, at2, at3, -, -⟩ := k3 (by decide) (by decide)
  obtain ⟨⟨g1, g2, g3⟩, g4, g5, g6, g7, g8, g9, g10, g11, g12⟩ := G a at2
  have muS : mu s L f c = 600 + (24 - f a) := mu_1 h1 at1 (by omega)
  by_cases hr : s (13 * a + 4) = 1 ∨ s (13 * a + 2) < s (315 + 24 * c + 2)
  · have hR : s (13 * a + 3) = nI (r a) ∧ r a < N ∧ L (r a) = L a ∧ f a < f (r a) := by
      rcases g4 with ⟨q1, q2⟩ | q
      · rcases hr with w | w
        · rcases g5 with w2 | ⟨-, w2, -⟩
          · rw [w2] at w; exact absurd w (by decide)
          · exact absurd q1 w2
        · rw [g3, e1, nI_lt' (by omega) (by omega)] at w
          omega
      · exact q
    obtain ⟨r1, r2, r3, r4⟩ := hR
    have e3 : up s (315 + 24 * c + 3) (nI (r a)) (315 + 24 * c + 3) = nI (r a) := up_s _ _ _
    refine ⟨1, up s (315 + 24 * c + 3) (nI (r a)), N, R, M, B, L, m, H, r, K, C, f, Or.inl ⟨h1, a, by omega, at1, Or.inl ⟨hr, rfl, by rw [r1]⟩⟩, ?_, fun w => absurd w (by decide), fun _ => ?_⟩
    · refine I.cl hc (fun k hk => up_n _ _ (by omega)) ⟨1, by rw [uc_c0 _ _ (by decide)]; exact h1, by decide, fun _ _ => ⟨⟨ac, by rw [uc_cc _ _ (by decide)]; exact c1, c2⟩, ⟨ke, by rw [uc_cc _ _ (by decide)]; exact e1, e2⟩, r a, e3, r2, fun l hl => by rw [uc_cc _ _ (by omega)]; exact at3 l hl, fun w => absurd w (by decide), fun w => absurd w (by decide)⟩⟩ ?_ (fun w => ?_)
      · rw [pn_0 (k := 1) (by rw [uc_c0 _ _ (by decide)]; exact h1) (by omega)]; omega
      · unfold hoC at w
        rw [uc_c0 _ _ (by decide), h1] at w
        rcases w with q | q <;> exact absurd q (by decide)
    · rw [muS, mu_1 (by rw [uc_c0 _ _ (by decide)]; exact h1) e3 (by omega)]
      have := (G (r a) r2).2.2.2.2.2.2.2.2.2
      omega
  · have hd : ¬ s (13 * a + 4) = 1 := fun w => hr (Or.inl w)
    have hh : ¬ s (13 * a + 2) < s (315 + 24 * c + 2) := fun w => hr (Or.inr w)
    have hkH : ke ≤ H a := by
      rw [g3, e1, nI_lt' (by omega) (by omega)] at hh
      omega
    by_cases hl : 0 < L a
    · obtain ⟨m0, mK, mC, mB⟩ := g8 hl
      have ht := I.lv at2
      obtain ⟨j, j1, j2, j3⟩ := fst_ex (fun i => ¬ s (13 * a + (5 + i)) < s (315 + 24 * c + 2)) (m a)
      have hj : j < m a := by
        refine Nat.not_le.mp (fun w => ?_)
        have h9 := j2 (m a - 1) (by omega)
        refine h9 ?_
        rw [(g6 (m a - 1) (by omega)).1, e1, nI_lt' (by have := (g6 (m a - 1) (by omega)).2; omega) (by omega), mK]
        omega
      obtain ⟨q1, q2, q3⟩ := mC j hj
      have f9 := o a (C a j) at2 q2 (by omega)
      have e3 : up (up s (315 + 24 * c + (12 + L a)) (nI a)) (315 + 24 * c + 3) (nI (C a j)) (315 + 24 * c + 3) = nI (C a j) := up_s _ _ _
      have e0 : up (up s (315 + 24 * c + (12 + L a)) (nI a)) (315 + 24 * c + 3) (nI (C a j)) (315 + 24 * c) = 1 := by rw [uc_c0 _ _ (by decide), uc_c0 _ _ (by omega)]; exact h1
      refine ⟨2, up (up s (315 + 24 * c + (12 + L a)) (nI a)) (315 + 24 * c + 3) (nI (C a j)), N, R, M, B, L, m, H, r, K, C, f, Or.inl ⟨h1, a, by omega, at1, Or.inr ⟨hd, hh, Or.inl ⟨L a, j, hl, ht, g1, by omega, fun i hi => Decidable.not_not.mp (j2 i hi), j3 hj, rfl, by rw [q1]⟩⟩⟩, ?_, fun w => absurd w (by decide), fun _ => ?_⟩
      · refine I.cl hc (fun k hk => by rw [up_n _ _ (by omega), up_n _ _ (by omega)]) ⟨1, e0, by decide, fun _ _ => ⟨⟨ac, by rw [uc_cc _ _ (by decide), uc_cc _ _ (by omega)]; exact c1, c2⟩, ⟨ke, by rw [uc_cc _ _ (by decide), uc_cc _ _ (by omega)]; exact e1, e2⟩, C a j, e3, q2, fun l hl => ?_, fun w => absurd w (by decide), fun w => absurd w (by decide)⟩⟩ ?_ (fun w => ?_)
        · rw [uc_cc _ _ (by omega)]
          by_cases hla : l = L a
          · subst hla
            exact Or.inr ⟨a, up_s _ _ _, at2, rfl⟩
          · rw [uc_cc _ _ (by omega)]
            exact at3 l hl
        · rw [pn_0 (k := 1) e0 (by omega)]; omega
        · unfold hoC at w
          rw [e0] at w
          rcases w with q | q <;> exact absurd q (by decide)
      · rw [muS, mu_1 e0 e3 (by omega)]
        have := (G (C a j) q2).2.2.2.2.2.2.2.2.2
        omega
    · have h0 : L a = 0 := by omega
      have hs0 : s (13 * a) = 0 := by rw [g1, h0]; rfl
      by_cases hac : s (315 + 24 * c + 1) = 0
      · have e0 : up (up s (315 + 24 * c + 4) (zi_bI (hkF s a (s (315 + 24 * c + 2)) (m a)))) (315 + 24 * c) 5 (315 + 24 * c) = 5 := up_s _ _ _
        refine ⟨3, up (up s (315 + 24 * c + 4) (zi_bI (hkF s a (s (315 + 24 * c + 2)) (m a)))) (315 + 24 * c) 5, N, R, M, B, L, m, H, r, K, C, f, Or.inl ⟨h1, a, by omega, at1, Or.inr ⟨hd, hh, Or.inr ⟨hs0, Or.inl ⟨hac, m a, by omega, g2, rfl, rfl⟩⟩⟩⟩, I.done hc (fun k hk => by rw [up_n _ _ (by omega), up_n _ _ (by omega)]) e0, fun w => absurd w (by decide), fun _ => by rw [muS, mu_5 e0]; omega⟩
      · by_cases hlk : lkB s (nI a) = -4
        · have e0 : up s (315 + 24 * c) 2 (315 + 24 * c) = 2 := up_s _ _ _
          have ex : ∀ w, w ≠ 0 → up s (315 + 24 * c) 2 (315 + 24 * c + w) = s (315 + 24 * c + w) := fun w hw => uc_0c _ _ hw
          refine ⟨4, up s (315 + 24 * c) 2, N, R, M, B, L, m, H, r, K, C, f, Or.inl ⟨h1, a, by omega, at1, Or.inr ⟨hd, hh, Or.inr ⟨hs0, Or.inr (Or.inl ⟨hac, hlk, rfl, rfl⟩)⟩⟩⟩, ?_, fun w => absurd w (by decide), fun _ => by rw [muS, mu_2 e0]; omega⟩
          refine I.cl hc (fun k hk => up_n _ _ (by omega)) ⟨2, e0, by decide, fun _ _ => ⟨⟨ac, by rw [ex 1 (by decide)]; exact c1, c2⟩, ⟨ke, by rw [ex 2 (by decide)]; exact e1, e2⟩, a, by rw [ex 3 (by decide)]; exact at1, at2, fun l hl => by rw [ex (12 + l) (by omega)]; exact at3 l hl, fun _ => h0, fun w => absurd w (by decide)⟩⟩ ?_ (fun _ => Or.inr (fun d hd hho => ?_))
          · rw [pn_0 (k := 2) e0 (by omega)]; omega
          · rw [ex 3 (by decide), at1]
            exact lkB_no hlk d hd hho
        · exact ⟨0, s, N, R, M, B, L, m, H, r, K, C, f, Or.inl ⟨h1, a, by omega, at1, Or.inr ⟨hd, hh, Or.inr ⟨hs0, Or.inr (Or.inr ⟨hac, hlk, rfl, rfl⟩)⟩⟩⟩, I, fun _ => rfl, fun w => absurd rfl w⟩
end IVS
