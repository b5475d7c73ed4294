/-! WHAT ALWAYS HOLDS of the reference's row -/
def sumN (g : Nat → Nat) : Nat → Nat
  | 0 => 0
  | n + 1 => sumN g n + g n
theorem sumN_congr {g g' : Nat → Nat} : ∀ {n : Nat}, (∀ i, i < n → g i = g' i) → sumN g n = sumN g' n
  | 0, _ => rfl
  | n + 1, h => by rw [sumN, sumN, sumN_congr (fun i hi => h i (by omega)), h n (by omega)]
theorem sumN_ge {g : Nat → Nat} : ∀ {n i : Nat}, i < n → g i ≤ sumN g n
  | 0, i, h => absurd h (Nat.not_lt_zero i)
  | n + 1, i, h => by
    rw [sumN]
    by_cases e : i = n
    · subst e; omega
    · have := sumN_ge (g := g) (n := n) (i := i) (by omega)
      omega
theorem sumN_one {g g' : Nat → Nat} : ∀ {n i : Nat}, i < n → (∀ j, j < n → j ≠ i → g' j = g j) → sumN g' n + g i = sumN g n + g' i
  | 0, i, h, _ => absurd h (Nat.not_lt_zero i)
  | n + 1, i, h, hj => by
    rw [sumN, sumN]
    by_cases e : i = n
    · subst e
      rw [sumN_congr (g := g') (g' := g) (fun j h1 => hj j (by omega) (by omega))]
      omega
    · have h1 := sumN_one (g := g) (g' := g') (n := n) (i := i) (by omega) (fun j a b => hj j (by omega) b)
      rw [hj n (by omega) (fun w => e w.symm)]
      omega
/-- of a node: its numbers (L level, m how many, H high, r right, K keys, C children), the order f of all nodes -/
def nodeG (s : Nat → Int32) (N R M B : Nat) (L m H r : Nat → Nat) (K C : Nat → Nat → Nat) (f : Nat → Nat) (n : Nat) : Prop :=
  (s (13 * n) = nI (L n) ∧ s (13 * n + 1) = nI (m n) ∧ s (13 * n + 2) = nI (H n)) ∧
  ((s (13 * n + 3) = -4 ∧ H n = 100) ∨ (s (13 * n + 3) = nI (r n) ∧ r n < N ∧ L (r n) = L n ∧ f n < f (r n))) ∧
  (s (13 * n + 4) = 0 ∨ (s (13 * n + 4) = 1 ∧ ¬ s (13 * n + 3) = -4 ∧ L n = 0)) ∧
  (∀ i, i < m n → s (13 * n + (5 + i)) = nI (K n i) ∧ K n i ≤ 100) ∧ (∀ i, i + 1 < m n → K n i < K n (i + 1)) ∧
  (0 < L n → 0 < m n ∧ K n (m n - 1) = H n ∧ (∀ i, i < m n → s (13 * n + (9 + i)) = nI (C n i) ∧ C n i < N ∧ L (C n i) + 1 = L n) ∧ f n + 2 * (L n - 1) < B) ∧
  L n ≤ L R ∧ m n ≤ M ∧ H n ≤ 100 ∧ f n < N
/-- of a client -/
def clG (s : Nat → Int32) (N R : Nat) (L H f : Nat → Nat) (c : Nat) : Prop :=
  ∃ k, s (315 + 24 * c) = nI k ∧ k ≤ 5 ∧ (1 ≤ k → k ≤ 4 → (∃ a, s (315 + 24 * c + 1) = nI a ∧ a ≤ 2) ∧ (∃ a, s (315 + 24 * c + 2) = nI a ∧ a ≤ 99) ∧ ∃ a, s (315 + 24 * c + 3) = nI a ∧ a < N ∧ (∀ l, l < 12 → s (315 + 24 * c + (12 + l)) = -4 ∨ ∃ b, s (315 + 24 * c + (12 + l)) = nI b ∧ b < N ∧ L b = l) ∧ (k = 2 → L a = 0) ∧
    (3 ≤ k → ∃ md p t, s (315 + 24 * c + 8) = nI md ∧ s (315 + 24 * c + 9) = nI p ∧ s (315 + 24 * c + 10) = nI t ∧ md ≤ 100 ∧ p < N ∧ 1 ≤ t ∧ t ≤ L R + 1 ∧ (s (315 + 24 * c + 11) = 1 ∧ t = 1 ∨ s (315 + 24 * c + 11) = 0 ∧ L p + 1 = t ∧ 1 ≤ f p ∧ md ≤ 99) ∧ (k = 4 → L a = t ∧ md ≤ H a)))
abbrev hoC (s : Nat → Int32) (c : Nat) : Prop := s (315 + 24 * c) = 2 ∨ s (315 + 24 * c) = 4
/-- a client has a split to post -/
def pnC (s : Nat → Int32) (c : Nat) : Nat := if (s (315 + 24 * c) = 3 ∨ s (315 + 24 * c) = 4) ∧ ¬ s (315 + 24 * c + 11) = 1 then 1 else 0
def exN (L m : Nat → Nat) (n : Nat) : Nat := if L n = 0 then 0 else m n - 1
/-- of all, by its numbers -/
def InvN (s : Nat → Int32) (N R M B : Nat) (L m H r : Nat → Nat) (K C : Nat → Nat → Nat) (f : Nat → Nat) : Prop :=
  (s 312 = nI N ∧ 1 ≤ N ∧ N ≤ 24) ∧ (s 313 = nI R ∧ R < N) ∧ (s 314 = nI M ∧ 2 ≤ M ∧ M ≤ 4) ∧
  (∀ n, n < N → nodeG s N R M B L m H r K C f n) ∧ (∀ a b, a < N → b < N → L b < L a → f a < f b) ∧ (0 < L R → B + 2 ≤ N)
def InvC (s : Nat → Int32) (N R : Nat) (L H f : Nat → Nat) : Prop := (∀ c, c < 3 → clG s N R L H f c) ∧ ∀ c d, c < 3 → d < 3 → c ≠ d → hoC s c → hoC s d → ¬ s (315 + 24 * c + 3) = s (315 + 24 * d + 3)
def InvS (s : Nat → Int32) (N B : Nat) (L m : Nat → Nat) : Prop := sumN (exN L m) N + sumN (pnC s) 3 + 1 + B ≤ N
def InvG (s : Nat → Int32) (N R M B : Nat) (L m H r : Nat → Nat) (K C : Nat → Nat → Nat) (f : Nat → Nat) : Prop := InvN s N R M B L m H r K C f ∧ InvC s N R L H f ∧ InvS s N B L m
def Inv (s : Nat → Int32) : Prop := ∃ N R M B L m H r K C f, InvG s N R M B L m H r K C f
section IV
variable {s s' : Nat → Int32} {N R M B : Nat} {L m H r : Nat → Nat} {K C : Nat → Nat → Nat} {f : Nat → Nat} {c : Nat}
/-- the nodes' numbers are as they were -/
theorem InvN.same (h : InvN s N R M B L m H r K C f) (e : ∀ k, k < 315 → s' k = s k) : InvN s' N R M B L m H r K C f := by
  obtain ⟨⟨a1, a2, a3⟩, b1, d1, g, o, z⟩ := h
  refine ⟨⟨by rw [e _ (by omega)]; exact a1, a2, a3⟩, by rw [e _ (by omega)]; exact b1, by rw [e _ (by omega)]; exact d1, fun n hn => ?_, o, z⟩
  obtain ⟨⟨g1, g2, g3⟩, g4, g5, g6, g7, g8, g9⟩ := g n hn
  have hM : M ≤ 4 := d1.2.2
  have hm : m n ≤ M := g9.2.1
  refine ⟨⟨by rw [e _ (by omega)]; exact g1, by rw [e _ (by omega)]; exact g2, by rw [e _ (by omega)]; exact g3⟩, by rw [e _ (by omega)]; exact g4, by rw [e _ (by omega), e _ (by omega)]; exact g5, fun i hi => ?_, g7, fun hl => ?_, g9⟩
  · rw [e _ (by omega)]
    exact g6 i hi
  · obtain ⟨k1, k2, k3, k4⟩ := g8 hl
    refine ⟨k1, k2, fun i hi => ?_, k4⟩
    rw [e _ (by omega)]
    exact k3 i hi
/-- a client whose numbers are as they were, in a state that has grown -/
theorem clG.mono {N' R' : Nat} {L' H' f' : Nat → Nat} (h : clG s N R L H f c) (hc : c < 3) (e : ∀ k, k < 24 → s' (315 + 24 * c + k) = s (315 + 24 * c + k)) (hN : N ≤ N') (hL : ∀ b, b < N → L' b = L b ∧ f b ≤ f' b) (hR : L R ≤ L' R') (hH : ∀ a, a < N → s (315 + 24 * c) = 4 → s (315 + 24 * c + 3) = nI a → H a ≤ H' a) : clG s' N' R' L' H' f' c := by
  obtain ⟨k, h1, h2, h3⟩ := h
  have e0 : s' (315 + 24 * c) = s (315 + 24 * c) := e 0 (by decide)
  refine ⟨k, by rw [e0]; exact h1, h2, fun k1 k2 => ?_⟩
  obtain ⟨g1, g2, a, g3, g4, g5, g6, g7⟩ := h3 k1 k2
  refine ⟨by rw [e 1 (by decide)]; exact g1, by rw [e 2 (by decide)]; exact g2, a, by rw [e 3 (by decide)]; exact g3, by omega, fun l hl => ?_, fun w => by rw [(hL a g4).1]; exact g6 w, fun w => ?_⟩
  · rw [e (12 + l) (by omega)]
    rcases g5 l hl with q | ⟨b, q1, q2, q3⟩
    · exact Or.inl q
    · exact Or.inr ⟨b, q1, by omega, by rw [(hL b q2).1]; exact q3⟩
  · obtain ⟨md, p, t, p1, p2, p3, p4, p5, p6, p7, p8, p9⟩ := g7 w
    refine ⟨md, p, t, by rw [e 8 (by decide)]; exact p1, by rw [e 9 (by decide)]; exact p2, by rw [e 10 (by decide)]; exact p3, p4, by omega, p6, by omega, ?_, fun w4 => ?_⟩
    · rw [e 11 (by decide)]
      rcases p8 with q | ⟨q1, q2, q3, q4⟩
      · exact Or.inl q
      · exact Or.inr ⟨q1, by rw [(hL p p5).1]; exact q2, by have := (hL p p5).2; omega, q4⟩
    · obtain ⟨q1, q2⟩ := p9 w4
      subst w4
      have := hH a g4 h1 g3
      exact ⟨by rw [(hL a g4).1]; exact q1, by omega⟩
/-- a client that is not under way -/
theorem clG.off {k : Nat} (h : s (315 + 24 * c) = nI k) (hk : k = 0 ∨ k = 5) : clG s N R L H f c := ⟨k, h, by omega, fun a b => by omega⟩
theorem pnC_e {d : Nat} (e0 : s' (315 + 24 * d) = s (315 + 24 * d)) (e1 : s' (315 + 24 * d + 11) = s (315 + 24 * d + 11)) : pnC s' d = pnC s d := by
  unfold pnC
  rw [e0, e1]
theorem sum3 (g : Nat → Nat) : sumN g 3 = g 0 + g 1 + g 2 := by simp [sumN]
theorem lkB_no {n : Nat} (h : lkB s (nI n) = -4) : ∀ d, d < 3 → hoC s d → ¬ s (315 + 24 * d + 3) = nI n := by
  unfold lkB at h
  intro d hd hh he
  by_cases h0 : lkO s 0 (nI n)
  · rw [if_pos h0] at h; exact absurd h (by decide)
  · rw [if_neg h0] at h
    by_cases h1 : lkO s 1 (nI n)
    · rw [if_pos h1] at h; exact absurd h (by decide)
    · rw [if_neg h1] at h
      by_cases h2 : lkO s 2 (nI n)
      · rw [if_pos h2] at h; exact absurd h (by decide)
      · have : d = 0 ∨ d = 1 ∨ d = 2 := by omega
        rcases this with rfl | rfl | rfl
        · exact h0 ⟨hh, he⟩
        · exact h1 ⟨hh, he⟩
        · exact h2 ⟨hh, he⟩
/-- one client's numbers change, no node's -/
theorem InvG.cl (I : InvG s N R M B L m H r K C f) (hc : c < 3) (e : ∀ k, k < 315 + 24 * c ∨ 315 + 24 * c + 24 ≤ k → s' k = s k) (hk : clG s' N R L H f c) (hp : pnC s' c ≤ pnC s c) (hh : hoC s' c → (hoC s c ∧ s' (315 + 24 * c + 3) = s (315 + 24 * c + 3)) ∨ ∀ d, d < 3 → hoC s d → ¬ s (315 + 24 * d + 3) = s' (315 + 24 * c + 3)) : InvG s' N R M B L m H r K C f := by
  obtain ⟨i1, ⟨i2, i3⟩, i4⟩ := I
  have ed : ∀ d, d < 3 → d ≠ c → ∀ k, k < 24 → s' (315 + 24 * d + k) = s (315 + 24 * d + k) := fun d hd hn k h24 => e _ (by omega)
  have ed0 : ∀ d, d < 3 → d ≠ c → s' (315 + 24 * d) = s (315 + 24 * d) := fun d hd hn => e _ (by omega)
  refine ⟨i1.same (fun k h9 => e k (by omega)), ⟨fun d hd => ?_, fun a b ha hb hab h1 h2 => ?_⟩, ?_⟩
  · by_cases hdc : d = c
    · subst hdc; exact hk
    · exact (i2 d hd).mono hd (ed d hd hdc) (Nat.le_refl _) (fun b _ => ⟨rfl, Nat.le_refl _⟩) (Nat.le_refl _) (fun a _ _ _ => Nat.le_refl _)
  · by_cases hac : a = c
    · subst hac
      have hbc : b ≠ a := fun w => hab w.symm
      have h2' : hoC s b := by unfold hoC at *; rw [ed0 b hb hbc] at h2; exact h2
      rw [ed b hb hbc 3 (by decide)]
      rcases hh h1 with ⟨q1, q2⟩ | q
      · rw [q2]; exact i3 a b ha hb hab q1 h2'
      · exact fun w => q b hb h2' w.symm
    · have h1' : hoC s a := by unfold hoC at *; rw [ed0 a ha hac] at h1; exact h1
      rw [ed a ha hac 3 (by decide)]
      by_cases hbc : b = c
      · subst hbc
        rcases hh h2 with ⟨q1, q2⟩ | q
        · rw [q2]; exact i3 a b ha hb hab h1' q1
        · exact q a ha h1'
      · have h2' : hoC s b := by unfold hoC at *; rw [ed0 b hb hbc] at h2; exact h2
        rw [ed b hb hbc 3 (by decide)]
        exact i3 a b ha hb hab h1' h2'
  · unfold InvS at *
    have hle : sumN (pnC s') 3 ≤ sumN (pnC s) 3 := by
      have h9 := sumN_one (g := pnC s) (g' := pnC s') (n := 3) (i := c) hc (fun d hd hn => pnC_e (ed0 d hd hn) (ed d hd hn 11 (by decide)))
      omega
    omega
end IV
