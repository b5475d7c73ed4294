/-! CLASS AND REFERENCE: one node above has other entries -/
section R31G
variable {x x1 : Nat → Nat → Int32} {y y1 : Nat → Nat → Bool} {s s1 : Nat → Int32} {N R M B c n k : Nat} {L m H r : Nat → Nat} {K C : Nat → Nat → Nat} {f : Nat → Nat} {g gc : Nat → Int32}
theorem mI_eq {N' R' M' B' : Nat} {L' m' H' r' : Nat → Nat} {K' C' : Nat → Nat → Nat} {f' : Nat → Nat} (J : InvG s1 N' R' M' B' L' m' H' r' K' C' f') {a v : Nat} (ha : a < N') (hv : v < 1000) (e : s1 (13 * a + 1) = nI v) : m' a = v := by
  have g2 := (J.1.2.2.2.1 a ha).1.2.1
  have g10 := (J.1.2.2.2.1 a ha).2.2.2.2.2.2.2.1
  have := J.1.2.2.1.2.2
  rw [g2] at e
  exact (nI_eq' (by omega) hv).mp e
theorem nI_Neq {N' R' M' B' : Nat} {L' m' H' r' : Nat → Nat} {K' C' : Nat → Nat → Nat} {f' : Nat → Nat} (J : InvG s1 N' R' M' B' L' m' H' r' K' C' f') {v : Nat} (hv : v < 1000) (e : s1 312 = nI v) : N' = v := by
  have := J.1.1.2.2
  rw [J.1.1.1] at e
  exact (nI_eq' (by omega) hv).mp e
theorem CN.node (T : CN x y s N m) (I : InvG s N R M B L m H r K C f) (hn : n < N) (hk : k ≤ 4) {R' M' B' : Nat} {L' m' H' r' : Nat → Nat} {K' C' : Nat → Nat → Nat} {f' : Nat → Nat} (J : InvG s1 N R' M' B' L' m' H' r' K' C' f') (e : ∀ j, j < 315 → s1 j = nH s n g gc k j) (xo : ∀ o j, o < 9 → (o ≠ 3 ∨ j ≠ n) → ((o ≠ 7 ∧ o ≠ 8) ∨ j < 5 * n ∨ 5 * n + 5 ≤ j) → x1 o j = x o j) (x3 : x1 3 n = nI k) (xk : ∀ i, i < k → x1 7 (5 * n + i) = g i ∧ (0 < s (13 * n) → x1 8 (5 * n + i) = gc i)) : CN x1 y s1 N m' := by
  have hN := I.1.1.2.2
  have M4 := I.1.2.2.1.2.2
  obtain ⟨⟨t0, t1, t2⟩, tn⟩ := T
  refine ⟨⟨by rw [xo _ _ (by decide) (by omega) (by omega), e _ (by decide), nH_o hk (by omega)]; exact t0, by rw [xo _ _ (by decide) (by omega) (by omega), e _ (by decide), nH_o hk (by omega)]; exact t1, by rw [xo _ _ (by decide) (by omega) (by omega), e _ (by decide), nH_o hk (by omega)]; exact t2⟩, fun a ha => ?_⟩
  obtain ⟨⟨v2, v3, v4, v5, v6⟩, vk⟩ := tn a ha
  by_cases ean : a = n
  · subst ean
    have em : m' a = k := mI_eq J ha (by omega) (by rw [e _ (by omega), nH_1])
    refine ⟨⟨by rw [xo _ _ (by decide) (by omega) (by omega), e _ (by omega), nH_o hk (by omega)]; exact v2, by rw [x3, e _ (by omega), nH_1], by rw [xo _ _ (by decide) (by omega) (by omega), e _ (by omega), nH_o hk (by omega)]; exact v4, by rw [xo _ _ (by decide) (by omega) (by omega), e _ (by omega), nH_o hk (by omega)]; exact v5, by rw [e _ (by omega), nH_o hk (by omega)]; exact v6⟩, fun i hi => ?_⟩
    rw [em] at hi
    rw [e _ (by omega), nH_k hi hk, e _ (by omega), nH_o hk (by omega), e _ (by omega), nH_c hi hk]
    exact xk i hi
  · have g2 := (I.1.2.2.2.1 a ha).1.2.1
    have g10 := (I.1.2.2.2.1 a ha).2.2.2.2.2.2.2.1
    have em : m' a = m a := mI_eq J ha (by omega) (by rw [e _ (by omega), nH_ne hk ean (by decide)]; exact g2)
    refine ⟨⟨by rw [xo _ _ (by decide) (by omega) (by omega), e _ (by omega), nH_ne0 hk ean]; exact v2, by rw [xo _ _ (by decide) (by omega) (by omega), e _ (by omega), nH_ne hk ean (by decide)]; exact v3, by rw [xo _ _ (by decide) (by omega) (by omega), e _ (by omega), nH_ne hk ean (by decide)]; exact v4, by rw [xo _ _ (by decide) (by omega) (by omega), e _ (by omega), nH_ne hk ean (by decide)]; exact v5, by rw [e _ (by omega), nH_ne hk ean (by decide)]; exact v6⟩, fun i hi => ?_⟩
    rw [em] at hi
    rw [xo _ _ (by decide) (by omega) (by omega), xo _ _ (by decide) (by omega) (by omega), e _ (by omega), nH_ne hk ean (by omega), e _ (by omega), nH_ne0 hk ean, e _ (by omega), nH_ne hk ean (by omega)]
    exact vk i hi
/-- above the leaves, no key is there or goes -/
theorem thA_node (I : InvG s N R M B L m H r K C f) (hn : n < N) (hk : k ≤ 4) (hl : 0 < L n) {R' M' B' : Nat} {L' m' H' r' : Nat → Nat} {K' C' : Nat → Nat → Nat} {f' : Nat → Nat} (J : InvG s1 N R' M' B' L' m' H' r' K' C' f') (e : ∀ j, j < 315 → s1 j = nH s n g gc k j) (key : Int32) : thA s1 key = thA s key := by
  have hN := I.1.1.2.2
  have M4 := I.1.2.2.1.2.2
  have ln := I.lv hn
  have no : ¬ s (13 * n) = 0 := fun q => by
    rw [(I.1.2.2.2.1 n hn).1.1] at q
    have := (nI_eq' (b := 0) (by omega) (by decide)).mp q
    omega
  have ex : ∀ a, a < N → a ≠ n → m' a = m a := fun a ha han => mI_eq J ha (by have := (I.1.2.2.2.1 a ha).2.2.2.2.2.2.2.1; omega) (by rw [e _ (by omega), nH_ne hk han (by decide)]; exact (I.1.2.2.2.1 a ha).1.2.1)
  rw [Bool.eq_iff_iff, thA_iff I, thA_iff J]
  constructor
  · rintro ⟨a, ha, h2, h3, i, h4, h5⟩
    have han : a ≠ n := fun q => by subst q; rw [e _ (by omega), nH_o hk (by omega)] at h2; exact no h2
    have g10 := (I.1.2.2.2.1 a ha).2.2.2.2.2.2.2.1
    rw [ex a ha han] at h4
    rw [e _ (by omega), nH_ne0 hk han] at h2
    rw [e _ (by omega), nH_ne hk han (by decide)] at h3
    rw [e _ (by omega), nH_ne hk han (by omega)] at h5
    exact ⟨a, ha, h2, h3, i, h4, h5⟩
  · rintro ⟨a, ha, h2, h3, i, h4, h5⟩
    have han : a ≠ n := fun q => by subst q; exact no h2
    have g10 := (I.1.2.2.2.1 a ha).2.2.2.2.2.2.2.1
    exact ⟨a, ha, by rw [e _ (by omega), nH_ne0 hk han]; exact h2, by rw [e _ (by omega), nH_ne hk han (by decide)]; exact h3, i, by rw [ex a ha han]; exact h4, by rw [e _ (by omega), nH_ne hk han (by omega)]; exact h5⟩
end R31G
