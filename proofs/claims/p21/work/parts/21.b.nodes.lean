/-! THE NODES' INVARIANT behind each change of nodes -/
section IVB
variable {s : Nat → Int32} {N R M B n k : Nat} {L m H r : Nat → Nat} {K C : Nat → Nat → Nat} {f : Nat → Nat} {g gc : Nat → Int32}
theorem nH_k {i : Nat} (hi : i < k) (hk : k ≤ 4) : nH s n g gc k (13 * n + (5 + i)) = g i := by
  rw [nH, up_n _ _ (by omega), nP, if_pos (by omega), show 13 * n + (5 + i) - (13 * n + 5) = i by omega]
theorem nH_c {i : Nat} (hi : i < k) (hk : k ≤ 4) : nH s n g gc k (13 * n + (9 + i)) = gc i := by
  rw [nH, up_n _ _ (by omega), nP, if_neg (by omega), if_pos (by omega), show 13 * n + (9 + i) - (13 * n + 9) = i by omega]
theorem nH_1 : nH s n g gc k (13 * n + 1) = nI k := by rw [nH, up_s]
theorem nH_ne {x w : Nat} (hk : k ≤ 4) (hx : x ≠ n) (hw : w < 13) : nH s n g gc k (13 * x + w) = s (13 * x + w) := nH_o hk (by omega)
theorem nH_ne0 {x : Nat} (hk : k ≤ 4) (hx : x ≠ n) : nH s n g gc k (13 * x) = s (13 * x) := nH_o hk (by omega)
/-- one node has other keys, entries -/
theorem InvN.big (I : InvN s N R M B L m H r K C f) (hn : n < N) {K2 C2 : Nat → Nat} (hk : k ≤ M) (h1 : ∀ i, i < k → g i = nI (K2 i) ∧ K2 i ≤ 100) (h2 : ∀ i, i + 1 < k → K2 i < K2 (i + 1)) (h3 : 0 < L n → 0 < k ∧ K2 (k - 1) = H n ∧ ∀ i, i < k → gc i = nI (C2 i) ∧ C2 i < N ∧ L (C2 i) + 1 = L n) : InvN (nH s n g gc k) N R M B L (fun x => if x = n then k else m x) H r (fun x => if x = n then K2 else K x) (fun x => if x = n then C2 else C x) f := by
  obtain ⟨⟨a1, a2, a3⟩, ⟨b1, b2⟩, ⟨d1, d2, d3⟩, G, o, z⟩ := I
  have hk4 : k ≤ 4 := by omega
  refine ⟨⟨by rw [nH_o hk4 (by omega)]; exact a1, a2, a3⟩, ⟨by rw [nH_o hk4 (by omega)]; exact b1, b2⟩, ⟨by rw [nH_o hk4 (by omega)]; exact d1, d2, d3⟩, fun x hx => ?_, o, z⟩
  obtain ⟨⟨g1, g2, g3⟩, g4, g5, g6, g7, g8, g9, g10, g11⟩ := G x hx
  by_cases e : x = n
  · subst e
    unfold nodeG
    rw [nH_o hk4 (by omega), nH_1, nH_o hk4 (by omega), nH_o hk4 (by omega), nH_o hk4 (by omega)]
    simp only [if_true]
    refine ⟨⟨g1, by trivial, g3⟩, g4, g5, fun i hi => ?_, h2, fun hl => ?_, g9, hk, g11⟩
    · rw [nH_k hi hk4]; exact h1 i hi
    · obtain ⟨k1, k2, k3⟩ := h3 hl
      refine ⟨k1, k2, fun i hi => ?_, (g8 hl).2.2.2⟩
      rw [nH_c hi hk4]; exact k3 i hi
  · unfold nodeG
    have hm : m x ≤ 4 := by omega
    rw [nH_ne0 hk4 e, nH_ne hk4 e (by decide), nH_ne hk4 e (by decide), nH_ne hk4 e (by decide), nH_ne hk4 e (by decide)]
    simp only [if_neg e]
    refine ⟨⟨g1, g2, g3⟩, g4, g5, fun i hi => ?_, g7, fun hl => ?_, g9, g10, g11⟩
    · rw [nH_ne hk4 e (by omega)]; exact g6 i hi
    · obtain ⟨k1, k2, k3, k4⟩ := g8 hl
      refine ⟨k1, k2, fun i hi => ?_, k4⟩
      rw [nH_ne hk4 e (by omega)]; exact k3 i hi
/-- a leaf dies -/
theorem InvN.dies (I : InvN s N R M B L m H r K C f) (hn : n < N) (hl : L n = 0) (hr : ¬ s (13 * n + 3) = -4) : InvN (up s (13 * n + 4) 1) N R M B L m H r K C f := by
  obtain ⟨⟨a1, a2, a3⟩, ⟨b1, b2⟩, ⟨d1, d2, d3⟩, G, o, z⟩ := I
  refine ⟨⟨by rw [up_n _ _ (by omega)]; exact a1, a2, a3⟩, ⟨by rw [up_n _ _ (by omega)]; exact b1, b2⟩, ⟨by rw [up_n _ _ (by omega)]; exact d1, d2, d3⟩, fun x hx => ?_, o, z⟩
  obtain ⟨⟨g1, g2, g3⟩, g4, g5, g6, g7, g8, g9, g10, g11⟩ := G x hx
  have hm : m x ≤ 4 := by omega
  have h5 : (up s (13 * n + 4) 1 (13 * x + 4) = 0 ∨ (up s (13 * n + 4) 1 (13 * x + 4) = 1 ∧ ¬ s (13 * x + 3) = -4 ∧ L x = 0)) := by
    by_cases e : x = n
    · subst e
      rw [up_s]
      exact Or.inr ⟨rfl, hr, hl⟩
    · rw [up_n _ _ (by omega)]
      exact g5
  unfold nodeG
  rw [up_n s 1 (show 13 * x ≠ 13 * n + 4 by omega), up_n s 1 (show 13 * x + 1 ≠ 13 * n + 4 by omega), up_n s 1 (show 13 * x + 2 ≠ 13 * n + 4 by omega), up_n s 1 (show 13 * x + 3 ≠ 13 * n + 4 by omega)]
  refine ⟨⟨g1, g2, g3⟩, g4, h5, fun i hi => ?_, g7, fun h9 => ?_, g9, g10, g11⟩
  · rw [up_n _ _ (by omega)]; exact g6 i hi
  · obtain ⟨k1, k2, k3, k4⟩ := g8 h9
    refine ⟨k1, k2, fun i hi => ?_, k4⟩
    rw [up_n _ _ (by omega)]; exact k3 i hi
theorem nn_0 {v : Nat} {lv hi rt : Int32} : nnF s v lv hi rt (13 * v) = lv := by rw [nnF, up_n _ _ (by omega), up_n _ _ (by omega), up_n _ _ (by omega), up_s]
theorem nn_2 {v : Nat} {lv hi rt : Int32} : nnF s v lv hi rt (13 * v + 2) = hi := by rw [nnF, up_n _ _ (by omega), up_n _ _ (by omega), up_s]
theorem nn_3 {v : Nat} {lv hi rt : Int32} : nnF s v lv hi rt (13 * v + 3) = rt := by rw [nnF, up_n _ _ (by omega), up_s]
theorem nn_4 {v : Nat} {lv hi rt : Int32} : nnF s v lv hi rt (13 * v + 4) = 0 := by rw [nnF, up_s]
theorem nn_N {v : Nat} {lv hi rt : Int32} (hv : v < 24) : nnF s v lv hi rt 312 = nI (v + 1) := by rw [nnF, up_n _ _ (by omega), up_n _ _ (by omega), up_n _ _ (by omega), up_n _ _ (by omega), up_s]
end IVB
