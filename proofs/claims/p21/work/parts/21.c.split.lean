/-! THE NODES' INVARIANT behind a split, a new root -/
section IVC
variable {s : Nat → Int32} {N R M B n : Nat} {L m H r : Nat → Nat} {K C : Nat → Nat → Nat} {f : Nat → Nat}
/-- the nodes behind a split -/
def s2F (s : Nat → Int32) (n v : Nat) (gv gcv gn gcn : Nat → Int32) (kv kn : Nat) (hm : Int32) : Nat → Int32 := up (up (nH (nH (nnF s v (s (13 * n)) (s (13 * n + 2)) (s (13 * n + 3))) v gv gcv kv) n gn gcn kn) (13 * n + 3) (nI v)) (13 * n + 2) hm
section S2
variable {gv gcv gn gcn : Nat → Int32} {v kv kn : Nat} {hm : Int32}
theorem s2_o {j : Nat} (hkv : kv ≤ 4) (hkn : kn ≤ 4) (h1 : j ≠ 312) (hn : j < 13 * n ∨ 13 * n + 13 ≤ j) (hv : j < 13 * v ∨ 13 * v + 13 ≤ j) : s2F s n v gv gcv gn gcn kv kn hm j = s j := by
  rw [s2F, up_n _ _ (by omega), up_n _ _ (by omega), nH_o hkn (by omega), nH_o hkv (by omega), nn_o h1 (by omega)]
theorem s2_N (hkv : kv ≤ 4) (hkn : kn ≤ 4) (hv : v < 24) (hn : n < 24) : s2F s n v gv gcv gn gcn kv kn hm 312 = nI (v + 1) := by
  rw [s2F, up_n _ _ (by omega), up_n _ _ (by omega), nH_o hkn (by omega), nH_o hkv (by omega), nn_N hv]
theorem s2_n0 (hkv : kv ≤ 4) (hkn : kn ≤ 4) (hv : v < 24) (hnv : n < v) : s2F s n v gv gcv gn gcn kv kn hm (13 * n) = s (13 * n) := by
  rw [s2F, up_n _ _ (by omega), up_n _ _ (by omega), nH_o hkn (by omega), nH_o hkv (by omega), nn_o (by omega) (by omega)]
theorem s2_n1 : s2F s n v gv gcv gn gcn kv kn hm (13 * n + 1) = nI kn := by
  rw [s2F, up_n _ _ (by omega), up_n _ _ (by omega), nH_1]
theorem s2_n2 : s2F s n v gv gcv gn gcn kv kn hm (13 * n + 2) = hm := by rw [s2F, up_s]
theorem s2_n3 : s2F s n v gv gcv gn gcn kv kn hm (13 * n + 3) = nI v := by rw [s2F, up_n _ _ (by omega), up_s]
theorem s2_n4 (hkv : kv ≤ 4) (hkn : kn ≤ 4) (hv : v < 24) (hnv : n < v) : s2F s n v gv gcv gn gcn kv kn hm (13 * n + 4) = s (13 * n + 4) := by
  rw [s2F, up_n _ _ (by omega), up_n _ _ (by omega), nH_o hkn (by omega), nH_o hkv (by omega), nn_o (by omega) (by omega)]
theorem s2_nk {i : Nat} (hkn : kn ≤ 4) (hi : i < kn) : s2F s n v gv gcv gn gcn kv kn hm (13 * n + (5 + i)) = gn i := by
  rw [s2F, up_n _ _ (by omega), up_n _ _ (by omega), nH_k hi hkn]
theorem s2_nc {i : Nat} (hkn : kn ≤ 4) (hi : i < kn) : s2F s n v gv gcv gn gcn kv kn hm (13 * n + (9 + i)) = gcn i := by
  rw [s2F, up_n _ _ (by omega), up_n _ _ (by omega), nH_c hi hkn]
theorem s2_v0 (hkv : kv ≤ 4) (hkn : kn ≤ 4) (hnv : n < v) : s2F s n v gv gcv gn gcn kv kn hm (13 * v) = s (13 * n) := by
  rw [s2F, up_n _ _ (by omega), up_n _ _ (by omega), nH_o hkn (by omega), nH_o hkv (by omega), nn_0]
theorem s2_v1 (hkv : kv ≤ 4) (hkn : kn ≤ 4) (hnv : n < v) : s2F s n v gv gcv gn gcn kv kn hm (13 * v + 1) = nI kv := by
  rw [s2F, up_n _ _ (by omega), up_n _ _ (by omega), nH_o hkn (by omega), nH_1]
theorem s2_v2 (hkv : kv ≤ 4) (hkn : kn ≤ 4) (hnv : n < v) : s2F s n v gv gcv gn gcn kv kn hm (13 * v + 2) = s (13 * n + 2) := by
  rw [s2F, up_n _ _ (by omega), up_n _ _ (by omega), nH_o hkn (by omega), nH_o hkv (by omega), nn_2]
theorem s2_v3 (hkv : kv ≤ 4) (hkn : kn ≤ 4) (hnv : n < v) : s2F s n v gv gcv gn gcn kv kn hm (13 * v + 3) = s (13 * n + 3) := by
  rw [s2F, up_n _ _ (by omega), up_n _ _ (by omega), nH_o hkn (by omega), nH_o hkv (by omega), nn_3]
theorem s2_v4 (hkv : kv ≤ 4) (hkn : kn ≤ 4) (hnv : n < v) : s2F s n v gv gcv gn gcn kv kn hm (13 * v + 4) = 0 := by
  rw [s2F, up_n _ _ (by omega), up_n _ _ (by omega), nH_o hkn (by omega), nH_o hkv (by omega), nn_4]
theorem s2_vk {i : Nat} (hkv : kv ≤ 4) (hkn : kn ≤ 4) (hnv : n < v) (hi : i < kv) : s2F s n v gv gcv gn gcn kv kn hm (13 * v + (5 + i)) = gv i := by
  rw [s2F, up_n _ _ (by omega), up_n _ _ (by omega), nH_o hkn (by omega), nH_k hi hkv]
theorem s2_vc {i : Nat} (hkv : kv ≤ 4) (hkn : kn ≤ 4) (hnv : n < v) (hi : i < kv) : s2F s n v gv gcv gn gcn kv kn hm (13 * v + (9 + i)) = gcv i := by
  rw [s2F, up_n _ _ (by omega), up_n _ _ (by omega), nH_o hkn (by omega), nH_c hi hkv]
end S2
theorem InvN.split (I : InvN s N R M B L m H r K C f) (hn : n < N) (hN : N < 24) {gv gcv gn gcn : Nat → Int32} {kv kn hm : Nat} {Kv Cv Kn Cn : Nat → Nat} (hkv : kv ≤ M) (hkn : kn ≤ M) (hhm : hm ≤ 100)
    (v1 : ∀ i, i < kv → gv i = nI (Kv i) ∧ Kv i ≤ 100) (v2 : ∀ i, i + 1 < kv → Kv i < Kv (i + 1)) (v3 : 0 < L n → 0 < kv ∧ Kv (kv - 1) = H n ∧ ∀ i, i < kv → gcv i = nI (Cv i) ∧ Cv i < N ∧ L (Cv i) + 1 = L n)
    (n1 : ∀ i, i < kn → gn i = nI (Kn i) ∧ Kn i ≤ 100) (n2 : ∀ i, i + 1 < kn → Kn i < Kn (i + 1)) (n3 : 0 < L n → 0 < kn ∧ Kn (kn - 1) = hm ∧ ∀ i, i < kn → gcn i = nI (Cn i) ∧ Cn i < N ∧ L (Cn i) + 1 = L n) :
    InvN (s2F s n N gv gcv gn gcn kv kn (nI hm)) (N + 1) R M (if L n = 0 then B else B + 1) (fun x => if x = N then L n else L x) (fun x => if x = N then kv else if x = n then kn else m x) (fun x => if x = N then H n else if x = n then hm else H x) (fun x => if x = N then r n else if x = n then N else r x) (fun x => if x = N then Kv else if x = n then Kn else K x) (fun x => if x = N then Cv else if x = n then Cn else C x) (fun x => if x = N then f n + 1 else if f x ≤ f n then f x else f x + 1) := by
  obtain ⟨⟨a1, a2, a3⟩, ⟨b1, b2⟩, ⟨d1, d2, d3⟩, G, o, z⟩ := I
  have kv4 : kv ≤ 4 := by omega
  have kn4 : kn ≤ 4 := by omega
  have hnN : n ≠ N := by omega
  have hRN : R ≠ N := by omega
  obtain ⟨⟨g1, g2, g3⟩, g4, g5, g6, g7, g8, g9, g10, g11, g12⟩ := G n hn
  have old : ∀ x, x < N → x ≠ N := fun x hx => by omega
  have Lo : ∀ x, x < N → (if x = N then L n else L x) = L x := fun x hx => if_neg (old x hx)
  have fm : ∀ a b, a < N → b < N → f a < f b → (if f a ≤ f n then f a else f a + 1) < (if f b ≤ f n then f b else f b + 1) := by
    intro a b _ _ h9
    by_cases h1 : f a ≤ f n
    · rw [if_pos h1]
      by_cases h2 : f b ≤ f n
      · rw [if_pos h2]; exact h9
      · rw [if_neg h2]; omega
    · rw [if_neg h1, if_neg (by omega)]; omega
  have fb : ∀ a, a < N → f a ≤ (if f a ≤ f n then f a else f a + 1) ∧ (if f a ≤ f n then f a else f a + 1) ≤ f a + 1 := by
    intro a _
    by_cases h1 : f a ≤ f n
    · rw [if_pos h1]; omega
    · rw [if_neg h1]; omega
  refine ⟨⟨s2_N kv4 kn4 hN (by omega), by omega, by omega⟩, ⟨by rw [s2_o kv4 kn4 (by omega) (by omega) (by omega)]; exact b1, by omega⟩, ⟨by rw [s2_o kv4 kn4 (by omega) (by omega) (by omega)]; exact d1, d2, d3⟩, fun x hx => ?_, fun a b ha hb hab => ?_, fun hl => ?_⟩
  · by_cases eN : x = N
    · subst eN
      unfold nodeG
      rw [s2_v0 kv4 kn4 hn, s2_v1 kv4 kn4 hn, s2_v2 kv4 kn4 hn, s2_v3 kv4 kn4 hn, s2_v4 kv4 kn4 hn]
      simp only [if_true, if_neg hRN]
      refine ⟨⟨g1, by trivial, g3⟩, ?_, Or.inl (by trivial), fun i hi => ?_, v2, fun hl => ?_, g9, hkv, g11, ?_⟩
      · rcases g4 with q | ⟨q1, q2, q3, q4⟩
        · exact Or.inl q
        · refine Or.inr ⟨q1, by omega, ?_, ?_⟩
          · rw [if_neg (old _ q2)]; exact q3
          · rw [if_neg (old _ q2), if_neg (by omega)]; omega
      · rw [s2_vk kv4 kn4 hn hi]; exact v1 i hi
      · obtain ⟨k1, k2, k3⟩ := v3 hl
        refine ⟨k1, k2, fun i hi => ?_, ?_⟩
        · obtain ⟨c1, c2, c3⟩ := k3 i hi
          rw [s2_vc kv4 kn4 hn hi, if_neg (old _ c2)]
          exact ⟨c1, by omega, c3⟩
        · rw [if_neg (by omega)]
          have := (g8 hl).2.2.2
          omega
      · omega
    · have hxN : x < N := by omega
      obtain ⟨⟨x1, x2, x3⟩, x4, x5, x6, x7, x8, x9, x10, x11, x12⟩ := G x hxN
      by_cases e : x = n
      · subst e
        unfold nodeG
        rw [s2_n0 kv4 kn4 hN hn, s2_n1, s2_n2, s2_n3, s2_n4 kv4 kn4 hN hn]
        simp only [if_neg eN, if_true, if_neg hRN, Nat.le_refl]
        refine ⟨⟨g1, by trivial, by trivial⟩, Or.inr ⟨by trivial, by omega, by trivial, by omega⟩, ?_, fun i hi => ?_, n2, fun hl => ?_, g9, hkn, hhm, by omega⟩
        · rcases g5 with q | ⟨q1, q2, q3⟩
          · exact Or.inl q
          · refine Or.inr ⟨q1, fun w => ?_, q3⟩
            exact absurd w (by
              have h9 : ¬ nI N < 0 := nI_pos (by omega)
              intro w2
              rw [w2] at h9
              exact h9 (by decide))
        · rw [s2_nk kn4 hi]; exact n1 i hi
        · obtain ⟨k1, k2, k3⟩ := n3 hl
          refine ⟨k1, k2, fun i hi => ?_, ?_⟩
          · obtain ⟨c1, c2, c3⟩ := k3 i hi
            rw [s2_nc kn4 hi, if_neg (old _ c2)]
            exact ⟨c1, by omega, c3⟩
          · rw [if_neg (by omega)]
            have := (g8 hl).2.2.2
            omega
      · unfold nodeG
        have hmx : m x ≤ 4 := by omega
        have so : ∀ w, w < 13 → s2F s n N gv gcv gn gcn kv kn (nI hm) (13 * x + w) = s (13 * x + w) := fun w hw => s2_o kv4 kn4 (by omega) (by omega) (by omega)
        rw [so 1 (by decide), so 2 (by decide), so 3 (by decide), so 4 (by decide), show s2F s n N gv gcv gn gcn kv kn (nI hm) (13 * x) = s (13 * x) from so 0 (by decide)]
        simp only [if_neg eN, if_neg e, if_neg hRN]
        refine ⟨⟨x1, x2, x3⟩, ?_, x5, fun i hi => ?_, x7, fun hl => ?_, x9, x10, x11, ?_⟩
        · rcases x4 with q | ⟨q1, q2, q3, q4⟩
          · exact Or.inl q
          · refine Or.inr ⟨q1, by omega, ?_, ?_⟩
            · rw [if_neg (old _ q2)]; exact q3
            · rw [if_neg (old _ q2)]; exact fm x _ hxN q2 q4
        · rw [so (5 + i) (by omega)]; exact x6 i hi
        · obtain ⟨k1, k2, k3, k4⟩ := x8 hl
          refine ⟨k1, k2, fun i hi => ?_, ?_⟩
          · obtain ⟨c1, c2, c3⟩ := k3 i hi
            rw [so (9 + i) (by omega), if_neg (old _ c2)]
            exact ⟨c1, by omega, c3⟩
          · by_cases h0 : L n = 0
            · have h9 := o x n hxN hn (by omega)
              rw [if_pos h0, if_pos (by omega)]
              exact k4
            · rw [if_neg h0]
              have := (fb x hxN).2
              omega
        · have := (fb x hxN).2
          omega
  · dsimp only at hab ⊢
    by_cases ea : a = N
    · subst ea
      rw [if_pos rfl] at hab ⊢
      by_cases eb : b = a
      · rw [if_pos eb] at hab; omega
      · rw [if_neg eb] at hab ⊢
        have h9 := o n b hn (by omega) hab
        rw [if_neg (by omega)]; omega
    · rw [if_neg ea] at hab ⊢
      by_cases eb : b = N
      · subst eb
        rw [if_pos rfl] at hab ⊢
        have h9 := o a n (by omega) hn hab
        rw [if_pos (by omega)]; omega
      · rw [if_neg eb] at hab ⊢
        exact fm a b (by omega) (by omega) (o a b (by omega) (by omega) hab)
  · dsimp only at hl
    rw [if_neg hRN] at hl
    have := z hl
    by_cases h0 : L n = 0
    · rw [if_pos h0]; omega
    · rw [if_neg h0]; omega
/-- the nodes behind a new root -/
theorem InvN.root (I : InvN s N R M B L m H r K C f) (hN : N < 24) {md p : Nat} (hmd : md ≤ 99) (hp : p < N) (hL : L p = L R) (hf : 1 ≤ f p) (hB : B + 2 ≤ N) {g gc : Nat → Int32} (e0 : g 0 = nI md) (e1 : g 1 = 100) (c0 : gc 0 = nI R) (c1 : gc 1 = nI p) :
    InvN (up (nH (nnF s N (nI (L R + 1)) 100 (-4)) N g gc 2) 313 (nI N)) (N + 1) N M (B + 1) (fun x => if x = N then L R + 1 else L x) (fun x => if x = N then 2 else m x) (fun x => if x = N then 100 else H x) r (fun x => if x = N then (fun i => if i = 0 then md else 100) else K x) (fun x => if x = N then (fun i => if i = 0 then R else p) else C x) (fun x => if x = N then 0 else f x + 1) := by
  obtain ⟨⟨a1, a2, a3⟩, ⟨b1, b2⟩, ⟨d1, d2, d3⟩, G, o, z⟩ := I
  have old : ∀ x, x < N → x ≠ N := fun x hx => by omega
  have hRN : R ≠ N := by omega
  have so : ∀ j, j ≠ 312 → j ≠ 313 → (j < 13 * N ∨ 13 * N + 13 ≤ j) → up (nH (nnF s N (nI (L R + 1)) 100 (-4)) N g gc 2) 313 (nI N) j = s j := fun j h1 h2 h3 => by
    rw [up_n _ _ h2, nH_o (by decide) (by omega), nn_o h1 (by omega)]
  obtain ⟨⟨p1, p2, p3⟩, p4, p5, p6, p7, p8, p9⟩ := G p hp
  refine ⟨⟨by rw [up_n _ _ (by decide), nH_o (by decide) (by omega), nn_N hN], by omega, by omega⟩, ⟨up_s _ _ _, by omega⟩, ⟨by rw [so _ (by decide) (by decide) (by omega)]; exact d1, d2, d3⟩, fun x hx => ?_, fun a b ha hb hab => ?_, fun _ => by omega⟩
  · by_cases eN : x = N
    · subst eN
      unfold nodeG
      rw [up_n _ _ (show 13 * x ≠ 313 by omega), up_n _ _ (show 13 * x + 1 ≠ 313 by omega), up_n _ _ (show 13 * x + 2 ≠ 313 by omega), up_n _ _ (show 13 * x + 3 ≠ 313 by omega), up_n _ _ (show 13 * x + 4 ≠ 313 by omega), nH_o (by decide) (by omega), nH_1, nH_o (by decide) (by omega), nH_o (by decide) (by omega), nH_o (by decide) (by omega), nn_0, nn_2, nn_3, nn_4]
      simp only [if_true]
      refine ⟨⟨by trivial, by trivial, by trivial⟩, Or.inl ⟨by trivial, by trivial⟩, Or.inl (by trivial), fun i hi => ?_, fun i hi => ?_, fun hl => ⟨by decide, by rw [if_neg (by decide)], fun i hi => ?_, ?_⟩, Nat.le_refl _, d2, by decide, by omega⟩
      · rw [up_n _ _ (by omega), nH_k hi (by decide)]
        have : i = 0 ∨ i = 1 := by omega
        rcases this with rfl | rfl
        · rw [if_pos rfl]; exact ⟨e0, by omega⟩
        · rw [if_neg (by decide)]; exact ⟨e1, by decide⟩
      · have : i = 0 := by omega
        subst this
        rw [if_pos rfl, if_neg (by decide)]; omega
      · rw [up_n _ _ (by omega), nH_c hi (by decide)]
        have : i = 0 ∨ i = 1 := by omega
        rcases this with rfl | rfl
        · rw [if_pos rfl, if_neg hRN]; exact ⟨c0, by omega, rfl⟩
        · rw [if_neg (by decide), if_neg (old p hp)]; exact ⟨c1, by omega, by rw [hL]⟩
      · by_cases h0 : L R = 0
        · omega
        · have := (p8 (by omega)).2.2.2
          omega
    · have hxN : x < N := by omega
      obtain ⟨⟨x1, x2, x3⟩, x4, x5, x6, x7, x8, x9, x10, x11, x12⟩ := G x hxN
      unfold nodeG
      have hmx : m x ≤ 4 := by omega
      have sx : ∀ w, w < 13 → up (nH (nnF s N (nI (L R + 1)) 100 (-4)) N g gc 2) 313 (nI N) (13 * x + w) = s (13 * x + w) := fun w hw => so _ (by omega) (by omega) (by omega)
      rw [sx 1 (by decide), sx 2 (by decide), sx 3 (by decide), sx 4 (by decide), show up (nH (nnF s N (nI (L R + 1)) 100 (-4)) N g gc 2) 313 (nI N) (13 * x) = s (13 * x) from sx 0 (by decide)]
      simp only [if_neg eN, if_true]
      refine ⟨⟨x1, x2, x3⟩, ?_, x5, fun i hi => ?_, x7, fun hl => ?_, by omega, x10, x11, by omega⟩
      · rcases x4 with q | ⟨q1, q2, q3, q4⟩
        · exact Or.inl q
        · refine Or.inr ⟨q1, by omega, ?_, ?_⟩
          · rw [if_neg (old _ q2)]; exact q3
          · rw [if_neg (old _ q2)]; omega
      · rw [sx (5 + i) (by omega)]; exact x6 i hi
      · obtain ⟨k1, k2, k3, k4⟩ := x8 hl
        refine ⟨k1, k2, fun i hi => ?_, by omega⟩
        obtain ⟨c9, c8, c7⟩ := k3 i hi
        rw [sx (9 + i) (by omega), if_neg (old _ c8)]
        exact ⟨c9, by omega, c7⟩
  · dsimp only at hab ⊢
    by_cases ea : a = N
    · subst ea
      rw [if_pos rfl] at hab ⊢
      by_cases eb : b = a
      · rw [if_pos eb] at hab; omega
      · rw [if_neg eb]; omega
    · rw [if_neg ea] at hab ⊢
      by_cases eb : b = N
      · subst eb
        rw [if_pos rfl] at hab
        have := (G a (by omega)).2.2.2.2.2.2.1
        omega
      · rw [if_neg eb] at hab ⊢
        have := o a b (by omega) (by omega) hab
        omega
end IVC
