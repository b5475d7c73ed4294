section
/-! CLASS AND REFERENCE: a node in two -/
section R31J
variable {h : zi_Hp} {W : Nat} {x x0 x1 Y : Nat → Nat → Int32} {y y1 : Nat → Nat → Bool} {s s1 : Nat → Int32} {N R M B c n k : Nat} {L m H r : Nat → Nat} {K C : Nat → Nat → Nat} {f : Nat → Nat} {bk bc : Nat → Int32}
theorem c2_n {α : Type} {x : Nat → Nat → α} {s sp d dp n a j : Nat} (e : ¬ (a = d ∧ dp ≤ j ∧ j < dp + n)) : c2 x s sp d dp n a j = x a j := if_neg e
theorem c2_s {α : Type} {x : Nat → Nat → α} {s sp d dp n i : Nat} (e : i < n) : c2 x s sp d dp n d (dp + i) = x s (sp + i) := by
  unfold c2
  rw [if_pos (by omega), Nat.add_sub_cancel_left]
section
variable {b ls : Nat}
theorem ts_o {o j : Nat} (hn : n < N) (e : (o = 1 ∧ j ≠ 0) ∨ (2 ≤ o ∧ o ≤ 5 ∧ j ≠ n ∧ j ≠ N) ∨ (o = 2 ∧ j = n) ∨ ((o = 7 ∨ o = 8) ∧ (j < 5 * N ∨ 5 * N + (b - ls) ≤ j)) ∨ 9 ≤ o) : tsF x n N b ls o j = x o j := by
  unfold tsF
  try dsimp only
  rw [u2_n _ _ (by omega), u2_n _ _ (by omega), u2_n _ _ (by omega), u2_n _ _ (by omega), u2_n _ _ (by omega), u2_n _ _ (by omega), c2_n (by omega), c2_n (by omega), taF, u2_n _ _ (by omega), u2_n _ _ (by omega), u2_n _ _ (by omega), u2_n _ _ (by omega), u2_n _ _ (by omega)]
theorem ts_2N (hn : n < N) : tsF x n N b ls 2 N = x 2 n := by
  unfold tsF
  try dsimp only
  rw [u2_n _ _ (by omega), u2_n _ _ (by omega), u2_n _ _ (by omega), u2_n _ _ (by omega), u2_n _ _ (by omega), u2_n _ _ (by omega), c2_n (by omega), c2_n (by omega), taF, u2_n _ _ (by omega), u2_n _ _ (by omega), u2_n _ _ (by omega), u2_s]
theorem ts_3n : tsF x n N b ls 3 n = nI ls := by
  unfold tsF
  try dsimp only
  rw [u2_n _ _ (by omega), u2_n _ _ (by omega), u2_n _ _ (by omega), u2_n _ _ (by omega), u2_s]
theorem ts_3N (hn : n < N) : tsF x n N b ls 3 N = nI (b - ls) := by
  unfold tsF
  try dsimp only
  rw [u2_n _ _ (by omega), u2_n _ _ (by omega), u2_n _ _ (by omega), u2_n _ _ (by omega), u2_n _ _ (by omega), u2_s]
theorem ts_4n (hn : n < N) (hl : ls ≤ 5) : tsF x n N b ls 4 n = x 7 (5 * n + (ls - 1)) := by
  unfold tsF
  try dsimp only
  rw [u2_n _ _ (by omega), u2_n _ _ (by omega), u2_s, u2_n _ _ (by omega), u2_n _ _ (by omega), u2_n _ _ (by omega), c2_n (by omega), c2_n (by omega), taF, u2_n _ _ (by omega), u2_n _ _ (by omega), u2_n _ _ (by omega), u2_n _ _ (by omega), u2_n _ _ (by omega)]
theorem ts_4N (hn : n < N) : tsF x n N b ls 4 N = x 4 n := by
  unfold tsF
  try dsimp only
  rw [u2_n _ _ (by omega), u2_n _ _ (by omega), u2_n _ _ (by omega), u2_s, u2_n _ _ (by omega), u2_n _ _ (by omega), c2_n (by omega), c2_n (by omega), taF, u2_n _ _ (by omega), u2_n _ _ (by omega), u2_n _ _ (by omega), u2_n _ _ (by omega), u2_n _ _ (by omega)]
theorem ts_5n : tsF x n N b ls 5 n = nI N := by
  unfold tsF
  try dsimp only
  rw [u2_s]
theorem ts_5N (hn : n < N) : tsF x n N b ls 5 N = x 5 n := by
  unfold tsF
  try dsimp only
  rw [u2_n _ _ (by omega), u2_s, u2_n _ _ (by omega), u2_n _ _ (by omega), u2_n _ _ (by omega), u2_n _ _ (by omega), c2_n (by omega), c2_n (by omega), taF, u2_n _ _ (by omega), u2_n _ _ (by omega), u2_n _ _ (by omega), u2_n _ _ (by omega), u2_n _ _ (by omega)]
theorem ts_7N {i : Nat} (hi : i < b - ls) : tsF x n N b ls 7 (5 * N + i) = x 7 (5 * n + (ls + i)) := by
  unfold tsF
  try dsimp only
  rw [u2_n _ _ (by omega), u2_n _ _ (by omega), u2_n _ _ (by omega), u2_n _ _ (by omega), u2_n _ _ (by omega), u2_n _ _ (by omega), c2_n (by omega), c2_s hi, taF, u2_n _ _ (by omega), u2_n _ _ (by omega), u2_n _ _ (by omega), u2_n _ _ (by omega), u2_n _ _ (by omega), Nat.add_assoc]
theorem ts_8N {i : Nat} (hi : i < b - ls) : tsF x n N b ls 8 (5 * N + i) = x 8 (5 * n + (ls + i)) := by
  unfold tsF
  try dsimp only
  rw [u2_n _ _ (by omega), u2_n _ _ (by omega), u2_n _ _ (by omega), u2_n _ _ (by omega), u2_n _ _ (by omega), u2_n _ _ (by omega), c2_s hi, c2_n (by omega), taF, u2_n _ _ (by omega), u2_n _ _ (by omega), u2_n _ _ (by omega), u2_n _ _ (by omega), u2_n _ _ (by omega), Nat.add_assoc]
end
theorem s2_g {s : Nat → Int32} {n v kv kn j : Nat} {gv gcv gn gcn : Nat → Int32} {hm : Int32} (hv : kv ≤ 4) (hn : kn ≤ 4) (h1 : j ≠ 312) (e : (j < 13 * n ∨ j = 13 * n ∨ j = 13 * n + 4 ∨ 13 * n + 13 ≤ j)) (e2 : j < 13 * v ∨ 13 * v + 13 ≤ j) : s2F s n v gv gcv gn gcn kv kn hm j = s j := by
  unfold s2F
  rw [up_n _ _ (by omega), up_n _ _ (by omega), nH_o hn (by omega), nH_o hv (by omega), nn_o h1 (by omega)]
theorem CN.split (T : CN x y s N m) (I : InvG s N R M B L m H r K C f) (hn : n < N) (hN : N < 24) {bm ls : Nat} (hls : bm = 3 ∧ ls = 2 ∨ bm = 4 ∧ ls = 2 ∨ bm = 5 ∧ ls = 3) {R' M' B' : Nat} {L' m' H' r' : Nat → Nat} {K' C' : Nat → Nat → Nat} {f' : Nat → Nat} (J : InvG s1 (N + 1) R' M' B' L' m' H' r' K' C' f') (e : ∀ j, j < 315 → s1 j = s2F s n N (fun i => bk (ls + i)) (fun i => bc (ls + i)) bk bc (bm - ls) ls (bk (ls - 1)) j) (xo : ∀ o j, o < 9 → (o ≠ 3 ∨ j ≠ n) → ((o ≠ 7 ∧ o ≠ 8) ∨ j < 5 * n ∨ 5 * n + 5 ≤ j) → x0 o j = x o j) (xk : ∀ i, i < bm → x0 7 (5 * n + i) = bk i ∧ (0 < s (13 * n) → x0 8 (5 * n + i) = bc i)) (x1o : ∀ o j, o < 9 → x1 o j = tsF x0 n N bm ls o j) (hy : ∀ j, y1 6 j = u2 y 6 N false 6 j) : CN x1 y1 s1 (N + 1) m' ∧ m' N = bm - ls ∧ m' n = ls ∧ (∀ a, a < N → a ≠ n → m' a = m a) ∧ (s1 (13 * N) = s (13 * n) ∧ s1 (13 * N + 4) = 0 ∧ s1 (13 * n) = s (13 * n) ∧ s1 (13 * n + 4) = s (13 * n + 4)) ∧ (∀ i, i < bm - ls → s1 (13 * N + (5 + i)) = bk (ls + i)) ∧ (∀ i, i < ls → s1 (13 * n + (5 + i)) = bk i) ∧ (∀ a w, a < N → a ≠ n → w < 13 → s1 (13 * a + w) = s (13 * a + w)) := by
  have G := I.1.2.2.2.1
  have M4 := I.1.2.2.1.2.2
  have kv : bm - ls ≤ 4 := by omega
  have kn : ls ≤ 4 := by omega
  obtain ⟨⟨t0, t1, t2⟩, tn⟩ := T
  have eg : ∀ j, j < 315 → j ≠ 312 → (j < 13 * n ∨ j = 13 * n ∨ j = 13 * n + 4 ∨ 13 * n + 13 ≤ j) → (j < 13 * N ∨ 13 * N + 13 ≤ j) → s1 j = s j := fun j h1 h2 h3 h4 => by rw [e j h1, s2_g kv kn h2 h3 h4]
  have eN : s1 312 = nI (N + 1) := by
    rw [e _ (by decide)]; unfold s2F
    rw [up_n _ _ (by omega), up_n _ _ (by omega), nH_o kn (by omega), nH_o kv (by omega), nn_N hN]
  have v0 : s1 (13 * N) = s (13 * n) := by
    rw [e _ (by omega)]; unfold s2F
    rw [up_n _ _ (by omega), up_n _ _ (by omega), nH_o kn (by omega), nH_o kv (by omega), nn_0]
  have v1 : s1 (13 * N + 1) = nI (bm - ls) := by
    rw [e _ (by omega)]; unfold s2F
    rw [up_n _ _ (by omega), up_n _ _ (by omega), nH_o kn (by omega), nH_1]
  have v2 : s1 (13 * N + 2) = s (13 * n + 2) := by
    rw [e _ (by omega)]; unfold s2F
    rw [up_n _ _ (by omega), up_n _ _ (by omega), nH_o kn (by omega), nH_o kv (by omega), nn_2]
  have v3 : s1 (13 * N + 3) = s (13 * n + 3) := by
    rw [e _ (by omega)]; unfold s2F
    rw [up_n _ _ (by omega), up_n _ _ (by omega), nH_o kn (by omega), nH_o kv (by omega), nn_3]
  have v4 : s1 (13 * N + 4) = 0 := by
    rw [e _ (by omega)]; unfold s2F
    rw [up_n _ _ (by omega), up_n _ _ (by omega), nH_o kn (by omega), nH_o kv (by omega), nn_4]
  have vk : ∀ i, i < bm - ls → s1 (13 * N + (5 + i)) = bk (ls + i) := fun i hi => by
    rw [e _ (by omega)]; unfold s2F
    rw [up_n _ _ (by omega), up_n _ _ (by omega), nH_o kn (by omega), nH_k hi kv]
  have vc : ∀ i, i < bm - ls → s1 (13 * N + (9 + i)) = bc (ls + i) := fun i hi => by
    rw [e _ (by omega)]; unfold s2F
    rw [up_n _ _ (by omega), up_n _ _ (by omega), nH_o kn (by omega), nH_c hi kv]
  have n0 : s1 (13 * n) = s (13 * n) := eg _ (by omega) (by omega) (by omega) (by omega)
  have n4 : s1 (13 * n + 4) = s (13 * n + 4) := eg _ (by omega) (by omega) (by omega) (by omega)
  have n1 : s1 (13 * n + 1) = nI ls := by
    rw [e _ (by omega)]; unfold s2F
    rw [up_n _ _ (by omega), up_n _ _ (by omega), nH_1]
  have n2 : s1 (13 * n + 2) = bk (ls - 1) := by
    rw [e _ (by omega)]; unfold s2F
    rw [up_s]
  have n3 : s1 (13 * n + 3) = nI N := by
    rw [e _ (by omega)]; unfold s2F
    rw [up_n _ _ (by omega), up_s]
  have nk : ∀ i, i < ls → s1 (13 * n + (5 + i)) = bk i := fun i hi => by
    rw [e _ (by omega)]; unfold s2F
    rw [up_n _ _ (by omega), up_n _ _ (by omega), nH_k hi kn]
  have nc : ∀ i, i < ls → s1 (13 * n + (9 + i)) = bc i := fun i hi => by
    rw [e _ (by omega)]; unfold s2F
    rw [up_n _ _ (by omega), up_n _ _ (by omega), nH_c hi kn]
  have mN : m' N = bm - ls := mI_eq J (by omega) (by omega) v1
  have mn : m' n = ls := mI_eq J (by omega) (by omega) n1
  have ma : ∀ a, a < N → a ≠ n → m' a = m a := fun a ha han => mI_eq J (by omega) (by have := (G a ha).2.2.2.2.2.2.2.1; omega) (by rw [eg _ (by omega) (by omega) (by omega) (by omega)]; exact (G a ha).1.2.1)
  refine ⟨⟨⟨?_, ?_, ?_⟩, fun a ha => ?_⟩, mN, mn, ma, ⟨v0, v4, n0, n4⟩, vk, nk, fun a w ha han hw => eg _ (by omega) (by omega) (by omega) (by omega)⟩
  · rw [x1o _ _ (by decide), ts_N hn, eN]
  · rw [x1o _ _ (by decide), ts_o hn (by omega), xo _ _ (by decide) (by omega) (by omega), eg _ (by omega) (by omega) (by omega) (by omega)]; exact t1
  · rw [x1o _ _ (by decide), ts_o hn (by omega), xo _ _ (by decide) (by omega) (by omega), eg _ (by omega) (by omega) (by omega) (by omega)]; exact t2
  · by_cases haN : a = N
    · subst haN
      obtain ⟨⟨u2', u3, u4, u5, u6⟩, uk⟩ := tn n hn
      refine ⟨⟨?_, ?_, ?_, ?_, ?_⟩, fun i hi => ?_⟩
      · rw [x1o _ _ (by decide), ts_2N hn, xo _ _ (by decide) (by omega) (by omega), v0]; exact u2'
      · rw [x1o _ _ (by decide), ts_3N hn, v1]
      · rw [x1o _ _ (by decide), ts_4N hn, xo _ _ (by decide) (by omega) (by omega), v2]; exact u4
      · rw [x1o _ _ (by decide), ts_5N hn, xo _ _ (by decide) (by omega) (by omega), v3]; exact u5
      · rw [hy, u2_s, v4]; decide
      · rw [mN] at hi
        rw [x1o _ _ (by decide), x1o _ _ (by decide), ts_7N hi, ts_8N hi, vk i hi, vc i hi, v0]
        exact xk (ls + i) (by omega)
    · by_cases han : a = n
      · subst han
        obtain ⟨⟨u2', u3, u4, u5, u6⟩, uk⟩ := tn a hn
        refine ⟨⟨?_, ?_, ?_, ?_, ?_⟩, fun i hi => ?_⟩
        · rw [x1o _ _ (by decide), ts_o hn (by omega), xo _ _ (by decide) (by omega) (by omega), n0]; exact u2'
        · rw [x1o _ _ (by decide), ts_3n, n1]
        · rw [x1o _ _ (by decide), ts_4n hn (by omega), n2]; exact (xk (ls - 1) (by omega)).1
        · rw [x1o _ _ (by decide), ts_5n, n3]
        · rw [hy, u2_n _ _ (by omega), n4]; exact u6
        · rw [mn] at hi
          rw [x1o _ _ (by decide), x1o _ _ (by decide), ts_o hn (by omega), ts_o hn (by omega), nk i hi, nc i hi, n0]
          exact xk i (by omega)
      · obtain ⟨⟨u2', u3, u4, u5, u6⟩, uk⟩ := tn a (by omega)
        have g10 := (G a (by omega)).2.2.2.2.2.2.2.1
        refine ⟨⟨?_, ?_, ?_, ?_, ?_⟩, fun i hi => ?_⟩
        · rw [x1o _ _ (by decide), ts_o hn (by omega), xo _ _ (by decide) (by omega) (by omega), eg _ (by omega) (by omega) (by omega) (by omega)]; exact u2'
        · rw [x1o _ _ (by decide), ts_o hn (by omega), xo _ _ (by decide) (by omega) (by omega), eg _ (by omega) (by omega) (by omega) (by omega)]; exact u3
        · rw [x1o _ _ (by decide), ts_o hn (by omega), xo _ _ (by decide) (by omega) (by omega), eg _ (by omega) (by omega) (by omega) (by omega)]; exact u4
        · rw [x1o _ _ (by decide), ts_o hn (by omega), xo _ _ (by decide) (by omega) (by omega), eg _ (by omega) (by omega) (by omega) (by omega)]; exact u5
        · rw [hy, u2_n _ _ (by omega), eg _ (by omega) (by omega) (by omega) (by omega)]; exact u6
        · rw [ma a (by omega) han] at hi
          rw [x1o _ _ (by decide), x1o _ _ (by decide), ts_o hn (by omega), ts_o hn (by omega), xo _ _ (by decide) (by omega) (by omega), xo _ _ (by decide) (by omega) (by omega), eg _ (by omega) (by omega) (by omega) (by omega), eg _ (by omega) (by omega) (by omega) (by omega), eg _ (by omega) (by omega) (by omega) (by omega)]
          exact uk i hi
/-- a client that rises -/
theorem KR.ri (k : KR x y s c) (hs0 : ¬ s (315 + 24 * c) = 0) (hs5 : ¬ s (315 + 24 * c) = 5) {l : Nat} (hl : l < 12) (pa : s (315 + 24 * c + (12 + l)) = -4 ∨ ∃ b, s (315 + 24 * c + (12 + l)) = nI b ∧ b < 1000) {ans mid what dead : Int32} (Y1 : ∀ w, w = 1 ∨ w = 2 ∨ w = 5 ∨ w = 6 ∨ w = 7 → Y (10 + 2 * c) w = x (10 + 2 * c) w) (Y2 : ∀ w, Y (11 + 2 * c) w = x (11 + 2 * c) w) (Y3 : Y 1 1 = s 313) (Y8 : Y (10 + 2 * c) 8 = mid) (Y9 : Y (10 + 2 * c) 10 = what) (y11 : y1 (10 + 2 * c) 11 = decide (dead = 1)) (e0 : s1 (315 + 24 * c) = 3) (ew : ∀ w, w = 1 ∨ w = 2 ∨ w = 5 ∨ w = 6 ∨ w = 7 → s1 (315 + 24 * c + w) = s (315 + 24 * c + w)) (e3 : s1 (315 + 24 * c + 3) = if s (315 + 24 * c + (12 + l)) = -4 then s 313 else s (315 + 24 * c + (12 + l))) (e4 : s1 (315 + 24 * c + 4) = ans) (e8 : s1 (315 + 24 * c + 8) = mid) (e9 : s1 (315 + 24 * c + 9) = what) (e10 : s1 (315 + 24 * c + 10) = nI l) (e11 : s1 (315 + 24 * c + 11) = dead) (ep : ∀ w, w < 12 → s1 (315 + 24 * c + (12 + w)) = s (315 + 24 * c + (12 + w))) : KR (riK Y c l ans) y1 s1 c := by
  obtain ⟨k0, k1, -, k3⟩ := k
  have r0 : riK Y c l ans (10 + 2 * c) 0 = 3 := by unfold riK; rw [u2_s]
  have r3 : riK Y c l ans (10 + 2 * c) 3 = if Y (11 + 2 * c) l < 0 then Y 1 1 else Y (11 + 2 * c) l := by unfold riK; rw [u2_n _ _ (by omega), u2_s]
  have r9 : riK Y c l ans (10 + 2 * c) 9 = nI l := by unfold riK; rw [u2_n _ _ (by omega), u2_n _ _ (by omega), u2_s]
  have r4 : riK Y c l ans (10 + 2 * c) 4 = ans := by unfold riK; rw [u2_n _ _ (by omega), u2_n _ _ (by omega), u2_n _ _ (by omega), u2_s]
  have ro : ∀ o j, (o ≠ 10 + 2 * c ∨ (j ≠ 0 ∧ j ≠ 3 ∧ j ≠ 4 ∧ j ≠ 9)) → riK Y c l ans o j = Y o j := fun o j q => by unfold riK; rw [u2_n _ _ (by omega), u2_n _ _ (by omega), u2_n _ _ (by omega), u2_n _ _ (by omega)]
  unfold KR
  rw [e0]
  refine ⟨r0, fun _ w h1 h7 => ?_, fun _ => ⟨by rw [ro _ _ (by omega), e8]; exact Y8, by rw [r9, e10], by rw [ro _ _ (by omega), e9]; exact Y9, by rw [e11]; exact y11⟩, fun _ _ w hw => by rw [ro _ _ (by omega), Y2, ep w hw]; exact k3 hs0 hs5 w hw⟩
  by_cases w3 : w = 3
  · subst w3
    rw [r3, e3, Y2, Y3, k3 hs0 hs5 l hl]
    rcases pa with q | ⟨b, q, hb⟩
    · rw [q, if_pos (by decide), if_pos rfl]
    · rw [q, if_neg (nI_pos (by omega)), if_neg (fun w => by have := nI_pos (n := b) (by omega); rw [w] at this; exact this (by decide))]
  · by_cases w4 : w = 4
    · subst w4; rw [r4, e4]
    · rw [ro _ _ (by omega), Y1 w (by omega), ew w (by omega)]; exact k1 hs0 w h1 h7
end R31J
end
section
/-! CLASS AND REFERENCE: ABOVE, of a split -/
section R31K
variable {h : zi_Hp} {W : Nat} {x x0 x1 : Nat → Nat → Int32} {y y1 : Nat → Nat → Bool} {s s1 : Nat → Int32} {N R M B c n : Nat} {L m H r : Nat → Nat} {K C : Nat → Nat → Nat} {f : Nat → Nat}
section
variable {j b i : Nat} {key ch : Int32}
theorem ti_7 (hi : i ≤ b) : tiF x n j b key ch 7 (5 * n + i) = if i < j then x 7 (5 * n + i) else if i = j then key else x 7 (5 * n + (i - 1)) := by
  unfold tiF
  rw [u2_n _ _ (by omega), u2_n _ _ (by omega)]
  by_cases e : i = j
  · subst e; rw [u2_s, if_neg (Nat.lt_irrefl _), if_pos rfl]
  · rw [u2_n _ _ (by omega), if_neg e]
    unfold shF
    by_cases l : i < j
    · rw [if_pos l, if_neg (by omega)]
    · rw [if_neg l, if_pos (by omega), show 5 * n + i - 1 = 5 * n + (i - 1) by omega]
theorem ti_8 (hi : i ≤ b) : tiF x n j b key ch 8 (5 * n + i) = if i < j then x 8 (5 * n + i) else if i = j then ch else x 8 (5 * n + (i - 1)) := by
  unfold tiF
  rw [u2_n _ _ (by omega)]
  by_cases e : i = j
  · subst e; rw [u2_s, if_neg (Nat.lt_irrefl _), if_pos rfl]
  · rw [u2_n _ _ (by omega), u2_n _ _ (by omega), if_neg e]
    unfold shF
    by_cases l : i < j
    · rw [if_pos l, if_neg (by omega)]
    · rw [if_neg l, if_pos (by omega), show 5 * n + i - 1 = 5 * n + (i - 1) by omega]
theorem ti_3 : tiF x n j b key ch 3 n = nI (b + 1) := by unfold tiF; rw [u2_s]
theorem ti_g {o k : Nat} (hj : j ≤ b) (hb : b ≤ 4) (h1 : o ≠ 3 ∨ k ≠ n) (h2 : (o ≠ 7 ∧ o ≠ 8) ∨ k < 5 * n ∨ 5 * n + 5 ≤ k) : tiF x n j b key ch o k = x o k := by
  unfold tiF
  rw [u2_n _ _ (by omega), u2_n _ _ (by omega), u2_n _ _ (by omega)]
  unfold shF
  rw [if_neg (by omega)]
end
theorem pt_o {o j b ls lv : Nat} {ans : Int32} (ho : o ≠ 10 + 2 * c) : ptK x c n N b ls lv ans o j = tsF x n N b ls o j := by
  unfold ptK riK
  try dsimp only
  rw [u2_n _ _ (Or.inl ho), u2_n _ _ (Or.inl ho), u2_n _ _ (Or.inl ho), u2_n _ _ (Or.inl ho), u2_n _ _ (Or.inl ho), u2_n _ _ (Or.inl ho)]
theorem pt_eq {b ls lv : Nat} {ans : Int32} : ptK x c n N b ls lv ans = riK (u2 (u2 (tsF x n N b ls) (10 + 2 * c) 10 (nI N)) (10 + 2 * c) 8 (tsF x n N b ls 4 n)) c (lv + 1) ans := rfl
theorem sp_eq {v t ls bm : Nat} {bk bc : Nat → Int32} : spF s c n v t ls bm bk bc = poF (s2F s n v (fun i => bk (ls + i)) (fun i => bc (ls + i)) bk bc (bm - ls) ls (bk (ls - 1))) c (t + 1) (bk (ls - 1)) (nI v) 0 := rfl
theorem sim_4Y (S : Sh h) (V : Wa W) (T : CR x y s N m) (I : InvG s N R M B L m H r K C f) (hc : c < 3) (h4 : s (315 + 24 * c) = 4) (hdd : ¬ s (315 + 24 * c + 11) = 1) (hmv : msF s c = true) {cd : Int32} (D : StY s c cd s1) {N' R' M' B' : Nat} {L' m' H' r' : Nat → Nat} {K' C' : Nat → Nat → Nat} {f' : Nat → Nat} (J : InvG s1 N' R' M' B' L' m' H' r' K' C' f') {v2 v3 v4 : Value} : ∃ x' y', zv 5 80 0 [.ref W, .int (nI c), v2, v3, v4] [] (zC h W x y) = some (some (.int cd), zC h W x' y') ∧ CR x' y' (stF s s1 c cd) N' m' := by
  obtain ⟨⟨a1, a2, a3⟩, ⟨b1, b2⟩, ⟨d1, d2, d3⟩, G, o, z⟩ := id I.1
  have hx0 : ¬ cd = 0 := ms_x I hc hmv (Or.inr (Or.inr (Or.inr (Or.inr (Or.inr (Or.inl ⟨h4, hdd, D⟩))))))
  have hon : onB s c = true := by unfold onB; rw [h4]; decide
  obtain ⟨k0, k1, k2, k3⟩ := id (T.2.1 c hc)
  obtain ⟨-, -, a, ea, ha, pa, md, p, t, w8, w9, w10, hmd, hp, ht1, ht2, w11, w4⟩ := at_3 I hc (k0 := 4) (Or.inr rfl) h4
  obtain ⟨hLt, hmH⟩ := w4 rfl
  have hs0 : ¬ s (315 + 24 * c) = 0 := by rw [h4]; decide
  have hs5 : ¬ s (315 + 24 * c) = 5 := by rw [h4]; decide
  have w3 := k1 hs0 3 (by decide) (by decide)
  obtain ⟨y8, y9, y10, y11⟩ := k2 (Or.inr h4)
  have eN : x 1 0 = nI N := by rw [T.1.1.1]; exact a1
  have eM : x 1 2 = nI M := by rw [T.1.1.2.2]; exact d1
  have xa : x (10 + 2 * c) 3 = nI a := by rw [w3]; exact ea
  have go : zv 5 80 0 [.ref W, .int (nI c), v2, v3, v4] [] (zC h W x y) = zv 5 80 121 [.ref W, .int (nI c), .ref (W + (10 + 2 * c)), .int 0, v4] [] (zC h W x y) := by
    rw [adv_go S V hc eN a3 (n := a) (fun _ => ⟨xa, ha⟩) (by rw [T.mv I hc (fun _ => ⟨ea, ha⟩)]; exact hmv), b80_30_d (by first | (simp only [zC_n, zC_k, zC_r, S.n, wk_0 S V, wk_1 S V, wr_0_0 S V, wr_0_1 S V, wk_9 S V, cl_k S V hc, cl_r S V hc, cl_p S V hc, cl_q S V hc, zq_rf]; done) | (simp only [zC_n, zC_r, S.n, wr_0_0 S V, wr_0_1 S V, cl_r S V hc, cl_p S V hc, zq_rf]; have := V.lt; omega)) (by first | (simp only [zC_n, zC_k, zC_r, S.n, wk_0 S V, wk_1 S V, wr_0_0 S V, wr_0_1 S V, wk_9 S V, cl_k S V hc, cl_r S V hc, cl_p S V hc, cl_q S V hc, zq_rf]; done) | (simp only [zC_n, zC_r, S.n, wr_0_0 S V, wr_0_1 S V, cl_r S V hc, cl_p S V hc, zq_rf]; have := V.lt; omega)) (by rw [zC_i (by omega), k0, h4]; exact Or.inr (by decide)), k0, h4, decide_eq_false (by decide), zi_bI_f, b80_106 (by first | (simp only [zC_n, zC_k, zC_r, S.n, wk_0 S V, wk_1 S V, wr_0_0 S V, wr_0_1 S V, wk_9 S V, cl_k S V hc, cl_r S V hc, cl_p S V hc, cl_q S V hc, zq_rf]; done) | (simp only [zC_n, zC_r, S.n, wr_0_0 S V, wr_0_1 S V, cl_r S V hc, cl_p S V hc, zq_rf]; have := V.lt; omega)) (by first | (simp only [zC_n, zC_k, zC_r, S.n, wk_0 S V, wk_1 S V, wr_0_0 S V, wr_0_1 S V, wk_9 S V, cl_k S V hc, cl_r S V hc, cl_p S V hc, cl_q S V hc, zq_rf]; done) | (simp only [zC_n, zC_r, S.n, wr_0_0 S V, wr_0_1 S V, cl_r S V hc, cl_p S V hc, zq_rf]; have := V.lt; omega)), zC_b (by omega), y11, decide_eq_false hdd, zi_bI_f, if_pos rfl]
  have fin : ∀ {x1 : Nat → Nat → Int32} {y1 : Nat → Nat → Bool}, zv 4 92 0 [.ref W, .ref (W + (10 + 2 * c)), .double 0, .double 0] [] (zC h W x y) = some (some (.int cd), zC h W x1 y1) → CR (tdK x1 c cd) y1 (stF s s1 c cd) N' m' → ∃ x' y', zv 5 80 0 [.ref W, .int (nI c), v2, v3, v4] [] (zC h W x y) = some (some (.int cd), zC h W x' y') ∧ CR x' y' (stF s s1 c cd) N' m' := fun {x1 y1} e1 e2 => by
    refine ⟨tdK x1 c cd, y1, ?_, e2⟩
    rw [go, b80_121 (by first | (simp only [zC_n, zC_k, zC_r, S.n, wk_0 S V, wk_1 S V, wr_0_0 S V, wr_0_1 S V, wk_9 S V, cl_k S V hc, cl_r S V hc, cl_p S V hc, cl_q S V hc, zq_rf]; done) | (simp only [zC_n, zC_r, S.n, wr_0_0 S V, wr_0_1 S V, cl_r S V hc, cl_p S V hc, zq_rf]; have := V.lt; omega)) (by first | (simp only [zC_n, zC_k, zC_r, S.n, wk_0 S V, wk_1 S V, wr_0_0 S V, wr_0_1 S V, wk_9 S V, cl_k S V hc, cl_r S V hc, cl_p S V hc, cl_q S V hc, zq_rf]; done) | (simp only [zC_n, zC_r, S.n, wr_0_0 S V, wr_0_1 S V, cl_r S V hc, cl_p S V hc, zq_rf]; have := V.lt; omega)), e1]
    simp only [Option.bind_some, Option.toList_some, Option.toList_none, List.cons_append, List.nil_append]
    rw [b80_126, adv_t S V hc hx0]
  obtain ⟨n, mm, j, MM, hn24, hmM, hM2, hM4, hj, en, emm, eMM, hlt, hge, D⟩ := D
  have hna : n = a := by rw [ea] at en; exact ((nI_eq' (by omega) (by omega)).mp en).symm
  subst hna
  obtain ⟨⟨g1, g2, g3⟩, g4, g5, g6, g7, g8, g9, g10, g11, g12⟩ := G n ha
  obtain ⟨⟨t2, t3, t4, t5, t6⟩, tk⟩ := T.1.2 n ha
  have hmm' : mm = m n := by rw [g2] at emm; exact ((nI_eq' (by omega) (by omega)).mp emm).symm
  subst hmm'
  have hMM' : MM = M := by rw [d1] at eMM; exact ((nI_eq' (by omega) (by omega)).mp eMM).symm
  subst hMM'
  have ln := I.lv ha
  have em : x 3 n = nI (m n) := by rw [t3]; exact g2
  have hs13 : 0 < s (13 * n) := by rw [g1]; exact nI_lt (a := 0) (by omega) (by omega)
  have cls := a_s S V hc (y := y) eN a3 xa ha em (by omega) hj (fun i hi => by rw [(tk i (by omega)).1, y8]; exact hlt i hi) (by rw [(tk j hj).1, y8]; exact hge) (by rw [t2]; exact hs13) (v2 := .double 0) (v3 := .double 0)
  obtain ⟨x0, ex0⟩ : ∃ x0, x0 = u2 (tiF x n j (m n) (x (10 + 2 * c) 8) (x 8 (5 * n + j))) 8 (5 * n + (j + 1)) (x (10 + 2 * c) 10) := ⟨_, rfl⟩
  rw [← ex0, (tk j hj).1, y8] at cls
  have x0o : ∀ o k, (o ≠ 3 ∨ k ≠ n) → ((o ≠ 7 ∧ o ≠ 8) ∨ k < 5 * n ∨ 5 * n + 5 ≤ k) → x0 o k = x o k := fun o k h1 h2 => by
    rw [ex0, u2_n _ _ (by omega), ti_g (by omega) (by omega) h1 h2]
  have x03 : x0 3 n = nI (m n + 1) := by rw [ex0, u2_n _ _ (by omega), ti_3]
  have x0k : ∀ i, i < m n + 1 → x0 7 (5 * n + i) = blF s n j (s (315 + 24 * c + 8)) i ∧ (0 < s (13 * n) → x0 8 (5 * n + i) = icF s n j (s (315 + 24 * c + 9)) i) := fun i hi => by
    constructor
    · rw [ex0, u2_n _ _ (by omega), ti_7 (by omega)]
      unfold blF
      by_cases q : i < j
      · rw [if_pos q, if_pos q]; exact (tk i (by omega)).1
      · rw [if_neg q, if_neg q]
        by_cases q2 : i = j
        · rw [if_pos q2, if_pos q2]; exact y8
        · rw [if_neg q2, if_neg q2]; exact (tk (i - 1) (by omega)).1
    · intro _
      rw [ex0]
      unfold icF
      by_cases q3 : i = j + 1
      · subst q3
        rw [u2_s, if_neg (by omega), if_pos rfl]; exact y10
      · rw [u2_n _ _ (by omega), ti_8 (by omega)]
        by_cases q : i < j
        · rw [if_pos q, if_pos (by omega)]; exact (tk i (by omega)).2 hs13
        · rw [if_neg q]
          by_cases q2 : i = j
          · subst q2
            rw [if_pos rfl, if_pos (Nat.le_refl _)]; exact (tk i hj).2 hs13
          · rw [if_neg q2, if_neg (by omega), if_neg q3]; exact (tk (i - 1) (by omega)).2 hs13
  have x0c : ∀ o k, 9 ≤ o → x0 o k = x o k := fun o k ho => x0o o k (by omega) (by omega)
  have kr : ∀ {x1 : Nat → Nat → Int32} {s1 : Nat → Int32}, (∀ w, x1 (10 + 2 * c) w = if w = 0 then 5 else x (10 + 2 * c) w) → s1 (315 + 24 * c) = 5 → (∀ w, 1 ≤ w → w < 24 → s1 (315 + 24 * c + w) = s (315 + 24 * c + w)) → KR x1 y s1 c := fun {x1 s1} e1 e2 e3 => by
    unfold KR
    rw [e2]
    refine ⟨by rw [e1]; rfl, fun _ w h1 h7 => by rw [e1, if_neg (by omega), e3 w h1 (by omega)]; exact k1 hs0 w h1 h7, fun q => ?_, fun _ q => absurd rfl q⟩
    rcases q with q | q <;> exact absurd q (by decide)
  have same : cd = 3 → s1 = up s (315 + 24 * c) 5 → CR (tdK (u2 x (10 + 2 * c) 0 5) c cd) y (stF s s1 c cd) N' m' := fun hcd e1 => by
    subst hcd
    have hN' : N' = N := nI_Neq J (by omega) (by rw [e1, up_n _ _ (by omega)]; exact a1)
    subst hN'
    have so : ∀ k, k ≠ 315 + 24 * c → s1 k = s k := fun k hk => by rw [e1, up_n _ _ hk]
    refine sim_n T J (fun key => thA_cl I (fun k hk => so k (by omega)) key) ?_ hc (by decide) hon (fun k _ hk => so k (by omega)) (so _ (by omega)) (so _ (by omega)) (fun o j _ h9 _ => u2_n _ _ (Or.inl h9)) (fun _ _ _ _ => rfl) (kr (fun w => ?_) (by rw [e1, up_s]) (fun w _ _ => so _ (by omega))) (by rw [e1, up_s]; decide)
    · have hm' : ∀ b, b < N' → m' b = m b := fun b hb => mI_eq J hb (by have := (G b hb).2.2.2.2.2.2.2.1; omega) (by rw [so _ (by omega)]; exact (G b hb).1.2.1)
      have q := T.1.cl (x' := u2 x (10 + 2 * c) 0 5) (y' := y) (s' := s1) a3 (fun b hb => by have := (G b hb).2.2.2.2.2.2.2.1; omega) (fun o j ho => u2_n _ _ (Or.inl (by omega))) (fun _ => rfl) (fun k hk => so k (by omega))
      exact ⟨q.1, fun b hb => ⟨(q.2 b hb).1, fun i hi => (q.2 b hb).2 i (by rw [← hm' b hb]; exact hi)⟩⟩
    · by_cases e0 : w = 0
      · subst e0; rw [u2_s]; rfl
      · rw [u2_n _ _ (Or.inr e0), if_neg e0]
  rcases D with ⟨he, rfl, e1⟩ | ⟨he, ⟨hlM, rfl, e1⟩ | ⟨hmM2, h24, rfl, e1⟩ | ⟨hmM2, v, tt, ls, hv, hnv, ev, et, htt, hls, rfl, e1⟩⟩
  · exact fin (by rw [cls, if_pos he]) (same rfl e1)
  · have eo : ∀ k, k < 315 → s1 k = nH s n (blF s n j (s (315 + 24 * c + 8))) (icF s n j (s (315 + 24 * c + 9))) (m n + 1) k := fun k hk => by rw [e1, up_n _ _ (by omega)]
    have hN' : N' = N := nI_Neq J (by omega) (by rw [eo _ (by decide), nH_o (by omega) (by omega)]; exact a1)
    subst hN'
    have so : ∀ k, 315 ≤ k → k ≠ 315 + 24 * c → s1 k = s k := fun k h3 hk => by rw [e1, up_n _ _ hk, nH_o (by omega) (by omega)]
    refine fin (x1 := u2 x0 (10 + 2 * c) 0 5) (y1 := y) ?_ (sim_n T J (thA_node I ha (by omega) (by omega) J eo) (T.1.node I ha (by omega) J eo (fun o k ho h1 h2 => ?_) ?_ (fun i hi => ?_)) hc (by decide) hon (fun k h3 hk => so k h3 (by omega)) (so _ (by omega) (by omega)) (so _ (by omega) (by omega)) (fun o k h10 h9 _ => by rw [u2_n _ _ (Or.inl h9), x0c _ _ (by omega)]) (fun _ _ _ _ => rfl) (kr (fun w => ?_) (by rw [e1, up_s]) (fun w _ _ => so _ (by omega) (by omega))) (by rw [e1, up_s]; decide))
    · rw [cls, if_neg he, if_pos (by rw [em, eM]; exact nI_lt (by omega) (by omega)), a_o S V hc]
    · rw [u2_n _ _ (Or.inl (by omega)), x0o o k h1 h2]
    · rw [u2_n _ _ (Or.inl (by omega)), x03]
    · rw [u2_n _ _ (Or.inl (by omega)), u2_n _ _ (Or.inl (by omega))]; exact x0k i hi
    · by_cases e0 : w = 0
      · subst e0; rw [u2_s]; rfl
      · rw [u2_n _ _ (Or.inr e0), if_neg e0, x0c _ _ (by omega)]
  · refine fin ?_ (same rfl e1)
    rw [cls, if_neg he, if_neg (by rw [em, eM, hmM2]; exact Int32.lt_irrefl), if_pos (by rw [a1] at h24; exact (nI_eq' (b := 24) (by omega) (by decide)).mp h24)]
  · have hvN : N = v := by rw [a1] at ev; exact (nI_eq' (by omega) (by omega)).mp ev
    subst hvN
    have e2 : s1 = poF (s2F s n N (fun i => blF s n j (s (315 + 24 * c + 8)) (ls + i)) (fun i => icF s n j (s (315 + 24 * c + 9)) (ls + i)) (blF s n j (s (315 + 24 * c + 8))) (icF s n j (s (315 + 24 * c + 9))) (m n + 1 - ls) ls (blF s n j (s (315 + 24 * c + 8)) (ls - 1))) c (tt + 1) (blF s n j (s (315 + 24 * c + 8)) (ls - 1)) (nI N) 0 := by rw [e1, sp_eq]
    have eo : ∀ k, k < 315 → s1 k = s2F s n N (fun i => blF s n j (s (315 + 24 * c + 8)) (ls + i)) (fun i => icF s n j (s (315 + 24 * c + 9)) (ls + i)) (blF s n j (s (315 + 24 * c + 8))) (icF s n j (s (315 + 24 * c + 9))) (m n + 1 - ls) ls (blF s n j (s (315 + 24 * c + 8)) (ls - 1)) k := fun k hk => by rw [e2, po_o (by omega)]
    have bg : ∀ k, 313 ≤ k → s2F s n N (fun i => blF s n j (s (315 + 24 * c + 8)) (ls + i)) (fun i => icF s n j (s (315 + 24 * c + 9)) (ls + i)) (blF s n j (s (315 + 24 * c + 8))) (icF s n j (s (315 + 24 * c + 9))) (m n + 1 - ls) ls (blF s n j (s (315 + 24 * c + 8)) (ls - 1)) k = s k := fun k hk => s2_g (by omega) (by omega) (by omega) (by omega) (by omega)
    have hN' : N' = N + 1 := nI_Neq J (by omega) (by
      rw [eo _ (by decide)]; unfold s2F
      rw [up_n _ _ (by omega), up_n _ _ (by omega), nH_o (by omega) (by omega), nH_o (by omega) (by omega), nn_N hv])
    subst hN'
    obtain ⟨x1, ex1⟩ : ∃ x1, x1 = ptK x0 c n N (m n + 1) ls tt (x0 (10 + 2 * c) 4) := ⟨_, rfl⟩
    obtain ⟨y1, ey1⟩ : ∃ y1, y1 = u2 (u2 y 6 N false) (10 + 2 * c) 11 false := ⟨_, rfl⟩
    have hls' : m n + 1 = 3 ∧ ls = 2 ∨ m n + 1 = 4 ∧ ls = 2 ∨ m n + 1 = 5 ∧ ls = 3 := hls
    obtain ⟨Z, mN, mn, ma, ⟨q0, q4, p0, p4⟩, -, -, oth⟩ := T.1.split (y1 := y1) I ha hv hls' J eo (fun o k _ h1 h2 => x0o o k h1 h2) x0k (x1 := x1) (fun o k ho => by rw [ex1, pt_o (by omega)]) (fun k => by rw [ey1, u2_n _ _ (by omega)])
    have no : ¬ s (13 * n) = 0 := fun q => by rw [q] at hs13; exact absurd hs13 (by decide)
    have hth : ∀ key, thA s1 key = thA s key := fun key => by
      rw [Bool.eq_iff_iff, thA_iff I, thA_iff J]
      constructor
      · rintro ⟨b, hb, h2, h3, i, h4, h5⟩
        have hbN : b ≠ N := fun q => by subst q; rw [q0] at h2; exact no h2
        have hbn : b ≠ n := fun q => by subst q; rw [p0] at h2; exact no h2
        have g10 := (G b (by omega)).2.2.2.2.2.2.2.1
        rw [ma b (by omega) hbn] at h4
        rw [oth b _ (by omega) hbn (by decide)] at h3
        rw [oth b _ (by omega) hbn (by omega)] at h5
        rw [show s1 (13 * b) = s (13 * b) from oth b 0 (by omega) hbn (by decide)] at h2
        exact ⟨b, by omega, h2, h3, i, h4, h5⟩
      · rintro ⟨b, hb, h2, h3, i, h4, h5⟩
        have hbn : b ≠ n := fun q => by subst q; exact no h2
        have g10 := (G b hb).2.2.2.2.2.2.2.1
        exact ⟨b, by omega, by rw [show s1 (13 * b) = s (13 * b) from oth b 0 hb hbn (by decide)]; exact h2, by rw [oth b _ hb hbn (by decide)]; exact h3, i, by rw [ma b hb hbn]; exact h4, by rw [oth b _ hb hbn (by omega)]; exact h5⟩
    have kc : KR x1 y1 s1 c := by
      rw [ex1, pt_eq]
      refine (T.2.1 c hc).ri hs0 hs5 (l := tt + 1) (by omega) ?_ (mid := blF s n j (s (315 + 24 * c + 8)) (ls - 1)) (what := nI N) (dead := 0) (fun w hw => ?_) (fun w => ?_) ?_ ?_ ?_ ?_ ?_ (fun w hw => ?_) ?_ ?_ ?_ ?_ ?_ ?_ (fun w hw => ?_)
      · rcases pa (tt + 1) (by omega) with q | ⟨b, q, hb, -⟩
        · exact Or.inl q
        · exact Or.inr ⟨b, q, by omega⟩
      · rw [u2_n _ _ (by omega), u2_n _ _ (by omega), ts_o ha (by omega), x0c _ _ (by omega)]
      · rw [u2_n _ _ (by omega), u2_n _ _ (by omega), ts_o ha (by omega), x0c _ _ (by omega)]
      · rw [u2_n _ _ (by omega), u2_n _ _ (by omega), ts_o ha (by omega), x0o _ _ (by omega) (by omega)]; exact T.1.1.2.1
      · rw [u2_s, ts_4n ha (by omega)]; exact (x0k (ls - 1) (by omega)).1
      · rw [u2_n _ _ (by omega), u2_s]
      · rw [ey1, u2_s]; decide
      · rw [e2, po_0]
      · rw [e2, po_w (by omega), bg _ (by omega)]
      · rw [e2, po_3, bg _ (by omega), bg _ (by omega)]
      · rw [e2, po_w (by omega), bg _ (by omega), x0c _ _ (by omega)]; exact (k1 hs0 4 (by decide) (by decide)).symm
      · rw [e2, po_8]
      · rw [e2, po_9]
      · rw [e2, po_10]
      · rw [e2, po_11]
      · rw [e2, po_w (by omega), bg _ (by omega)]
    refine fin (x1 := x1) (y1 := y1) ?_ (sim_n T J hth Z hc (by decide) hon (fun k h3 hk => by rw [e2, po_o (by omega), bg _ (by omega)]) (by rw [e2, po_w (by omega), bg _ (by omega)]) (by rw [e2, po_w (by omega), bg _ (by omega)]) (fun o k h10 h9 _ => by rw [ex1, pt_o h9, ts_o ha (by omega), x0c _ _ (by omega)]) (fun o k h10 h9 => by rw [ey1, u2_n _ _ (Or.inl h9), u2_n _ _ (by omega)]) kc (by rw [e2, po_0]; decide))
    rw [cls, if_neg he, if_neg (by rw [em, eM, hmM2]; exact Int32.lt_irrefl), if_neg (by omega), a_p S V hc (x := x0) (by rw [x0o _ _ (by omega) (by omega)]; exact eN) hv (by rw [x0c _ _ (by omega)]; exact xa) ha x03 hls' (by rw [x0o _ _ (by omega) (by omega), t2]; exact et) (by omega), ex1, ey1]
end R31K
end
section
/-! CLASS AND REFERENCE: the end of a step that HOLDS: all notice -/
section R31L
variable {h : zi_Hp} {W : Nat} {x x0 x1 : Nat → Nat → Int32} {y y1 : Nat → Nat → Bool} {s s1 t : Nat → Int32} {N R M B c n k : Nat} {L m H r : Nat → Nat} {K C : Nat → Nat → Nat} {f : Nat → Nat}
def NB (x : Nat → Nat → Int32) (y : Nat → Nat → Bool) (s : Nat → Int32) (N : Nat) (m : Nat → Nat) : Prop := CN x y s N m ∧ ∀ d, d < 3 → KR x y s d
theorem NB.w (P : NB x y s N m) (hN : N ≤ 24) (hm : ∀ n, n < N → m n ≤ 4) (hk : k < 3) {w : Nat} (w1 : 1 ≤ w) (w7 : w ≤ 7) (v : Int32) : NB (u2 x (10 + 2 * k) w v) y (up s (315 + 24 * k + w) v) N m := by
  refine ⟨P.1.cl hN hm (fun o j ho => u2_n _ _ (by omega)) (fun _ => rfl) (fun j hj => up_n _ _ (by omega)), fun d hd => ?_⟩
  obtain ⟨k0, k1, k2, k3⟩ := P.2 d hd
  unfold KR
  rw [up_n s v (show 315 + 24 * d ≠ 315 + 24 * k + w by omega), u2_n x v (show 10 + 2 * d ≠ 10 + 2 * k ∨ 0 ≠ w by omega), u2_n x v (show 10 + 2 * d ≠ 10 + 2 * k ∨ 8 ≠ w by omega), u2_n x v (show 10 + 2 * d ≠ 10 + 2 * k ∨ 9 ≠ w by omega), u2_n x v (show 10 + 2 * d ≠ 10 + 2 * k ∨ 10 ≠ w by omega), up_n s v (show 315 + 24 * d + 8 ≠ 315 + 24 * k + w by omega), up_n s v (show 315 + 24 * d + 9 ≠ 315 + 24 * k + w by omega), up_n s v (show 315 + 24 * d + 10 ≠ 315 + 24 * k + w by omega), up_n s v (show 315 + 24 * d + 11 ≠ 315 + 24 * k + w by omega)]
  refine ⟨k0, fun q u u1 u7 => ?_, k2, fun q1 q2 l hl => ?_⟩
  · by_cases e : d = k ∧ u = w
    · obtain ⟨rfl, rfl⟩ := e
      rw [u2_s, up_s]
    · rw [u2_n _ _ (by omega), up_n _ _ (by omega)]; exact k1 q u u1 u7
  · rw [u2_n _ _ (by omega), up_n _ _ (by omega)]; exact k3 q1 q2 l hl
theorem NB.td (P : NB x y s N m) (hN : N ≤ 24) (hm : ∀ n, n < N → m n ≤ 4) (hc : c < 3) (hs : ¬ s (315 + 24 * c) = 0) {cd : Int32} : NB (tdK x c cd) y (tdF s c cd) N m := by
  have e6 := (P.2 c hc).2.1 hs 6 (by decide) (by decide)
  have e7 := (P.2 c hc).2.1 hs 7 (by decide) (by decide)
  have q := P.w hN hm hc (w := 6) (by decide) (by decide) (x (10 + 2 * c) 6 + 1)
  unfold tdK tdF
  by_cases h1 : cd = 1
  · rw [if_pos h1, if_pos h1, ← e6, ← e7]
    exact q.w hN hm hc (by decide) (by decide) _
  · rw [if_neg h1, if_neg h1, ← e6, Int32.add_zero, up_id (up s (315 + 24 * c + 6) (x (10 + 2 * c) 6 + 1)) (315 + 24 * c + 7) (by rw [uc_cc _ _ (by decide)])]
    exact q
theorem bit_b (b : Bool) : (1 : Int32) <<< (zi_bI b &&& 31) = if b = true then 2 else 1 := by cases b <;> decide
theorem se_n {on : Bool} {j : Nat} (hj : j ≠ 315 + 24 * k + 5) : seF on k t j = t j := by
  unfold seF
  cases on with
  | true => rw [if_pos rfl, up_n _ _ hj]
  | false => rw [if_neg (by decide)]
theorem se_5 {on : Bool} (ho : on = true) : seF on k t (315 + 24 * k + 5) = t (315 + 24 * k + 5) ||| (1 <<< (zi_bI (thA t (t (315 + 24 * k + 2))) &&& 31)) := by
  unfold seF
  rw [if_pos ho, up_s]
theorem nt_1 (S : Sh h) (V : Wa W) (P : NB x y t N m) (J : InvG s1 N R M B L m H r K C f) (et : ∀ j, j < 315 → t j = s1 j) (hk : k < 3) (hc : c < 3) {on : Bool} (hon : on = true ↔ ((¬ t (315 + 24 * k) = 0 ∧ ¬ t (315 + 24 * k) = 5) ∨ k = c)) (hc0 : ¬ t (315 + 24 * c) = 0) : ∃ x', zv 3 81 2 [.ref W, .int (nI c), .int (nI k)] [] (zC h W x y) = zv 3 81 2 [.ref W, .int (nI c), .int (nI (k + 1))] [] (zC h W x' y) ∧ NB x' y (seF on k t) N m := by
  obtain ⟨⟨a1, a2, a3⟩, -, ⟨d1, d2, d3⟩, G, -⟩ := id J.1
  have hm : ∀ n, n < N → m n ≤ 4 := fun n hn => by have := (G n hn).2.2.2.2.2.2.2.1; omega
  have eN : x 1 0 = nI N := by rw [P.1.1.1, et _ (by decide)]; exact a1
  obtain ⟨b, e, hb⟩ := na_t S V hk (y := y) eN a3 (M := m) (fun n hn => ⟨by rw [(P.1.2 n hn).1.2.1, et _ (by omega)]; exact (G n hn).1.2.1, by have := hm n hn; omega⟩) hc
  obtain ⟨k0, k1, -, -⟩ := P.2 k hk
  have Q : CN x y s1 N m := P.1.cl a3 hm (fun _ _ _ => rfl) (fun _ => rfl) (fun j hj => (et j hj).symm)
  by_cases ho : (¬ t (315 + 24 * k) = 0 ∧ ¬ t (315 + 24 * k) = 5) ∨ k = c
  · have h0 : ¬ t (315 + 24 * k) = 0 := by
      rcases ho with q | q
      · exact q.1
      · rw [q]; exact hc0
    have hbt : b = thA t (t (315 + 24 * k + 2)) := by
      rw [k1 h0 2 (by decide) (by decide)] at hb
      rw [Q.th J hb, thA_cl J et]
    refine ⟨noK x k b, by rw [e, k0, if_pos ho], ?_⟩
    unfold seF noK
    rw [if_pos (hon.mpr ho), ← hbt, bit_b, ← k1 h0 5 (by decide) (by decide)]
    exact P.w a3 hm hk (by decide) (by decide) _
  · refine ⟨x, by rw [e, k0, if_neg ho], ?_⟩
    unfold seF
    rw [if_neg (fun q => ho (hon.mp q))]
    exact P
theorem sim_h (S : Sh h) (V : Wa W) (hc : c < 3) {cd : Int32} (h0 : 0 < cd) (Z : NB x1 y1 s1 N m) (J : InvG s1 N R M B L m H r K C f) (hon : onB s c = true) (hs : ¬ s1 (315 + 24 * c) = 0) (est : ∀ d, d < 3 → d ≠ c → s1 (315 + 24 * d) = s (315 + 24 * d)) : ∃ x', zv 5 80 128 [.ref W, .int (nI c), .ref (W + (10 + 2 * c)), .int 1, .int cd] [] (zC h W x1 y1) = some (some (.int cd), zC h W x' y1) ∧ CR x' y1 (stF s s1 c cd) N m := by
  obtain ⟨⟨a1, a2, a3⟩, -, ⟨d1, d2, d3⟩, G, -⟩ := id J.1
  have hm : ∀ n, n < N → m n ≤ 4 := fun n hn => by have := (G n hn).2.2.2.2.2.2.2.1; omega
  have hcd : ¬ cd = 0 := fun q => by rw [q] at h0; exact absurd h0 (by decide)
  have P := Z.td a3 hm hc hs (cd := cd)
  obtain ⟨t0, et0⟩ : ∃ t0, t0 = tdF s1 c cd := ⟨_, rfl⟩
  have t0n : ∀ j, (j < 315 ∨ ∃ d, d < 3 ∧ (j = 315 + 24 * d ∨ j = 315 + 24 * d + 2 ∨ j = 315 + 24 * d + 5)) → t0 j = s1 j := fun j hj => by
    rw [et0]; unfold tdF
    have : j ≠ 315 + 24 * c + 7 ∧ j ≠ 315 + 24 * c + 6 := by
      rcases hj with q | ⟨d, hd, q⟩ <;> omega
    rw [up_n _ _ this.1, up_n _ _ this.2]
  rw [← et0] at P
  have ho : ∀ k, k < 3 → ∀ {t : Nat → Int32}, t (315 + 24 * k) = s1 (315 + 24 * k) → (onB s k = true ↔ ((¬ t (315 + 24 * k) = 0 ∧ ¬ t (315 + 24 * k) = 5) ∨ k = c)) := fun k hk {t} e => by
    by_cases q : k = c
    · subst q
      exact ⟨fun _ => Or.inr rfl, fun _ => hon⟩
    · rw [e, est k hk q]
      unfold onB
      rw [decide_eq_true_eq]
      exact ⟨fun w => Or.inl w, fun w => w.resolve_right q⟩
  obtain ⟨xa, ea, Pa⟩ := nt_1 S V P J (fun j hj => t0n j (Or.inl hj)) (k := 0) (by decide) hc (ho 0 (by decide) (t0n _ (Or.inr ⟨0, by decide, Or.inl rfl⟩))) (by rw [t0n _ (Or.inr ⟨c, hc, Or.inl rfl⟩)]; exact hs)
  obtain ⟨ta, eta⟩ : ∃ ta, ta = seF (onB s 0) 0 t0 := ⟨_, rfl⟩
  rw [← eta] at Pa
  have tan : ∀ j, j ≠ 315 + 24 * 0 + 5 → ta j = t0 j := fun j hj => by rw [eta, se_n hj]
  obtain ⟨xb, eb, Pb⟩ := nt_1 S V Pa J (fun j hj => by rw [tan _ (by omega), t0n j (Or.inl hj)]) (k := 1) (by decide) hc (ho 1 (by decide) (by rw [tan _ (by omega), t0n _ (Or.inr ⟨1, by decide, Or.inl rfl⟩)])) (by rw [tan _ (by omega), t0n _ (Or.inr ⟨c, hc, Or.inl rfl⟩)]; exact hs)
  obtain ⟨tb, etb⟩ : ∃ tb, tb = seF (onB s 1) 1 ta := ⟨_, rfl⟩
  rw [← etb] at Pb
  have tbn : ∀ j, j ≠ 315 + 24 * 1 + 5 → tb j = ta j := fun j hj => by rw [etb, se_n hj]
  obtain ⟨xc, ec, Pc⟩ := nt_1 S V Pb J (fun j hj => by rw [tbn _ (by omega), tan _ (by omega), t0n j (Or.inl hj)]) (k := 2) (by decide) hc (ho 2 (by decide) (by rw [tbn _ (by omega), tan _ (by omega), t0n _ (Or.inr ⟨2, by decide, Or.inl rfl⟩)])) (by rw [tbn _ (by omega), tan _ (by omega), t0n _ (Or.inr ⟨c, hc, Or.inl rfl⟩)]; exact hs)
  obtain ⟨tc, etc⟩ : ∃ tc, tc = seF (onB s 2) 2 tb := ⟨_, rfl⟩
  rw [← etc] at Pc
  have tcn : ∀ j, j ≠ 315 + 24 * 2 + 5 → tc j = tb j := fun j hj => by rw [etc, se_n hj]
  have estF : stF s s1 c cd = tc := by unfold stF; rw [if_pos h0, etc, etb, eta, et0]
  refine ⟨xc, ?_, ?_⟩
  · rw [k_end S V hc hcd, b80_159, if_neg (by decide), b80_163 (by first | (simp only [zC_n, zC_k, zC_r, S.n, wk_0 S V, wk_1 S V, wr_0_0 S V, wr_0_1 S V, wk_9 S V, cl_k S V hc, cl_r S V hc, cl_p S V hc, cl_q S V hc, zq_rf]; done) | (simp only [zC_n, zC_r, S.n, wr_0_0 S V, wr_0_1 S V, cl_r S V hc, cl_p S V hc, zq_rf]; have := V.lt; omega)) (by first | (simp only [zC_n, zC_k, zC_r, S.n, wk_0 S V, wk_1 S V, wr_0_0 S V, wr_0_1 S V, wk_9 S V, cl_k S V hc, cl_r S V hc, cl_p S V hc, cl_q S V hc, zq_rf]; done) | (simp only [zC_n, zC_r, S.n, wr_0_0 S V, wr_0_1 S V, cl_r S V hc, cl_p S V hc, zq_rf]; have := V.lt; omega))]
    rw [b81_0, show (Value.int 0) = Value.int (nI 0) from rfl, ← show zC h W (tdK x1 c cd) y1 = _ from rfl, ea, eb, ec, b81_2, if_neg (by decide), b81_40]
    simp only [Option.bind_some, Option.toList_some, Option.toList_none, List.cons_append, List.nil_append]
    rw [b80_168]
  · rw [estF]
    refine ⟨Pc.1, Pc.2, fun d hd hod => ?_⟩
    have ethn : ∀ {u : Nat → Int32}, (∀ j, j < 315 → u j = s1 j) → ∀ key, thA u key = thA s1 key := fun eu key => thA_cl J eu key
    have n0 : ∀ j, j < 315 → t0 j = s1 j := fun j hj => t0n j (Or.inl hj)
    have na : ∀ j, j < 315 → ta j = s1 j := fun j hj => by rw [tan _ (by omega), n0 j hj]
    have nb : ∀ j, j < 315 → tb j = s1 j := fun j hj => by rw [tbn _ (by omega), na j hj]
    have nc : ∀ j, j < 315 → tc j = s1 j := fun j hj => by rw [tcn _ (by omega), nb j hj]
    have hsd : onB s d = true := by
      rw [ho d hd (t := tc) (by rw [tcn _ (by omega), tbn _ (by omega), tan _ (by omega), t0n _ (Or.inr ⟨d, hd, Or.inl rfl⟩)])]
      unfold onB at hod
      exact Or.inl (of_decide_eq_true hod)
    rw [ethn nc]
    have hd3 : d = 0 ∨ d = 1 ∨ d = 2 := by omega
    rcases hd3 with rfl | rfl | rfl
    · rw [tcn (315 + 24 * 0 + 5) (by decide), tbn (315 + 24 * 0 + 5) (by decide), tcn (315 + 24 * 0 + 2) (by decide), tbn (315 + 24 * 0 + 2) (by decide), tan (315 + 24 * 0 + 2) (by decide), eta, se_5 hsd, ethn n0, Int32.or_assoc, Int32.or_self]
    · rw [tcn (315 + 24 * 1 + 5) (by decide), tcn (315 + 24 * 1 + 2) (by decide), tbn (315 + 24 * 1 + 2) (by decide), etb, se_5 hsd, ethn na, Int32.or_assoc, Int32.or_self]
    · rw [tcn (315 + 24 * 2 + 2) (by decide), etc, se_5 hsd, ethn nb, Int32.or_assoc, Int32.or_self]
end R31L
end
section
/-! CLASS AND REFERENCE: the steps that HOLD -/
section R31M
variable {h : zi_Hp} {W : Nat} {x x0 x1 X : Nat → Nat → Int32} {y y1 : Nat → Nat → Bool} {s s1 t : Nat → Int32} {N R M B c n k : Nat} {L m H r : Nat → Nat} {K C : Nat → Nat → Nat} {f : Nat → Nat}
theorem NB.of (T : CR x y s N m) {N' : Nat} {m' : Nat → Nat} (Z : CN x1 y1 s1 N' m') (e : ∀ k, 315 ≤ k → (k < 315 + 24 * c ∨ 315 + 24 * c + 24 ≤ k) → s1 k = s k) (ex : ∀ o j, 10 ≤ o → o ≠ 10 + 2 * c → o ≠ 11 + 2 * c → x1 o j = x o j) (ey : ∀ o j, 10 ≤ o → o ≠ 10 + 2 * c → y1 o j = y o j) (k : KR x1 y1 s1 c) : NB x1 y1 s1 N' m' := by
  refine ⟨Z, fun d hd => ?_⟩
  by_cases q : d = c
  · rw [q]; exact k
  · obtain ⟨k0, k1, k2, k3⟩ := T.2.1 d hd
    have ez : ∀ w, w < 24 → s1 (315 + 24 * d + w) = s (315 + 24 * d + w) := fun w hw => e _ (by omega) (by omega)
    have ez0 : s1 (315 + 24 * d) = s (315 + 24 * d) := ez 0 (by decide)
    have exd : ∀ j, x1 (10 + 2 * d) j = x (10 + 2 * d) j := fun j => ex _ _ (by omega) (by omega) (by omega)
    have exp : ∀ j, x1 (11 + 2 * d) j = x (11 + 2 * d) j := fun j => ex _ _ (by omega) (by omega) (by omega)
    unfold KR
    rw [ez0, exd 0, exd 8, exd 9, exd 10, ez 8 (by decide), ez 9 (by decide), ez 10 (by decide), ez 11 (by decide), ey _ _ (by omega) (by omega)]
    exact ⟨k0, fun h1 w w1 w7 => by rw [exd, ez w (by omega)]; exact k1 h1 w w1 w7, k2, fun h1 h2 l hl => by rw [exp, ez (12 + l) (by omega)]; exact k3 h1 h2 l hl⟩
theorem KR.dn (k : KR x y s c) (hs0 : ¬ s (315 + 24 * c) = 0) {ans : Int32} (e0 : s1 (315 + 24 * c) = 5) (e4 : s1 (315 + 24 * c + 4) = ans) (e : ∀ w, 1 ≤ w → w ≤ 7 → w ≠ 4 → s1 (315 + 24 * c + w) = s (315 + 24 * c + w)) (eX : ∀ w, X (10 + 2 * c) w = x (10 + 2 * c) w) : KR (u2 (u2 X (10 + 2 * c) 4 ans) (10 + 2 * c) 0 5) y1 s1 c := by
  unfold KR
  rw [e0]
  refine ⟨u2_s _ _ _ _, fun _ w h1 h7 => ?_, fun q => ?_, fun _ q => absurd rfl q⟩
  · rw [u2_n _ _ (by omega)]
    by_cases w4 : w = 4
    · subst w4; rw [u2_s, e4]
    · rw [u2_n _ _ (by omega), eX, e w h1 h7 w4]; exact k.2.1 hs0 w h1 h7
  · rcases q with q | q <;> exact absurd q (by decide)
theorem pl_ex {P : Nat → Prop} : ∀ b : Nat, ∃ j, j ≤ b ∧ (∀ i, i < j → P i) ∧ (j < b → ¬ P j)
  | 0 => ⟨0, Nat.le_refl _, fun i hi => absurd hi (Nat.not_lt_zero _), fun q => absurd q (Nat.not_lt_zero _)⟩
  | b + 1 => by
    obtain ⟨j, h1, h2, h3⟩ := pl_ex (P := P) b
    by_cases e : j = b
    · subst e
      by_cases p : P j
      · refine ⟨j + 1, Nat.le_refl _, fun i hi => ?_, fun q => absurd q (Nat.lt_irrefl _)⟩
        by_cases q : i = j
        · rw [q]; exact p
        · exact h2 i (by omega)
      · exact ⟨j, by omega, h2, fun _ => p⟩
    · exact ⟨j, by omega, h2, fun _ => h3 (by omega)⟩
theorem K_lt (I : InvG s N R M B L m H r K C f) (hn : n < N) : ∀ {j i : Nat}, i < j → j < m n → K n i < K n j
  | 0, i, hi, _ => absurd hi (Nat.not_lt_zero _)
  | j + 1, i, hi, hj => by
    have g7 := (I.1.2.2.2.1 n hn).2.2.2.2.1
    by_cases e : i = j
    · rw [e]; exact g7 j hj
    · have := K_lt I hn (j := j) (i := i) (by omega) (by omega)
      have := g7 j hj
      omega
theorem sim_2P (S : Sh h) (V : Wa W) (T : CR x y s N m) (I : InvG s N R M B L m H r K C f) (hc : c < 3) (h2 : s (315 + 24 * c) = 2) (ha1 : s (315 + 24 * c + 1) = 1) (hmv : msF s c = true) {cd : Int32} (D : StP s c cd s1) {N' R' M' B' : Nat} {L' m' H' r' : Nat → Nat} {K' C' : Nat → Nat → Nat} {f' : Nat → Nat} (J : InvG s1 N' R' M' B' L' m' H' r' K' C' f') {v2 v3 v4 : Value} : ∃ x' y', zv 5 80 0 [.ref W, .int (nI c), v2, v3, v4] [] (zC h W x y) = some (some (.int cd), zC h W x' y') ∧ CR x' y' (stF s s1 c cd) N' m' := by
  obtain ⟨⟨a1, a2, a3⟩, ⟨b1, b2⟩, ⟨d1, d2, d3⟩, G, o, z⟩ := id I.1
  have hon : onB s c = true := by unfold onB; rw [h2]; decide
  have KC := T.2.1 c hc
  obtain ⟨k0, k1, k2, k3⟩ := id KC
  obtain ⟨-, ke, a, eke, hke, ea, ha, pa, hLa⟩ := at_2 I hc h2
  have hs0 : ¬ s (315 + 24 * c) = 0 := by rw [h2]; decide
  have hs5 : ¬ s (315 + 24 * c) = 5 := by rw [h2]; decide
  have w1 := k1 hs0 1 (by decide) (by decide)
  have w2 := k1 hs0 2 (by decide) (by decide)
  have w3 := k1 hs0 3 (by decide) (by decide)
  have eN : x 1 0 = nI N := by rw [T.1.1.1]; exact a1
  have eM : x 1 2 = nI M := by rw [T.1.1.2.2]; exact d1
  have xa : x (10 + 2 * c) 3 = nI a := by rw [w3]; exact ea
  have go : zv 5 80 0 [.ref W, .int (nI c), v2, v3, v4] [] (zC h W x y) = zv 5 80 78 [.ref W, .int (nI c), .ref (W + (10 + 2 * c)), .int 1, v4] [] (zC h W x y) := by
    rw [adv_go S V hc eN a3 (n := a) (fun _ => ⟨xa, ha⟩) (by rw [T.mv I hc (fun _ => ⟨ea, ha⟩)]; exact hmv), b80_30_c2 (by first | (simp only [zC_n, zC_k, zC_r, S.n, wk_0 S V, wk_1 S V, wr_0_0 S V, wr_0_1 S V, wk_9 S V, cl_k S V hc, cl_r S V hc, cl_p S V hc, cl_q S V hc, zq_rf]; done) | (simp only [zC_n, zC_r, S.n, wr_0_0 S V, wr_0_1 S V, cl_r S V hc, cl_p S V hc, zq_rf]; have := V.lt; omega)) (by first | (simp only [zC_n, zC_k, zC_r, S.n, wk_0 S V, wk_1 S V, wr_0_0 S V, wr_0_1 S V, wk_9 S V, cl_k S V hc, cl_r S V hc, cl_p S V hc, cl_q S V hc, zq_rf]; done) | (simp only [zC_n, zC_r, S.n, wr_0_0 S V, wr_0_1 S V, cl_r S V hc, cl_p S V hc, zq_rf]; have := V.lt; omega)) (by rw [zC_i (by omega), k0]; exact h2), k0, h2, decide_eq_true rfl, zi_bI_t, b80_70 (by first | (simp only [zC_n, zC_k, zC_r, S.n, wk_0 S V, wk_1 S V, wr_0_0 S V, wr_0_1 S V, wk_9 S V, cl_k S V hc, cl_r S V hc, cl_p S V hc, cl_q S V hc, zq_rf]; done) | (simp only [zC_n, zC_r, S.n, wr_0_0 S V, wr_0_1 S V, cl_r S V hc, cl_p S V hc, zq_rf]; have := V.lt; omega)) (by first | (simp only [zC_n, zC_k, zC_r, S.n, wk_0 S V, wk_1 S V, wr_0_0 S V, wr_0_1 S V, wk_9 S V, cl_k S V hc, cl_r S V hc, cl_p S V hc, cl_q S V hc, zq_rf]; done) | (simp only [zC_n, zC_r, S.n, wr_0_0 S V, wr_0_1 S V, cl_r S V hc, cl_p S V hc, zq_rf]; have := V.lt; omega)), zC_i (by omega), w1, ha1, if_pos rfl]
  have fin : ∀ {x1 : Nat → Nat → Int32} {y1 : Nat → Nat → Bool}, 0 < cd → zv 4 86 0 [.ref W, .ref (W + (10 + 2 * c)), .double 0] [] (zC h W x y) = some (some (.int cd), zC h W x1 y1) → NB x1 y1 s1 N' m' → ¬ s1 (315 + 24 * c) = 0 → (∀ d, d < 3 → d ≠ c → s1 (315 + 24 * d) = s (315 + 24 * d)) → ∃ x' y', zv 5 80 0 [.ref W, .int (nI c), v2, v3, v4] [] (zC h W x y) = some (some (.int cd), zC h W x' y') ∧ CR x' y' (stF s s1 c cd) N' m' := fun {x1 y1} hp e1 Z hs est => by
    obtain ⟨x', e', R⟩ := sim_h S V hc hp Z J hon hs est
    refine ⟨x', y1, ?_, R⟩
    rw [go, b80_78 (by first | (simp only [zC_n, zC_k, zC_r, S.n, wk_0 S V, wk_1 S V, wr_0_0 S V, wr_0_1 S V, wk_9 S V, cl_k S V hc, cl_r S V hc, cl_p S V hc, cl_q S V hc, zq_rf]; done) | (simp only [zC_n, zC_r, S.n, wr_0_0 S V, wr_0_1 S V, cl_r S V hc, cl_p S V hc, zq_rf]; have := V.lt; omega)) (by first | (simp only [zC_n, zC_k, zC_r, S.n, wk_0 S V, wk_1 S V, wr_0_0 S V, wr_0_1 S V, wk_9 S V, cl_k S V hc, cl_r S V hc, cl_p S V hc, cl_q S V hc, zq_rf]; done) | (simp only [zC_n, zC_r, S.n, wr_0_0 S V, wr_0_1 S V, cl_r S V hc, cl_p S V hc, zq_rf]; have := V.lt; omega)), e1]
    simp only [Option.bind_some, Option.toList_some, Option.toList_none, List.cons_append, List.nil_append]
    rw [b80_83, b80_91, e']
  obtain ⟨n, mm, MM, hn24, hmM, hM2, hM4, en, emm, eMM, e00, D⟩ := D
  have hna : n = a := by rw [ea] at en; exact ((nI_eq' (by omega) (by omega)).mp en).symm
  subst hna
  obtain ⟨⟨g1, g2, g3⟩, g4, g5, g6, g7, g8, g9, g10, g11, g12⟩ := G n ha
  obtain ⟨⟨t2, t3, t4, t5, t6⟩, tk⟩ := T.1.2 n ha
  have hmm' : mm = m n := by rw [g2] at emm; exact ((nI_eq' (by omega) (by omega)).mp emm).symm
  subst hmm'
  have hMM' : MM = M := by rw [d1] at eMM; exact ((nI_eq' (by omega) (by omega)).mp eMM).symm
  subst hMM'
  have em : x 3 n = nI (m n) := by rw [t3]; exact g2
  have n13 : ¬ 0 < s (13 * n) := by rw [e00]; decide
  -- the row's nodes stay
  have still : ∀ {ans : Int32}, s1 = up (up s (315 + 24 * c + 4) ans) (315 + 24 * c) 5 → NB (u2 (u2 x (10 + 2 * c) 4 ans) (10 + 2 * c) 0 5) y s1 N' m' := fun {ans} e1 => by
    have so : ∀ k, k ≠ 315 + 24 * c → k ≠ 315 + 24 * c + 4 → s1 k = s k := fun k hk h4 => by rw [e1, up_n _ _ hk, up_n _ _ h4]
    have hN' : N' = N := nI_Neq J (by omega) (by rw [so _ (by omega) (by omega)]; exact a1)
    subst hN'
    refine NB.of T (c := c) ?_ (fun k _ hk => so k (by omega) (by omega)) (fun o j _ h9 _ => by rw [u2_n _ _ (Or.inl h9), u2_n _ _ (Or.inl h9)]) (fun _ _ _ _ => rfl) (KC.dn hs0 (by rw [e1, up_s]) (by rw [e1, up_n _ _ (by omega), up_s]) (fun w _ _ _ => so _ (by omega) (by omega)) (fun _ => rfl))
    have hm' : ∀ b, b < N' → m' b = m b := fun b hb => mI_eq J hb (by have := (G b hb).2.2.2.2.2.2.2.1; omega) (by rw [so _ (by omega) (by omega)]; exact (G b hb).1.2.1)
    have q := T.1.cl (x' := u2 (u2 x (10 + 2 * c) 4 ans) (10 + 2 * c) 0 5) (y' := y) (s' := s1) a3 (fun b hb => by have := (G b hb).2.2.2.2.2.2.2.1; omega) (fun o j ho => by rw [u2_n _ _ (Or.inl (by omega)), u2_n _ _ (Or.inl (by omega))]) (fun _ => rfl) (fun k hk => so k (by omega) (by omega))
    exact ⟨q.1, fun b hb => ⟨(q.2 b hb).1, fun i hi => (q.2 b hb).2 i (by rw [← hm' b hb]; exact hi)⟩⟩
  have stS : ∀ {ans : Int32}, s1 = up (up s (315 + 24 * c + 4) ans) (315 + 24 * c) 5 → ¬ s1 (315 + 24 * c) = 0 ∧ (∀ d, d < 3 → d ≠ c → s1 (315 + 24 * d) = s (315 + 24 * d)) := fun {ans} e1 => ⟨by rw [e1, up_s]; decide, fun d hd hdc => by rw [e1, up_n _ _ (by omega), up_n _ _ (by omega)]⟩
  rcases D with ⟨hk, rfl, e1⟩ | ⟨hk, p, hp, hlo, hhi, D⟩
  · obtain ⟨i, hi, ei⟩ := hkF_iff.mp hk
    refine fin (by decide) (f_h S V hc eN a3 xa ha em (by omega) hi (fun j hj => ?_) ?_) (still e1) (stS e1).1 (stS e1).2
    · rw [(tk j (by omega)).1, w2, ← ei, (g6 j (by omega)).1, (g6 i hi).1]
      exact nI_lt (K_lt I ha hj hi) (by have := (g6 i hi).2; omega)
    · rw [(tk i hi).1, w2]; exact ei
  · have hnk : ∀ i, i < m n → ¬ s (13 * n + (5 + i)) = s (315 + 24 * c + 2) := fun i hi q => by
      have : hkF s n (s (315 + 24 * c + 2)) (m n) = true := hkF_iff.mpr ⟨i, hi, q⟩
      rw [hk] at this; exact absurd this (by decide)
    have hlt : ∀ i, i < p → x 7 (5 * n + i) < x (10 + 2 * c) 2 := fun i hi => by
      have q1 := hlo i hi
      have q2 := hnk i (by omega)
      have q3 := g6 i (by omega)
      rw [(tk i (by omega)).1, w2, q3.1, eke]
      rw [q3.1, eke, nI_lt' (by omega) (by omega)] at q1
      rw [q3.1, eke] at q2
      have q4 : ¬ K n i = ke := fun w => q2 (by rw [w])
      exact nI_lt (by omega) (by omega)
    have hge : p < m n → ¬ x 7 (5 * n + p) < x (10 + 2 * c) 2 := fun hp' => by
      have q1 := hhi p (Nat.le_refl _) hp'
      have q3 := g6 p hp'
      rw [(tk p hp').1, w2, q3.1, eke, nI_lt' (by omega) (by omega)]
      rw [q3.1, eke, nI_lt' (by omega) (by omega)] at q1
      omega
    have hne : ¬ (if p < m n then x 7 (5 * n + p) else -4) = x (10 + 2 * c) 2 := by
      by_cases q : p < m n
      · rw [if_pos q, (tk p q).1, w2]; exact hnk p q
      · rw [if_neg q, w2, eke]
        exact fun w => by have := nI_pos (n := ke) (by omega); rw [← w] at this; exact this (by decide)
    obtain ⟨x0, ex0⟩ : ∃ x0, x0 = tiF x n p (m n) (x (10 + 2 * c) 2) (-4) := ⟨_, rfl⟩
    have cls := f_n S V hc (y := y) eN a3 xa ha em (by omega) hp hlt hge hne (v2 := .double 0)
    have ins := fun (v : Int32) => f_i S V hc (y := y) eN a3 xa ha em (by omega) hp hlt hge (v := v)
    rw [← ex0] at ins
    have x0o : ∀ o k, (o ≠ 3 ∨ k ≠ n) → ((o ≠ 7 ∧ o ≠ 8) ∨ k < 5 * n ∨ 5 * n + 5 ≤ k) → x0 o k = x o k := fun o k h1 h2 => by rw [ex0, ti_g hp (by omega) h1 h2]
    have x03 : x0 3 n = nI (m n + 1) := by rw [ex0, ti_3]
    have x0k : ∀ i, i < m n + 1 → x0 7 (5 * n + i) = blF s n p (s (315 + 24 * c + 2)) i ∧ (0 < s (13 * n) → x0 8 (5 * n + i) = (fun _ => -4 : Nat → Int32) i) := fun i hi => by
      refine ⟨?_, fun q => absurd q n13⟩
      rw [ex0, ti_7 (by omega)]
      unfold blF
      by_cases q : i < p
      · rw [if_pos q, if_pos q]; exact (tk i (by omega)).1
      · rw [if_neg q, if_neg q]
        by_cases q2 : i = p
        · rw [if_pos q2, if_pos q2]; exact w2
        · rw [if_neg q2, if_neg q2]; exact (tk (i - 1) (by omega)).1
    have x0c : ∀ o k, 9 ≤ o → x0 o k = x o k := fun o k ho => x0o o k (by omega) (by omega)
    rcases D with ⟨hlM, rfl, e1⟩ | ⟨hmM2, h24, rfl, e1⟩ | ⟨hmM2, v, ls, hv, hnv, ev, hls, rfl, e1⟩
    · have eo : ∀ k, k < 315 → s1 k = nH s n (blF s n p (s (315 + 24 * c + 2))) (fun _ => -4) (m n + 1) k := fun k hk => by rw [e1, up_n _ _ (by omega), up_n _ _ (by omega)]
      have hN' : N' = N := nI_Neq J (by omega) (by rw [eo _ (by decide), nH_o (by omega) (by omega)]; exact a1)
      subst hN'
      have so : ∀ k, 315 ≤ k → k ≠ 315 + 24 * c → k ≠ 315 + 24 * c + 4 → s1 k = s k := fun k h3 hk h4 => by rw [e1, up_n _ _ hk, up_n _ _ h4, nH_o (by omega) (by omega)]
      refine fin (x1 := u2 (u2 x0 (10 + 2 * c) 4 1) (10 + 2 * c) 0 5) (y1 := y) (by decide) ?_ (NB.of T (c := c) (T.1.node I ha (by omega) J eo (fun o k ho h1 h2 => ?_) ?_ (fun i hi => ?_)) (fun k h3 hk => so k h3 (by omega) (by omega)) (fun o j h10 h9 _ => by rw [u2_n _ _ (Or.inl h9), u2_n _ _ (Or.inl h9), x0c _ _ (by omega)]) (fun _ _ _ _ => rfl) (KC.dn hs0 (by rw [e1, up_s]) (by rw [e1, up_n _ _ (by omega), up_s]) (fun w _ _ _ => so _ (by omega) (by omega) (by omega)) (fun w => x0c _ _ (by omega)))) (by rw [e1, up_s]; decide) (fun d hd hdc => so _ (by omega) (by omega) (by omega))
      · rw [cls, if_pos (by rw [em, eM]; exact nI_lt (by omega) (by omega)), ins, f_o S V hc]
      · rw [u2_n _ _ (Or.inl (by omega)), u2_n _ _ (Or.inl (by omega)), x0o o k h1 h2]
      · rw [u2_n _ _ (Or.inl (by omega)), u2_n _ _ (Or.inl (by omega)), x03]
      · rw [u2_n _ _ (Or.inl (by omega)), u2_n _ _ (Or.inl (by omega)), u2_n _ _ (Or.inl (by omega)), u2_n _ _ (Or.inl (by omega))]; exact x0k i hi
    · refine fin (by decide) ?_ (still e1) (stS e1).1 (stS e1).2
      rw [cls, if_neg (by rw [em, eM, hmM2]; exact Int32.lt_irrefl), if_pos (by rw [a1] at h24; exact (nI_eq' (b := 24) (by omega) (by decide)).mp h24)]
    · have hvN : N = v := by rw [a1] at ev; exact (nI_eq' (by omega) (by omega)).mp ev
      subst hvN
      obtain ⟨bk, ebk⟩ : ∃ bk, bk = blF s n p (s (315 + 24 * c + 2)) := ⟨_, rfl⟩
      rw [← ebk] at e1
      simp only [← ebk] at x0k
      have e2 : s1 = up (poF (s2F s n N (fun i => bk (ls + i)) (fun i => (fun _ => -4 : Nat → Int32) (ls + i)) bk (fun _ => -4) (m n + 1 - ls) ls (bk (ls - 1))) c (0 + 1) (bk (ls - 1)) (nI N) 0) (315 + 24 * c + 4) 1 := by rw [e1, sp_eq]
      have eo : ∀ k, k < 315 → s1 k = s2F s n N (fun i => bk (ls + i)) (fun i => (fun _ => -4 : Nat → Int32) (ls + i)) bk (fun _ => -4) (m n + 1 - ls) ls (bk (ls - 1)) k := fun k hk => by rw [e2, up_n _ _ (by omega), po_o (by omega)]
      have bg : ∀ k, 313 ≤ k → s2F s n N (fun i => bk (ls + i)) (fun i => (fun _ => -4 : Nat → Int32) (ls + i)) bk (fun _ => -4) (m n + 1 - ls) ls (bk (ls - 1)) k = s k := fun k hk => s2_g (by omega) (by omega) (by omega) (by omega) (by omega)
      have hN' : N' = N + 1 := nI_Neq J (by omega) (by
        rw [eo _ (by decide)]; unfold s2F
        rw [up_n _ _ (by omega), up_n _ _ (by omega), nH_o (by omega) (by omega), nH_o (by omega) (by omega), nn_N hv])
      subst hN'
      obtain ⟨x1, ex1⟩ : ∃ x1, x1 = ptK x0 c n N (m n + 1) ls 0 1 := ⟨_, rfl⟩
      obtain ⟨y1, ey1⟩ : ∃ y1, y1 = u2 (u2 y 6 N false) (10 + 2 * c) 11 false := ⟨_, rfl⟩
      have Z := (T.1.split (y1 := y1) I ha hv hls J eo (fun o k _ h1 h2 => x0o o k h1 h2) x0k (x1 := x1) (fun o k ho => by rw [ex1, pt_o (by omega)]) (fun k => by rw [ey1, u2_n _ _ (by omega)])).1
      have kc : KR x1 y1 s1 c := by
        rw [ex1, pt_eq]
        refine KC.ri hs0 hs5 (l := 0 + 1) (by omega) ?_ (mid := bk (ls - 1)) (what := nI N) (dead := 0) (fun w hw => ?_) (fun w => ?_) ?_ ?_ ?_ ?_ ?_ (fun w hw => ?_) ?_ ?_ ?_ ?_ ?_ ?_ (fun w hw => ?_)
        · rcases pa (0 + 1) (by omega) with q | ⟨b, q, hb, -⟩
          · exact Or.inl q
          · exact Or.inr ⟨b, q, by omega⟩
        · rw [u2_n _ _ (by omega), u2_n _ _ (by omega), ts_o ha (by omega), x0c _ _ (by omega)]
        · rw [u2_n _ _ (by omega), u2_n _ _ (by omega), ts_o ha (by omega), x0c _ _ (by omega)]
        · rw [u2_n _ _ (by omega), u2_n _ _ (by omega), ts_o ha (by omega), x0o _ _ (by omega) (by omega)]; exact T.1.1.2.1
        · rw [u2_s, ts_4n ha (by omega)]; exact (x0k (ls - 1) (by omega)).1
        · rw [u2_n _ _ (by omega), u2_s]
        · rw [ey1, u2_s]; decide
        · rw [e2, up_n _ _ (by omega), po_0]
        · rw [e2, up_n _ _ (by omega), po_w (by omega), bg _ (by omega)]
        · rw [e2, up_n _ _ (by omega), po_3, bg _ (by omega), bg _ (by omega)]
        · rw [e2, up_s]
        · rw [e2, up_n _ _ (by omega), po_8]
        · rw [e2, up_n _ _ (by omega), po_9]
        · rw [e2, up_n _ _ (by omega), po_10]
        · rw [e2, up_n _ _ (by omega), po_11]
        · rw [e2, up_n _ _ (by omega), po_w (by omega), bg _ (by omega)]
      refine fin (x1 := x1) (y1 := y1) (by decide) ?_ (NB.of T (c := c) Z (fun k h3 hk => by rw [e2, up_n _ _ (by omega), po_o (by omega), bg _ (by omega)]) (fun o k h10 h9 _ => by rw [ex1, pt_o h9, ts_o ha (by omega), x0c _ _ (by omega)]) (fun o k h10 h9 => by rw [ey1, u2_n _ _ (Or.inl h9), u2_n _ _ (by omega)]) kc) (by rw [e2, up_n _ _ (by omega), po_0]; decide) (fun d hd hdc => by rw [e2, up_n _ _ (by omega), po_o (by omega), bg _ (by omega)])
      rw [cls, if_neg (by rw [em, eM, hmM2]; exact Int32.lt_irrefl), if_neg (by omega), ins, f_s S V hc (x := x0) (by rw [x0o _ _ (by omega) (by omega)]; exact eN) hv (by rw [x0c _ _ (by omega)]; exact xa) ha x03 hls (lv := 0) (by rw [x0o _ _ (by omega) (by omega), t2]; exact e00) (by omega), ex1, ey1]
end R31M
end
section
/-! CLASS AND REFERENCE: a KEY is taken out -/
section R31N
variable {h : zi_Hp} {W : Nat} {x x0 x1 X : Nat → Nat → Int32} {y y1 : Nat → Nat → Bool} {s s1 t : Nat → Int32} {N R M B c n k : Nat} {L m H r : Nat → Nat} {K C : Nat → Nat → Nat} {f : Nat → Nat}
section
variable {j b i : Nat}
theorem tr_g {o k : Nat} (hb : b ≤ 5) (h1 : o ≠ 3 ∨ k ≠ n) (h2 : (o ≠ 7 ∧ o ≠ 8) ∨ k < 5 * n ∨ 5 * n + 5 ≤ k) : trF x n j b o k = x o k := by
  unfold trF slF
  rw [u2_n _ _ h1, if_neg (fun q => by omega)]
theorem tr_3 : trF x n j b 3 n = nI (b - 1) := by unfold trF; rw [u2_s]
theorem tr_7 (hi : i < b - 1) : trF x n j b 7 (5 * n + i) = if i < j then x 7 (5 * n + i) else x 7 (5 * n + (i + 1)) := by
  unfold trF slF
  rw [u2_n _ _ (Or.inl (by decide))]
  by_cases q : i < j
  · rw [if_neg (show ¬ ((7 = 7 ∨ 7 = 8) ∧ 5 * n + j ≤ 5 * n + i ∧ 5 * n + i < 5 * n + (b - 1)) by omega), if_pos q]
  · rw [if_pos (show (7 = 7 ∨ 7 = 8) ∧ 5 * n + j ≤ 5 * n + i ∧ 5 * n + i < 5 * n + (b - 1) by omega), if_neg q, Nat.add_assoc]
end
theorem sim_2T (S : Sh h) (V : Wa W) (T : CR x y s N m) (I : InvG s N R M B L m H r K C f) (hc : c < 3) (h2 : s (315 + 24 * c) = 2) (ha1 : ¬ s (315 + 24 * c + 1) = 1) (hmv : msF s c = true) {cd : Int32} (D : StT s c cd s1) {N' R' M' B' : Nat} {L' m' H' r' : Nat → Nat} {K' C' : Nat → Nat → Nat} {f' : Nat → Nat} (J : InvG s1 N' R' M' B' L' m' H' r' K' C' f') {v2 v3 v4 : Value} : ∃ x' y', zv 5 80 0 [.ref W, .int (nI c), v2, v3, v4] [] (zC h W x y) = some (some (.int cd), zC h W x' y') ∧ CR x' y' (stF s s1 c cd) N' m' := by
  obtain ⟨⟨a1, a2, a3⟩, ⟨b1, b2⟩, ⟨d1, d2, d3⟩, G, o, z⟩ := id I.1
  have hon : onB s c = true := by unfold onB; rw [h2]; decide
  have KC := T.2.1 c hc
  obtain ⟨k0, k1, k2, k3⟩ := id KC
  obtain ⟨-, ke, a, eke, hke, ea, ha, pa, hLa⟩ := at_2 I hc h2
  have hs0 : ¬ s (315 + 24 * c) = 0 := by rw [h2]; decide
  have hs5 : ¬ s (315 + 24 * c) = 5 := by rw [h2]; decide
  have w1 := k1 hs0 1 (by decide) (by decide)
  have w2 := k1 hs0 2 (by decide) (by decide)
  have w3 := k1 hs0 3 (by decide) (by decide)
  have eN : x 1 0 = nI N := by rw [T.1.1.1]; exact a1
  have xa : x (10 + 2 * c) 3 = nI a := by rw [w3]; exact ea
  have go : zv 5 80 0 [.ref W, .int (nI c), v2, v3, v4] [] (zC h W x y) = zv 5 80 86 [.ref W, .int (nI c), .ref (W + (10 + 2 * c)), .int 1, v4] [] (zC h W x y) := by
    rw [adv_go S V hc eN a3 (n := a) (fun _ => ⟨xa, ha⟩) (by rw [T.mv I hc (fun _ => ⟨ea, ha⟩)]; exact hmv), b80_30_c2 (by first | (simp only [zC_n, zC_k, zC_r, S.n, wk_0 S V, wk_1 S V, wr_0_0 S V, wr_0_1 S V, wk_9 S V, cl_k S V hc, cl_r S V hc, cl_p S V hc, cl_q S V hc, zq_rf]; done) | (simp only [zC_n, zC_r, S.n, wr_0_0 S V, wr_0_1 S V, cl_r S V hc, cl_p S V hc, zq_rf]; have := V.lt; omega)) (by first | (simp only [zC_n, zC_k, zC_r, S.n, wk_0 S V, wk_1 S V, wr_0_0 S V, wr_0_1 S V, wk_9 S V, cl_k S V hc, cl_r S V hc, cl_p S V hc, cl_q S V hc, zq_rf]; done) | (simp only [zC_n, zC_r, S.n, wr_0_0 S V, wr_0_1 S V, cl_r S V hc, cl_p S V hc, zq_rf]; have := V.lt; omega)) (by rw [zC_i (by omega), k0]; exact h2), k0, h2, decide_eq_true rfl, zi_bI_t, b80_70 (by first | (simp only [zC_n, zC_k, zC_r, S.n, wk_0 S V, wk_1 S V, wr_0_0 S V, wr_0_1 S V, wk_9 S V, cl_k S V hc, cl_r S V hc, cl_p S V hc, cl_q S V hc, zq_rf]; done) | (simp only [zC_n, zC_r, S.n, wr_0_0 S V, wr_0_1 S V, cl_r S V hc, cl_p S V hc, zq_rf]; have := V.lt; omega)) (by first | (simp only [zC_n, zC_k, zC_r, S.n, wk_0 S V, wk_1 S V, wr_0_0 S V, wr_0_1 S V, wk_9 S V, cl_k S V hc, cl_r S V hc, cl_p S V hc, cl_q S V hc, zq_rf]; done) | (simp only [zC_n, zC_r, S.n, wr_0_0 S V, wr_0_1 S V, cl_r S V hc, cl_p S V hc, zq_rf]; have := V.lt; omega)), zC_i (by omega), w1, if_neg ha1]
  have fin : ∀ {x1 : Nat → Nat → Int32} {y1 : Nat → Nat → Bool}, 0 < cd → zv 4 89 0 [.ref W, .ref (W + (10 + 2 * c))] [] (zC h W x y) = some (some (.int cd), zC h W x1 y1) → NB x1 y1 s1 N' m' → ¬ s1 (315 + 24 * c) = 0 → (∀ d, d < 3 → d ≠ c → s1 (315 + 24 * d) = s (315 + 24 * d)) → ∃ x' y', zv 5 80 0 [.ref W, .int (nI c), v2, v3, v4] [] (zC h W x y) = some (some (.int cd), zC h W x' y') ∧ CR x' y' (stF s s1 c cd) N' m' := fun {x1 y1} hp e1 Z hs est => by
    obtain ⟨x', e', R⟩ := sim_h S V hc hp Z J hon hs est
    refine ⟨x', y1, ?_, R⟩
    rw [go, b80_86 (by first | (simp only [zC_n, zC_k, zC_r, S.n, wk_0 S V, wk_1 S V, wr_0_0 S V, wr_0_1 S V, wk_9 S V, cl_k S V hc, cl_r S V hc, cl_p S V hc, cl_q S V hc, zq_rf]; done) | (simp only [zC_n, zC_r, S.n, wr_0_0 S V, wr_0_1 S V, cl_r S V hc, cl_p S V hc, zq_rf]; have := V.lt; omega)) (by first | (simp only [zC_n, zC_k, zC_r, S.n, wk_0 S V, wk_1 S V, wr_0_0 S V, wr_0_1 S V, wk_9 S V, cl_k S V hc, cl_r S V hc, cl_p S V hc, cl_q S V hc, zq_rf]; done) | (simp only [zC_n, zC_r, S.n, wr_0_0 S V, wr_0_1 S V, cl_r S V hc, cl_p S V hc, zq_rf]; have := V.lt; omega)), e1]
    simp only [Option.bind_some, Option.toList_some, Option.toList_none, List.cons_append, List.nil_append]
    rw [b80_91, e']
  obtain ⟨n, mm, hn24, hm4, en, emm, e00, D⟩ := D
  have hna : n = a := by rw [ea] at en; exact ((nI_eq' (by omega) (by omega)).mp en).symm
  subst hna
  obtain ⟨⟨g1, g2, g3⟩, g4, g5, g6, g7, g8, g9, g10, g11, g12⟩ := G n ha
  obtain ⟨⟨t2, t3, t4, t5, t6⟩, tk⟩ := T.1.2 n ha
  have hmm' : mm = m n := by rw [g2] at emm; exact ((nI_eq' (by omega) (by omega)).mp emm).symm
  subst hmm'
  have em : x 3 n = nI (m n) := by rw [t3]; exact g2
  have n13 : ¬ 0 < s (13 * n) := by rw [e00]; decide
  rcases D with ⟨hk, rfl, e1⟩ | ⟨hk, p, hp, ep, hne, D⟩
  · have hnk : ∀ i, i < m n → ¬ s (13 * n + (5 + i)) = s (315 + 24 * c + 2) := fun i hi q => by
      have : hkF s n (s (315 + 24 * c + 2)) (m n) = true := hkF_iff.mpr ⟨i, hi, q⟩
      rw [hk] at this; exact absurd this (by decide)
    obtain ⟨j, hj, hlt, hge⟩ := pl_ex (P := fun i => x 7 (5 * n + i) < x (10 + 2 * c) 2) (m n)
    have hne : ¬ (if j < m n then x 7 (5 * n + j) else -4) = x (10 + 2 * c) 2 := by
      by_cases q : j < m n
      · rw [if_pos q, (tk j q).1, w2]; exact hnk j q
      · rw [if_neg q, w2, eke]
        exact fun w => by have := nI_pos (n := ke) (by omega); rw [← w] at this; exact this (by decide)
    have so : ∀ k, k ≠ 315 + 24 * c → k ≠ 315 + 24 * c + 4 → s1 k = s k := fun k hk h4 => by rw [e1, up_n _ _ hk, up_n _ _ h4]
    have hN' : N' = N := nI_Neq J (by omega) (by rw [so _ (by omega) (by omega)]; exact a1)
    subst hN'
    refine fin (by decide) (e_n S V hc eN a3 xa ha em (by omega) hj hlt hge hne) (NB.of T (c := c) ?_ (fun k _ hk => so k (by omega) (by omega)) (fun o j _ h9 _ => by rw [u2_n _ _ (Or.inl h9), u2_n _ _ (Or.inl h9)]) (fun _ _ _ _ => rfl) (KC.dn hs0 (by rw [e1, up_s]) (by rw [e1, up_n _ _ (by omega), up_s]) (fun w _ _ _ => so _ (by omega) (by omega)) (fun _ => rfl))) (by rw [e1, up_s]; decide) (fun d hd hdc => so _ (by omega) (by omega))
    have hm' : ∀ b, b < N' → m' b = m b := fun b hb => mI_eq J hb (by have := (G b hb).2.2.2.2.2.2.2.1; omega) (by rw [so _ (by omega) (by omega)]; exact (G b hb).1.2.1)
    have q := T.1.cl (x' := u2 (u2 x (10 + 2 * c) 4 0) (10 + 2 * c) 0 5) (y' := y) (s' := s1) a3 (fun b hb => by have := (G b hb).2.2.2.2.2.2.2.1; omega) (fun o j ho => by rw [u2_n _ _ (Or.inl (by omega)), u2_n _ _ (Or.inl (by omega))]) (fun _ => rfl) (fun k hk => so k (by omega) (by omega))
    exact ⟨q.1, fun b hb => ⟨(q.2 b hb).1, fun i hi => (q.2 b hb).2 i (by rw [← hm' b hb]; exact hi)⟩⟩
  · have cls := e_h S V hc (y := y) eN a3 xa ha em (by omega) hp (fun i hi => by
      rw [(tk i (by omega)).1, w2, ← ep, (g6 i (by omega)).1, (g6 p hp).1]
      exact nI_lt (K_lt I ha hi hp) (by have := (g6 p hp).2; omega)) (by rw [(tk p hp).1, w2]; exact ep)
    obtain ⟨X, eX⟩ : ∃ X, X = trF x n p (m n) := ⟨_, rfl⟩
    rw [← eX, t5] at cls
    have Xo : ∀ o k, (o ≠ 3 ∨ k ≠ n) → ((o ≠ 7 ∧ o ≠ 8) ∨ k < 5 * n ∨ 5 * n + 5 ≤ k) → X o k = x o k := fun o k h1 h2 => by rw [eX, tr_g (by omega) h1 h2]
    have X3 : X 3 n = nI (m n - 1) := by rw [eX, tr_3]
    have Xk : ∀ i, i < m n - 1 → X 7 (5 * n + i) = rmF s n 5 p i := fun i hi => by
      rw [eX, tr_7 hi]
      unfold rmF
      by_cases q : i < p
      · rw [if_pos q, if_pos q]; exact (tk i (by omega)).1
      · rw [if_neg q, if_neg q]; exact (tk (i + 1) (by omega)).1
    have Xc : ∀ o k, 9 ≤ o → X o k = x o k := fun o k ho => Xo o k (by omega) (by omega)
    rcases D with ⟨hor, rfl, e1⟩ | ⟨hm1, hr, rfl, e1⟩
    · have eo : ∀ k, k < 315 → s1 k = nH s n (rmF s n 5 p) (fun _ => -4) (m n - 1) k := fun k hk => by rw [e1, up_n _ _ (by omega), up_n _ _ (by omega)]
      have hN' : N' = N := nI_Neq J (by omega) (by rw [eo _ (by decide), nH_o (by omega) (by omega)]; exact a1)
      subst hN'
      have so : ∀ k, 315 ≤ k → k ≠ 315 + 24 * c → k ≠ 315 + 24 * c + 4 → s1 k = s k := fun k h3 hk h4 => by rw [e1, up_n _ _ hk, up_n _ _ h4, nH_o (by omega) (by omega)]
      refine fin (x1 := u2 (u2 X (10 + 2 * c) 4 1) (10 + 2 * c) 0 5) (y1 := y) (by decide) ?_ (NB.of T (c := c) (T.1.node I ha (by omega) J eo (fun o k ho h1 h2 => ?_) ?_ (fun i hi => ?_)) (fun k h3 hk => so k h3 (by omega) (by omega)) (fun o j h10 h9 _ => by rw [u2_n _ _ (Or.inl h9), u2_n _ _ (Or.inl h9), Xc _ _ (by omega)]) (fun _ _ _ _ => rfl) (KC.dn hs0 (by rw [e1, up_s]) (by rw [e1, up_n _ _ (by omega), up_s]) (fun w _ _ _ => so _ (by omega) (by omega) (by omega)) (fun w => Xc _ _ (by omega)))) (by rw [e1, up_s]; decide) (fun d hd hdc => so _ (by omega) (by omega) (by omega))
      · rw [cls, if_pos ?_]
        rcases hor with q | q
        · exact Or.inl (nI_lt (a := 0) (by omega) (by omega))
        · exact Or.inr (by rw [q]; decide)
      · rw [u2_n _ _ (Or.inl (by omega)), u2_n _ _ (Or.inl (by omega)), Xo o k h1 h2]
      · rw [u2_n _ _ (Or.inl (by omega)), u2_n _ _ (Or.inl (by omega)), X3]
      · rw [u2_n _ _ (Or.inl (by omega)), u2_n _ _ (Or.inl (by omega))]; exact ⟨Xk i hi, fun q => absurd q n13⟩
    · have hRr : s (13 * n + 3) = nI (r n) ∧ r n < N := by
        rcases g4 with ⟨q1, q2⟩ | q
        · exact absurd q1 hr
        · exact ⟨q.1, q.2.1⟩
      have eo : ∀ k, k < 315 → k ≠ 13 * n + 4 → s1 k = nH s n (rmF s n 5 0) (fun _ => -4) 0 k := fun k hk h4 => by rw [e1, po_o (by omega), up_n _ _ h4, up_n _ _ (by omega)]
      have e4 : s1 (13 * n + 4) = 1 := by rw [e1, po_o (by omega), up_s]
      have hN' : N' = N := nI_Neq J (by omega) (by rw [eo _ (by decide) (by omega), nH_o (by omega) (by omega)]; exact a1)
      subst hN'
      have bg : ∀ k, 313 ≤ k → k ≠ 315 + 24 * c + 4 → (up (up (nH s n (rmF s n 5 0) (fun _ => -4) 0) (315 + 24 * c + 4) 1) (13 * n + 4) 1) k = s k := fun k hk h4 => by rw [up_n _ _ (by omega), up_n _ _ h4, nH_o (by omega) (by omega)]
      have mn : m' n = 0 := mI_eq J ha (by omega) (by rw [eo _ (by omega) (by omega), nH_1])
      have ma : ∀ b, b < N' → b ≠ n → m' b = m b := fun b hb hbn => mI_eq J hb (by have := (G b hb).2.2.2.2.2.2.2.1; omega) (by rw [eo _ (by omega) (by omega), nH_ne (by omega) hbn (by decide)]; exact (G b hb).1.2.1)
      obtain ⟨x1, ex1⟩ : ∃ x1, x1 = diK X c n := ⟨_, rfl⟩
      obtain ⟨y1, ey1⟩ : ∃ y1, y1 = u2 (u2 y 6 n true) (10 + 2 * c) 11 true := ⟨_, rfl⟩
      have x1o : ∀ o k, o ≠ 10 + 2 * c → x1 o k = X o k := fun o k ho => by
        rw [ex1]; unfold diK riK
        rw [u2_n _ _ (Or.inl ho), u2_n _ _ (Or.inl ho), u2_n _ _ (Or.inl ho), u2_n _ _ (Or.inl ho), u2_n _ _ (Or.inl ho), u2_n _ _ (Or.inl ho)]
      have Z : CN x1 y1 s1 N' m' := by
        refine ⟨⟨?_, ?_, ?_⟩, fun b hb => ?_⟩
        · rw [x1o _ _ (by omega), Xo _ _ (by omega) (by omega), eo _ (by omega) (by omega), nH_o (by omega) (by omega)]; exact T.1.1.1
        · rw [x1o _ _ (by omega), Xo _ _ (by omega) (by omega), eo _ (by omega) (by omega), nH_o (by omega) (by omega)]; exact T.1.1.2.1
        · rw [x1o _ _ (by omega), Xo _ _ (by omega) (by omega), eo _ (by omega) (by omega), nH_o (by omega) (by omega)]; exact T.1.1.2.2
        · by_cases hbn : b = n
          · subst hbn
            refine ⟨⟨?_, ?_, ?_, ?_, ?_⟩, fun i hi => ?_⟩
            · rw [x1o _ _ (by omega), Xo _ _ (by omega) (by omega), eo _ (by omega) (by omega), nH_o (by omega) (by omega)]; exact t2
            · rw [x1o _ _ (by omega), X3, eo _ (by omega) (by omega), nH_1, hm1]
            · rw [x1o _ _ (by omega), Xo _ _ (by omega) (by omega), eo _ (by omega) (by omega), nH_o (by omega) (by omega)]; exact t4
            · rw [x1o _ _ (by omega), Xo _ _ (by omega) (by omega), eo _ (by omega) (by omega), nH_o (by omega) (by omega)]; exact t5
            · rw [ey1, u2_n _ _ (by omega), u2_s, e4]; rfl
            · rw [mn] at hi; exact absurd hi (Nat.not_lt_zero _)
          · obtain ⟨⟨q2, q3, q4, q5, q6⟩, qk⟩ := T.1.2 b hb
            have g10' := (G b hb).2.2.2.2.2.2.2.1
            refine ⟨⟨?_, ?_, ?_, ?_, ?_⟩, fun i hi => ?_⟩
            · rw [x1o _ _ (by omega), Xo _ _ (by omega) (by omega), eo _ (by omega) (by omega), nH_o (by omega) (by omega)]; exact q2
            · rw [x1o _ _ (by omega), Xo _ _ (by omega) (by omega), eo _ (by omega) (by omega), nH_o (by omega) (by omega)]; exact q3
            · rw [x1o _ _ (by omega), Xo _ _ (by omega) (by omega), eo _ (by omega) (by omega), nH_o (by omega) (by omega)]; exact q4
            · rw [x1o _ _ (by omega), Xo _ _ (by omega) (by omega), eo _ (by omega) (by omega), nH_o (by omega) (by omega)]; exact q5
            · rw [ey1, u2_n _ _ (by omega), u2_n _ _ (by omega), eo _ (by omega) (by omega), nH_o (by omega) (by omega)]; exact q6
            · rw [ma b hb hbn] at hi
              rw [x1o _ _ (by omega), x1o _ _ (by omega), Xo _ _ (by omega) (by omega), Xo _ _ (by omega) (by omega), eo _ (by omega) (by omega), nH_o (by omega) (by omega), eo _ (by omega) (by omega), nH_o (by omega) (by omega), eo _ (by omega) (by omega), nH_o (by omega) (by omega)]
              exact qk i hi
      have kc : KR x1 y1 s1 c := by
        rw [ex1]; unfold diK
        refine KC.ri hs0 hs5 (l := 1) (by omega) ?_ (mid := s (13 * n + 2)) (what := nI n) (dead := 1) (fun w hw => ?_) (fun w => ?_) ?_ ?_ ?_ ?_ ?_ (fun w hw => ?_) ?_ ?_ ?_ ?_ ?_ ?_ (fun w hw => ?_)
        · rcases pa 1 (by omega) with q | ⟨b, q, hb, -⟩
          · exact Or.inl q
          · exact Or.inr ⟨b, q, by omega⟩
        · rw [u2_n _ _ (by omega), u2_n _ _ (by omega), Xc _ _ (by omega)]
        · rw [u2_n _ _ (by omega), u2_n _ _ (by omega), Xc _ _ (by omega)]
        · rw [u2_n _ _ (by omega), u2_n _ _ (by omega), Xo _ _ (by omega) (by omega)]; exact T.1.1.2.1
        · rw [u2_s, Xo _ _ (by omega) (by omega)]; exact t4
        · rw [u2_n _ _ (by omega), u2_s]
        · rw [ey1, u2_s]; rfl
        · rw [e1, po_0]
        · rw [e1, po_w (by omega), bg _ (by omega) (by omega)]
        · rw [e1, po_3, bg _ (by omega) (by omega), bg _ (by omega) (by omega)]
        · rw [e1, po_w (by omega), up_n _ _ (by omega), up_s]
        · rw [e1, po_8]
        · rw [e1, po_9]
        · rw [e1, po_10]
        · rw [e1, po_11]
        · rw [e1, po_w (by omega), bg _ (by omega) (by omega)]
      refine fin (x1 := x1) (y1 := y1) (by decide) ?_ (NB.of T (c := c) Z (fun k h3 hk => by rw [e1, po_o (by omega), bg _ (by omega) (by omega)]) (fun o k h10 h9 _ => by rw [x1o _ _ h9, Xc _ _ (by omega)]) (fun o k h10 h9 => by rw [ey1, u2_n _ _ (Or.inl h9), u2_n _ _ (by omega)]) kc) (by rw [e1, po_0]; decide) (fun d hd hdc => by rw [e1, po_o (by omega), bg _ (by omega) (by omega)])
      rw [cls, if_neg ?_, e_d S V hc (x := X) (by rw [Xo _ _ (by omega) (by omega)]; exact eN) a3 (by rw [Xc _ _ (by omega)]; exact xa) ha, ex1, ey1]
      rw [hm1, hRr.1]
      rintro (q | q)
      · exact absurd q (by decide)
      · exact nI_pos (by omega) q
end R31N
end
section
/-! CLASS AND REFERENCE: every step -/
section R31O
variable {h : zi_Hp} {W : Nat} {x x0 x1 X : Nat → Nat → Int32} {y y1 : Nat → Nat → Bool} {s s1 t : Nat → Int32} {N R M B c n k : Nat} {L m H r : Nat → Nat} {K C : Nat → Nat → Nat} {f : Nat → Nat}
/-- who may not step does nothing -/
theorem ms_0 (I : InvG s N R M B L m H r K C f) (hc : c < 3) (hm : msF s c = false) {cd : Int32} (A : StA s c cd s1) : cd = 0 ∧ s1 = s := by
  obtain ⟨⟨⟨a1, a2, a3⟩, ⟨b1, b2⟩, -, G, -⟩, -, -⟩ := id I
  unfold msF at hm
  rw [Bool.and_eq_false_iff] at hm
  rcases hm with ho | hz
  · unfold onB at ho
    rw [decide_eq_false_iff_not] at ho
    have no : ∀ v : Int32, ¬ v = 0 → ¬ v = 5 → s (315 + 24 * c) = v → False := fun v h0 h5 e => ho ⟨by rw [e]; exact h0, by rw [e]; exact h5⟩
    rcases A with ⟨t1, -⟩ | ⟨t1, -⟩ | ⟨t1, -⟩ | ⟨t1, -⟩ | ⟨t1, -⟩ | ⟨t1, -⟩ | ⟨-, t2, t3⟩
    · exact (no _ (by decide) (by decide) t1).elim
    · exact (no _ (by decide) (by decide) t1).elim
    · exact (no _ (by decide) (by decide) t1).elim
    · exact (no _ (by decide) (by decide) t1).elim
    · exact (no _ (by decide) (by decide) t1).elim
    · exact (no _ (by decide) (by decide) t1).elim
    · exact ⟨t2, t3⟩
  · rw [Bool.not_eq_false'] at hz
    unfold sbF at hz
    by_cases h1 : s (315 + 24 * c) = 1
    · have hon : onB s c = true := by unfold onB; rw [h1]; decide
      obtain ⟨a, ha, ea⟩ := I.at hc hon
      rw [if_pos h1, decide_eq_true_eq, ea, nI_clamp (by omega)] at hz
      obtain ⟨z4, z2, z0, z1, zl⟩ := hz
      have no : ∀ v : Int32, ¬ v = 1 → s (315 + 24 * c) = v → False := fun v hv e => hv (by rw [← e]; exact h1)
      rcases A with ⟨-, D⟩ | ⟨t1, -⟩ | ⟨t1, -⟩ | ⟨t1, -⟩ | ⟨t1, -⟩ | ⟨t1, -⟩ | ⟨t1, -⟩
      · obtain ⟨n, hn, e, D⟩ := D
        have en : n = a := by rw [ea] at e; exact ((nI_eq' (by omega) (by omega)).mp e).symm
        subst en
        rcases D with ⟨q, -, -⟩ | ⟨-, -, ⟨t, j, q1, q2, q3, -⟩ | ⟨-, ⟨q, -⟩ | ⟨-, q, -⟩ | ⟨-, -, q1, q2⟩⟩⟩
        · rcases q with q | q
          · rw [z4] at q; exact absurd q (by decide)
          · exact absurd q z2
        · rw [z0] at q3
          have := (nI_eq' (a := 0) (b := t) (by decide) (by omega)).mp q3
          omega
        · exact absurd q z1
        · exact absurd q zl
        · exact ⟨q1, q2⟩
      · exact (no _ (by decide) t1).elim
      · exact (no _ (by decide) t1).elim
      · exact (no _ (by decide) t1).elim
      · exact (no _ (by decide) t1).elim
      · exact (no _ (by decide) t1).elim
      · rcases t1 with t1 | t1
        · exact (no _ (by decide) t1).elim
        · exact (no _ (by decide) t1).elim
    · rw [if_neg h1, decide_eq_true_eq] at hz
      have h3 := hz.1
      have hon : onB s c = true := by unfold onB; rw [h3]; decide
      obtain ⟨a, ha, ea⟩ := I.at hc hon
      rw [ea, nI_clamp (by omega), b1, nI_clamp (by omega)] at hz
      obtain ⟨-, zr, z0, z2, zl⟩ := hz
      have no : ∀ v : Int32, ¬ v = 3 → s (315 + 24 * c) = v → False := fun v hv e => hv (by rw [← e]; exact h3)
      rcases A with ⟨t1, -⟩ | ⟨t1, -⟩ | ⟨t1, -⟩ | ⟨-, D⟩ | ⟨t1, -⟩ | ⟨t1, -⟩ | ⟨t1, -⟩
      · exact (no _ (by decide) t1).elim
      · exact (no _ (by decide) t1).elim
      · exact (no _ (by decide) t1).elim
      · obtain ⟨n, r9, hn, hr, e, er, D⟩ := D
        have en : n = a := by rw [ea] at e; exact ((nI_eq' (by omega) (by omega)).mp e).symm
        have en' : r9 = R := by rw [b1] at er; exact ((nI_eq' (by omega) (by omega)).mp er).symm
        subst en en'
        rcases D with ⟨q, -⟩ | ⟨-, ⟨q, -⟩ | ⟨-, ⟨q, -⟩ | ⟨-, ⟨q, -⟩ | ⟨-, q, -⟩ | ⟨-, -, q1, q2⟩⟩⟩⟩
        · exact absurd q zr
        · rw [z0] at q; exact absurd q (Int32.lt_irrefl)
        · exact absurd q z2
        · rw [z0] at q; exact absurd q (Int32.lt_irrefl)
        · exact absurd q zl
        · exact ⟨q1, q2⟩
      · exact (no _ (by decide) t1).elim
      · exact (no _ (by decide) t1).elim
      · rcases t1 with t1 | t1
        · exact (no _ (by decide) t1).elim
        · exact (no _ (by decide) t1).elim
theorem std_o {k0 : Int32} (D : StD s c k0 s1) : ∀ k, k < 315 → s1 k = s k := fun k hk => by
  obtain ⟨n, hn, e, D⟩ := D
  rcases D with ⟨-, -, rfl⟩ | ⟨-, -, ⟨t, j, -, -, -, -, -, -, -, rfl⟩ | ⟨-, ⟨-, mm, -, -, -, rfl⟩ | ⟨-, -, -, rfl⟩ | ⟨-, -, -, rfl⟩⟩⟩
  · rw [up_n _ _ (by omega)]
  · rw [up_n _ _ (by omega), up_n _ _ (by omega)]
  · rw [up_n _ _ (by omega), up_n _ _ (by omega)]
  · rw [up_n _ _ (by omega)]
  · rfl
theorem sto_o {k0 : Int32} (D : StO s c k0 s1) (h7 : ¬ k0 = 7) : ∀ k, k < 315 → s1 k = s k := fun k hk => by
  obtain ⟨n, r9, hn, hr, e, er, D⟩ := D
  rcases D with ⟨-, ⟨-, -, rfl⟩ | ⟨-, v, -, -, w, -⟩⟩ | ⟨-, ⟨-, -, rfl⟩ | ⟨-, ⟨-, -, rfl⟩ | ⟨-, ⟨-, j, -, -, -, -, rfl⟩ | ⟨-, -, -, rfl⟩ | ⟨-, -, -, rfl⟩⟩⟩⟩
  · rw [up_n _ _ (by omega)]
  · exact absurd w h7
  · rw [up_n _ _ (by omega)]
  · rw [up_n _ _ (by omega)]
  · rw [up_n _ _ (by omega)]
  · rw [up_n _ _ (by omega)]
  · rfl
theorem CR.cg (T : CR x y t N m) (I : InvG s N R M B L m H r K C f) {N' R' M' B' : Nat} {L' m' H' r' : Nat → Nat} {K' C' : Nat → Nat → Nat} {f' : Nat → Nat} (J : InvG s1 N' R' M' B' L' m' H' r' K' C' f') (e : ∀ k, k < 315 → s1 k = s k) : CR x y t N' m' := by
  have hN := I.1.1.2.2
  have M4 := I.1.2.2.1.2.2
  have hN' : N' = N := nI_Neq J (by omega) (by rw [e _ (by decide)]; exact I.1.1.1)
  subst hN'
  refine ⟨⟨T.1.1, fun n hn => ⟨(T.1.2 n hn).1, fun i hi => (T.1.2 n hn).2 i ?_⟩⟩, T.2⟩
  have := (I.1.2.2.2.1 n hn).2.2.2.2.2.2.2.1
  have em : m' n = m n := mI_eq J hn (by omega) (by rw [e _ (by omega)]; exact (I.1.2.2.2.1 n hn).1.2.1)
  rw [← em]; exact hi
/-- the program's advance is the reference's step -/
theorem sim_step (S : Sh h) (V : Wa W) (T : CR x y s N m) (I : InvG s N R M B L m H r K C f) (hc : c < 3) {cd : Int32} (A : StA s c cd s1) {N' R' M' B' : Nat} {L' m' H' r' : Nat → Nat} {K' C' : Nat → Nat → Nat} {f' : Nat → Nat} (J : InvG s1 N' R' M' B' L' m' H' r' K' C' f') {v2 v3 v4 : Value} : ∃ x' y', zv 5 80 0 [.ref W, .int (nI c), v2, v3, v4] [] (zC h W x y) = some (some (.int cd), zC h W x' y') ∧ CR x' y' (stF s s1 c cd) N' m' := by
  cases hmv : msF s c with
  | false =>
    obtain ⟨rfl, e2⟩ := ms_0 I hc hmv A
    obtain ⟨k0, k1, -, -⟩ := T.2.1 c hc
    have eN : x 1 0 = nI N := by rw [T.1.1.1]; exact I.1.1.1
    refine ⟨x, y, ?_, ?_⟩
    · by_cases hu : ¬ s (315 + 24 * c) = 0 ∧ ¬ s (315 + 24 * c) = 5
      · obtain ⟨a, ha, ea⟩ := I.at hc (by unfold onB; exact decide_eq_true hu)
        exact adv_no S V hc eN I.1.1.2.2 (n := a) (fun _ => ⟨by rw [k1 hu.1 3 (by decide) (by decide)]; exact ea, ha⟩) (by rw [T.mv I hc (fun _ => ⟨ea, ha⟩)]; exact hmv)
      · exact adv_no S V hc eN I.1.1.2.2 (n := 0) (fun q => absurd (by rw [← k0]; exact q) hu) (by rw [T.mv I hc (fun q => absurd q hu)]; exact hmv)
    · unfold stF
      rw [if_neg (by decide), e2]
      exact T.cg I J (fun k _ => by rw [e2])
  | true =>
    rcases A with ⟨t1, D⟩ | ⟨t1, t2, D⟩ | ⟨t1, t2, D⟩ | ⟨t1, D⟩ | ⟨t1, t2, D⟩ | ⟨t1, t2, D⟩ | ⟨t1, t2, t3⟩
    · obtain ⟨x', y', e, Q⟩ := sim_1 S V T I hc t1 hmv D (v2 := v2) (v3 := v3) (v4 := v4)
      exact ⟨x', y', e, Q.cg I J (std_o D)⟩
    · exact sim_2P S V T I hc t1 t2 hmv D J
    · exact sim_2T S V T I hc t1 t2 hmv D J
    · by_cases h7 : cd = 7
      · subst h7
        exact sim_3N S V T I hc t1 hmv D J
      · obtain ⟨x', y', e, Q⟩ := sim_3 S V T I hc t1 hmv D h7 (v2 := v2) (v3 := v3) (v4 := v4)
        exact ⟨x', y', e, Q.cg I J (sto_o D h7)⟩
    · exact sim_4X S V T I hc t1 t2 hmv D J
    · exact sim_4Y S V T I hc t1 t2 hmv D J
    · have : msF s c = false := by
        unfold msF onB
        rw [decide_eq_false (fun q => by rcases t1 with w | w; exact q.1 w; exact q.2 w)]; rfl
      rw [this] at hmv
      exact absurd hmv (by decide)
end R31O
end
section
/-! THE CLASS'S TREE: totals -/
/-- a loop that may end early -/
theorem lpE {α β : Type} {F : α → Int32 → β} {E : Bool → β} {P : Nat → Prop} {N : Nat} (lo : Nat) (h1 : ∀ n, lo ≤ n → n < N → ∀ v, (P n ∧ ∃ v', F v (nI n) = F v' (nI (n + 1))) ∨ (¬ P n ∧ F v (nI n) = E false)) (h2 : ∀ v, F v (nI N) = E true) : ∀ d n v, lo ≤ n → n + d = N → ∃ b : Bool, F v (nI n) = E b ∧ (b = true ↔ ∀ k, n ≤ k → k < N → P k)
  | 0, n, v, _, hn => by
    have e : n = N := by omega
    subst e
    exact ⟨true, h2 v, fun _ k h3 h4 => absurd h4 (by omega), fun _ => rfl⟩
  | d + 1, n, v, hl, hn => by
    rcases h1 n hl (by omega) v with ⟨p, v', e⟩ | ⟨p, e⟩
    · obtain ⟨b, e2, hb⟩ := lpE lo h1 h2 d (n + 1) v' (by omega) (by omega)
      refine ⟨b, e.trans e2, hb.trans ⟨fun q k h3 h4 => ?_, fun q k h3 h4 => q k (by omega) h4⟩⟩
      by_cases ek : k = n
      · rw [ek]; exact p
      · exact q k (by omega) h4
    · exact ⟨false, e, fun q => absurd q (by decide), fun q => absurd (q n (Nat.le_refl _) (by omega)) p⟩
section R32A
variable {h : zi_Hp} {W : Nat} {x : Nat → Nat → Int32} {y : Nat → Nat → Bool} {N : Nat} {M : Nat → Nat}
theorem t_lk (S : Sh h) (V : Wa W) (eN : x 1 0 = nI N) (hN : N ≤ 24) {u1 u2 : Value} : zv 3 58 0 [.ref (W + 1), u1, u2] [] (zC h W x y) = some (some (.int (itF (fun n a => if (decide (x 2 n = 0) && !y 6 n) = true then a + x 3 n else a) N 0 0)), zC h W x y) := by
  have hy : True := trivial
  rw [b58_0]
  refine lpF (F := fun a n => zv 3 58 4 [.ref (W + 1), .int a, .int n] [] (zC h W x y)) (E := fun a => some (some (.int a), zC h W x y)) (g := fun n a => if (decide (x 2 n = 0) && !y 6 n) = true then a + x 3 n else a) (N := N) (fun n a hn => ?_) (fun a => ?_) N 0 0 (Nat.zero_add _)
  · have hz : ¬ (nI n < 0 ∨ 24 ≤ (nI n).toNatClampNeg) := zj_n (by omega) (by decide)
    try dsimp only
    rw [b58_4 (by first | (simp +decide only [zC_n, zC_k, zC_r, S.n, wk_0 S V, wk_1 S V, wk_2 S V, wk_3 S V, wk_4 S V, wk_5 S V, wk_6 S V, wk_7 S V, wk_8 S V, wk_9 S V, wk_10 S V, wk_11 S V, wk_12 S V, wk_13 S V, wk_14 S V, wk_15 S V, wr_0_0 S V, wr_0_1 S V, wr_1_3 S V, wr_1_4 S V, wr_1_5 S V, wr_1_6 S V, wr_1_7 S V, wr_1_8 S V, wr_1_9 S V, wr_9_0 S V, wr_9_1 S V, wr_9_2 S V, wr_10_12 S V, wr_12_12 S V, wr_14_12 S V, zq_rf, hz, hy]; done) | (simp only [zC_n, zC_r, S.n, wk_0 S V, wk_1 S V, wk_2 S V, wk_3 S V, wk_4 S V, wk_5 S V, wk_6 S V, wk_7 S V, wk_8 S V, wk_9 S V, wk_10 S V, wk_11 S V, wk_12 S V, wk_13 S V, wk_14 S V, wk_15 S V, wr_0_0 S V, wr_0_1 S V, wr_1_3 S V, wr_1_4 S V, wr_1_5 S V, wr_1_6 S V, wr_1_7 S V, wr_1_8 S V, wr_1_9 S V, wr_9_0 S V, wr_9_1 S V, wr_9_2 S V, wr_10_12 S V, wr_12_12 S V, wr_14_12 S V, zq_rf]; have := V.lt; omega)) (by first | (simp +decide only [zC_n, zC_k, zC_r, S.n, wk_0 S V, wk_1 S V, wk_2 S V, wk_3 S V, wk_4 S V, wk_5 S V, wk_6 S V, wk_7 S V, wk_8 S V, wk_9 S V, wk_10 S V, wk_11 S V, wk_12 S V, wk_13 S V, wk_14 S V, wk_15 S V, wr_0_0 S V, wr_0_1 S V, wr_1_3 S V, wr_1_4 S V, wr_1_5 S V, wr_1_6 S V, wr_1_7 S V, wr_1_8 S V, wr_1_9 S V, wr_9_0 S V, wr_9_1 S V, wr_9_2 S V, wr_10_12 S V, wr_12_12 S V, wr_14_12 S V, zq_rf, hz, hy]; done) | (simp only [zC_n, zC_r, S.n, wk_0 S V, wk_1 S V, wk_2 S V, wk_3 S V, wk_4 S V, wk_5 S V, wk_6 S V, wk_7 S V, wk_8 S V, wk_9 S V, wk_10 S V, wk_11 S V, wk_12 S V, wk_13 S V, wk_14 S V, wk_15 S V, wr_0_0 S V, wr_0_1 S V, wr_1_3 S V, wr_1_4 S V, wr_1_5 S V, wr_1_6 S V, wr_1_7 S V, wr_1_8 S V, wr_1_9 S V, wr_9_0 S V, wr_9_1 S V, wr_9_2 S V, wr_10_12 S V, wr_12_12 S V, wr_14_12 S V, zq_rf]; have := V.lt; omega)), zC_i (by decide), eN, if_pos (nI_lt hn (by omega)), b58_12, if_pos (show nI n < 24 from nI_lt (b := 24) (by omega) (by decide)), b58_18 (by first | (simp +decide only [zC_n, zC_k, zC_r, S.n, wk_0 S V, wk_1 S V, wk_2 S V, wk_3 S V, wk_4 S V, wk_5 S V, wk_6 S V, wk_7 S V, wk_8 S V, wk_9 S V, wk_10 S V, wk_11 S V, wk_12 S V, wk_13 S V, wk_14 S V, wk_15 S V, wr_0_0 S V, wr_0_1 S V, wr_1_3 S V, wr_1_4 S V, wr_1_5 S V, wr_1_6 S V, wr_1_7 S V, wr_1_8 S V, wr_1_9 S V, wr_9_0 S V, wr_9_1 S V, wr_9_2 S V, wr_10_12 S V, wr_12_12 S V, wr_14_12 S V, zq_rf, hz, hy]; done) | (simp only [zC_n, zC_r, S.n, wk_0 S V, wk_1 S V, wk_2 S V, wk_3 S V, wk_4 S V, wk_5 S V, wk_6 S V, wk_7 S V, wk_8 S V, wk_9 S V, wk_10 S V, wk_11 S V, wk_12 S V, wk_13 S V, wk_14 S V, wk_15 S V, wr_0_0 S V, wr_0_1 S V, wr_1_3 S V, wr_1_4 S V, wr_1_5 S V, wr_1_6 S V, wr_1_7 S V, wr_1_8 S V, wr_1_9 S V, wr_9_0 S V, wr_9_1 S V, wr_9_2 S V, wr_10_12 S V, wr_12_12 S V, wr_14_12 S V, zq_rf]; have := V.lt; omega)) (by first | (simp +decide only [zC_n, zC_k, zC_r, S.n, wk_0 S V, wk_1 S V, wk_2 S V, wk_3 S V, wk_4 S V, wk_5 S V, wk_6 S V, wk_7 S V, wk_8 S V, wk_9 S V, wk_10 S V, wk_11 S V, wk_12 S V, wk_13 S V, wk_14 S V, wk_15 S V, wr_0_0 S V, wr_0_1 S V, wr_1_3 S V, wr_1_4 S V, wr_1_5 S V, wr_1_6 S V, wr_1_7 S V, wr_1_8 S V, wr_1_9 S V, wr_9_0 S V, wr_9_1 S V, wr_9_2 S V, wr_10_12 S V, wr_12_12 S V, wr_14_12 S V, zq_rf, hz, hy]; done) | (simp only [zC_n, zC_r, S.n, wk_0 S V, wk_1 S V, wk_2 S V, wk_3 S V, wk_4 S V, wk_5 S V, wk_6 S V, wk_7 S V, wk_8 S V, wk_9 S V, wk_10 S V, wk_11 S V, wk_12 S V, wk_13 S V, wk_14 S V, wk_15 S V, wr_0_0 S V, wr_0_1 S V, wr_1_3 S V, wr_1_4 S V, wr_1_5 S V, wr_1_6 S V, wr_1_7 S V, wr_1_8 S V, wr_1_9 S V, wr_9_0 S V, wr_9_1 S V, wr_9_2 S V, wr_10_12 S V, wr_12_12 S V, wr_14_12 S V, zq_rf]; have := V.lt; omega)), t_li S V eN hN hn]
    simp only [Option.bind_some, Option.toList_some, Option.toList_none, List.cons_append, List.nil_append]
    rw [b58_23]
    cases (decide (x 2 n = 0) && !y 6 n) with
    | false => rw [zi_bI_f, if_pos rfl, b58_35, nI_s, if_neg (by decide)]
    | true => rw [zi_bI_t, if_neg (by decide), b58_26 (by first | (simp +decide only [zC_n, zC_k, zC_r, S.n, wk_0 S V, wk_1 S V, wk_2 S V, wk_3 S V, wk_4 S V, wk_5 S V, wk_6 S V, wk_7 S V, wk_8 S V, wk_9 S V, wk_10 S V, wk_11 S V, wk_12 S V, wk_13 S V, wk_14 S V, wk_15 S V, wr_0_0 S V, wr_0_1 S V, wr_1_3 S V, wr_1_4 S V, wr_1_5 S V, wr_1_6 S V, wr_1_7 S V, wr_1_8 S V, wr_1_9 S V, wr_9_0 S V, wr_9_1 S V, wr_9_2 S V, wr_10_12 S V, wr_12_12 S V, wr_14_12 S V, zq_rf, hz, hy]; done) | (simp only [zC_n, zC_r, S.n, wk_0 S V, wk_1 S V, wk_2 S V, wk_3 S V, wk_4 S V, wk_5 S V, wk_6 S V, wk_7 S V, wk_8 S V, wk_9 S V, wk_10 S V, wk_11 S V, wk_12 S V, wk_13 S V, wk_14 S V, wk_15 S V, wr_0_0 S V, wr_0_1 S V, wr_1_3 S V, wr_1_4 S V, wr_1_5 S V, wr_1_6 S V, wr_1_7 S V, wr_1_8 S V, wr_1_9 S V, wr_9_0 S V, wr_9_1 S V, wr_9_2 S V, wr_10_12 S V, wr_12_12 S V, wr_14_12 S V, zq_rf]; have := V.lt; omega)) (by first | (simp +decide only [zC_n, zC_k, zC_r, S.n, wk_0 S V, wk_1 S V, wk_2 S V, wk_3 S V, wk_4 S V, wk_5 S V, wk_6 S V, wk_7 S V, wk_8 S V, wk_9 S V, wk_10 S V, wk_11 S V, wk_12 S V, wk_13 S V, wk_14 S V, wk_15 S V, wr_0_0 S V, wr_0_1 S V, wr_1_3 S V, wr_1_4 S V, wr_1_5 S V, wr_1_6 S V, wr_1_7 S V, wr_1_8 S V, wr_1_9 S V, wr_9_0 S V, wr_9_1 S V, wr_9_2 S V, wr_10_12 S V, wr_12_12 S V, wr_14_12 S V, zq_rf, hz, hy]; done) | (simp only [zC_n, zC_r, S.n, wk_0 S V, wk_1 S V, wk_2 S V, wk_3 S V, wk_4 S V, wk_5 S V, wk_6 S V, wk_7 S V, wk_8 S V, wk_9 S V, wk_10 S V, wk_11 S V, wk_12 S V, wk_13 S V, wk_14 S V, wk_15 S V, wr_0_0 S V, wr_0_1 S V, wr_1_3 S V, wr_1_4 S V, wr_1_5 S V, wr_1_6 S V, wr_1_7 S V, wr_1_8 S V, wr_1_9 S V, wr_9_0 S V, wr_9_1 S V, wr_9_2 S V, wr_10_12 S V, wr_12_12 S V, wr_14_12 S V, zq_rf]; have := V.lt; omega)) (by first | (simp +decide only [zC_n, zC_k, zC_r, S.n, wk_0 S V, wk_1 S V, wk_2 S V, wk_3 S V, wk_4 S V, wk_5 S V, wk_6 S V, wk_7 S V, wk_8 S V, wk_9 S V, wk_10 S V, wk_11 S V, wk_12 S V, wk_13 S V, wk_14 S V, wk_15 S V, wr_0_0 S V, wr_0_1 S V, wr_1_3 S V, wr_1_4 S V, wr_1_5 S V, wr_1_6 S V, wr_1_7 S V, wr_1_8 S V, wr_1_9 S V, wr_9_0 S V, wr_9_1 S V, wr_9_2 S V, wr_10_12 S V, wr_12_12 S V, wr_14_12 S V, zq_rf, hz, hy]; done) | (simp only [zC_n, zC_r, S.n, wk_0 S V, wk_1 S V, wk_2 S V, wk_3 S V, wk_4 S V, wk_5 S V, wk_6 S V, wk_7 S V, wk_8 S V, wk_9 S V, wk_10 S V, wk_11 S V, wk_12 S V, wk_13 S V, wk_14 S V, wk_15 S V, wr_0_0 S V, wr_0_1 S V, wr_1_3 S V, wr_1_4 S V, wr_1_5 S V, wr_1_6 S V, wr_1_7 S V, wr_1_8 S V, wr_1_9 S V, wr_9_0 S V, wr_9_1 S V, wr_9_2 S V, wr_10_12 S V, wr_12_12 S V, wr_14_12 S V, zq_rf]; have := V.lt; omega)) (by first | (simp +decide only [zC_n, zC_k, zC_r, S.n, wk_0 S V, wk_1 S V, wk_2 S V, wk_3 S V, wk_4 S V, wk_5 S V, wk_6 S V, wk_7 S V, wk_8 S V, wk_9 S V, wk_10 S V, wk_11 S V, wk_12 S V, wk_13 S V, wk_14 S V, wk_15 S V, wr_0_0 S V, wr_0_1 S V, wr_1_3 S V, wr_1_4 S V, wr_1_5 S V, wr_1_6 S V, wr_1_7 S V, wr_1_8 S V, wr_1_9 S V, wr_9_0 S V, wr_9_1 S V, wr_9_2 S V, wr_10_12 S V, wr_12_12 S V, wr_14_12 S V, zq_rf, hz, hy]; done) | (simp only [zC_n, zC_r, S.n, wk_0 S V, wk_1 S V, wk_2 S V, wk_3 S V, wk_4 S V, wk_5 S V, wk_6 S V, wk_7 S V, wk_8 S V, wk_9 S V, wk_10 S V, wk_11 S V, wk_12 S V, wk_13 S V, wk_14 S V, wk_15 S V, wr_0_0 S V, wr_0_1 S V, wr_1_3 S V, wr_1_4 S V, wr_1_5 S V, wr_1_6 S V, wr_1_7 S V, wr_1_8 S V, wr_1_9 S V, wr_9_0 S V, wr_9_1 S V, wr_9_2 S V, wr_10_12 S V, wr_12_12 S V, wr_14_12 S V, zq_rf]; have := V.lt; omega)) (by first | (simp +decide only [zC_n, zC_k, zC_r, S.n, wk_0 S V, wk_1 S V, wk_2 S V, wk_3 S V, wk_4 S V, wk_5 S V, wk_6 S V, wk_7 S V, wk_8 S V, wk_9 S V, wk_10 S V, wk_11 S V, wk_12 S V, wk_13 S V, wk_14 S V, wk_15 S V, wr_0_0 S V, wr_0_1 S V, wr_1_3 S V, wr_1_4 S V, wr_1_5 S V, wr_1_6 S V, wr_1_7 S V, wr_1_8 S V, wr_1_9 S V, wr_9_0 S V, wr_9_1 S V, wr_9_2 S V, wr_10_12 S V, wr_12_12 S V, wr_14_12 S V, zq_rf, hz, hy]; done) | (simp only [zC_n, zC_r, S.n, wk_0 S V, wk_1 S V, wk_2 S V, wk_3 S V, wk_4 S V, wk_5 S V, wk_6 S V, wk_7 S V, wk_8 S V, wk_9 S V, wk_10 S V, wk_11 S V, wk_12 S V, wk_13 S V, wk_14 S V, wk_15 S V, wr_0_0 S V, wr_0_1 S V, wr_1_3 S V, wr_1_4 S V, wr_1_5 S V, wr_1_6 S V, wr_1_7 S V, wr_1_8 S V, wr_1_9 S V, wr_9_0 S V, wr_9_1 S V, wr_9_2 S V, wr_10_12 S V, wr_12_12 S V, wr_14_12 S V, zq_rf]; have := V.lt; omega)) (by first | (simp +decide only [zC_n, zC_k, zC_r, S.n, wk_0 S V, wk_1 S V, wk_2 S V, wk_3 S V, wk_4 S V, wk_5 S V, wk_6 S V, wk_7 S V, wk_8 S V, wk_9 S V, wk_10 S V, wk_11 S V, wk_12 S V, wk_13 S V, wk_14 S V, wk_15 S V, wr_0_0 S V, wr_0_1 S V, wr_1_3 S V, wr_1_4 S V, wr_1_5 S V, wr_1_6 S V, wr_1_7 S V, wr_1_8 S V, wr_1_9 S V, wr_9_0 S V, wr_9_1 S V, wr_9_2 S V, wr_10_12 S V, wr_12_12 S V, wr_14_12 S V, zq_rf, hz, hy]; done) | (simp only [zC_n, zC_r, S.n, wk_0 S V, wk_1 S V, wk_2 S V, wk_3 S V, wk_4 S V, wk_5 S V, wk_6 S V, wk_7 S V, wk_8 S V, wk_9 S V, wk_10 S V, wk_11 S V, wk_12 S V, wk_13 S V, wk_14 S V, wk_15 S V, wr_0_0 S V, wr_0_1 S V, wr_1_3 S V, wr_1_4 S V, wr_1_5 S V, wr_1_6 S V, wr_1_7 S V, wr_1_8 S V, wr_1_9 S V, wr_9_0 S V, wr_9_1 S V, wr_9_2 S V, wr_10_12 S V, wr_12_12 S V, wr_14_12 S V, zq_rf]; have := V.lt; omega)), zC_r, wr_1_4 S V, zq_rf, nI_clamp (by omega), zC_i (by decide), b58_35, nI_s, if_pos rfl]
  · have hz : True := trivial
    try dsimp only
    rw [b58_4 (by first | (simp +decide only [zC_n, zC_k, zC_r, S.n, wk_0 S V, wk_1 S V, wk_2 S V, wk_3 S V, wk_4 S V, wk_5 S V, wk_6 S V, wk_7 S V, wk_8 S V, wk_9 S V, wk_10 S V, wk_11 S V, wk_12 S V, wk_13 S V, wk_14 S V, wk_15 S V, wr_0_0 S V, wr_0_1 S V, wr_1_3 S V, wr_1_4 S V, wr_1_5 S V, wr_1_6 S V, wr_1_7 S V, wr_1_8 S V, wr_1_9 S V, wr_9_0 S V, wr_9_1 S V, wr_9_2 S V, wr_10_12 S V, wr_12_12 S V, wr_14_12 S V, zq_rf, hz, hy]; done) | (simp only [zC_n, zC_r, S.n, wk_0 S V, wk_1 S V, wk_2 S V, wk_3 S V, wk_4 S V, wk_5 S V, wk_6 S V, wk_7 S V, wk_8 S V, wk_9 S V, wk_10 S V, wk_11 S V, wk_12 S V, wk_13 S V, wk_14 S V, wk_15 S V, wr_0_0 S V, wr_0_1 S V, wr_1_3 S V, wr_1_4 S V, wr_1_5 S V, wr_1_6 S V, wr_1_7 S V, wr_1_8 S V, wr_1_9 S V, wr_9_0 S V, wr_9_1 S V, wr_9_2 S V, wr_10_12 S V, wr_12_12 S V, wr_14_12 S V, zq_rf]; have := V.lt; omega)) (by first | (simp +decide only [zC_n, zC_k, zC_r, S.n, wk_0 S V, wk_1 S V, wk_2 S V, wk_3 S V, wk_4 S V, wk_5 S V, wk_6 S V, wk_7 S V, wk_8 S V, wk_9 S V, wk_10 S V, wk_11 S V, wk_12 S V, wk_13 S V, wk_14 S V, wk_15 S V, wr_0_0 S V, wr_0_1 S V, wr_1_3 S V, wr_1_4 S V, wr_1_5 S V, wr_1_6 S V, wr_1_7 S V, wr_1_8 S V, wr_1_9 S V, wr_9_0 S V, wr_9_1 S V, wr_9_2 S V, wr_10_12 S V, wr_12_12 S V, wr_14_12 S V, zq_rf, hz, hy]; done) | (simp only [zC_n, zC_r, S.n, wk_0 S V, wk_1 S V, wk_2 S V, wk_3 S V, wk_4 S V, wk_5 S V, wk_6 S V, wk_7 S V, wk_8 S V, wk_9 S V, wk_10 S V, wk_11 S V, wk_12 S V, wk_13 S V, wk_14 S V, wk_15 S V, wr_0_0 S V, wr_0_1 S V, wr_1_3 S V, wr_1_4 S V, wr_1_5 S V, wr_1_6 S V, wr_1_7 S V, wr_1_8 S V, wr_1_9 S V, wr_9_0 S V, wr_9_1 S V, wr_9_2 S V, wr_10_12 S V, wr_12_12 S V, wr_14_12 S V, zq_rf]; have := V.lt; omega)), zC_i (by decide), eN, if_neg Int32.lt_irrefl, b58_41]
theorem t_dn (S : Sh h) (V : Wa W) (eN : x 1 0 = nI N) (hN : N ≤ 24) {u1 u2 : Value} : zv 3 59 0 [.ref (W + 1), u1, u2] [] (zC h W x y) = some (some (.int (itF (fun n a => if y 6 n = true then a + 1 else a) N 0 0)), zC h W x y) := by
  have hy : True := trivial
  have hz : True := trivial
  rw [b59_0]
  refine lpF (F := fun a n => zv 3 59 4 [.ref (W + 1), .int a, .int n] [] (zC h W x y)) (E := fun a => some (some (.int a), zC h W x y)) (g := fun n a => if y 6 n = true then a + 1 else a) (N := N) (fun n a hn => ?_) (fun a => ?_) N 0 0 (Nat.zero_add _)
  · try dsimp only
    rw [b59_4 (by first | (simp +decide only [zC_n, zC_k, zC_r, S.n, wk_0 S V, wk_1 S V, wk_2 S V, wk_3 S V, wk_4 S V, wk_5 S V, wk_6 S V, wk_7 S V, wk_8 S V, wk_9 S V, wk_10 S V, wk_11 S V, wk_12 S V, wk_13 S V, wk_14 S V, wk_15 S V, wr_0_0 S V, wr_0_1 S V, wr_1_3 S V, wr_1_4 S V, wr_1_5 S V, wr_1_6 S V, wr_1_7 S V, wr_1_8 S V, wr_1_9 S V, wr_9_0 S V, wr_9_1 S V, wr_9_2 S V, wr_10_12 S V, wr_12_12 S V, wr_14_12 S V, zq_rf, hz, hy]; done) | (simp only [zC_n, zC_r, S.n, wk_0 S V, wk_1 S V, wk_2 S V, wk_3 S V, wk_4 S V, wk_5 S V, wk_6 S V, wk_7 S V, wk_8 S V, wk_9 S V, wk_10 S V, wk_11 S V, wk_12 S V, wk_13 S V, wk_14 S V, wk_15 S V, wr_0_0 S V, wr_0_1 S V, wr_1_3 S V, wr_1_4 S V, wr_1_5 S V, wr_1_6 S V, wr_1_7 S V, wr_1_8 S V, wr_1_9 S V, wr_9_0 S V, wr_9_1 S V, wr_9_2 S V, wr_10_12 S V, wr_12_12 S V, wr_14_12 S V, zq_rf]; have := V.lt; omega)) (by first | (simp +decide only [zC_n, zC_k, zC_r, S.n, wk_0 S V, wk_1 S V, wk_2 S V, wk_3 S V, wk_4 S V, wk_5 S V, wk_6 S V, wk_7 S V, wk_8 S V, wk_9 S V, wk_10 S V, wk_11 S V, wk_12 S V, wk_13 S V, wk_14 S V, wk_15 S V, wr_0_0 S V, wr_0_1 S V, wr_1_3 S V, wr_1_4 S V, wr_1_5 S V, wr_1_6 S V, wr_1_7 S V, wr_1_8 S V, wr_1_9 S V, wr_9_0 S V, wr_9_1 S V, wr_9_2 S V, wr_10_12 S V, wr_12_12 S V, wr_14_12 S V, zq_rf, hz, hy]; done) | (simp only [zC_n, zC_r, S.n, wk_0 S V, wk_1 S V, wk_2 S V, wk_3 S V, wk_4 S V, wk_5 S V, wk_6 S V, wk_7 S V, wk_8 S V, wk_9 S V, wk_10 S V, wk_11 S V, wk_12 S V, wk_13 S V, wk_14 S V, wk_15 S V, wr_0_0 S V, wr_0_1 S V, wr_1_3 S V, wr_1_4 S V, wr_1_5 S V, wr_1_6 S V, wr_1_7 S V, wr_1_8 S V, wr_1_9 S V, wr_9_0 S V, wr_9_1 S V, wr_9_2 S V, wr_10_12 S V, wr_12_12 S V, wr_14_12 S V, zq_rf]; have := V.lt; omega)), zC_i (by decide), eN, if_pos (nI_lt hn (by omega)), b59_12 (by first | (simp +decide only [zC_n, zC_k, zC_r, S.n, wk_0 S V, wk_1 S V, wk_2 S V, wk_3 S V, wk_4 S V, wk_5 S V, wk_6 S V, wk_7 S V, wk_8 S V, wk_9 S V, wk_10 S V, wk_11 S V, wk_12 S V, wk_13 S V, wk_14 S V, wk_15 S V, wr_0_0 S V, wr_0_1 S V, wr_1_3 S V, wr_1_4 S V, wr_1_5 S V, wr_1_6 S V, wr_1_7 S V, wr_1_8 S V, wr_1_9 S V, wr_9_0 S V, wr_9_1 S V, wr_9_2 S V, wr_10_12 S V, wr_12_12 S V, wr_14_12 S V, zq_rf, hz, hy]; done) | (simp only [zC_n, zC_r, S.n, wk_0 S V, wk_1 S V, wk_2 S V, wk_3 S V, wk_4 S V, wk_5 S V, wk_6 S V, wk_7 S V, wk_8 S V, wk_9 S V, wk_10 S V, wk_11 S V, wk_12 S V, wk_13 S V, wk_14 S V, wk_15 S V, wr_0_0 S V, wr_0_1 S V, wr_1_3 S V, wr_1_4 S V, wr_1_5 S V, wr_1_6 S V, wr_1_7 S V, wr_1_8 S V, wr_1_9 S V, wr_9_0 S V, wr_9_1 S V, wr_9_2 S V, wr_10_12 S V, wr_12_12 S V, wr_14_12 S V, zq_rf]; have := V.lt; omega)) (by first | (simp +decide only [zC_n, zC_k, zC_r, S.n, wk_0 S V, wk_1 S V, wk_2 S V, wk_3 S V, wk_4 S V, wk_5 S V, wk_6 S V, wk_7 S V, wk_8 S V, wk_9 S V, wk_10 S V, wk_11 S V, wk_12 S V, wk_13 S V, wk_14 S V, wk_15 S V, wr_0_0 S V, wr_0_1 S V, wr_1_3 S V, wr_1_4 S V, wr_1_5 S V, wr_1_6 S V, wr_1_7 S V, wr_1_8 S V, wr_1_9 S V, wr_9_0 S V, wr_9_1 S V, wr_9_2 S V, wr_10_12 S V, wr_12_12 S V, wr_14_12 S V, zq_rf, hz, hy]; done) | (simp only [zC_n, zC_r, S.n, wk_0 S V, wk_1 S V, wk_2 S V, wk_3 S V, wk_4 S V, wk_5 S V, wk_6 S V, wk_7 S V, wk_8 S V, wk_9 S V, wk_10 S V, wk_11 S V, wk_12 S V, wk_13 S V, wk_14 S V, wk_15 S V, wr_0_0 S V, wr_0_1 S V, wr_1_3 S V, wr_1_4 S V, wr_1_5 S V, wr_1_6 S V, wr_1_7 S V, wr_1_8 S V, wr_1_9 S V, wr_9_0 S V, wr_9_1 S V, wr_9_2 S V, wr_10_12 S V, wr_12_12 S V, wr_14_12 S V, zq_rf]; have := V.lt; omega)), t_de S V eN hN hn]
    simp only [Option.bind_some, Option.toList_some, Option.toList_none, List.cons_append, List.nil_append]
    rw [b59_17]
    cases y 6 n with
    | false => rw [zi_bI_f, if_pos rfl, b59_23, nI_s, if_neg (by decide)]
    | true => rw [zi_bI_t, if_neg (by decide), b59_20, b59_23, nI_s, if_pos rfl]
  · try dsimp only
    rw [b59_4 (by first | (simp +decide only [zC_n, zC_k, zC_r, S.n, wk_0 S V, wk_1 S V, wk_2 S V, wk_3 S V, wk_4 S V, wk_5 S V, wk_6 S V, wk_7 S V, wk_8 S V, wk_9 S V, wk_10 S V, wk_11 S V, wk_12 S V, wk_13 S V, wk_14 S V, wk_15 S V, wr_0_0 S V, wr_0_1 S V, wr_1_3 S V, wr_1_4 S V, wr_1_5 S V, wr_1_6 S V, wr_1_7 S V, wr_1_8 S V, wr_1_9 S V, wr_9_0 S V, wr_9_1 S V, wr_9_2 S V, wr_10_12 S V, wr_12_12 S V, wr_14_12 S V, zq_rf, hz, hy]; done) | (simp only [zC_n, zC_r, S.n, wk_0 S V, wk_1 S V, wk_2 S V, wk_3 S V, wk_4 S V, wk_5 S V, wk_6 S V, wk_7 S V, wk_8 S V, wk_9 S V, wk_10 S V, wk_11 S V, wk_12 S V, wk_13 S V, wk_14 S V, wk_15 S V, wr_0_0 S V, wr_0_1 S V, wr_1_3 S V, wr_1_4 S V, wr_1_5 S V, wr_1_6 S V, wr_1_7 S V, wr_1_8 S V, wr_1_9 S V, wr_9_0 S V, wr_9_1 S V, wr_9_2 S V, wr_10_12 S V, wr_12_12 S V, wr_14_12 S V, zq_rf]; have := V.lt; omega)) (by first | (simp +decide only [zC_n, zC_k, zC_r, S.n, wk_0 S V, wk_1 S V, wk_2 S V, wk_3 S V, wk_4 S V, wk_5 S V, wk_6 S V, wk_7 S V, wk_8 S V, wk_9 S V, wk_10 S V, wk_11 S V, wk_12 S V, wk_13 S V, wk_14 S V, wk_15 S V, wr_0_0 S V, wr_0_1 S V, wr_1_3 S V, wr_1_4 S V, wr_1_5 S V, wr_1_6 S V, wr_1_7 S V, wr_1_8 S V, wr_1_9 S V, wr_9_0 S V, wr_9_1 S V, wr_9_2 S V, wr_10_12 S V, wr_12_12 S V, wr_14_12 S V, zq_rf, hz, hy]; done) | (simp only [zC_n, zC_r, S.n, wk_0 S V, wk_1 S V, wk_2 S V, wk_3 S V, wk_4 S V, wk_5 S V, wk_6 S V, wk_7 S V, wk_8 S V, wk_9 S V, wk_10 S V, wk_11 S V, wk_12 S V, wk_13 S V, wk_14 S V, wk_15 S V, wr_0_0 S V, wr_0_1 S V, wr_1_3 S V, wr_1_4 S V, wr_1_5 S V, wr_1_6 S V, wr_1_7 S V, wr_1_8 S V, wr_1_9 S V, wr_9_0 S V, wr_9_1 S V, wr_9_2 S V, wr_10_12 S V, wr_12_12 S V, wr_14_12 S V, zq_rf]; have := V.lt; omega)), zC_i (by decide), eN, if_neg Int32.lt_irrefl, b59_29]
theorem t_ls (S : Sh h) (V : Wa W) (eN : x 1 0 = nI N) (hN : N ≤ 24) {u1 u2 : Value} : zv 3 60 0 [.ref (W + 1), u1, u2] [] (zC h W x y) = some (some (.int (itF (fun n a => if x 2 n = 0 then a + 1 else a) N 0 0)), zC h W x y) := by
  have hy : True := trivial
  have hz : True := trivial
  rw [b60_0]
  refine lpF (F := fun a n => zv 3 60 4 [.ref (W + 1), .int a, .int n] [] (zC h W x y)) (E := fun a => some (some (.int a), zC h W x y)) (g := fun n a => if x 2 n = 0 then a + 1 else a) (N := N) (fun n a hn => ?_) (fun a => ?_) N 0 0 (Nat.zero_add _)
  · try dsimp only
    rw [b60_4 (by first | (simp +decide only [zC_n, zC_k, zC_r, S.n, wk_0 S V, wk_1 S V, wk_2 S V, wk_3 S V, wk_4 S V, wk_5 S V, wk_6 S V, wk_7 S V, wk_8 S V, wk_9 S V, wk_10 S V, wk_11 S V, wk_12 S V, wk_13 S V, wk_14 S V, wk_15 S V, wr_0_0 S V, wr_0_1 S V, wr_1_3 S V, wr_1_4 S V, wr_1_5 S V, wr_1_6 S V, wr_1_7 S V, wr_1_8 S V, wr_1_9 S V, wr_9_0 S V, wr_9_1 S V, wr_9_2 S V, wr_10_12 S V, wr_12_12 S V, wr_14_12 S V, zq_rf, hz, hy]; done) | (simp only [zC_n, zC_r, S.n, wk_0 S V, wk_1 S V, wk_2 S V, wk_3 S V, wk_4 S V, wk_5 S V, wk_6 S V, wk_7 S V, wk_8 S V, wk_9 S V, wk_10 S V, wk_11 S V, wk_12 S V, wk_13 S V, wk_14 S V, wk_15 S V, wr_0_0 S V, wr_0_1 S V, wr_1_3 S V, wr_1_4 S V, wr_1_5 S V, wr_1_6 S V, wr_1_7 S V, wr_1_8 S V, wr_1_9 S V, wr_9_0 S V, wr_9_1 S V, wr_9_2 S V, wr_10_12 S V, wr_12_12 S V, wr_14_12 S V, zq_rf]; have := V.lt; omega)) (by first | (simp +decide only [zC_n, zC_k, zC_r, S.n, wk_0 S V, wk_1 S V, wk_2 S V, wk_3 S V, wk_4 S V, wk_5 S V, wk_6 S V, wk_7 S V, wk_8 S V, wk_9 S V, wk_10 S V, wk_11 S V, wk_12 S V, wk_13 S V, wk_14 S V, wk_15 S V, wr_0_0 S V, wr_0_1 S V, wr_1_3 S V, wr_1_4 S V, wr_1_5 S V, wr_1_6 S V, wr_1_7 S V, wr_1_8 S V, wr_1_9 S V, wr_9_0 S V, wr_9_1 S V, wr_9_2 S V, wr_10_12 S V, wr_12_12 S V, wr_14_12 S V, zq_rf, hz, hy]; done) | (simp only [zC_n, zC_r, S.n, wk_0 S V, wk_1 S V, wk_2 S V, wk_3 S V, wk_4 S V, wk_5 S V, wk_6 S V, wk_7 S V, wk_8 S V, wk_9 S V, wk_10 S V, wk_11 S V, wk_12 S V, wk_13 S V, wk_14 S V, wk_15 S V, wr_0_0 S V, wr_0_1 S V, wr_1_3 S V, wr_1_4 S V, wr_1_5 S V, wr_1_6 S V, wr_1_7 S V, wr_1_8 S V, wr_1_9 S V, wr_9_0 S V, wr_9_1 S V, wr_9_2 S V, wr_10_12 S V, wr_12_12 S V, wr_14_12 S V, zq_rf]; have := V.lt; omega)), zC_i (by decide), eN, if_pos (nI_lt hn (by omega)), b60_12 (by first | (simp +decide only [zC_n, zC_k, zC_r, S.n, wk_0 S V, wk_1 S V, wk_2 S V, wk_3 S V, wk_4 S V, wk_5 S V, wk_6 S V, wk_7 S V, wk_8 S V, wk_9 S V, wk_10 S V, wk_11 S V, wk_12 S V, wk_13 S V, wk_14 S V, wk_15 S V, wr_0_0 S V, wr_0_1 S V, wr_1_3 S V, wr_1_4 S V, wr_1_5 S V, wr_1_6 S V, wr_1_7 S V, wr_1_8 S V, wr_1_9 S V, wr_9_0 S V, wr_9_1 S V, wr_9_2 S V, wr_10_12 S V, wr_12_12 S V, wr_14_12 S V, zq_rf, hz, hy]; done) | (simp only [zC_n, zC_r, S.n, wk_0 S V, wk_1 S V, wk_2 S V, wk_3 S V, wk_4 S V, wk_5 S V, wk_6 S V, wk_7 S V, wk_8 S V, wk_9 S V, wk_10 S V, wk_11 S V, wk_12 S V, wk_13 S V, wk_14 S V, wk_15 S V, wr_0_0 S V, wr_0_1 S V, wr_1_3 S V, wr_1_4 S V, wr_1_5 S V, wr_1_6 S V, wr_1_7 S V, wr_1_8 S V, wr_1_9 S V, wr_9_0 S V, wr_9_1 S V, wr_9_2 S V, wr_10_12 S V, wr_12_12 S V, wr_14_12 S V, zq_rf]; have := V.lt; omega)) (by first | (simp +decide only [zC_n, zC_k, zC_r, S.n, wk_0 S V, wk_1 S V, wk_2 S V, wk_3 S V, wk_4 S V, wk_5 S V, wk_6 S V, wk_7 S V, wk_8 S V, wk_9 S V, wk_10 S V, wk_11 S V, wk_12 S V, wk_13 S V, wk_14 S V, wk_15 S V, wr_0_0 S V, wr_0_1 S V, wr_1_3 S V, wr_1_4 S V, wr_1_5 S V, wr_1_6 S V, wr_1_7 S V, wr_1_8 S V, wr_1_9 S V, wr_9_0 S V, wr_9_1 S V, wr_9_2 S V, wr_10_12 S V, wr_12_12 S V, wr_14_12 S V, zq_rf, hz, hy]; done) | (simp only [zC_n, zC_r, S.n, wk_0 S V, wk_1 S V, wk_2 S V, wk_3 S V, wk_4 S V, wk_5 S V, wk_6 S V, wk_7 S V, wk_8 S V, wk_9 S V, wk_10 S V, wk_11 S V, wk_12 S V, wk_13 S V, wk_14 S V, wk_15 S V, wr_0_0 S V, wr_0_1 S V, wr_1_3 S V, wr_1_4 S V, wr_1_5 S V, wr_1_6 S V, wr_1_7 S V, wr_1_8 S V, wr_1_9 S V, wr_9_0 S V, wr_9_1 S V, wr_9_2 S V, wr_10_12 S V, wr_12_12 S V, wr_14_12 S V, zq_rf]; have := V.lt; omega)), t_lv S V eN hN hn]
    simp only [Option.bind_some, Option.toList_some, Option.toList_none, List.cons_append, List.nil_append]
    rw [b60_17]
    by_cases e : x 2 n = 0
    · rw [if_pos e, if_pos e, b60_20, b60_23, nI_s]
    · rw [if_neg e, if_neg e, b60_23, nI_s]
  · try dsimp only
    rw [b60_4 (by first | (simp +decide only [zC_n, zC_k, zC_r, S.n, wk_0 S V, wk_1 S V, wk_2 S V, wk_3 S V, wk_4 S V, wk_5 S V, wk_6 S V, wk_7 S V, wk_8 S V, wk_9 S V, wk_10 S V, wk_11 S V, wk_12 S V, wk_13 S V, wk_14 S V, wk_15 S V, wr_0_0 S V, wr_0_1 S V, wr_1_3 S V, wr_1_4 S V, wr_1_5 S V, wr_1_6 S V, wr_1_7 S V, wr_1_8 S V, wr_1_9 S V, wr_9_0 S V, wr_9_1 S V, wr_9_2 S V, wr_10_12 S V, wr_12_12 S V, wr_14_12 S V, zq_rf, hz, hy]; done) | (simp only [zC_n, zC_r, S.n, wk_0 S V, wk_1 S V, wk_2 S V, wk_3 S V, wk_4 S V, wk_5 S V, wk_6 S V, wk_7 S V, wk_8 S V, wk_9 S V, wk_10 S V, wk_11 S V, wk_12 S V, wk_13 S V, wk_14 S V, wk_15 S V, wr_0_0 S V, wr_0_1 S V, wr_1_3 S V, wr_1_4 S V, wr_1_5 S V, wr_1_6 S V, wr_1_7 S V, wr_1_8 S V, wr_1_9 S V, wr_9_0 S V, wr_9_1 S V, wr_9_2 S V, wr_10_12 S V, wr_12_12 S V, wr_14_12 S V, zq_rf]; have := V.lt; omega)) (by first | (simp +decide only [zC_n, zC_k, zC_r, S.n, wk_0 S V, wk_1 S V, wk_2 S V, wk_3 S V, wk_4 S V, wk_5 S V, wk_6 S V, wk_7 S V, wk_8 S V, wk_9 S V, wk_10 S V, wk_11 S V, wk_12 S V, wk_13 S V, wk_14 S V, wk_15 S V, wr_0_0 S V, wr_0_1 S V, wr_1_3 S V, wr_1_4 S V, wr_1_5 S V, wr_1_6 S V, wr_1_7 S V, wr_1_8 S V, wr_1_9 S V, wr_9_0 S V, wr_9_1 S V, wr_9_2 S V, wr_10_12 S V, wr_12_12 S V, wr_14_12 S V, zq_rf, hz, hy]; done) | (simp only [zC_n, zC_r, S.n, wk_0 S V, wk_1 S V, wk_2 S V, wk_3 S V, wk_4 S V, wk_5 S V, wk_6 S V, wk_7 S V, wk_8 S V, wk_9 S V, wk_10 S V, wk_11 S V, wk_12 S V, wk_13 S V, wk_14 S V, wk_15 S V, wr_0_0 S V, wr_0_1 S V, wr_1_3 S V, wr_1_4 S V, wr_1_5 S V, wr_1_6 S V, wr_1_7 S V, wr_1_8 S V, wr_1_9 S V, wr_9_0 S V, wr_9_1 S V, wr_9_2 S V, wr_10_12 S V, wr_12_12 S V, wr_14_12 S V, zq_rf]; have := V.lt; omega)), zC_i (by decide), eN, if_neg Int32.lt_irrefl, b60_29]
theorem t_ea (S : Sh h) (V : Wa W) (eN : x 1 0 = nI N) (hN : N ≤ 24) {u1 u2 : Value} : zv 1 61 0 [.ref (W + 1), u1, u2] [] (zC h W x y) = some (some (.int (itF (fun n a => if 0 < x 2 n then a + x 3 n else a) N 0 0)), zC h W x y) := by
  have hy : True := trivial
  rw [b61_0]
  refine lpF (F := fun a n => zv 1 61 4 [.ref (W + 1), .int a, .int n] [] (zC h W x y)) (E := fun a => some (some (.int a), zC h W x y)) (g := fun n a => if 0 < x 2 n then a + x 3 n else a) (N := N) (fun n a hn => ?_) (fun a => ?_) N 0 0 (Nat.zero_add _)
  · have hz : ¬ (nI n < 0 ∨ 24 ≤ (nI n).toNatClampNeg) := zj_n (by omega) (by decide)
    try dsimp only
    rw [b61_4 (by first | (simp +decide only [zC_n, zC_k, zC_r, S.n, wk_0 S V, wk_1 S V, wk_2 S V, wk_3 S V, wk_4 S V, wk_5 S V, wk_6 S V, wk_7 S V, wk_8 S V, wk_9 S V, wk_10 S V, wk_11 S V, wk_12 S V, wk_13 S V, wk_14 S V, wk_15 S V, wr_0_0 S V, wr_0_1 S V, wr_1_3 S V, wr_1_4 S V, wr_1_5 S V, wr_1_6 S V, wr_1_7 S V, wr_1_8 S V, wr_1_9 S V, wr_9_0 S V, wr_9_1 S V, wr_9_2 S V, wr_10_12 S V, wr_12_12 S V, wr_14_12 S V, zq_rf, hz, hy]; done) | (simp only [zC_n, zC_r, S.n, wk_0 S V, wk_1 S V, wk_2 S V, wk_3 S V, wk_4 S V, wk_5 S V, wk_6 S V, wk_7 S V, wk_8 S V, wk_9 S V, wk_10 S V, wk_11 S V, wk_12 S V, wk_13 S V, wk_14 S V, wk_15 S V, wr_0_0 S V, wr_0_1 S V, wr_1_3 S V, wr_1_4 S V, wr_1_5 S V, wr_1_6 S V, wr_1_7 S V, wr_1_8 S V, wr_1_9 S V, wr_9_0 S V, wr_9_1 S V, wr_9_2 S V, wr_10_12 S V, wr_12_12 S V, wr_14_12 S V, zq_rf]; have := V.lt; omega)) (by first | (simp +decide only [zC_n, zC_k, zC_r, S.n, wk_0 S V, wk_1 S V, wk_2 S V, wk_3 S V, wk_4 S V, wk_5 S V, wk_6 S V, wk_7 S V, wk_8 S V, wk_9 S V, wk_10 S V, wk_11 S V, wk_12 S V, wk_13 S V, wk_14 S V, wk_15 S V, wr_0_0 S V, wr_0_1 S V, wr_1_3 S V, wr_1_4 S V, wr_1_5 S V, wr_1_6 S V, wr_1_7 S V, wr_1_8 S V, wr_1_9 S V, wr_9_0 S V, wr_9_1 S V, wr_9_2 S V, wr_10_12 S V, wr_12_12 S V, wr_14_12 S V, zq_rf, hz, hy]; done) | (simp only [zC_n, zC_r, S.n, wk_0 S V, wk_1 S V, wk_2 S V, wk_3 S V, wk_4 S V, wk_5 S V, wk_6 S V, wk_7 S V, wk_8 S V, wk_9 S V, wk_10 S V, wk_11 S V, wk_12 S V, wk_13 S V, wk_14 S V, wk_15 S V, wr_0_0 S V, wr_0_1 S V, wr_1_3 S V, wr_1_4 S V, wr_1_5 S V, wr_1_6 S V, wr_1_7 S V, wr_1_8 S V, wr_1_9 S V, wr_9_0 S V, wr_9_1 S V, wr_9_2 S V, wr_10_12 S V, wr_12_12 S V, wr_14_12 S V, zq_rf]; have := V.lt; omega)), zC_i (by decide), eN, if_pos (nI_lt hn (by omega)), b61_12, if_pos (show nI n < 24 from nI_lt (b := 24) (by omega) (by decide)), b61_18 (by first | (simp +decide only [zC_n, zC_k, zC_r, S.n, wk_0 S V, wk_1 S V, wk_2 S V, wk_3 S V, wk_4 S V, wk_5 S V, wk_6 S V, wk_7 S V, wk_8 S V, wk_9 S V, wk_10 S V, wk_11 S V, wk_12 S V, wk_13 S V, wk_14 S V, wk_15 S V, wr_0_0 S V, wr_0_1 S V, wr_1_3 S V, wr_1_4 S V, wr_1_5 S V, wr_1_6 S V, wr_1_7 S V, wr_1_8 S V, wr_1_9 S V, wr_9_0 S V, wr_9_1 S V, wr_9_2 S V, wr_10_12 S V, wr_12_12 S V, wr_14_12 S V, zq_rf, hz, hy]; done) | (simp only [zC_n, zC_r, S.n, wk_0 S V, wk_1 S V, wk_2 S V, wk_3 S V, wk_4 S V, wk_5 S V, wk_6 S V, wk_7 S V, wk_8 S V, wk_9 S V, wk_10 S V, wk_11 S V, wk_12 S V, wk_13 S V, wk_14 S V, wk_15 S V, wr_0_0 S V, wr_0_1 S V, wr_1_3 S V, wr_1_4 S V, wr_1_5 S V, wr_1_6 S V, wr_1_7 S V, wr_1_8 S V, wr_1_9 S V, wr_9_0 S V, wr_9_1 S V, wr_9_2 S V, wr_10_12 S V, wr_12_12 S V, wr_14_12 S V, zq_rf]; have := V.lt; omega)) (by first | (simp +decide only [zC_n, zC_k, zC_r, S.n, wk_0 S V, wk_1 S V, wk_2 S V, wk_3 S V, wk_4 S V, wk_5 S V, wk_6 S V, wk_7 S V, wk_8 S V, wk_9 S V, wk_10 S V, wk_11 S V, wk_12 S V, wk_13 S V, wk_14 S V, wk_15 S V, wr_0_0 S V, wr_0_1 S V, wr_1_3 S V, wr_1_4 S V, wr_1_5 S V, wr_1_6 S V, wr_1_7 S V, wr_1_8 S V, wr_1_9 S V, wr_9_0 S V, wr_9_1 S V, wr_9_2 S V, wr_10_12 S V, wr_12_12 S V, wr_14_12 S V, zq_rf, hz, hy]; done) | (simp only [zC_n, zC_r, S.n, wk_0 S V, wk_1 S V, wk_2 S V, wk_3 S V, wk_4 S V, wk_5 S V, wk_6 S V, wk_7 S V, wk_8 S V, wk_9 S V, wk_10 S V, wk_11 S V, wk_12 S V, wk_13 S V, wk_14 S V, wk_15 S V, wr_0_0 S V, wr_0_1 S V, wr_1_3 S V, wr_1_4 S V, wr_1_5 S V, wr_1_6 S V, wr_1_7 S V, wr_1_8 S V, wr_1_9 S V, wr_9_0 S V, wr_9_1 S V, wr_9_2 S V, wr_10_12 S V, wr_12_12 S V, wr_14_12 S V, zq_rf]; have := V.lt; omega)) (by first | (simp +decide only [zC_n, zC_k, zC_r, S.n, wk_0 S V, wk_1 S V, wk_2 S V, wk_3 S V, wk_4 S V, wk_5 S V, wk_6 S V, wk_7 S V, wk_8 S V, wk_9 S V, wk_10 S V, wk_11 S V, wk_12 S V, wk_13 S V, wk_14 S V, wk_15 S V, wr_0_0 S V, wr_0_1 S V, wr_1_3 S V, wr_1_4 S V, wr_1_5 S V, wr_1_6 S V, wr_1_7 S V, wr_1_8 S V, wr_1_9 S V, wr_9_0 S V, wr_9_1 S V, wr_9_2 S V, wr_10_12 S V, wr_12_12 S V, wr_14_12 S V, zq_rf, hz, hy]; done) | (simp only [zC_n, zC_r, S.n, wk_0 S V, wk_1 S V, wk_2 S V, wk_3 S V, wk_4 S V, wk_5 S V, wk_6 S V, wk_7 S V, wk_8 S V, wk_9 S V, wk_10 S V, wk_11 S V, wk_12 S V, wk_13 S V, wk_14 S V, wk_15 S V, wr_0_0 S V, wr_0_1 S V, wr_1_3 S V, wr_1_4 S V, wr_1_5 S V, wr_1_6 S V, wr_1_7 S V, wr_1_8 S V, wr_1_9 S V, wr_9_0 S V, wr_9_1 S V, wr_9_2 S V, wr_10_12 S V, wr_12_12 S V, wr_14_12 S V, zq_rf]; have := V.lt; omega)) (by first | (simp +decide only [zC_n, zC_k, zC_r, S.n, wk_0 S V, wk_1 S V, wk_2 S V, wk_3 S V, wk_4 S V, wk_5 S V, wk_6 S V, wk_7 S V, wk_8 S V, wk_9 S V, wk_10 S V, wk_11 S V, wk_12 S V, wk_13 S V, wk_14 S V, wk_15 S V, wr_0_0 S V, wr_0_1 S V, wr_1_3 S V, wr_1_4 S V, wr_1_5 S V, wr_1_6 S V, wr_1_7 S V, wr_1_8 S V, wr_1_9 S V, wr_9_0 S V, wr_9_1 S V, wr_9_2 S V, wr_10_12 S V, wr_12_12 S V, wr_14_12 S V, zq_rf, hz, hy]; done) | (simp only [zC_n, zC_r, S.n, wk_0 S V, wk_1 S V, wk_2 S V, wk_3 S V, wk_4 S V, wk_5 S V, wk_6 S V, wk_7 S V, wk_8 S V, wk_9 S V, wk_10 S V, wk_11 S V, wk_12 S V, wk_13 S V, wk_14 S V, wk_15 S V, wr_0_0 S V, wr_0_1 S V, wr_1_3 S V, wr_1_4 S V, wr_1_5 S V, wr_1_6 S V, wr_1_7 S V, wr_1_8 S V, wr_1_9 S V, wr_9_0 S V, wr_9_1 S V, wr_9_2 S V, wr_10_12 S V, wr_12_12 S V, wr_14_12 S V, zq_rf]; have := V.lt; omega)) (by first | (simp +decide only [zC_n, zC_k, zC_r, S.n, wk_0 S V, wk_1 S V, wk_2 S V, wk_3 S V, wk_4 S V, wk_5 S V, wk_6 S V, wk_7 S V, wk_8 S V, wk_9 S V, wk_10 S V, wk_11 S V, wk_12 S V, wk_13 S V, wk_14 S V, wk_15 S V, wr_0_0 S V, wr_0_1 S V, wr_1_3 S V, wr_1_4 S V, wr_1_5 S V, wr_1_6 S V, wr_1_7 S V, wr_1_8 S V, wr_1_9 S V, wr_9_0 S V, wr_9_1 S V, wr_9_2 S V, wr_10_12 S V, wr_12_12 S V, wr_14_12 S V, zq_rf, hz, hy]; done) | (simp only [zC_n, zC_r, S.n, wk_0 S V, wk_1 S V, wk_2 S V, wk_3 S V, wk_4 S V, wk_5 S V, wk_6 S V, wk_7 S V, wk_8 S V, wk_9 S V, wk_10 S V, wk_11 S V, wk_12 S V, wk_13 S V, wk_14 S V, wk_15 S V, wr_0_0 S V, wr_0_1 S V, wr_1_3 S V, wr_1_4 S V, wr_1_5 S V, wr_1_6 S V, wr_1_7 S V, wr_1_8 S V, wr_1_9 S V, wr_9_0 S V, wr_9_1 S V, wr_9_2 S V, wr_10_12 S V, wr_12_12 S V, wr_14_12 S V, zq_rf]; have := V.lt; omega)) (by first | (simp +decide only [zC_n, zC_k, zC_r, S.n, wk_0 S V, wk_1 S V, wk_2 S V, wk_3 S V, wk_4 S V, wk_5 S V, wk_6 S V, wk_7 S V, wk_8 S V, wk_9 S V, wk_10 S V, wk_11 S V, wk_12 S V, wk_13 S V, wk_14 S V, wk_15 S V, wr_0_0 S V, wr_0_1 S V, wr_1_3 S V, wr_1_4 S V, wr_1_5 S V, wr_1_6 S V, wr_1_7 S V, wr_1_8 S V, wr_1_9 S V, wr_9_0 S V, wr_9_1 S V, wr_9_2 S V, wr_10_12 S V, wr_12_12 S V, wr_14_12 S V, zq_rf, hz, hy]; done) | (simp only [zC_n, zC_r, S.n, wk_0 S V, wk_1 S V, wk_2 S V, wk_3 S V, wk_4 S V, wk_5 S V, wk_6 S V, wk_7 S V, wk_8 S V, wk_9 S V, wk_10 S V, wk_11 S V, wk_12 S V, wk_13 S V, wk_14 S V, wk_15 S V, wr_0_0 S V, wr_0_1 S V, wr_1_3 S V, wr_1_4 S V, wr_1_5 S V, wr_1_6 S V, wr_1_7 S V, wr_1_8 S V, wr_1_9 S V, wr_9_0 S V, wr_9_1 S V, wr_9_2 S V, wr_10_12 S V, wr_12_12 S V, wr_14_12 S V, zq_rf]; have := V.lt; omega)), zC_r, wr_1_3 S V, zq_rf, nI_clamp (by omega), zC_i (by decide)]
    by_cases e : 0 < x 2 n
    · rw [if_pos e, if_pos e, b61_27 (by first | (simp +decide only [zC_n, zC_k, zC_r, S.n, wk_0 S V, wk_1 S V, wk_2 S V, wk_3 S V, wk_4 S V, wk_5 S V, wk_6 S V, wk_7 S V, wk_8 S V, wk_9 S V, wk_10 S V, wk_11 S V, wk_12 S V, wk_13 S V, wk_14 S V, wk_15 S V, wr_0_0 S V, wr_0_1 S V, wr_1_3 S V, wr_1_4 S V, wr_1_5 S V, wr_1_6 S V, wr_1_7 S V, wr_1_8 S V, wr_1_9 S V, wr_9_0 S V, wr_9_1 S V, wr_9_2 S V, wr_10_12 S V, wr_12_12 S V, wr_14_12 S V, zq_rf, hz, hy]; done) | (simp only [zC_n, zC_r, S.n, wk_0 S V, wk_1 S V, wk_2 S V, wk_3 S V, wk_4 S V, wk_5 S V, wk_6 S V, wk_7 S V, wk_8 S V, wk_9 S V, wk_10 S V, wk_11 S V, wk_12 S V, wk_13 S V, wk_14 S V, wk_15 S V, wr_0_0 S V, wr_0_1 S V, wr_1_3 S V, wr_1_4 S V, wr_1_5 S V, wr_1_6 S V, wr_1_7 S V, wr_1_8 S V, wr_1_9 S V, wr_9_0 S V, wr_9_1 S V, wr_9_2 S V, wr_10_12 S V, wr_12_12 S V, wr_14_12 S V, zq_rf]; have := V.lt; omega)) (by first | (simp +decide only [zC_n, zC_k, zC_r, S.n, wk_0 S V, wk_1 S V, wk_2 S V, wk_3 S V, wk_4 S V, wk_5 S V, wk_6 S V, wk_7 S V, wk_8 S V, wk_9 S V, wk_10 S V, wk_11 S V, wk_12 S V, wk_13 S V, wk_14 S V, wk_15 S V, wr_0_0 S V, wr_0_1 S V, wr_1_3 S V, wr_1_4 S V, wr_1_5 S V, wr_1_6 S V, wr_1_7 S V, wr_1_8 S V, wr_1_9 S V, wr_9_0 S V, wr_9_1 S V, wr_9_2 S V, wr_10_12 S V, wr_12_12 S V, wr_14_12 S V, zq_rf, hz, hy]; done) | (simp only [zC_n, zC_r, S.n, wk_0 S V, wk_1 S V, wk_2 S V, wk_3 S V, wk_4 S V, wk_5 S V, wk_6 S V, wk_7 S V, wk_8 S V, wk_9 S V, wk_10 S V, wk_11 S V, wk_12 S V, wk_13 S V, wk_14 S V, wk_15 S V, wr_0_0 S V, wr_0_1 S V, wr_1_3 S V, wr_1_4 S V, wr_1_5 S V, wr_1_6 S V, wr_1_7 S V, wr_1_8 S V, wr_1_9 S V, wr_9_0 S V, wr_9_1 S V, wr_9_2 S V, wr_10_12 S V, wr_12_12 S V, wr_14_12 S V, zq_rf]; have := V.lt; omega)) (by first | (simp +decide only [zC_n, zC_k, zC_r, S.n, wk_0 S V, wk_1 S V, wk_2 S V, wk_3 S V, wk_4 S V, wk_5 S V, wk_6 S V, wk_7 S V, wk_8 S V, wk_9 S V, wk_10 S V, wk_11 S V, wk_12 S V, wk_13 S V, wk_14 S V, wk_15 S V, wr_0_0 S V, wr_0_1 S V, wr_1_3 S V, wr_1_4 S V, wr_1_5 S V, wr_1_6 S V, wr_1_7 S V, wr_1_8 S V, wr_1_9 S V, wr_9_0 S V, wr_9_1 S V, wr_9_2 S V, wr_10_12 S V, wr_12_12 S V, wr_14_12 S V, zq_rf, hz, hy]; done) | (simp only [zC_n, zC_r, S.n, wk_0 S V, wk_1 S V, wk_2 S V, wk_3 S V, wk_4 S V, wk_5 S V, wk_6 S V, wk_7 S V, wk_8 S V, wk_9 S V, wk_10 S V, wk_11 S V, wk_12 S V, wk_13 S V, wk_14 S V, wk_15 S V, wr_0_0 S V, wr_0_1 S V, wr_1_3 S V, wr_1_4 S V, wr_1_5 S V, wr_1_6 S V, wr_1_7 S V, wr_1_8 S V, wr_1_9 S V, wr_9_0 S V, wr_9_1 S V, wr_9_2 S V, wr_10_12 S V, wr_12_12 S V, wr_14_12 S V, zq_rf]; have := V.lt; omega)) (by first | (simp +decide only [zC_n, zC_k, zC_r, S.n, wk_0 S V, wk_1 S V, wk_2 S V, wk_3 S V, wk_4 S V, wk_5 S V, wk_6 S V, wk_7 S V, wk_8 S V, wk_9 S V, wk_10 S V, wk_11 S V, wk_12 S V, wk_13 S V, wk_14 S V, wk_15 S V, wr_0_0 S V, wr_0_1 S V, wr_1_3 S V, wr_1_4 S V, wr_1_5 S V, wr_1_6 S V, wr_1_7 S V, wr_1_8 S V, wr_1_9 S V, wr_9_0 S V, wr_9_1 S V, wr_9_2 S V, wr_10_12 S V, wr_12_12 S V, wr_14_12 S V, zq_rf, hz, hy]; done) | (simp only [zC_n, zC_r, S.n, wk_0 S V, wk_1 S V, wk_2 S V, wk_3 S V, wk_4 S V, wk_5 S V, wk_6 S V, wk_7 S V, wk_8 S V, wk_9 S V, wk_10 S V, wk_11 S V, wk_12 S V, wk_13 S V, wk_14 S V, wk_15 S V, wr_0_0 S V, wr_0_1 S V, wr_1_3 S V, wr_1_4 S V, wr_1_5 S V, wr_1_6 S V, wr_1_7 S V, wr_1_8 S V, wr_1_9 S V, wr_9_0 S V, wr_9_1 S V, wr_9_2 S V, wr_10_12 S V, wr_12_12 S V, wr_14_12 S V, zq_rf]; have := V.lt; omega)) (by first | (simp +decide only [zC_n, zC_k, zC_r, S.n, wk_0 S V, wk_1 S V, wk_2 S V, wk_3 S V, wk_4 S V, wk_5 S V, wk_6 S V, wk_7 S V, wk_8 S V, wk_9 S V, wk_10 S V, wk_11 S V, wk_12 S V, wk_13 S V, wk_14 S V, wk_15 S V, wr_0_0 S V, wr_0_1 S V, wr_1_3 S V, wr_1_4 S V, wr_1_5 S V, wr_1_6 S V, wr_1_7 S V, wr_1_8 S V, wr_1_9 S V, wr_9_0 S V, wr_9_1 S V, wr_9_2 S V, wr_10_12 S V, wr_12_12 S V, wr_14_12 S V, zq_rf, hz, hy]; done) | (simp only [zC_n, zC_r, S.n, wk_0 S V, wk_1 S V, wk_2 S V, wk_3 S V, wk_4 S V, wk_5 S V, wk_6 S V, wk_7 S V, wk_8 S V, wk_9 S V, wk_10 S V, wk_11 S V, wk_12 S V, wk_13 S V, wk_14 S V, wk_15 S V, wr_0_0 S V, wr_0_1 S V, wr_1_3 S V, wr_1_4 S V, wr_1_5 S V, wr_1_6 S V, wr_1_7 S V, wr_1_8 S V, wr_1_9 S V, wr_9_0 S V, wr_9_1 S V, wr_9_2 S V, wr_10_12 S V, wr_12_12 S V, wr_14_12 S V, zq_rf]; have := V.lt; omega)) (by first | (simp +decide only [zC_n, zC_k, zC_r, S.n, wk_0 S V, wk_1 S V, wk_2 S V, wk_3 S V, wk_4 S V, wk_5 S V, wk_6 S V, wk_7 S V, wk_8 S V, wk_9 S V, wk_10 S V, wk_11 S V, wk_12 S V, wk_13 S V, wk_14 S V, wk_15 S V, wr_0_0 S V, wr_0_1 S V, wr_1_3 S V, wr_1_4 S V, wr_1_5 S V, wr_1_6 S V, wr_1_7 S V, wr_1_8 S V, wr_1_9 S V, wr_9_0 S V, wr_9_1 S V, wr_9_2 S V, wr_10_12 S V, wr_12_12 S V, wr_14_12 S V, zq_rf, hz, hy]; done) | (simp only [zC_n, zC_r, S.n, wk_0 S V, wk_1 S V, wk_2 S V, wk_3 S V, wk_4 S V, wk_5 S V, wk_6 S V, wk_7 S V, wk_8 S V, wk_9 S V, wk_10 S V, wk_11 S V, wk_12 S V, wk_13 S V, wk_14 S V, wk_15 S V, wr_0_0 S V, wr_0_1 S V, wr_1_3 S V, wr_1_4 S V, wr_1_5 S V, wr_1_6 S V, wr_1_7 S V, wr_1_8 S V, wr_1_9 S V, wr_9_0 S V, wr_9_1 S V, wr_9_2 S V, wr_10_12 S V, wr_12_12 S V, wr_14_12 S V, zq_rf]; have := V.lt; omega)), zC_r, wr_1_4 S V, zq_rf, nI_clamp (by omega), zC_i (by decide), b61_36, nI_s]
    · rw [if_neg e, if_neg e, b61_36, nI_s]
  · have hz : True := trivial
    try dsimp only
    rw [b61_4 (by first | (simp +decide only [zC_n, zC_k, zC_r, S.n, wk_0 S V, wk_1 S V, wk_2 S V, wk_3 S V, wk_4 S V, wk_5 S V, wk_6 S V, wk_7 S V, wk_8 S V, wk_9 S V, wk_10 S V, wk_11 S V, wk_12 S V, wk_13 S V, wk_14 S V, wk_15 S V, wr_0_0 S V, wr_0_1 S V, wr_1_3 S V, wr_1_4 S V, wr_1_5 S V, wr_1_6 S V, wr_1_7 S V, wr_1_8 S V, wr_1_9 S V, wr_9_0 S V, wr_9_1 S V, wr_9_2 S V, wr_10_12 S V, wr_12_12 S V, wr_14_12 S V, zq_rf, hz, hy]; done) | (simp only [zC_n, zC_r, S.n, wk_0 S V, wk_1 S V, wk_2 S V, wk_3 S V, wk_4 S V, wk_5 S V, wk_6 S V, wk_7 S V, wk_8 S V, wk_9 S V, wk_10 S V, wk_11 S V, wk_12 S V, wk_13 S V, wk_14 S V, wk_15 S V, wr_0_0 S V, wr_0_1 S V, wr_1_3 S V, wr_1_4 S V, wr_1_5 S V, wr_1_6 S V, wr_1_7 S V, wr_1_8 S V, wr_1_9 S V, wr_9_0 S V, wr_9_1 S V, wr_9_2 S V, wr_10_12 S V, wr_12_12 S V, wr_14_12 S V, zq_rf]; have := V.lt; omega)) (by first | (simp +decide only [zC_n, zC_k, zC_r, S.n, wk_0 S V, wk_1 S V, wk_2 S V, wk_3 S V, wk_4 S V, wk_5 S V, wk_6 S V, wk_7 S V, wk_8 S V, wk_9 S V, wk_10 S V, wk_11 S V, wk_12 S V, wk_13 S V, wk_14 S V, wk_15 S V, wr_0_0 S V, wr_0_1 S V, wr_1_3 S V, wr_1_4 S V, wr_1_5 S V, wr_1_6 S V, wr_1_7 S V, wr_1_8 S V, wr_1_9 S V, wr_9_0 S V, wr_9_1 S V, wr_9_2 S V, wr_10_12 S V, wr_12_12 S V, wr_14_12 S V, zq_rf, hz, hy]; done) | (simp only [zC_n, zC_r, S.n, wk_0 S V, wk_1 S V, wk_2 S V, wk_3 S V, wk_4 S V, wk_5 S V, wk_6 S V, wk_7 S V, wk_8 S V, wk_9 S V, wk_10 S V, wk_11 S V, wk_12 S V, wk_13 S V, wk_14 S V, wk_15 S V, wr_0_0 S V, wr_0_1 S V, wr_1_3 S V, wr_1_4 S V, wr_1_5 S V, wr_1_6 S V, wr_1_7 S V, wr_1_8 S V, wr_1_9 S V, wr_9_0 S V, wr_9_1 S V, wr_9_2 S V, wr_10_12 S V, wr_12_12 S V, wr_14_12 S V, zq_rf]; have := V.lt; omega)), zC_i (by decide), eN, if_neg Int32.lt_irrefl, b61_42]
theorem t_wi (S : Sh h) (V : Wa W) (eN : x 1 0 = nI N) (hN : N ≤ 24) {u1 u2 : Value} : zv 1 62 0 [.ref (W + 1), u1, u2] [] (zC h W x y) = some (some (.int (itF (fun n a => if a < x 3 n then x 3 n else a) N 0 0)), zC h W x y) := by
  have hy : True := trivial
  rw [b62_0]
  refine lpF (F := fun a n => zv 1 62 4 [.ref (W + 1), .int a, .int n] [] (zC h W x y)) (E := fun a => some (some (.int a), zC h W x y)) (g := fun n a => if a < x 3 n then x 3 n else a) (N := N) (fun n a hn => ?_) (fun a => ?_) N 0 0 (Nat.zero_add _)
  · have hz : ¬ (nI n < 0 ∨ 24 ≤ (nI n).toNatClampNeg) := zj_n (by omega) (by decide)
    try dsimp only
    rw [b62_4 (by first | (simp +decide only [zC_n, zC_k, zC_r, S.n, wk_0 S V, wk_1 S V, wk_2 S V, wk_3 S V, wk_4 S V, wk_5 S V, wk_6 S V, wk_7 S V, wk_8 S V, wk_9 S V, wk_10 S V, wk_11 S V, wk_12 S V, wk_13 S V, wk_14 S V, wk_15 S V, wr_0_0 S V, wr_0_1 S V, wr_1_3 S V, wr_1_4 S V, wr_1_5 S V, wr_1_6 S V, wr_1_7 S V, wr_1_8 S V, wr_1_9 S V, wr_9_0 S V, wr_9_1 S V, wr_9_2 S V, wr_10_12 S V, wr_12_12 S V, wr_14_12 S V, zq_rf, hz, hy]; done) | (simp only [zC_n, zC_r, S.n, wk_0 S V, wk_1 S V, wk_2 S V, wk_3 S V, wk_4 S V, wk_5 S V, wk_6 S V, wk_7 S V, wk_8 S V, wk_9 S V, wk_10 S V, wk_11 S V, wk_12 S V, wk_13 S V, wk_14 S V, wk_15 S V, wr_0_0 S V, wr_0_1 S V, wr_1_3 S V, wr_1_4 S V, wr_1_5 S V, wr_1_6 S V, wr_1_7 S V, wr_1_8 S V, wr_1_9 S V, wr_9_0 S V, wr_9_1 S V, wr_9_2 S V, wr_10_12 S V, wr_12_12 S V, wr_14_12 S V, zq_rf]; have := V.lt; omega)) (by first | (simp +decide only [zC_n, zC_k, zC_r, S.n, wk_0 S V, wk_1 S V, wk_2 S V, wk_3 S V, wk_4 S V, wk_5 S V, wk_6 S V, wk_7 S V, wk_8 S V, wk_9 S V, wk_10 S V, wk_11 S V, wk_12 S V, wk_13 S V, wk_14 S V, wk_15 S V, wr_0_0 S V, wr_0_1 S V, wr_1_3 S V, wr_1_4 S V, wr_1_5 S V, wr_1_6 S V, wr_1_7 S V, wr_1_8 S V, wr_1_9 S V, wr_9_0 S V, wr_9_1 S V, wr_9_2 S V, wr_10_12 S V, wr_12_12 S V, wr_14_12 S V, zq_rf, hz, hy]; done) | (simp only [zC_n, zC_r, S.n, wk_0 S V, wk_1 S V, wk_2 S V, wk_3 S V, wk_4 S V, wk_5 S V, wk_6 S V, wk_7 S V, wk_8 S V, wk_9 S V, wk_10 S V, wk_11 S V, wk_12 S V, wk_13 S V, wk_14 S V, wk_15 S V, wr_0_0 S V, wr_0_1 S V, wr_1_3 S V, wr_1_4 S V, wr_1_5 S V, wr_1_6 S V, wr_1_7 S V, wr_1_8 S V, wr_1_9 S V, wr_9_0 S V, wr_9_1 S V, wr_9_2 S V, wr_10_12 S V, wr_12_12 S V, wr_14_12 S V, zq_rf]; have := V.lt; omega)), zC_i (by decide), eN, if_pos (nI_lt hn (by omega)), b62_12, if_pos (show nI n < 24 from nI_lt (b := 24) (by omega) (by decide)), b62_18 (by first | (simp +decide only [zC_n, zC_k, zC_r, S.n, wk_0 S V, wk_1 S V, wk_2 S V, wk_3 S V, wk_4 S V, wk_5 S V, wk_6 S V, wk_7 S V, wk_8 S V, wk_9 S V, wk_10 S V, wk_11 S V, wk_12 S V, wk_13 S V, wk_14 S V, wk_15 S V, wr_0_0 S V, wr_0_1 S V, wr_1_3 S V, wr_1_4 S V, wr_1_5 S V, wr_1_6 S V, wr_1_7 S V, wr_1_8 S V, wr_1_9 S V, wr_9_0 S V, wr_9_1 S V, wr_9_2 S V, wr_10_12 S V, wr_12_12 S V, wr_14_12 S V, zq_rf, hz, hy]; done) | (simp only [zC_n, zC_r, S.n, wk_0 S V, wk_1 S V, wk_2 S V, wk_3 S V, wk_4 S V, wk_5 S V, wk_6 S V, wk_7 S V, wk_8 S V, wk_9 S V, wk_10 S V, wk_11 S V, wk_12 S V, wk_13 S V, wk_14 S V, wk_15 S V, wr_0_0 S V, wr_0_1 S V, wr_1_3 S V, wr_1_4 S V, wr_1_5 S V, wr_1_6 S V, wr_1_7 S V, wr_1_8 S V, wr_1_9 S V, wr_9_0 S V, wr_9_1 S V, wr_9_2 S V, wr_10_12 S V, wr_12_12 S V, wr_14_12 S V, zq_rf]; have := V.lt; omega)) (by first | (simp +decide only [zC_n, zC_k, zC_r, S.n, wk_0 S V, wk_1 S V, wk_2 S V, wk_3 S V, wk_4 S V, wk_5 S V, wk_6 S V, wk_7 S V, wk_8 S V, wk_9 S V, wk_10 S V, wk_11 S V, wk_12 S V, wk_13 S V, wk_14 S V, wk_15 S V, wr_0_0 S V, wr_0_1 S V, wr_1_3 S V, wr_1_4 S V, wr_1_5 S V, wr_1_6 S V, wr_1_7 S V, wr_1_8 S V, wr_1_9 S V, wr_9_0 S V, wr_9_1 S V, wr_9_2 S V, wr_10_12 S V, wr_12_12 S V, wr_14_12 S V, zq_rf, hz, hy]; done) | (simp only [zC_n, zC_r, S.n, wk_0 S V, wk_1 S V, wk_2 S V, wk_3 S V, wk_4 S V, wk_5 S V, wk_6 S V, wk_7 S V, wk_8 S V, wk_9 S V, wk_10 S V, wk_11 S V, wk_12 S V, wk_13 S V, wk_14 S V, wk_15 S V, wr_0_0 S V, wr_0_1 S V, wr_1_3 S V, wr_1_4 S V, wr_1_5 S V, wr_1_6 S V, wr_1_7 S V, wr_1_8 S V, wr_1_9 S V, wr_9_0 S V, wr_9_1 S V, wr_9_2 S V, wr_10_12 S V, wr_12_12 S V, wr_14_12 S V, zq_rf]; have := V.lt; omega)) (by first | (simp +decide only [zC_n, zC_k, zC_r, S.n, wk_0 S V, wk_1 S V, wk_2 S V, wk_3 S V, wk_4 S V, wk_5 S V, wk_6 S V, wk_7 S V, wk_8 S V, wk_9 S V, wk_10 S V, wk_11 S V, wk_12 S V, wk_13 S V, wk_14 S V, wk_15 S V, wr_0_0 S V, wr_0_1 S V, wr_1_3 S V, wr_1_4 S V, wr_1_5 S V, wr_1_6 S V, wr_1_7 S V, wr_1_8 S V, wr_1_9 S V, wr_9_0 S V, wr_9_1 S V, wr_9_2 S V, wr_10_12 S V, wr_12_12 S V, wr_14_12 S V, zq_rf, hz, hy]; done) | (simp only [zC_n, zC_r, S.n, wk_0 S V, wk_1 S V, wk_2 S V, wk_3 S V, wk_4 S V, wk_5 S V, wk_6 S V, wk_7 S V, wk_8 S V, wk_9 S V, wk_10 S V, wk_11 S V, wk_12 S V, wk_13 S V, wk_14 S V, wk_15 S V, wr_0_0 S V, wr_0_1 S V, wr_1_3 S V, wr_1_4 S V, wr_1_5 S V, wr_1_6 S V, wr_1_7 S V, wr_1_8 S V, wr_1_9 S V, wr_9_0 S V, wr_9_1 S V, wr_9_2 S V, wr_10_12 S V, wr_12_12 S V, wr_14_12 S V, zq_rf]; have := V.lt; omega)) (by first | (simp +decide only [zC_n, zC_k, zC_r, S.n, wk_0 S V, wk_1 S V, wk_2 S V, wk_3 S V, wk_4 S V, wk_5 S V, wk_6 S V, wk_7 S V, wk_8 S V, wk_9 S V, wk_10 S V, wk_11 S V, wk_12 S V, wk_13 S V, wk_14 S V, wk_15 S V, wr_0_0 S V, wr_0_1 S V, wr_1_3 S V, wr_1_4 S V, wr_1_5 S V, wr_1_6 S V, wr_1_7 S V, wr_1_8 S V, wr_1_9 S V, wr_9_0 S V, wr_9_1 S V, wr_9_2 S V, wr_10_12 S V, wr_12_12 S V, wr_14_12 S V, zq_rf, hz, hy]; done) | (simp only [zC_n, zC_r, S.n, wk_0 S V, wk_1 S V, wk_2 S V, wk_3 S V, wk_4 S V, wk_5 S V, wk_6 S V, wk_7 S V, wk_8 S V, wk_9 S V, wk_10 S V, wk_11 S V, wk_12 S V, wk_13 S V, wk_14 S V, wk_15 S V, wr_0_0 S V, wr_0_1 S V, wr_1_3 S V, wr_1_4 S V, wr_1_5 S V, wr_1_6 S V, wr_1_7 S V, wr_1_8 S V, wr_1_9 S V, wr_9_0 S V, wr_9_1 S V, wr_9_2 S V, wr_10_12 S V, wr_12_12 S V, wr_14_12 S V, zq_rf]; have := V.lt; omega)) (by first | (simp +decide only [zC_n, zC_k, zC_r, S.n, wk_0 S V, wk_1 S V, wk_2 S V, wk_3 S V, wk_4 S V, wk_5 S V, wk_6 S V, wk_7 S V, wk_8 S V, wk_9 S V, wk_10 S V, wk_11 S V, wk_12 S V, wk_13 S V, wk_14 S V, wk_15 S V, wr_0_0 S V, wr_0_1 S V, wr_1_3 S V, wr_1_4 S V, wr_1_5 S V, wr_1_6 S V, wr_1_7 S V, wr_1_8 S V, wr_1_9 S V, wr_9_0 S V, wr_9_1 S V, wr_9_2 S V, wr_10_12 S V, wr_12_12 S V, wr_14_12 S V, zq_rf, hz, hy]; done) | (simp only [zC_n, zC_r, S.n, wk_0 S V, wk_1 S V, wk_2 S V, wk_3 S V, wk_4 S V, wk_5 S V, wk_6 S V, wk_7 S V, wk_8 S V, wk_9 S V, wk_10 S V, wk_11 S V, wk_12 S V, wk_13 S V, wk_14 S V, wk_15 S V, wr_0_0 S V, wr_0_1 S V, wr_1_3 S V, wr_1_4 S V, wr_1_5 S V, wr_1_6 S V, wr_1_7 S V, wr_1_8 S V, wr_1_9 S V, wr_9_0 S V, wr_9_1 S V, wr_9_2 S V, wr_10_12 S V, wr_12_12 S V, wr_14_12 S V, zq_rf]; have := V.lt; omega)) (by first | (simp +decide only [zC_n, zC_k, zC_r, S.n, wk_0 S V, wk_1 S V, wk_2 S V, wk_3 S V, wk_4 S V, wk_5 S V, wk_6 S V, wk_7 S V, wk_8 S V, wk_9 S V, wk_10 S V, wk_11 S V, wk_12 S V, wk_13 S V, wk_14 S V, wk_15 S V, wr_0_0 S V, wr_0_1 S V, wr_1_3 S V, wr_1_4 S V, wr_1_5 S V, wr_1_6 S V, wr_1_7 S V, wr_1_8 S V, wr_1_9 S V, wr_9_0 S V, wr_9_1 S V, wr_9_2 S V, wr_10_12 S V, wr_12_12 S V, wr_14_12 S V, zq_rf, hz, hy]; done) | (simp only [zC_n, zC_r, S.n, wk_0 S V, wk_1 S V, wk_2 S V, wk_3 S V, wk_4 S V, wk_5 S V, wk_6 S V, wk_7 S V, wk_8 S V, wk_9 S V, wk_10 S V, wk_11 S V, wk_12 S V, wk_13 S V, wk_14 S V, wk_15 S V, wr_0_0 S V, wr_0_1 S V, wr_1_3 S V, wr_1_4 S V, wr_1_5 S V, wr_1_6 S V, wr_1_7 S V, wr_1_8 S V, wr_1_9 S V, wr_9_0 S V, wr_9_1 S V, wr_9_2 S V, wr_10_12 S V, wr_12_12 S V, wr_14_12 S V, zq_rf]; have := V.lt; omega)), zC_r, wr_1_4 S V, zq_rf, nI_clamp (by omega), zC_i (by decide), nI_s]
  · have hz : True := trivial
    try dsimp only
    rw [b62_4 (by first | (simp +decide only [zC_n, zC_k, zC_r, S.n, wk_0 S V, wk_1 S V, wk_2 S V, wk_3 S V, wk_4 S V, wk_5 S V, wk_6 S V, wk_7 S V, wk_8 S V, wk_9 S V, wk_10 S V, wk_11 S V, wk_12 S V, wk_13 S V, wk_14 S V, wk_15 S V, wr_0_0 S V, wr_0_1 S V, wr_1_3 S V, wr_1_4 S V, wr_1_5 S V, wr_1_6 S V, wr_1_7 S V, wr_1_8 S V, wr_1_9 S V, wr_9_0 S V, wr_9_1 S V, wr_9_2 S V, wr_10_12 S V, wr_12_12 S V, wr_14_12 S V, zq_rf, hz, hy]; done) | (simp only [zC_n, zC_r, S.n, wk_0 S V, wk_1 S V, wk_2 S V, wk_3 S V, wk_4 S V, wk_5 S V, wk_6 S V, wk_7 S V, wk_8 S V, wk_9 S V, wk_10 S V, wk_11 S V, wk_12 S V, wk_13 S V, wk_14 S V, wk_15 S V, wr_0_0 S V, wr_0_1 S V, wr_1_3 S V, wr_1_4 S V, wr_1_5 S V, wr_1_6 S V, wr_1_7 S V, wr_1_8 S V, wr_1_9 S V, wr_9_0 S V, wr_9_1 S V, wr_9_2 S V, wr_10_12 S V, wr_12_12 S V, wr_14_12 S V, zq_rf]; have := V.lt; omega)) (by first | (simp +decide only [zC_n, zC_k, zC_r, S.n, wk_0 S V, wk_1 S V, wk_2 S V, wk_3 S V, wk_4 S V, wk_5 S V, wk_6 S V, wk_7 S V, wk_8 S V, wk_9 S V, wk_10 S V, wk_11 S V, wk_12 S V, wk_13 S V, wk_14 S V, wk_15 S V, wr_0_0 S V, wr_0_1 S V, wr_1_3 S V, wr_1_4 S V, wr_1_5 S V, wr_1_6 S V, wr_1_7 S V, wr_1_8 S V, wr_1_9 S V, wr_9_0 S V, wr_9_1 S V, wr_9_2 S V, wr_10_12 S V, wr_12_12 S V, wr_14_12 S V, zq_rf, hz, hy]; done) | (simp only [zC_n, zC_r, S.n, wk_0 S V, wk_1 S V, wk_2 S V, wk_3 S V, wk_4 S V, wk_5 S V, wk_6 S V, wk_7 S V, wk_8 S V, wk_9 S V, wk_10 S V, wk_11 S V, wk_12 S V, wk_13 S V, wk_14 S V, wk_15 S V, wr_0_0 S V, wr_0_1 S V, wr_1_3 S V, wr_1_4 S V, wr_1_5 S V, wr_1_6 S V, wr_1_7 S V, wr_1_8 S V, wr_1_9 S V, wr_9_0 S V, wr_9_1 S V, wr_9_2 S V, wr_10_12 S V, wr_12_12 S V, wr_14_12 S V, zq_rf]; have := V.lt; omega)), zC_i (by decide), eN, if_neg Int32.lt_irrefl, b62_35]
/-- which keys are there: as one function -/
theorem t_thF (S : Sh h) (V : Wa W) (eN : x 1 0 = nI N) (hN : N ≤ 24) (hM : ∀ n, n < N → x 3 n = nI (M n) ∧ M n ≤ 5) : ∃ th : Int32 → Bool, (∀ key v2 v3, zv 1 56 0 [.ref (W + 1), .int key, v2, v3] [] (zC h W x y) = some (some (.int (zi_bI (th key))), zC h W x y)) ∧ ∀ key, (th key = true ↔ ∃ n, n < N ∧ ¬ 0 < x 2 n ∧ y 6 n = false ∧ ∃ i, i < M n ∧ x 7 (5 * n + i) = key) := by
  have P : ∀ key : Int32, ∃ b : Bool, (b = true ↔ ∃ n, n < N ∧ ¬ 0 < x 2 n ∧ y 6 n = false ∧ ∃ i, i < M n ∧ x 7 (5 * n + i) = key) := fun key => by
    obtain ⟨b, -, hb⟩ := t_th S V (y := y) eN hN hM (key := key) (v2 := .double 0) (v3 := .double 0)
    exact ⟨b, hb⟩
  refine ⟨fun key => Classical.choose (P key), fun key v2 v3 => ?_, fun key => Classical.choose_spec (P key)⟩
  obtain ⟨b, e, hb⟩ := t_th S V (y := y) eN hN hM (key := key) (v2 := v2) (v3 := v3)
  rw [e, show b = Classical.choose (P key) from by rw [Bool.eq_iff_iff, hb]; exact (Classical.choose_spec (P key)).symm]
theorem t_su (S : Sh h) (V : Wa W) {th : Int32 → Bool} (hth : ∀ key v2 v3, zv 1 56 0 [.ref (W + 1), .int key, v2, v3] [] (zC h W x y) = some (some (.int (zi_bI (th key))), zC h W x y)) {u1 u2 : Value} : zv 2 57 0 [.ref (W + 1), u1, u2] [] (zC h W x y) = some (some (.int (itF (fun n a => if th (nI n) = true then a + nI n else a) 100 0 0)), zC h W x y) := by
  have hy : True := trivial
  have hz : True := trivial
  rw [b57_0]
  refine lpF (F := fun a n => zv 2 57 4 [.ref (W + 1), .int a, .int n] [] (zC h W x y)) (E := fun a => some (some (.int a), zC h W x y)) (g := fun n a => if th (nI n) = true then a + nI n else a) (N := 100) (fun n a hn => ?_) (fun a => ?_) 100 0 0 (Nat.zero_add _)
  · try dsimp only
    rw [b57_4, if_pos (show nI n < 100 from nI_lt (b := 100) hn (by decide)), b57_10 (by first | (simp +decide only [zC_n, zC_k, zC_r, S.n, wk_0 S V, wk_1 S V, wk_2 S V, wk_3 S V, wk_4 S V, wk_5 S V, wk_6 S V, wk_7 S V, wk_8 S V, wk_9 S V, wk_10 S V, wk_11 S V, wk_12 S V, wk_13 S V, wk_14 S V, wk_15 S V, wr_0_0 S V, wr_0_1 S V, wr_1_3 S V, wr_1_4 S V, wr_1_5 S V, wr_1_6 S V, wr_1_7 S V, wr_1_8 S V, wr_1_9 S V, wr_9_0 S V, wr_9_1 S V, wr_9_2 S V, wr_10_12 S V, wr_12_12 S V, wr_14_12 S V, zq_rf, hz, hy]; done) | (simp only [zC_n, zC_r, S.n, wk_0 S V, wk_1 S V, wk_2 S V, wk_3 S V, wk_4 S V, wk_5 S V, wk_6 S V, wk_7 S V, wk_8 S V, wk_9 S V, wk_10 S V, wk_11 S V, wk_12 S V, wk_13 S V, wk_14 S V, wk_15 S V, wr_0_0 S V, wr_0_1 S V, wr_1_3 S V, wr_1_4 S V, wr_1_5 S V, wr_1_6 S V, wr_1_7 S V, wr_1_8 S V, wr_1_9 S V, wr_9_0 S V, wr_9_1 S V, wr_9_2 S V, wr_10_12 S V, wr_12_12 S V, wr_14_12 S V, zq_rf]; have := V.lt; omega)) (by first | (simp +decide only [zC_n, zC_k, zC_r, S.n, wk_0 S V, wk_1 S V, wk_2 S V, wk_3 S V, wk_4 S V, wk_5 S V, wk_6 S V, wk_7 S V, wk_8 S V, wk_9 S V, wk_10 S V, wk_11 S V, wk_12 S V, wk_13 S V, wk_14 S V, wk_15 S V, wr_0_0 S V, wr_0_1 S V, wr_1_3 S V, wr_1_4 S V, wr_1_5 S V, wr_1_6 S V, wr_1_7 S V, wr_1_8 S V, wr_1_9 S V, wr_9_0 S V, wr_9_1 S V, wr_9_2 S V, wr_10_12 S V, wr_12_12 S V, wr_14_12 S V, zq_rf, hz, hy]; done) | (simp only [zC_n, zC_r, S.n, wk_0 S V, wk_1 S V, wk_2 S V, wk_3 S V, wk_4 S V, wk_5 S V, wk_6 S V, wk_7 S V, wk_8 S V, wk_9 S V, wk_10 S V, wk_11 S V, wk_12 S V, wk_13 S V, wk_14 S V, wk_15 S V, wr_0_0 S V, wr_0_1 S V, wr_1_3 S V, wr_1_4 S V, wr_1_5 S V, wr_1_6 S V, wr_1_7 S V, wr_1_8 S V, wr_1_9 S V, wr_9_0 S V, wr_9_1 S V, wr_9_2 S V, wr_10_12 S V, wr_12_12 S V, wr_14_12 S V, zq_rf]; have := V.lt; omega)), hth]
    simp only [Option.bind_some, Option.toList_some, Option.toList_none, List.cons_append, List.nil_append]
    rw [b57_15]
    cases th (nI n) with
    | false => rw [zi_bI_f, if_pos rfl, b57_22, nI_s, if_neg (by decide)]
    | true => rw [zi_bI_t, if_neg (by decide), b57_18, b57_22, nI_s, if_pos rfl]
  · try dsimp only
    rw [b57_4, if_neg (show ¬ nI 100 < 100 by decide), b57_28]
/-- the leaves from left to right -/
def lfF (x : Nat → Nat → Int32) : Nat → Int32 → Int32
  | 0, a => a
  | d + 1, a => if a < 0 then a else lfF x d (x 5 a.toNatClampNeg)
theorem t_lf (S : Sh h) (V : Wa W) (eN : x 1 0 = nI N) (hN : N ≤ 24) (h1 : 0 < N) (hr : ∀ n, n < N → x 5 n < 0 ∨ ∃ k, x 5 n = nI k ∧ k < N) {i : Nat} (hi : i < 24) {u1 u2 : Value} : zv 3 63 0 [.ref (W + 1), .int (nI i), u1, u2] [] (zC h W x y) = some (some (.int (lfF x i 0)), zC h W x y) := by
  have hy : True := trivial
  have hz : True := trivial
  have key : ∀ d j (a : Int32), j + d = i → (a < 0 ∨ ∃ k, a = nI k ∧ k < N) → zv 3 63 13 [.ref (W + 1), .int (nI i), .int a, .int (nI j)] [] (zC h W x y) = some (some (.int (lfF x d a)), zC h W x y) := by
    intro d
    induction d with
    | zero =>
      intro j a hj ha
      have e : j = i := by omega
      subst e
      rw [b63_13, if_neg Int32.lt_irrefl, b63_34]; rfl
    | succ d ih =>
      intro j a hj ha
      rw [b63_13, if_pos (nI_lt (by omega) (by omega)), b63_18]
      by_cases q : a < 0
      · rw [if_pos q, b63_34, lfF, if_pos q]
      · obtain ⟨k, rfl, hk⟩ := ha.resolve_left q
        rw [if_neg q, b63_22 (by first | (simp +decide only [zC_n, zC_k, zC_r, S.n, wk_0 S V, wk_1 S V, wk_2 S V, wk_3 S V, wk_4 S V, wk_5 S V, wk_6 S V, wk_7 S V, wk_8 S V, wk_9 S V, wk_10 S V, wk_11 S V, wk_12 S V, wk_13 S V, wk_14 S V, wk_15 S V, wr_0_0 S V, wr_0_1 S V, wr_1_3 S V, wr_1_4 S V, wr_1_5 S V, wr_1_6 S V, wr_1_7 S V, wr_1_8 S V, wr_1_9 S V, wr_9_0 S V, wr_9_1 S V, wr_9_2 S V, wr_10_12 S V, wr_12_12 S V, wr_14_12 S V, zq_rf, hz, hy]; done) | (simp only [zC_n, zC_r, S.n, wk_0 S V, wk_1 S V, wk_2 S V, wk_3 S V, wk_4 S V, wk_5 S V, wk_6 S V, wk_7 S V, wk_8 S V, wk_9 S V, wk_10 S V, wk_11 S V, wk_12 S V, wk_13 S V, wk_14 S V, wk_15 S V, wr_0_0 S V, wr_0_1 S V, wr_1_3 S V, wr_1_4 S V, wr_1_5 S V, wr_1_6 S V, wr_1_7 S V, wr_1_8 S V, wr_1_9 S V, wr_9_0 S V, wr_9_1 S V, wr_9_2 S V, wr_10_12 S V, wr_12_12 S V, wr_14_12 S V, zq_rf]; have := V.lt; omega)) (by first | (simp +decide only [zC_n, zC_k, zC_r, S.n, wk_0 S V, wk_1 S V, wk_2 S V, wk_3 S V, wk_4 S V, wk_5 S V, wk_6 S V, wk_7 S V, wk_8 S V, wk_9 S V, wk_10 S V, wk_11 S V, wk_12 S V, wk_13 S V, wk_14 S V, wk_15 S V, wr_0_0 S V, wr_0_1 S V, wr_1_3 S V, wr_1_4 S V, wr_1_5 S V, wr_1_6 S V, wr_1_7 S V, wr_1_8 S V, wr_1_9 S V, wr_9_0 S V, wr_9_1 S V, wr_9_2 S V, wr_10_12 S V, wr_12_12 S V, wr_14_12 S V, zq_rf, hz, hy]; done) | (simp only [zC_n, zC_r, S.n, wk_0 S V, wk_1 S V, wk_2 S V, wk_3 S V, wk_4 S V, wk_5 S V, wk_6 S V, wk_7 S V, wk_8 S V, wk_9 S V, wk_10 S V, wk_11 S V, wk_12 S V, wk_13 S V, wk_14 S V, wk_15 S V, wr_0_0 S V, wr_0_1 S V, wr_1_3 S V, wr_1_4 S V, wr_1_5 S V, wr_1_6 S V, wr_1_7 S V, wr_1_8 S V, wr_1_9 S V, wr_9_0 S V, wr_9_1 S V, wr_9_2 S V, wr_10_12 S V, wr_12_12 S V, wr_14_12 S V, zq_rf]; have := V.lt; omega)), t_ri S V eN hN hk]
        simp only [Option.bind_some, Option.toList_some, Option.toList_none, List.cons_append, List.nil_append]
        rw [b63_27, nI_s, ih (j + 1) _ (by omega) (hr k hk), lfF, if_neg q, nI_clamp (by omega)]
  rw [b63_0, if_pos (show nI i < 24 from nI_lt (b := 24) hi (by decide)), b63_9]
  exact key i 0 0 (Nat.zero_add _) (Or.inr ⟨0, rfl, h1⟩)
theorem t_lfX {i : Int32} (hi : ¬ i < 24) {a : Nat} {u1 u2 : Value} : zv 3 63 0 [.ref a, .int i, u1, u2] [] h = some (some (.int (-4)), h) := by
  rw [b63_0, if_neg hi, b63_6]
end R32A
end
