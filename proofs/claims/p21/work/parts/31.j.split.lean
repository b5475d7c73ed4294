/-! CLASS AND REFERENCE: a node in two -/
section R31J
variable {h : zi_Hp} {W : Nat} {x x0 x1 Y : Nat → Nat → Int32} {y y1 : Nat → Nat → Bool} {s s1 : Nat → Int32} {N R M B c n k : Nat} {L m H r : Nat → Nat} {K C : Nat → Nat → Nat} {f : Nat → Nat} {bk bc : Nat → Int32}
theorem c2_n {α : Type} {x : Nat → Nat → α} {s sp d dp n a j : Nat} (e : ¬ (a = d ∧ dp ≤ j ∧ j < dp + n)) : c2 x s sp d dp n a j = x a j := if_neg e
theorem c2_s {α : Type} {x : Nat → Nat → α} {s sp d dp n i : Nat} (e : i < n) : c2 x s sp d dp n d (dp + i) = x s (sp + i) := by
  unfold c2
  rw [if_pos (by omega), Nat.add_sub_cancel_left]
section
variable {b ls : Nat}
theorem ts_o {o j : Nat} (hn : n < N) (e : (o = 1 ∧ j ≠ 0) ∨ (2 ≤ o ∧ o ≤ 5 ∧ j ≠ n ∧ j ≠ N) ∨ (o = 2 ∧ j = n) ∨ ((o = 7 ∨ o = 8) ∧ (j < 5 * N ∨ 5 * N + (b - ls) ≤ j)) ∨ 9 ≤ o) : tsF x n N b ls o j = x o j := by
  unfold tsF
  try dsimp only
  rw [u2_n _ _ (by omega), u2_n _ _ (by omega), u2_n _ _ (by omega), u2_n _ _ (by omega), u2_n _ _ (by omega), u2_n _ _ (by omega), c2_n (by omega), c2_n (by omega), taF, u2_n _ _ (by omega), u2_n _ _ (by omega), u2_n _ _ (by omega), u2_n _ _ (by omega), u2_n _ _ (by omega)]
theorem ts_2N (hn : n < N) : tsF x n N b ls 2 N = x 2 n := by
  unfold tsF
  try dsimp only
  rw [u2_n _ _ (by omega), u2_n _ _ (by omega), u2_n _ _ (by omega), u2_n _ _ (by omega), u2_n _ _ (by omega), u2_n _ _ (by omega), c2_n (by omega), c2_n (by omega), taF, u2_n _ _ (by omega), u2_n _ _ (by omega), u2_n _ _ (by omega), u2_s]
theorem ts_3n : tsF x n N b ls 3 n = nI ls := by
  unfold tsF
  try dsimp only
  rw [u2_n _ _ (by omega), u2_n _ _ (by omega), u2_n _ _ (by omega), u2_n _ _ (by omega), u2_s]
theorem ts_3N (hn : n < N) : tsF x n N b ls 3 N = nI (b - ls) := by
  unfold tsF
  try dsimp only
  rw [u2_n _ _ (by omega), u2_n _ _ (by omega), u2_n _ _ (by omega), u2_n _ _ (by omega), u2_n _ _ (by omega), u2_s]
theorem ts_4n (hn : n < N) (hl : ls ≤ 5) : tsF x n N b ls 4 n = x 7 (5 * n + (ls - 1)) := by
  unfold tsF
  try dsimp only
  rw [u2_n _ _ (by omega), u2_n _ _ (by omega), u2_s, u2_n _ _ (by omega), u2_n _ _ (by omega), u2_n _ _ (by omega), c2_n (by omega), c2_n (by omega), taF, u2_n _ _ (by omega), u2_n _ _ (by omega), u2_n _ _ (by omega), u2_n _ _ (by omega), u2_n _ _ (by omega)]
theorem ts_4N (hn : n < N) : tsF x n N b ls 4 N = x 4 n := by
  unfold tsF
  try dsimp only
  rw [u2_n _ _ (by omega), u2_n _ _ (by omega), u2_n _ _ (by omega), u2_s, u2_n _ _ (by omega), u2_n _ _ (by omega), c2_n (by omega), c2_n (by omega), taF, u2_n _ _ (by omega), u2_n _ _ (by omega), u2_n _ _ (by omega), u2_n _ _ (by omega), u2_n _ _ (by omega)]
theorem ts_5n : tsF x n N b ls 5 n = nI N := by
  unfold tsF
  try dsimp only
  rw [u2_s]
theorem ts_5N (hn : n < N) : tsF x n N b ls 5 N = x 5 n := by
  unfold tsF
  try dsimp only
  rw [u2_n _ _ (by omega), u2_s, u2_n _ _ (by omega), u2_n _ _ (by omega), u2_n _ _ (by omega), u2_n _ _ (by omega), c2_n (by omega), c2_n (by omega), taF, u2_n _ _ (by omega), u2_n _ _ (by omega), u2_n _ _ (by omega), u2_n _ _ (by omega), u2_n _ _ (by omega)]
theorem ts_7N {i : Nat} (hi : i < b - ls) : tsF x n N b ls 7 (5 * N + i) = x 7 (5 * n + (ls + i)) := by
  unfold tsF
  try dsimp only
  rw [u2_n _ _ (by omega), u2_n _ _ (by omega), u2_n _ _ (by omega), u2_n _ _ (by omega), u2_n _ _ (by omega), u2_n _ _ (by omega), c2_n (by omega), c2_s hi, taF, u2_n _ _ (by omega), u2_n _ _ (by omega), u2_n _ _ (by omega), u2_n _ _ (by omega), u2_n _ _ (by omega), Nat.add_assoc]
theorem ts_8N {i : Nat} (hi : i < b - ls) : tsF x n N b ls 8 (5 * N + i) = x 8 (5 * n + (ls + i)) := by
  unfold tsF
  try dsimp only
  rw [u2_n _ _ (by omega), u2_n _ _ (by omega), u2_n _ _ (by omega), u2_n _ _ (by omega), u2_n _ _ (by omega), u2_n _ _ (by omega), c2_s hi, c2_n (by omega), taF, u2_n _ _ (by omega), u2_n _ _ (by omega), u2_n _ _ (by omega), u2_n _ _ (by omega), u2_n _ _ (by omega), Nat.add_assoc]
end
theorem s2_g {s : Nat → Int32} {n v kv kn j : Nat} {gv gcv gn gcn : Nat → Int32} {hm : Int32} (hv : kv ≤ 4) (hn : kn ≤ 4) (h1 : j ≠ 312) (e : (j < 13 * n ∨ j = 13 * n ∨ j = 13 * n + 4 ∨ 13 * n + 13 ≤ j)) (e2 : j < 13 * v ∨ 13 * v + 13 ≤ j) : s2F s n v gv gcv gn gcn kv kn hm j = s j := by
  unfold s2F
  rw [up_n _ _ (by omega), up_n _ _ (by omega), nH_o hn (by omega), nH_o hv (by omega), nn_o h1 (by omega)]
theorem CN.split (T : CN x y s N m) (I : InvG s N R M B L m H r K C f) (hn : n < N) (hN : N < 24) {bm ls : Nat} (hls : bm = 3 ∧ ls = 2 ∨ bm = 4 ∧ ls = 2 ∨ bm = 5 ∧ ls = 3) {R' M' B' : Nat} {L' m' H' r' : Nat → Nat} {K' C' : Nat → Nat → Nat} {f' : Nat → Nat} (J : InvG s1 (N + 1) R' M' B' L' m' H' r' K' C' f') (e : ∀ j, j < 315 → s1 j = s2F s n N (fun i => bk (ls + i)) (fun i => bc (ls + i)) bk bc (bm - ls) ls (bk (ls - 1)) j) (xo : ∀ o j, o < 9 → (o ≠ 3 ∨ j ≠ n) → ((o ≠ 7 ∧ o ≠ 8) ∨ j < 5 * n ∨ 5 * n + 5 ≤ j) → x0 o j = x o j) (xk : ∀ i, i < bm → x0 7 (5 * n + i) = bk i ∧ (0 < s (13 * n) → x0 8 (5 * n + i) = bc i)) (x1o : ∀ o j, o < 9 → x1 o j = tsF x0 n N bm ls o j) (hy : ∀ j, y1 6 j = u2 y 6 N false 6 j) : CN x1 y1 s1 (N + 1) m' ∧ m' N = bm - ls ∧ m' n = ls ∧ (∀ a, a < N → a ≠ n → m' a = m a) ∧ (s1 (13 * N) = s (13 * n) ∧ s1 (13 * N + 4) = 0 ∧ s1 (13 * n) = s (13 * n) ∧ s1 (13 * n + 4) = s (13 * n + 4)) ∧ (∀ i, i < bm - ls → s1 (13 * N + (5 + i)) = bk (ls + i)) ∧ (∀ i, i < ls → s1 (13 * n + (5 + i)) = bk i) ∧ (∀ a w, a < N → a ≠ n → w < 13 → s1 (13 * a + w) = s (13 * a + w)) := by
  have G := I.1.2.2.2.1
  have M4 := I.1.2.2.1.2.2
  have kv : bm - ls ≤ 4 := by omega
  have kn : ls ≤ 4 := by omega
  obtain ⟨⟨t0, t1, t2⟩, tn⟩ := T
  have eg : ∀ j, j < 315 → j ≠ 312 → (j < 13 * n ∨ j = 13 * n ∨ j = 13 * n + 4 ∨ 13 * n + 13 ≤ j) → (j < 13 * N ∨ 13 * N + 13 ≤ j) → s1 j = s j := fun j h1 h2 h3 h4 => by rw [e j h1, s2_g kv kn h2 h3 h4]
  have eN : s1 312 = nI (N + 1) := by
    rw [e _ (by decide)]; unfold s2F
    rw [up_n _ _ (by omega), up_n _ _ (by omega), nH_o kn (by omega), nH_o kv (by omega), nn_N hN]
  have v0 : s1 (13 * N) = s (13 * n) := by
    rw [e _ (by omega)]; unfold s2F
    rw [up_n _ _ (by omega), up_n _ _ (by omega), nH_o kn (by omega), nH_o kv (by omega), nn_0]
  have v1 : s1 (13 * N + 1) = nI (bm - ls) := by
    rw [e _ (by omega)]; unfold s2F
    rw [up_n _ _ (by omega), up_n _ _ (by omega), nH_o kn (by omega), nH_1]
  have v2 : s1 (13 * N + 2) = s (13 * n + 2) := by
    rw [e _ (by omega)]; unfold s2F
    rw [up_n _ _ (by omega), up_n _ _ (by omega), nH_o kn (by omega), nH_o kv (by omega), nn_2]
  have v3 : s1 (13 * N + 3) = s (13 * n + 3) := by
    rw [e _ (by omega)]; unfold s2F
    rw [up_n _ _ (by omega), up_n _ _ (by omega), nH_o kn (by omega), nH_o kv (by omega), nn_3]
  have v4 : s1 (13 * N + 4) = 0 := by
    rw [e _ (by omega)]; unfold s2F
    rw [up_n _ _ (by omega), up_n _ _ (by omega), nH_o kn (by omega), nH_o kv (by omega), nn_4]
  have vk : ∀ i, i < bm - ls → s1 (13 * N + (5 + i)) = bk (ls + i) := fun i hi => by
    rw [e _ (by omega)]; unfold s2F
    rw [up_n _ _ (by omega), up_n _ _ (by omega), nH_o kn (by omega), nH_k hi kv]
  have vc : ∀ i, i < bm - ls → s1 (13 * N + (9 + i)) = bc (ls + i) := fun i hi => by
    rw [e _ (by omega)]; unfold s2F
    rw [up_n _ _ (by omega), up_n _ _ (by omega), nH_o kn (by omega), nH_c hi kv]
  have n0 : s1 (13 * n) = s (13 * n) := eg _ (by omega) (by omega) (by omega) (by omega)
  have n4 : s1 (13 * n + 4) = s (13 * n + 4) := eg _ (by omega) (by omega) (by omega) (by omega)
  have n1 : s1 (13 * n + 1) = nI ls := by
    rw [e _ (by omega)]; unfold s2F
    rw [up_n _ _ (by omega), up_n _ _ (by omega), nH_1]
  have n2 : s1 (13 * n + 2) = bk (ls - 1) := by
    rw [e _ (by omega)]; unfold s2F
    rw [up_s]
  have n3 : s1 (13 * n + 3) = nI N := by
    rw [e _ (by omega)]; unfold s2F
    rw [up_n _ _ (by omega), up_s]
  have nk : ∀ i, i < ls → s1 (13 * n + (5 + i)) = bk i := fun i hi => by
    rw [e _ (by omega)]; unfold s2F
    rw [up_n _ _ (by omega), up_n _ _ (by omega), nH_k hi kn]
  have nc : ∀ i, i < ls → s1 (13 * n + (9 + i)) = bc i := fun i hi => by
    rw [e _ (by omega)]; unfold s2F
    rw [up_n _ _ (by omega), up_n _ _ (by omega), nH_c hi kn]
  have mN : m' N = bm - ls := mI_eq J (by omega) (by omega) v1
  have mn : m' n = ls := mI_eq J (by omega) (by omega) n1
  have ma : ∀ a, a < N → a ≠ n → m' a = m a := fun a ha han => mI_eq J (by omega) (by have := (G a ha).2.2.2.2.2.2.2.1; omega) (by rw [eg _ (by omega) (by omega) (by omega) (by omega)]; exact (G a ha).1.2.1)
  refine ⟨⟨⟨?_, ?_, ?_⟩, fun a ha => ?_⟩, mN, mn, ma, ⟨v0, v4, n0, n4⟩, vk, nk, fun a w ha han hw => eg _ (by omega) (by omega) (by omega) (by omega)⟩
  · rw [x1o _ _ (by decide), ts_N hn, eN]
  · rw [x1o _ _ (by decide), ts_o hn (by omega), xo _ _ (by decide) (by omega) (by omega), eg _ (by omega) (by omega) (by omega) (by omega)]; exact t1
  · rw [x1o _ _ (by decide), ts_o hn (by omega), xo _ _ (by decide) (by omega) (by omega), eg _ (by omega) (by omega) (by omega) (by omega)]; exact t2
  · by_cases haN : a = N
    · subst haN
      obtain ⟨⟨u2', u3, u4, u5, u6⟩, uk⟩ := tn n hn
      refine ⟨⟨?_, ?_, ?_, ?_, ?_⟩, fun i hi => ?_⟩
      · rw [x1o _ _ (by decide), ts_2N hn, xo _ _ (by decide) (by omega) (by omega), v0]; exact u2'
      · rw [x1o _ _ (by decide), ts_3N hn, v1]
      · rw [x1o _ _ (by decide), ts_4N hn, xo _ _ (by decide) (by omega) (by omega), v2]; exact u4
      · rw [x1o _ _ (by decide), ts_5N hn, xo _ _ (by decide) (by omega) (by omega), v3]; exact u5
      · rw [hy, u2_s, v4]; decide
      · rw [mN] at hi
        rw [x1o _ _ (by decide), x1o _ _ (by decide), ts_7N hi, ts_8N hi, vk i hi, vc i hi, v0]
        exact xk (ls + i) (by omega)
    · by_cases han : a = n
      · subst han
        obtain ⟨⟨u2', u3, u4, u5, u6⟩, uk⟩ := tn a hn
        refine ⟨⟨?_, ?_, ?_, ?_, ?_⟩, fun i hi => ?_⟩
        · rw [x1o _ _ (by decide), ts_o hn (by omega), xo _ _ (by decide) (by omega) (by omega), n0]; exact u2'
        · rw [x1o _ _ (by decide), ts_3n, n1]
        · rw [x1o _ _ (by decide), ts_4n hn (by omega), n2]; exact (xk (ls - 1) (by omega)).1
        · rw [x1o _ _ (by decide), ts_5n, n3]
        · rw [hy, u2_n _ _ (by omega), n4]; exact u6
        · rw [mn] at hi
          rw [x1o _ _ (by decide), x1o _ _ (by decide), ts_o hn (by omega), ts_o hn (by omega), nk i hi, nc i hi, n0]
          exact xk i (by omega)
      · obtain ⟨⟨u2', u3, u4, u5, u6⟩, uk⟩ := tn a (by omega)
        have g10 := (G a (by omega)).2.2.2.2.2.2.2.1
        refine ⟨⟨?_, ?_, ?_, ?_, ?_⟩, fun i hi => ?_⟩
        · rw [x1o _ _ (by decide), ts_o hn (by omega), xo _ _ (by decide) (by omega) (by omega), eg _ (by omega) (by omega) (by omega) (by omega)]; exact u2'
        · rw [x1o _ _ (by decide), ts_o hn (by omega), xo _ _ (by decide) (by omega) (by omega), eg _ (by omega) (by omega) (by omega) (by omega)]; exact u3
        · rw [x1o _ _ (by decide), ts_o hn (by omega), xo _ _ (by decide) (by omega) (by omega), eg _ (by omega) (by omega) (by omega) (by omega)]; exact u4
        · rw [x1o _ _ (by decide), ts_o hn (by omega), xo _ _ (by decide) (by omega) (by omega), eg _ (by omega) (by omega) (by omega) (by omega)]; exact u5
        · rw [hy, u2_n _ _ (by omega), eg _ (by omega) (by omega) (by omega) (by omega)]; exact u6
        · rw [ma a (by omega) han] at hi
          rw [x1o _ _ (by decide), x1o _ _ (by decide), ts_o hn (by omega), ts_o hn (by omega), xo _ _ (by decide) (by omega) (by omega), xo _ _ (by decide) (by omega) (by omega), eg _ (by omega) (by omega) (by omega) (by omega), eg _ (by omega) (by omega) (by omega) (by omega), eg _ (by omega) (by omega) (by omega) (by omega)]
          exact uk i hi
/-- a client that rises -/
theorem KR.ri (k : KR x y s c) (hs0 : ¬ s (315 + 24 * c) = 0) (hs5 : ¬ s (315 + 24 * c) = 5) {l : Nat} (hl : l < 12) (pa : s (315 + 24 * c + (12 + l)) = -4 ∨ ∃ b, s (315 + 24 * c + (12 + l)) = nI b ∧ b < 1000) {ans mid what dead : Int32} (Y1 : ∀ w, w = 1 ∨ w = 2 ∨ w = 5 ∨ w = 6 ∨ w = 7 → Y (10 + 2 * c) w = x (10 + 2 * c) w) (Y2 : ∀ w, Y (11 + 2 * c) w = x (11 + 2 * c) w) (Y3 : Y 1 1 = s 313) (Y8 : Y (10 + 2 * c) 8 = mid) (Y9 : Y (10 + 2 * c) 10 = what) (y11 : y1 (10 + 2 * c) 11 = decide (dead = 1)) (e0 : s1 (315 + 24 * c) = 3) (ew : ∀ w, w = 1 ∨ w = 2 ∨ w = 5 ∨ w = 6 ∨ w = 7 → s1 (315 + 24 * c + w) = s (315 + 24 * c + w)) (e3 : s1 (315 + 24 * c + 3) = if s (315 + 24 * c + (12 + l)) = -4 then s 313 else s (315 + 24 * c + (12 + l))) (e4 : s1 (315 + 24 * c + 4) = ans) (e8 : s1 (315 + 24 * c + 8) = mid) (e9 : s1 (315 + 24 * c + 9) = what) (e10 : s1 (315 + 24 * c + 10) = nI l) (e11 : s1 (315 + 24 * c + 11) = dead) (ep : ∀ w, w < 12 → s1 (315 + 24 * c + (12 + w)) = s (315 + 24 * c + (12 + w))) : KR (riK Y c l ans) y1 s1 c := by
  obtain ⟨k0, k1, -, k3⟩ := k
  have r0 : riK Y c l ans (10 + 2 * c) 0 = 3 := by unfold riK; rw [u2_s]
  have r3 : riK Y c l ans (10 + 2 * c) 3 = if Y (11 + 2 * c) l < 0 then Y 1 1 else Y (11 + 2 * c) l := by unfold riK; rw [u2_n _ _ (by omega), u2_s]
  have r9 : riK Y c l ans (10 + 2 * c) 9 = nI l := by unfold riK; rw [u2_n _ _ (by omega), u2_n _ _ (by omega), u2_s]
  have r4 : riK Y c l ans (10 + 2 * c) 4 = ans := by unfold riK; rw [u2_n _ _ (by omega), u2_n _ _ (by omega), u2_n _ _ (by omega), u2_s]
  have ro : ∀ o j, (o ≠ 10 + 2 * c ∨ (j ≠ 0 ∧ j ≠ 3 ∧ j ≠ 4 ∧ j ≠ 9)) → riK Y c l ans o j = Y o j := fun o j q => by unfold riK; rw [u2_n _ _ (by omega), u2_n _ _ (by omega), u2_n _ _ (by omega), u2_n _ _ (by omega)]
  unfold KR
  rw [e0]
  refine ⟨r0, fun _ w h1 h7 => ?_, fun _ => ⟨by rw [ro _ _ (by omega), e8]; exact Y8, by rw [r9, e10], by rw [ro _ _ (by omega), e9]; exact Y9, by rw [e11]; exact y11⟩, fun _ _ w hw => by rw [ro _ _ (by omega), Y2, ep w hw]; exact k3 hs0 hs5 w hw⟩
  by_cases w3 : w = 3
  · subst w3
    rw [r3, e3, Y2, Y3, k3 hs0 hs5 l hl]
    rcases pa with q | ⟨b, q, hb⟩
    · rw [q, if_pos (by decide), if_pos rfl]
    · rw [q, if_neg (nI_pos (by omega)), if_neg (fun w => by have := nI_pos (n := b) (by omega); rw [w] at this; exact this (by decide))]
  · by_cases w4 : w = 4
    · subst w4; rw [r4, e4]
    · rw [ro _ _ (by omega), Y1 w (by omega), ew w (by omega)]; exact k1 hs0 w h1 h7
end R31J
