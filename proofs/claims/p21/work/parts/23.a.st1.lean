/-! THE REFERENCE's steps1, isStopped, mayStep -/
section R23A
variable {h : zi_Hp} {q : zQs} {s s' : Nat → Int32} {N R M B : Nat} {L m H r : Nat → Nat} {K C : Nat → Nat → Nat} {f : Nat → Nat} {c : Nat}
/-- cells that no rule looks at (ANSWER, SEEN, STEPS, RIGHTS) -/
theorem InvG.pad (I : InvG s N R M B L m H r K C f) (e : ∀ k, (∀ d w, d < 3 → 4 ≤ w → w ≤ 7 → k ≠ 315 + 24 * d + w) → s' k = s k) : InvG s' N R M B L m H r K C f := by
  obtain ⟨i1, ⟨i2, i3⟩, i4⟩ := I
  have ed : ∀ d, d < 3 → ∀ k, k < 24 → (k < 4 ∨ 7 < k) → s' (315 + 24 * d + k) = s (315 + 24 * d + k) := fun d hd k h24 hk => e _ (fun d' w h1 h2 h3 => by omega)
  have ed0 : ∀ d, d < 3 → s' (315 + 24 * d) = s (315 + 24 * d) := fun d hd => ed d hd 0 (by decide) (by decide)
  refine ⟨i1.same (fun k h9 => e k (fun d' w h1 h2 h3 => by omega)), ⟨fun d hd => ?_, fun a b ha hb hab h1 h2 => ?_⟩, ?_⟩
  · obtain ⟨k, h1, h2, h3⟩ := i2 d hd
    refine ⟨k, by rw [ed0 d hd]; exact h1, h2, fun k1 k2 => ?_⟩
    obtain ⟨g1, g2, a, g3, g4, g5, g6, g7⟩ := h3 k1 k2
    refine ⟨by rw [ed d hd 1 (by decide) (by decide)]; exact g1, by rw [ed d hd 2 (by decide) (by decide)]; exact g2, a, by rw [ed d hd 3 (by decide) (by decide)]; exact g3, g4, fun l hl => by rw [ed d hd (12 + l) (by omega) (by omega)]; exact g5 l hl, g6, fun w => ?_⟩
    rw [ed d hd 8 (by decide) (by decide), ed d hd 9 (by decide) (by decide), ed d hd 10 (by decide) (by decide), ed d hd 11 (by decide) (by decide)]
    exact g7 w
  · unfold hoC at h1 h2
    rw [ed0 a ha] at h1
    rw [ed0 b hb] at h2
    rw [ed a ha 3 (by decide) (by decide), ed b hb 3 (by decide) (by decide)]
    exact i3 a b ha hb hab h1 h2
  · unfold InvS at *
    rw [sumN_congr (n := 3) (g := pnC s') (g' := pnC s) (fun d hd => pnC_e (ed0 d hd) (ed d hd 11 (by decide) (by decide)))]
    exact i4
theorem mu_pad (hc : c < 3) (e : ∀ k, (∀ d w, d < 3 → 4 ≤ w → w ≤ 7 → k ≠ 315 + 24 * d + w) → s' k = s k) : mu s' L f c = mu s L f c := by
  have ed : ∀ d, d < 3 → ∀ k, k < 24 → (k < 4 ∨ 7 < k) → s' (315 + 24 * d + k) = s (315 + 24 * d + k) := fun d hd k h24 hk => e _ (fun d' w h1 h2 h3 => by omega)
  have e0 : s' (315 + 24 * c) = s (315 + 24 * c) := ed c hc 0 (by decide) (by decide)
  unfold mu
  rw [e0, ed c hc 3 (by decide) (by decide), ed c hc 10 (by decide) (by decide)]
/-- a key is in some leaf -/
def thA (s : Nat → Int32) (key : Int32) : Bool := thF s key (s 312).toNatClampNeg
theorem q_thA (S : Sh h) (I : InvG s N R M B L m H r K C f) {key : Int32} {u2 u3 : Value} : zv 3 151 0 [.ref 211, .int key, u2, u3] [] (zQ h q s) = some (some (.int (zi_bI (thA s key))), zQ h q s) := by
  obtain ⟨⟨⟨a1, a2, a3⟩, b1, ⟨d1, d2, d3⟩, G, o, z⟩, -, -⟩ := I
  rw [thA, a1, nI_clamp (by omega)]
  exact q_th S a3 a1 (fun n hn => ⟨m n, by have := (G n hn).2.2.2.2.2.2.2.1; omega, (G n hn).1.2.1⟩)
def onB (s : Nat → Int32) (k : Nat) : Bool := decide (¬ s (315 + 24 * k) = 0 ∧ ¬ s (315 + 24 * k) = 5)
theorem InvG.st6 (I : InvG s N R M B L m H r K C f) (hc : c < 3) : s (315 + 24 * c) = 0 ∨ s (315 + 24 * c) = 1 ∨ s (315 + 24 * c) = 2 ∨ s (315 + 24 * c) = 3 ∨ s (315 + 24 * c) = 4 ∨ s (315 + 24 * c) = 5 := by
  obtain ⟨k, k1, k2, -⟩ := I.2.1.1 c hc
  have : k = 0 ∨ k = 1 ∨ k = 2 ∨ k = 3 ∨ k = 4 ∨ k = 5 := by omega
  rcases this with rfl | rfl | rfl | rfl | rfl | rfl
  · exact Or.inl k1
  · exact Or.inr (Or.inl k1)
  · exact Or.inr (Or.inr (Or.inl k1))
  · exact Or.inr (Or.inr (Or.inr (Or.inl k1)))
  · exact Or.inr (Or.inr (Or.inr (Or.inr (Or.inl k1))))
  · exact Or.inr (Or.inr (Or.inr (Or.inr (Or.inr k1))))
theorem q_on (I : InvG s N R M B L m H r K C f) (hc : c < 3) {h' : zi_Hp} : zv 1 173 0 [.int (s (315 + 24 * c))] [] h' = some (some (.int (zi_bI (onB s c))), h') := by
  rcases I.st6 hc with e | e | e | e | e | e
  · have eb : onB s c = false := by unfold onB; rw [e]; decide
    rw [eb, e]; simp +decide only [b173_0, b173_5, b173_10, b173_14, b173_15, zi_bI_f, Option.bind_some, Option.toList_some, Option.toList_none, List.cons_append, List.nil_append, List.append_nil, zq_rf, or_false, false_or, or_true, true_or, not_false_eq_true, not_true_eq_false, and_true, true_and, and_false, false_and, and_self, or_self, ite_true, ite_false, ↓reduceIte, Int32.reduceAdd, Int32.reduceSub, Int32.reduceMul, Int32.reduceDiv, Int32.reduceLT, Int32.reduceLE, Int32.reduceToNatClampNeg, Int32.reduceToInt, Int32.reduceOfNat, Nat.reduceAdd, Nat.reduceSub, Nat.reduceMul, Nat.reduceLeDiff, Nat.reduceEqDiff]
  · have eb : onB s c = true := by unfold onB; rw [e]; decide
    rw [eb, e]; simp +decide only [b173_0, b173_5, b173_10, b173_14, b173_15, zi_bI_t, Option.bind_some, Option.toList_some, Option.toList_none, List.cons_append, List.nil_append, List.append_nil, zq_rf, or_false, false_or, or_true, true_or, not_false_eq_true, not_true_eq_false, and_true, true_and, and_false, false_and, and_self, or_self, ite_true, ite_false, ↓reduceIte, Int32.reduceAdd, Int32.reduceSub, Int32.reduceMul, Int32.reduceDiv, Int32.reduceLT, Int32.reduceLE, Int32.reduceToNatClampNeg, Int32.reduceToInt, Int32.reduceOfNat, Nat.reduceAdd, Nat.reduceSub, Nat.reduceMul, Nat.reduceLeDiff, Nat.reduceEqDiff]
  · have eb : onB s c = true := by unfold onB; rw [e]; decide
    rw [eb, e]; simp +decide only [b173_0, b173_5, b173_10, b173_14, b173_15, zi_bI_t, Option.bind_some, Option.toList_some, Option.toList_none, List.cons_append, List.nil_append, List.append_nil, zq_rf, or_false, false_or, or_true, true_or, not_false_eq_true, not_true_eq_false, and_true, true_and, and_false, false_and, and_self, or_self, ite_true, ite_false, ↓reduceIte, Int32.reduceAdd, Int32.reduceSub, Int32.reduceMul, Int32.reduceDiv, Int32.reduceLT, Int32.reduceLE, Int32.reduceToNatClampNeg, Int32.reduceToInt, Int32.reduceOfNat, Nat.reduceAdd, Nat.reduceSub, Nat.reduceMul, Nat.reduceLeDiff, Nat.reduceEqDiff]
  · have eb : onB s c = true := by unfold onB; rw [e]; decide
    rw [eb, e]; simp +decide only [b173_0, b173_5, b173_10, b173_14, b173_15, zi_bI_t, Option.bind_some, Option.toList_some, Option.toList_none, List.cons_append, List.nil_append, List.append_nil, zq_rf, or_false, false_or, or_true, true_or, not_false_eq_true, not_true_eq_false, and_true, true_and, and_false, false_and, and_self, or_self, ite_true, ite_false, ↓reduceIte, Int32.reduceAdd, Int32.reduceSub, Int32.reduceMul, Int32.reduceDiv, Int32.reduceLT, Int32.reduceLE, Int32.reduceToNatClampNeg, Int32.reduceToInt, Int32.reduceOfNat, Nat.reduceAdd, Nat.reduceSub, Nat.reduceMul, Nat.reduceLeDiff, Nat.reduceEqDiff]
  · have eb : onB s c = true := by unfold onB; rw [e]; decide
    rw [eb, e]; simp +decide only [b173_0, b173_5, b173_10, b173_14, b173_15, zi_bI_t, Option.bind_some, Option.toList_some, Option.toList_none, List.cons_append, List.nil_append, List.append_nil, zq_rf, or_false, false_or, or_true, true_or, not_false_eq_true, not_true_eq_false, and_true, true_and, and_false, false_and, and_self, or_self, ite_true, ite_false, ↓reduceIte, Int32.reduceAdd, Int32.reduceSub, Int32.reduceMul, Int32.reduceDiv, Int32.reduceLT, Int32.reduceLE, Int32.reduceToNatClampNeg, Int32.reduceToInt, Int32.reduceOfNat, Nat.reduceAdd, Nat.reduceSub, Nat.reduceMul, Nat.reduceLeDiff, Nat.reduceEqDiff]
  · have eb : onB s c = false := by unfold onB; rw [e]; decide
    rw [eb, e]; simp +decide only [b173_0, b173_5, b173_10, b173_14, b173_15, zi_bI_f, Option.bind_some, Option.toList_some, Option.toList_none, List.cons_append, List.nil_append, List.append_nil, zq_rf, or_false, false_or, or_true, true_or, not_false_eq_true, not_true_eq_false, and_true, true_and, and_false, false_and, and_self, or_self, ite_true, ite_false, ↓reduceIte, Int32.reduceAdd, Int32.reduceSub, Int32.reduceMul, Int32.reduceDiv, Int32.reduceLT, Int32.reduceLE, Int32.reduceToNatClampNeg, Int32.reduceToInt, Int32.reduceOfNat, Nat.reduceAdd, Nat.reduceSub, Nat.reduceMul, Nat.reduceLeDiff, Nat.reduceEqDiff]
theorem bI_dec (b : Bool) : decide (zi_bI b = 1) = b := by cases b <;> decide
theorem nI_s (k : Nat) : nI k + 1 = nI (k + 1) := nI_add k 1
/-- who was on: one turn -/
theorem q_s1a (S : Sh h) (I : InvG s N R M B L m H r K C f) {k : Nat} (hk : k < 3) {x1 : Int32} {u3 : Value} : zv 6 174 2 [.ref 211, .int x1, .int (nI k), u3] [] (zQ h q s) = zv 6 174 2 [.ref 211, .int x1, .int (nI (k + 1)), u3] [] (zQ h (q.1, q.2.1, q.2.2.1, fun j => if j = k then onB s k else q.2.2.2 j) s) := by
  have e3 : nI k < 3 := nI_lt (b := 3) hk (by decide)
  have hO := q_on (h' := zQ h q s) I hk
  have hx : ¬ (nI k < 0 ∨ 3 ≤ (nI k).toNatClampNeg) := zj_n hk (by decide)
  rw [b174_2, if_pos e3, b174_7 (q_g0 S) (q_g1 S) (by rw [zQ_r, S.r, rx_211_6, zq_rf]), q_oc0 S hk]
  simp only [Option.bind_some, Option.toList_some, List.cons_append, List.nil_append]
  rw [zQ_r, S.r, rx_211_6, zq_rf, b174_18, hO]
  simp only [Option.bind_some, Option.toList_some, List.cons_append, List.nil_append]
  rw [b174_21 (by rw [zQ_n, S.n]; decide) (by rw [zQ_k, S.k, kx_217]; exact hx) (bI_01 _) (by rw [zQ_k, S.k, kx_217]), nI_clamp (by omega), zQ_wb, bI_dec, nI_s]
/-- what one of those who were on has seen -/
def seF (on : Bool) (k : Nat) (s : Nat → Int32) : Nat → Int32 := if on = true then up s (315 + 24 * k + 5) (s (315 + 24 * k + 5) ||| (1 <<< (zi_bI (thA s (s (315 + 24 * k + 2))) &&& 31))) else s
theorem se_o {on : Bool} {k j : Nat} (hk : k < 3) (hj : ∀ d w, d < 3 → 4 ≤ w → w ≤ 7 → j ≠ 315 + 24 * d + w) : seF on k s j = s j := by
  unfold seF
  by_cases e : on = true
  · rw [if_pos e, up_n _ _ (hj k 5 hk (by decide) (by decide))]
  · rw [if_neg e]
theorem q_s1b (S : Sh h) (I : InvG s N R M B L m H r K C f) {k : Nat} (hk : k < 3) {x1 x2 : Int32} : zv 6 174 84 [.ref 211, .int x1, .int x2, .int (nI k)] [] (zQ h q s) = zv 6 174 84 [.ref 211, .int x1, .int x2, .int (nI (k + 1))] [] (zQ h q (seF (q.2.2.2 k) k s)) := by
  have e3 : nI k < 3 := nI_lt (b := 3) hk (by decide)
  have hx : ¬ (nI k < 0 ∨ 3 ≤ (nI k).toNatClampNeg) := zj_n hk (by decide)
  rw [b174_84, if_pos e3, b174_89 (q_g0 S) (q_g1 S) (by rw [zQ_r, S.r, rx_211_6, zq_rf]) (by rw [zQ_r, S.r, rx_211_6, zq_rf, zQ_n, S.n]; decide) (by rw [zQ_r, S.r, rx_211_6, zq_rf, zQ_k, S.k, kx_217]; exact hx) (by rw [zQ_r, S.r, rx_211_6, zq_rf, zQ_k, S.k, kx_217]), zQ_r, S.r, rx_211_6, zq_rf, nI_clamp (by omega), zQ_217]
  cases hb : q.2.2.2 k with
  | false => rw [zi_bI_f, if_pos rfl, b174_123, nI_s, seF, if_neg (by decide)]
  | true =>
    rw [zi_bI_t, if_neg (by decide), b174_98 (q_g0 S) (q_g1 S), q_oc5 S hk]
    simp only [Option.bind_some, Option.toList_some, List.cons_append, List.nil_append]
    rw [b174_107 (q_g0 S) (q_g1 S), q_oc2 S hk]
    simp only [Option.bind_some, Option.toList_some, List.cons_append, List.nil_append]
    rw [b174_115 (q_g0 S) (q_g1 S), q_thA S I]
    simp only [Option.bind_some, Option.toList_some, List.cons_append, List.nil_append]
    rw [b174_118 (q_g0 S) (q_g1 S), q_cb5 S hk]
    simp only [Option.bind_some, Option.toList_none, List.nil_append]
    rw [b174_123, nI_s, seF, if_pos rfl]
/-- a step, told to all -/
def tdF (s : Nat → Int32) (c : Nat) (x : Int32) : Nat → Int32 := up (up s (315 + 24 * c + 6) (s (315 + 24 * c + 6) + 1)) (315 + 24 * c + 7) (s (315 + 24 * c + 7) + (if x = 1 then 1 else 0))
def stF (s s' : Nat → Int32) (c : Nat) (x : Int32) : Nat → Int32 := if 0 < x then seF (onB s 2) 2 (seF (onB s 1) 1 (seF (onB s 0) 0 (tdF s' c x))) else s'
theorem td_o {x : Int32} {j : Nat} (hc : c < 3) (hj : ∀ d w, d < 3 → 4 ≤ w → w ≤ 7 → j ≠ 315 + 24 * d + w) : tdF s c x j = s j := by
  unfold tdF
  rw [up_n _ _ (hj c 7 hc (by decide) (by decide)), up_n _ _ (hj c 6 hc (by decide) (by decide))]
theorem st_o {x : Int32} {j : Nat} (hc : c < 3) (hj : ∀ d w, d < 3 → 4 ≤ w → w ≤ 7 → j ≠ 315 + 24 * d + w) : stF s s' c x j = s' j := by
  unfold stF
  by_cases e : 0 < x
  · rw [if_pos e, se_o (by decide) hj, se_o (by decide) hj, se_o (by decide) hj, td_o hc hj]
  · rw [if_neg e]
theorem q_st1 (S : Sh h) {x : Int32} (I : InvG s N R M B L m H r K C f) (hc : c < 3) (T : StA s c x s') {N' R' M' B' : Nat} {L' m' H' r' : Nat → Nat} {K' C' : Nat → Nat → Nat} {f' : Nat → Nat} (J : InvG s' N' R' M' B' L' m' H' r' K' C' f') {u2 u3 : Value} : ∃ q', zv 6 174 0 [.ref 211, .int (nI c), u2, u3] [] (zQ h q s) = some (some (.int x), zQ h q' (stF s s' c x)) := by
  have e0 : (0 : Int32) = nI 0 := rfl
  rw [b174_0, e0, q_s1a S I (by decide), q_s1a S I (by decide), q_s1a S I (by decide), b174_2, if_neg (by decide), b174_28 (q_g0 S) (q_g1 S)]
  obtain ⟨q', hw, eq⟩ := q_stp S (q := (q.1, q.2.1, q.2.2.1, fun j => if j = 0 + 1 + 1 then onB s (0 + 1 + 1) else if j = 0 + 1 then onB s (0 + 1) else if j = 0 then onB s 0 else q.2.2.2 j)) hc T
  refine ⟨q', ?_⟩
  rw [eq]
  simp only [Option.bind_some, Option.toList_some, List.cons_append, List.nil_append]
  have w0 : q'.2.2.2 0 = onB s 0 := by rw [hw]; rfl
  have w1 : q'.2.2.2 1 = onB s 1 := by rw [hw]; rfl
  have w2 : q'.2.2.2 2 = onB s 2 := by rw [hw]; rfl
  rw [b174_33]
  by_cases hx : 0 < x
  · rw [if_pos hx, b174_38 (q_g0 S) (q_g1 S), q_oc6 S hc]
    simp only [Option.bind_some, Option.toList_some, List.cons_append, List.nil_append]
    rw [b174_49 (q_g0 S) (q_g1 S), q_cb6 S hc]
    simp only [Option.bind_some, Option.toList_none, List.nil_append]
    rw [b174_54 (q_g0 S) (q_g1 S), q_oc7 S hc, uc_cc _ _ (by decide)]
    simp only [Option.bind_some, Option.toList_some, List.cons_append, List.nil_append]
    have e65 : ∀ {t0 : Nat} {s1 s2 s3 : Int32} {h2 : zi_Hp}, zv 6 174 65 [.ref 211, .int (nI c), .int x, u3] [.int s3, .int s2, .int s1, .ref t0] h2 = zv 6 174 78 [.ref 211, .int (nI c), .int x, u3] [.int (if x = 1 then 1 else 0), .int s3, .int s2, .int s1, .ref t0] h2 := by
      intro t0 s1 s2 s3 h2
      by_cases h1 : x = 1
      · rw [b174_65, if_pos h1, b174_70, b174_75, r_flag]
        simp only [Option.bind_some, Option.toList_some, List.cons_append, List.nil_append, if_pos h1]
        rw [if_neg (by decide)]
      · rw [b174_65, if_neg h1, b174_74, b174_75, r_flag]
        simp only [Option.bind_some, Option.toList_some, List.cons_append, List.nil_append, if_neg h1]
        rw [if_pos trivial]
    rw [e65, b174_78 (q_g0 S) (q_g1 S), q_cb7 S hc]
    simp only [Option.bind_some, Option.toList_none, List.nil_append]
    have et : up (up s' (315 + 24 * c + 6) (s' (315 + 24 * c + 6) + 1)) (315 + 24 * c + 7) (s' (315 + 24 * c + 7) + (if x = 1 then 1 else 0)) = tdF s' c x := rfl
    rw [et, b174_82, e0, q_s1b S (J.pad (fun k hk => td_o hc hk)) (by decide), q_s1b S ((J.pad (fun k hk => td_o hc hk)).pad (fun k hk => se_o (by decide) hk)) (by decide), q_s1b S (((J.pad (fun k hk => td_o hc hk)).pad (fun k hk => se_o (by decide) hk)).pad (fun k hk => se_o (by decide) hk)) (by decide), b174_84, if_neg (by decide), b174_129, w0, w1, w2, stF, if_pos hx]
  · rw [if_neg hx, b174_129, stF, if_neg hx]
/-- a step of the reference: it is there, keeps all, and a client comes nearer to its end -/
theorem q_step (S : Sh h) (I : InvG s N R M B L m H r K C f) (hc : c < 3) {u2 u3 : Value} : ∃ x q' s1 s' N' R' M' B' L' m' H' r' K' C' f', StA s c x s1 ∧ s' = stF s s1 c x ∧ zv 6 174 0 [.ref 211, .int (nI c), u2, u3] [] (zQ h q s) = some (some (.int x), zQ h q' s') ∧ InvG s' N' R' M' B' L' m' H' r' K' C' f' ∧ (¬ x = 0 → mu s' L' f' c < mu s L f c) := by
  obtain ⟨x, s1, N', R', M', B', L', m', H', r', K', C', f', T, J, -, hm⟩ := stI I hc
  obtain ⟨q', eq⟩ := q_st1 S (q := q) I hc T J (u2 := u2) (u3 := u3)
  exact ⟨x, q', s1, stF s s1 c x, N', R', M', B', L', m', H', r', K', C', f', T, rfl, eq, J.pad (fun k hk => st_o hc hk), fun hx => by rw [mu_pad hc (fun k hk => st_o hc hk)]; exact hm hx⟩
end R23A
