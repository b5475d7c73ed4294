/-! THE REFERENCE's isStopped, mayStep, begins, toEnd, does -/
section R23B
variable {h : zi_Hp} {q : zQs} {s s' : Nat → Int32} {N R M B : Nat} {L m H r : Nat → Nat} {K C : Nat → Nat → Nat} {f : Nat → Nat} {c : Nat}
/-- a lock stops it: where it stands DOWN, where it POSTS -/
def sbF (s : Nat → Int32) (c n r : Nat) : Bool :=
  if s (315 + 24 * c) = 1 then decide (s (13 * n + 4) = 0 ∧ ¬ s (13 * n + 2) < s (315 + 24 * c + 2) ∧ s (13 * n) = 0 ∧ ¬ s (315 + 24 * c + 1) = 0 ∧ ¬ lkB s (nI n) = -4)
  else decide (s (315 + 24 * c) = 3 ∧ ¬ s (13 * r) < s (315 + 24 * c + 10) ∧ s (13 * n) = s (315 + 24 * c + 10) ∧ ¬ s (13 * n + 2) < s (315 + 24 * c + 8) ∧ ¬ lkB s (nI n) = -4)
theorem q_iz (S : Sh h) {n r : Nat} (hc : c < 3) (hn : n < 24) (hr : r < 24) (e : s (315 + 24 * c + 3) = nI n) (er : s 313 = nI r) {u2 u3 : Value} : zv 3 175 0 [.ref 211, .int (nI c), u2, u3] [] (zQ h q s) = some (some (.int (zi_bI (sbF s c n r))), zQ h q s) := by
  have l0 : ∀ b : Bool, zi_bI b = 0 ∨ zi_bI b = 1 := bI_01
  unfold sbF
  by_cases h1 : s (315 + 24 * c) = 1
  · rw [if_pos h1]
    by_cases a1 : s (13 * n + 4) = 0
    · by_cases a2 : s (13 * n + 2) < s (315 + 24 * c + 2)
      · simp +decide only [b175_0, b175_6, b175_13, b175_17, b175_23, b175_26, b175_32, b175_38, b175_41, b175_47, b175_50, b175_54, b175_55, b175_60, b175_66, b175_69, b175_74, b175_79, b175_83, b175_84, b175_85, b175_92, b175_99, b175_103, b175_116, b175_120, b175_126, b175_130, b175_137, b175_143, b175_146, b175_151, b175_156, b175_160, b175_161, q_oc0, q_oc1, q_oc2, q_oc3, q_of0, q_of2, q_of4, q_lk, e, h1, a1, a2, decide_false, decide_true, and_self, and_true, true_and, and_false, false_and, not_true, not_false_iff, zi_bI_f, zi_bI_t, S, hc, hn, zQ_n, zQ_k, S.n, S.k, kx_211, Option.bind_some, Option.toList_some, Option.toList_none, List.cons_append, List.nil_append, List.append_nil, zq_rf, or_false, false_or, or_true, true_or, not_false_eq_true, not_true_eq_false, and_true, true_and, and_false, false_and, and_self, or_self, ite_true, ite_false, ↓reduceIte, Int32.reduceAdd, Int32.reduceSub, Int32.reduceMul, Int32.reduceDiv, Int32.reduceLT, Int32.reduceLE, Int32.reduceToNatClampNeg, Int32.reduceToInt, Int32.reduceOfNat, Nat.reduceAdd, Nat.reduceSub, Nat.reduceMul, Nat.reduceLeDiff, Nat.reduceEqDiff]
      · by_cases a3 : s (13 * n) = 0
        · by_cases a4 : s (315 + 24 * c + 1) = 0
          · simp +decide only [b175_0, b175_6, b175_13, b175_17, b175_23, b175_26, b175_32, b175_38, b175_41, b175_47, b175_50, b175_54, b175_55, b175_60, b175_66, b175_69, b175_74, b175_79, b175_83, b175_84, b175_85, b175_92, b175_99, b175_103, b175_116, b175_120, b175_126, b175_130, b175_137, b175_143, b175_146, b175_151, b175_156, b175_160, b175_161, q_oc0, q_oc1, q_oc2, q_oc3, q_of0, q_of2, q_of4, q_lk, e, h1, a1, a2, a3, a4, decide_false, decide_true, and_self, and_true, true_and, and_false, false_and, not_true, not_false_iff, zi_bI_f, zi_bI_t, S, hc, hn, zQ_n, zQ_k, S.n, S.k, kx_211, Option.bind_some, Option.toList_some, Option.toList_none, List.cons_append, List.nil_append, List.append_nil, zq_rf, or_false, false_or, or_true, true_or, not_false_eq_true, not_true_eq_false, and_true, true_and, and_false, false_and, and_self, or_self, ite_true, ite_false, ↓reduceIte, Int32.reduceAdd, Int32.reduceSub, Int32.reduceMul, Int32.reduceDiv, Int32.reduceLT, Int32.reduceLE, Int32.reduceToNatClampNeg, Int32.reduceToInt, Int32.reduceOfNat, Nat.reduceAdd, Nat.reduceSub, Nat.reduceMul, Nat.reduceLeDiff, Nat.reduceEqDiff]
          · by_cases a5 : lkB s (nI n) = -4
            · simp +decide only [b175_0, b175_6, b175_13, b175_17, b175_23, b175_26, b175_32, b175_38, b175_41, b175_47, b175_50, b175_54, b175_55, b175_60, b175_66, b175_69, b175_74, b175_79, b175_83, b175_84, b175_85, b175_92, b175_99, b175_103, b175_116, b175_120, b175_126, b175_130, b175_137, b175_143, b175_146, b175_151, b175_156, b175_160, b175_161, q_oc0, q_oc1, q_oc2, q_oc3, q_of0, q_of2, q_of4, q_lk, e, h1, a1, a2, a3, a4, a5, decide_false, decide_true, and_self, and_true, true_and, and_false, false_and, not_true, not_false_iff, zi_bI_f, zi_bI_t, S, hc, hn, zQ_n, zQ_k, S.n, S.k, kx_211, Option.bind_some, Option.toList_some, Option.toList_none, List.cons_append, List.nil_append, List.append_nil, zq_rf, or_false, false_or, or_true, true_or, not_false_eq_true, not_true_eq_false, and_true, true_and, and_false, false_and, and_self, or_self, ite_true, ite_false, ↓reduceIte, Int32.reduceAdd, Int32.reduceSub, Int32.reduceMul, Int32.reduceDiv, Int32.reduceLT, Int32.reduceLE, Int32.reduceToNatClampNeg, Int32.reduceToInt, Int32.reduceOfNat, Nat.reduceAdd, Nat.reduceSub, Nat.reduceMul, Nat.reduceLeDiff, Nat.reduceEqDiff]
            · simp +decide only [b175_0, b175_6, b175_13, b175_17, b175_23, b175_26, b175_32, b175_38, b175_41, b175_47, b175_50, b175_54, b175_55, b175_60, b175_66, b175_69, b175_74, b175_79, b175_83, b175_84, b175_85, b175_92, b175_99, b175_103, b175_116, b175_120, b175_126, b175_130, b175_137, b175_143, b175_146, b175_151, b175_156, b175_160, b175_161, q_oc0, q_oc1, q_oc2, q_oc3, q_of0, q_of2, q_of4, q_lk, e, h1, a1, a2, a3, a4, a5, decide_false, decide_true, and_self, and_true, true_and, and_false, false_and, not_true, not_false_iff, zi_bI_f, zi_bI_t, S, hc, hn, zQ_n, zQ_k, S.n, S.k, kx_211, Option.bind_some, Option.toList_some, Option.toList_none, List.cons_append, List.nil_append, List.append_nil, zq_rf, or_false, false_or, or_true, true_or, not_false_eq_true, not_true_eq_false, and_true, true_and, and_false, false_and, and_self, or_self, ite_true, ite_false, ↓reduceIte, Int32.reduceAdd, Int32.reduceSub, Int32.reduceMul, Int32.reduceDiv, Int32.reduceLT, Int32.reduceLE, Int32.reduceToNatClampNeg, Int32.reduceToInt, Int32.reduceOfNat, Nat.reduceAdd, Nat.reduceSub, Nat.reduceMul, Nat.reduceLeDiff, Nat.reduceEqDiff]
        · simp +decide only [b175_0, b175_6, b175_13, b175_17, b175_23, b175_26, b175_32, b175_38, b175_41, b175_47, b175_50, b175_54, b175_55, b175_60, b175_66, b175_69, b175_74, b175_79, b175_83, b175_84, b175_85, b175_92, b175_99, b175_103, b175_116, b175_120, b175_126, b175_130, b175_137, b175_143, b175_146, b175_151, b175_156, b175_160, b175_161, q_oc0, q_oc1, q_oc2, q_oc3, q_of0, q_of2, q_of4, q_lk, e, h1, a1, a2, a3, decide_false, decide_true, and_self, and_true, true_and, and_false, false_and, not_true, not_false_iff, zi_bI_f, zi_bI_t, S, hc, hn, zQ_n, zQ_k, S.n, S.k, kx_211, Option.bind_some, Option.toList_some, Option.toList_none, List.cons_append, List.nil_append, List.append_nil, zq_rf, or_false, false_or, or_true, true_or, not_false_eq_true, not_true_eq_false, and_true, true_and, and_false, false_and, and_self, or_self, ite_true, ite_false, ↓reduceIte, Int32.reduceAdd, Int32.reduceSub, Int32.reduceMul, Int32.reduceDiv, Int32.reduceLT, Int32.reduceLE, Int32.reduceToNatClampNeg, Int32.reduceToInt, Int32.reduceOfNat, Nat.reduceAdd, Nat.reduceSub, Nat.reduceMul, Nat.reduceLeDiff, Nat.reduceEqDiff]
    · simp +decide only [b175_0, b175_6, b175_13, b175_17, b175_23, b175_26, b175_32, b175_38, b175_41, b175_47, b175_50, b175_54, b175_55, b175_60, b175_66, b175_69, b175_74, b175_79, b175_83, b175_84, b175_85, b175_92, b175_99, b175_103, b175_116, b175_120, b175_126, b175_130, b175_137, b175_143, b175_146, b175_151, b175_156, b175_160, b175_161, q_oc0, q_oc1, q_oc2, q_oc3, q_of0, q_of2, q_of4, q_lk, e, h1, a1, decide_false, decide_true, and_self, and_true, true_and, and_false, false_and, not_true, not_false_iff, zi_bI_f, zi_bI_t, S, hc, hn, zQ_n, zQ_k, S.n, S.k, kx_211, Option.bind_some, Option.toList_some, Option.toList_none, List.cons_append, List.nil_append, List.append_nil, zq_rf, or_false, false_or, or_true, true_or, not_false_eq_true, not_true_eq_false, and_true, true_and, and_false, false_and, and_self, or_self, ite_true, ite_false, ↓reduceIte, Int32.reduceAdd, Int32.reduceSub, Int32.reduceMul, Int32.reduceDiv, Int32.reduceLT, Int32.reduceLE, Int32.reduceToNatClampNeg, Int32.reduceToInt, Int32.reduceOfNat, Nat.reduceAdd, Nat.reduceSub, Nat.reduceMul, Nat.reduceLeDiff, Nat.reduceEqDiff]
  · rw [if_neg h1]
    by_cases a1 : s (315 + 24 * c) = 3
    · have h13 : ¬ (3 : Int32) = 1 := by decide
      by_cases a2 : s (13 * r) < s (315 + 24 * c + 10)
      · simp +decide only [b175_0, b175_6, b175_13, b175_17, b175_23, b175_26, b175_32, b175_38, b175_41, b175_47, b175_50, b175_54, b175_55, b175_60, b175_66, b175_69, b175_74, b175_79, b175_83, b175_84, b175_85, b175_92, b175_99, b175_103, b175_116, b175_120, b175_126, b175_130, b175_137, b175_143, b175_146, b175_151, b175_156, b175_160, b175_161, q_oc0, q_oc3, q_oc8, q_oc10, q_of0, q_of2, q_lk, e, er, h13, a1, a2, decide_false, decide_true, and_self, and_true, true_and, and_false, false_and, not_true, not_false_iff, zi_bI_f, zi_bI_t, S, hc, hn, hr, zQ_n, zQ_k, zQ_r, zQ_212, S.n, S.k, S.r, kx_211, kx_212, rx_211_0, Option.bind_some, Option.toList_some, Option.toList_none, List.cons_append, List.nil_append, List.append_nil, zq_rf, or_false, false_or, or_true, true_or, not_false_eq_true, not_true_eq_false, and_true, true_and, and_false, false_and, and_self, or_self, ite_true, ite_false, ↓reduceIte, Int32.reduceAdd, Int32.reduceSub, Int32.reduceMul, Int32.reduceDiv, Int32.reduceLT, Int32.reduceLE, Int32.reduceToNatClampNeg, Int32.reduceToInt, Int32.reduceOfNat, Nat.reduceAdd, Nat.reduceSub, Nat.reduceMul, Nat.reduceLeDiff, Nat.reduceEqDiff]
      · by_cases a3 : s (13 * n) = s (315 + 24 * c + 10)
        · by_cases a4 : s (13 * n + 2) < s (315 + 24 * c + 8)
          · simp +decide only [b175_0, b175_6, b175_13, b175_17, b175_23, b175_26, b175_32, b175_38, b175_41, b175_47, b175_50, b175_54, b175_55, b175_60, b175_66, b175_69, b175_74, b175_79, b175_83, b175_84, b175_85, b175_92, b175_99, b175_103, b175_116, b175_120, b175_126, b175_130, b175_137, b175_143, b175_146, b175_151, b175_156, b175_160, b175_161, q_oc0, q_oc3, q_oc8, q_oc10, q_of0, q_of2, q_lk, e, er, h13, a1, a2, a3, a4, decide_false, decide_true, and_self, and_true, true_and, and_false, false_and, not_true, not_false_iff, zi_bI_f, zi_bI_t, S, hc, hn, hr, zQ_n, zQ_k, zQ_r, zQ_212, S.n, S.k, S.r, kx_211, kx_212, rx_211_0, Option.bind_some, Option.toList_some, Option.toList_none, List.cons_append, List.nil_append, List.append_nil, zq_rf, or_false, false_or, or_true, true_or, not_false_eq_true, not_true_eq_false, and_true, true_and, and_false, false_and, and_self, or_self, ite_true, ite_false, ↓reduceIte, Int32.reduceAdd, Int32.reduceSub, Int32.reduceMul, Int32.reduceDiv, Int32.reduceLT, Int32.reduceLE, Int32.reduceToNatClampNeg, Int32.reduceToInt, Int32.reduceOfNat, Nat.reduceAdd, Nat.reduceSub, Nat.reduceMul, Nat.reduceLeDiff, Nat.reduceEqDiff]
          · by_cases a5 : lkB s (nI n) = -4
            · simp +decide only [b175_0, b175_6, b175_13, b175_17, b175_23, b175_26, b175_32, b175_38, b175_41, b175_47, b175_50, b175_54, b175_55, b175_60, b175_66, b175_69, b175_74, b175_79, b175_83, b175_84, b175_85, b175_92, b175_99, b175_103, b175_116, b175_120, b175_126, b175_130, b175_137, b175_143, b175_146, b175_151, b175_156, b175_160, b175_161, q_oc0, q_oc3, q_oc8, q_oc10, q_of0, q_of2, q_lk, e, er, h13, a1, a2, a3, a4, a5, decide_false, decide_true, and_self, and_true, true_and, and_false, false_and, not_true, not_false_iff, zi_bI_f, zi_bI_t, S, hc, hn, hr, zQ_n, zQ_k, zQ_r, zQ_212, S.n, S.k, S.r, kx_211, kx_212, rx_211_0, Option.bind_some, Option.toList_some, Option.toList_none, List.cons_append, List.nil_append, List.append_nil, zq_rf, or_false, false_or, or_true, true_or, not_false_eq_true, not_true_eq_false, and_true, true_and, and_false, false_and, and_self, or_self, ite_true, ite_false, ↓reduceIte, Int32.reduceAdd, Int32.reduceSub, Int32.reduceMul, Int32.reduceDiv, Int32.reduceLT, Int32.reduceLE, Int32.reduceToNatClampNeg, Int32.reduceToInt, Int32.reduceOfNat, Nat.reduceAdd, Nat.reduceSub, Nat.reduceMul, Nat.reduceLeDiff, Nat.reduceEqDiff]
            · simp +decide only [b175_0, b175_6, b175_13, b175_17, b175_23, b175_26, b175_32, b175_38, b175_41, b175_47, b175_50, b175_54, b175_55, b175_60, b175_66, b175_69, b175_74, b175_79, b175_83, b175_84, b175_85, b175_92, b175_99, b175_103, b175_116, b175_120, b175_126, b175_130, b175_137, b175_143, b175_146, b175_151, b175_156, b175_160, b175_161, q_oc0, q_oc3, q_oc8, q_oc10, q_of0, q_of2, q_lk, e, er, h13, a1, a2, a3, a4, a5, decide_false, decide_true, and_self, and_true, true_and, and_false, false_and, not_true, not_false_iff, zi_bI_f, zi_bI_t, S, hc, hn, hr, zQ_n, zQ_k, zQ_r, zQ_212, S.n, S.k, S.r, kx_211, kx_212, rx_211_0, Option.bind_some, Option.toList_some, Option.toList_none, List.cons_append, List.nil_append, List.append_nil, zq_rf, or_false, false_or, or_true, true_or, not_false_eq_true, not_true_eq_false, and_true, true_and, and_false, false_and, and_self, or_self, ite_true, ite_false, ↓reduceIte, Int32.reduceAdd, Int32.reduceSub, Int32.reduceMul, Int32.reduceDiv, Int32.reduceLT, Int32.reduceLE, Int32.reduceToNatClampNeg, Int32.reduceToInt, Int32.reduceOfNat, Nat.reduceAdd, Nat.reduceSub, Nat.reduceMul, Nat.reduceLeDiff, Nat.reduceEqDiff]
        · simp +decide only [b175_0, b175_6, b175_13, b175_17, b175_23, b175_26, b175_32, b175_38, b175_41, b175_47, b175_50, b175_54, b175_55, b175_60, b175_66, b175_69, b175_74, b175_79, b175_83, b175_84, b175_85, b175_92, b175_99, b175_103, b175_116, b175_120, b175_126, b175_130, b175_137, b175_143, b175_146, b175_151, b175_156, b175_160, b175_161, q_oc0, q_oc3, q_oc8, q_oc10, q_of0, q_of2, q_lk, e, er, h13, a1, a2, a3, decide_false, decide_true, and_self, and_true, true_and, and_false, false_and, not_true, not_false_iff, zi_bI_f, zi_bI_t, S, hc, hn, hr, zQ_n, zQ_k, zQ_r, zQ_212, S.n, S.k, S.r, kx_211, kx_212, rx_211_0, Option.bind_some, Option.toList_some, Option.toList_none, List.cons_append, List.nil_append, List.append_nil, zq_rf, or_false, false_or, or_true, true_or, not_false_eq_true, not_true_eq_false, and_true, true_and, and_false, false_and, and_self, or_self, ite_true, ite_false, ↓reduceIte, Int32.reduceAdd, Int32.reduceSub, Int32.reduceMul, Int32.reduceDiv, Int32.reduceLT, Int32.reduceLE, Int32.reduceToNatClampNeg, Int32.reduceToInt, Int32.reduceOfNat, Nat.reduceAdd, Nat.reduceSub, Nat.reduceMul, Nat.reduceLeDiff, Nat.reduceEqDiff]
    · simp +decide only [b175_0, b175_6, b175_13, b175_17, b175_23, b175_26, b175_32, b175_38, b175_41, b175_47, b175_50, b175_54, b175_55, b175_60, b175_66, b175_69, b175_74, b175_79, b175_83, b175_84, b175_85, b175_92, b175_99, b175_103, b175_116, b175_120, b175_126, b175_130, b175_137, b175_143, b175_146, b175_151, b175_156, b175_160, b175_161, q_oc0, q_oc3, q_oc8, q_oc10, e, h1, a1, decide_false, decide_true, and_self, and_true, true_and, and_false, false_and, not_true, not_false_iff, zi_bI_f, zi_bI_t, S, hc, hn, hr, zQ_n, zQ_k, S.n, S.k, kx_211, Option.bind_some, Option.toList_some, Option.toList_none, List.cons_append, List.nil_append, List.append_nil, zq_rf, or_false, false_or, or_true, true_or, not_false_eq_true, not_true_eq_false, and_true, true_and, and_false, false_and, and_self, or_self, ite_true, ite_false, ↓reduceIte, Int32.reduceAdd, Int32.reduceSub, Int32.reduceMul, Int32.reduceDiv, Int32.reduceLT, Int32.reduceLE, Int32.reduceToNatClampNeg, Int32.reduceToInt, Int32.reduceOfNat, Nat.reduceAdd, Nat.reduceSub, Nat.reduceMul, Nat.reduceLeDiff, Nat.reduceEqDiff]
def msF (s : Nat → Int32) (c : Nat) : Bool := onB s c && !sbF s c (s (315 + 24 * c + 3)).toNatClampNeg (s 313).toNatClampNeg
theorem InvG.at (I : InvG s N R M B L m H r K C f) (hc : c < 3) (ho : onB s c = true) : ∃ a, a < N ∧ s (315 + 24 * c + 3) = nI a := by
  obtain ⟨k, k1, k2, k3⟩ := I.2.1.1 c hc
  unfold onB at ho
  rw [k1, decide_eq_true_eq] at ho
  have h0 : k ≠ 0 := fun w => ho.1 (by rw [w]; rfl)
  have h5 : k ≠ 5 := fun w => ho.2 (by rw [w]; rfl)
  obtain ⟨-, -, a, g3, g4, -⟩ := k3 (by omega) (by omega)
  exact ⟨a, g4, g3⟩
theorem q_ms (S : Sh h) (I : InvG s N R M B L m H r K C f) (hc : c < 3) : zv 4 176 0 [.ref 211, .int (nI c)] [] (zQ h q s) = some (some (.int (zi_bI (msF s c))), zQ h q s) := by
  obtain ⟨⟨⟨a1, a2, a3⟩, ⟨b1, b2⟩, -⟩, -, -⟩ := id I
  rw [b176_0 (q_g0 S) (q_g1 S), q_oc0 S hc]
  simp only [Option.bind_some, Option.toList_some, List.cons_append, List.nil_append]
  rw [b176_6, q_on I hc]
  simp only [Option.bind_some, Option.toList_some, List.cons_append, List.nil_append]
  rw [b176_9]
  cases ho : onB s c with
  | false =>
    have em : msF s c = false := by unfold msF; rw [ho]; rfl
    rw [zi_bI_f, if_pos rfl, b176_24, b176_25 (Or.inl rfl), em, zi_bI_f]
  | true =>
    obtain ⟨a, ha, ea⟩ := I.at hc ho
    have em : msF s c = !sbF s c a R := by unfold msF; rw [ho, ea, b1, nI_clamp (by omega), nI_clamp (by omega)]; rfl
    rw [zi_bI_t, if_neg (by decide), b176_12 (q_g0 S) (q_g1 S), q_iz S hc (by omega) (by omega) ea b1, em]
    simp only [Option.bind_some, Option.toList_some, List.cons_append, List.nil_append]
    rw [b176_17]
    cases sbF s c a R with
    | false => rw [zi_bI_f, if_pos rfl, b176_20, b176_25 (Or.inr rfl)]; rfl
    | true => rw [zi_bI_t, if_neg (by decide), b176_24, b176_25 (Or.inl rfl)]; rfl
/-- who may step does step -/
theorem ms_x (I : InvG s N R M B L m H r K C f) (hc : c < 3) (hm : msF s c = true) {x : Int32} (T : StA s c x s') : ¬ x = 0 := by
  obtain ⟨⟨⟨a1, a2, a3⟩, ⟨b1, b2⟩, -, G, -⟩, -, -⟩ := id I
  unfold msF at hm
  rw [Bool.and_eq_true, Bool.not_eq_true'] at hm
  obtain ⟨ho, hz⟩ := hm
  obtain ⟨a, ha, ea⟩ := I.at hc ho
  rw [ea, b1, nI_clamp (by omega), nI_clamp (by omega)] at hz
  unfold sbF at hz
  intro hx
  subst hx
  have n0 : ∀ {y : Int32} {P : Prop}, (0 : Int32) = y → ¬ y = 0 → P := fun w1 w2 => absurd w1.symm w2
  rcases T with ⟨t1, T⟩ | ⟨t1, t2, T⟩ | ⟨t1, t2, T⟩ | ⟨t1, T⟩ | ⟨t1, t2, T⟩ | ⟨t1, t2, T⟩ | ⟨t1, -, -⟩
  · rw [if_pos t1, decide_eq_false_iff_not] at hz
    obtain ⟨n, hn, e, T⟩ := T
    have en : n = a := by rw [ea] at e; exact ((nI_eq' (by omega) (by omega)).mp e).symm
    subst en
    rcases T with ⟨-, w, -⟩ | ⟨k1, k2, ⟨_, _, _, _, _, _, _, _, w, _⟩ | ⟨k3, ⟨_, _, _, _, w, _⟩ | ⟨_, _, w, _⟩ | ⟨k4, k5, -, -⟩⟩⟩
    · exact n0 w (by decide)
    · exact n0 w (by decide)
    · exact n0 w (by decide)
    · exact n0 w (by decide)
    · have := (G n ha).2.2.1
      refine hz ⟨?_, k2, k3, k4, k5⟩
      rcases this with q | q
      · exact q
      · exact absurd q.1 k1
  · obtain ⟨n, m9, M9, -, -, -, -, -, -, -, -, T⟩ := T
    rcases T with ⟨-, w, -⟩ | ⟨-, p, -, -, -, ⟨-, w, -⟩ | ⟨-, -, w, -⟩ | ⟨-, v, ls, -, -, -, -, w, -⟩⟩
    · exact n0 w (by decide)
    · exact n0 w (by decide)
    · exact n0 w (by decide)
    · exact n0 w (by decide)
  · obtain ⟨n, m9, -, -, -, -, -, T⟩ := T
    rcases T with ⟨-, w, -⟩ | ⟨-, p, -, -, -, ⟨-, w, -⟩ | ⟨-, -, w, -⟩⟩
    · exact n0 w (by decide)
    · exact n0 w (by decide)
    · exact n0 w (by decide)
  · rw [if_neg (by rw [t1]; decide), decide_eq_false_iff_not] at hz
    obtain ⟨n, r9, hn, hr, e, er, T⟩ := T
    have en : n = a := by rw [ea] at e; exact ((nI_eq' (by omega) (by omega)).mp e).symm
    have en' : r9 = R := by rw [b1] at er; exact ((nI_eq' (by omega) (by omega)).mp er).symm
    subst en en'
    rcases T with ⟨-, ⟨-, w, -⟩ | ⟨-, v, -, -, w, -⟩⟩ | ⟨k1, ⟨-, w, -⟩ | ⟨k2, ⟨-, w, -⟩ | ⟨k3, ⟨-, j, -, -, -, w, -⟩ | ⟨-, -, w, -⟩ | ⟨k4, k5, -, -⟩⟩⟩⟩
    · exact n0 w (by decide)
    · exact n0 w (by decide)
    · exact n0 w (by decide)
    · exact n0 w (by decide)
    · exact n0 w (by decide)
    · exact n0 w (by decide)
    · exact hz ⟨t1, k1, Int32.le_antisymm (Int32.not_lt.mp k4) (Int32.not_lt.mp k2), k3, k5⟩
  · obtain ⟨n, m9, j, -, -, -, -, -, -, -, T⟩ := T
    rcases T with ⟨-, w, -⟩ | ⟨-, -, -, w, -⟩
    · exact n0 w (by decide)
    · exact n0 w (by decide)
  · obtain ⟨n, m9, j, M9, -, -, -, -, -, -, -, -, -, -, T⟩ := T
    rcases T with ⟨-, w, -⟩ | ⟨-, ⟨-, w, -⟩ | ⟨-, -, w, -⟩ | ⟨-, v, t, ls, -, -, -, -, -, -, w, -⟩⟩
    · exact n0 w (by decide)
    · exact n0 w (by decide)
    · exact n0 w (by decide)
    · exact n0 w (by decide)
  · unfold onB at ho
    rw [decide_eq_true_eq] at ho
    rcases t1 with w | w
    · exact ho.1 w
    · exact ho.2 w
/-- a stretch of cells, all one number -/
def flF (s : Nat → Int32) (a b : Nat) (v : Int32) : Nat → Int32 := fun j => if a ≤ j ∧ j < b then v else s j
theorem fl_e {a : Nat} {v : Int32} : flF s a a v = s := by
  funext j
  unfold flF
  exact if_neg (by omega)
theorem fl_u {a b : Nat} {v : Int32} (hab : a < b) : flF (up s a v) (a + 1) b v = flF s a b v := by
  funext j
  unfold flF up
  by_cases h1 : j = a
  · subst h1
    rw [if_neg (by omega), if_pos rfl, if_pos ⟨Nat.le_refl _, hab⟩]
  · rw [if_neg h1]
    by_cases h2 : a + 1 ≤ j ∧ j < b
    · rw [if_pos h2, if_pos (by omega)]
    · rw [if_neg h2, if_neg (by omega)]
theorem q_be1 (S : Sh h) (hc : c < 3) {x2 x3 : Int32} : ∀ d k s, k + d = 24 → zv 4 177 3 [.ref 211, .int (nI c), .int x2, .int x3, .int (nI k)] [] (zQ h q s) = zv 4 177 24 [.ref 211, .int (nI c), .int x2, .int x3, .int 24] [] (zQ h q (flF s (315 + 24 * c + k) (315 + 24 * c + 24) 0))
  | 0, k, s, hk => by
    have e : k = 24 := by omega
    subst e
    rw [b177_3, if_neg (by decide), fl_e]; rfl
  | d + 1, k, s, hk => by
    have e3 : nI k < 24 := nI_lt (b := 24) (by omega) (by decide)
    rw [b177_3, if_pos e3, b177_10 (q_g0 S) (q_g1 S), q_cb S hc (w := k) (by omega)]
    simp only [Option.bind_some, Option.toList_none, List.nil_append]
    rw [b177_18, nI_s, q_be1 S hc d (k + 1) _ (by omega), ← fl_u (s := s) (a := 315 + 24 * c + k) (by omega)]
    rfl
theorem q_be2 (S : Sh h) (hc : c < 3) {x2 x3 : Int32} : ∀ d k s, k + d = 12 → zv 4 177 27 [.ref 211, .int (nI c), .int x2, .int x3, .int (nI k)] [] (zQ h q s) = zv 4 177 52 [.ref 211, .int (nI c), .int x2, .int x3, .int 12] [] (zQ h q (flF s (315 + 24 * c + (12 + k)) (315 + 24 * c + 24) (-4)))
  | 0, k, s, hk => by
    have e : k = 12 := by omega
    subst e
    rw [b177_27, if_neg (by decide), fl_e]; rfl
  | d + 1, k, s, hk => by
    have e3 : nI k < 12 := nI_lt (b := 12) (by omega) (by decide)
    have e12 : (12 : Int32) + nI k = nI (12 + k) := nI_add 12 k
    rw [b177_27, if_pos e3, b177_34 (q_g0 S) (q_g1 S), e12, q_cb S hc (w := 12 + k) (by omega)]
    simp only [Option.bind_some, Option.toList_none, List.nil_append]
    rw [b177_46, nI_s, q_be2 S hc d (k + 1) _ (by omega), ← fl_u (s := s) (a := 315 + 24 * c + (12 + k)) (by omega)]
    rfl
/-- a client that begins -/
def bfF (s : Nat → Int32) (c : Nat) (act key : Int32) : Nat → Int32 := up (up (up (up (up (flF (flF s (315 + 24 * c + 0) (315 + 24 * c + 24) 0) (315 + 24 * c + (12 + 0)) (315 + 24 * c + 24) (-4)) (315 + 24 * c) 1) (315 + 24 * c + 1) act) (315 + 24 * c + 2) key) (315 + 24 * c + 3) (s 313)) (315 + 24 * c + 4) (-4)
def beF (s : Nat → Int32) (c : Nat) (act key : Int32) : Nat → Int32 := up (bfF s c act key) (315 + 24 * c + 5) (1 <<< (zi_bI (thA (bfF s c act key) key) &&& 31))
theorem bf_o {act key : Int32} {j : Nat} (hj : j < 315 + 24 * c ∨ 315 + 24 * c + 24 ≤ j) : bfF s c act key j = s j := by
  unfold bfF
  rw [up_n _ _ (by omega), up_n _ _ (by omega), up_n _ _ (by omega), up_n _ _ (by omega), up_n _ _ (by omega), flF, if_neg (by omega), flF, if_neg (by omega)]
theorem bf_p {act key : Int32} {l : Nat} (hl : l < 12) : bfF s c act key (315 + 24 * c + (12 + l)) = -4 := by
  unfold bfF
  rw [uc_cc _ _ (by omega), uc_cc _ _ (by omega), uc_cc _ _ (by omega), uc_cc _ _ (by omega), uc_0c _ _ (by omega), flF, if_pos (by omega)]
theorem InvG.bf (I : InvG s N R M B L m H r K C f) (hc : c < 3) {a k : Nat} (ha : a ≤ 2) (hk : k ≤ 99) : InvG (bfF s c (nI a) (nI k)) N R M B L m H r K C f := by
  have e0 : bfF s c (nI a) (nI k) (315 + 24 * c) = 1 := by
    unfold bfF
    rw [uc_c0 _ _ (by decide), uc_c0 _ _ (by decide), uc_c0 _ _ (by decide), uc_c0 _ _ (by decide), up_s]
  refine I.cl hc (fun j hj => bf_o hj) ⟨1, e0, by decide, fun _ _ => ⟨⟨a, ?_, ha⟩, ⟨k, ?_, hk⟩, R, ?_, I.1.2.1.2, fun l hl => Or.inl (bf_p hl), fun w => absurd w (by decide), fun w => absurd w (by decide)⟩⟩ ?_ (fun w => ?_)
  · unfold bfF
    rw [uc_cc _ _ (by decide), uc_cc _ _ (by decide), uc_cc _ _ (by decide), up_s]
  · unfold bfF
    rw [uc_cc _ _ (by decide), uc_cc _ _ (by decide), up_s]
  · unfold bfF
    rw [uc_cc _ _ (by decide), up_s]
    exact I.1.2.1.1
  · rw [pn_0 (k := 1) e0 (by omega)]; omega
  · unfold hoC at w
    rw [e0] at w
    rcases w with q | q <;> exact absurd q (by decide)
theorem InvG.be (I : InvG s N R M B L m H r K C f) (hc : c < 3) {a k : Nat} (ha : a ≤ 2) (hk : k ≤ 99) : InvG (beF s c (nI a) (nI k)) N R M B L m H r K C f := (I.bf hc ha hk).pad (fun j hj => up_n _ _ (hj c 5 hc (by decide) (by decide)))
theorem q_beg (S : Sh h) (I : InvG s N R M B L m H r K C f) (hc : c < 3) {a k : Nat} (ha : a ≤ 2) (hk : k ≤ 99) {u4 : Value} : zv 4 177 0 [.ref 211, .int (nI c), .int (nI a), .int (nI k), u4] [] (zQ h q s) = some (none, zQ h q (beF s c (nI a) (nI k))) := by
  have e0 : (0 : Int32) = nI 0 := rfl
  rw [b177_0, e0, q_be1 S hc 24 0 s (by decide), b177_24, e0, q_be2 S hc 12 0 _ (by decide), b177_52 (q_g0 S) (q_g1 S), ← e0, q_cb0 S hc]
  simp only [Option.bind_some, Option.toList_none, List.nil_append]
  rw [b177_59 (q_g0 S) (q_g1 S), q_cb1 S hc]
  simp only [Option.bind_some, Option.toList_none, List.nil_append]
  rw [b177_66 (q_g0 S) (q_g1 S), q_cb2 S hc]
  simp only [Option.bind_some, Option.toList_none, List.nil_append]
  rw [b177_73 (q_g0 S) (q_g1 S) (by rw [q_r0 S, zq_rf]) (by rw [q_r0 S, zq_rf, zQ_n, S.n]; decide) (by rw [q_r0 S, zq_rf, zQ_k, S.k, kx_212]; decide) (by rw [q_r0 S, zq_rf, zQ_k, S.k, kx_212]), q_r0 S, zq_rf, zQ_212, q_cb3 S hc]
  simp only [Option.bind_some, Option.toList_none, List.nil_append]
  rw [b177_87 (q_g0 S) (q_g1 S), q_cb4 S hc]
  simp only [Option.bind_some, Option.toList_none, List.nil_append]
  have e313 : up (up (up (flF (flF s (315 + 24 * c + 0) (315 + 24 * c + 24) 0) (315 + 24 * c + (12 + 0)) (315 + 24 * c + 24) (-4)) (315 + 24 * c) 1) (315 + 24 * c + 1) (nI a)) (315 + 24 * c + 2) (nI k) 313 = s 313 := by
    rw [up_n _ _ (by omega), up_n _ _ (by omega), up_n _ _ (by omega), flF, if_neg (by omega), flF, if_neg (by omega)]
  have eb : up (up (up (up (up (flF (flF s (315 + 24 * c + 0) (315 + 24 * c + 24) 0) (315 + 24 * c + (12 + 0)) (315 + 24 * c + 24) (-4)) (315 + 24 * c) 1) (315 + 24 * c + 1) (nI a)) (315 + 24 * c + 2) (nI k)) (315 + 24 * c + 3) (s 313)) (315 + 24 * c + 4) (-4) = bfF s c (nI a) (nI k) := rfl
  rw [e313, eb, b177_95 (q_g0 S) (q_g1 S), q_thA S (I.bf hc ha hk)]
  simp only [Option.bind_some, Option.toList_some, List.cons_append, List.nil_append]
  rw [b177_104 (q_g0 S) (q_g1 S), q_cb5 S hc]
  simp only [Option.bind_some, Option.toList_none, List.nil_append]
  rw [b177_108]
  rfl
/-- so many steps, at most -/
theorem q_teL (S : Sh h) (hc : c < 3) {n : Nat} (hn : n < 1000) : ∀ d k, k + d = n → ∀ {q : zQs} {s : Nat → Int32}, Inv s → ∃ j q' s', j ≤ n ∧ zv 7 178 2 [.ref 211, .int (nI c), .int (nI n), .int (nI k)] [] (zQ h q s) = some (some (.int (nI j)), zQ h q' s') ∧ Inv s'
  | 0, k, hk, q, s, I => by
    have e : k = n := by omega
    subst e
    exact ⟨k, q, s, Nat.le_refl _, by rw [b178_2, if_neg (by exact Int32.lt_irrefl), b178_27], I⟩
  | d + 1, k, hk, q, s, I => by
    obtain ⟨N, R, M, B, L, m, H, r, K, C, f, I⟩ := I
    have e3 : nI k < nI n := nI_lt (by omega) (by omega)
    rw [b178_2, if_pos e3, b178_7 (q_g0 S) (q_g1 S), q_ms S I hc]
    simp only [Option.bind_some, Option.toList_some, List.cons_append, List.nil_append]
    rw [b178_12]
    cases hm : msF s c with
    | false => exact ⟨k, q, s, by omega, by rw [zi_bI_f, if_pos rfl, b178_27], ⟨N, R, M, B, L, m, H, r, K, C, f, I⟩⟩
    | true =>
      obtain ⟨x, q', s1, s', N', R', M', B', L', m', H', r', K', C', f', T, -, eq, J, -⟩ := q_step S (q := q) I hc (u2 := .double 0) (u3 := .double 0)
      rw [zi_bI_t, if_neg (by decide), b178_15 (q_g0 S) (q_g1 S), eq]
      simp only [Option.bind_some, Option.toList_some, List.cons_append, List.nil_append]
      rw [b178_20, nI_s]
      exact q_teL S hc hn d (k + 1) (by omega) ⟨N', R', M', B', L', m', H', r', K', C', f', J⟩
/-- client 0 is let go -/
theorem InvG.idle (I : InvG s N R M B L m H r K C f) (hc : c < 3) : InvG (up s (315 + 24 * c) 0) N R M B L m H r K C f := by
  have e0 : up s (315 + 24 * c) 0 (315 + 24 * c) = 0 := up_s _ _ _
  refine I.cl hc (fun k hk => up_n _ _ (by omega)) (clG.off (k := 0) e0 (Or.inl rfl)) ?_ (fun w => ?_)
  · rw [pn_0 (k := 0) e0 (by omega)]; omega
  · unfold hoC at w
    rw [e0] at w
    rcases w with q | q <;> exact absurd q (by decide)
/-- an act, to its end -/
theorem q_doL (S : Sh h) {x1 x2 : Int32} : ∀ k, ∀ {q : zQs} {s : Nat → Int32} {N R M B : Nat} {L m H r : Nat → Nat} {K C : Nat → Nat → Nat} {f : Nat → Nat}, InvG s N R M B L m H r K C f → mu s L f 0 < k → ∃ x q' s', zv 7 179 7 [.ref 211, .int x1, .int x2] [] (zQ h q s) = some (some (.int x), zQ h q' s') ∧ Inv s' := by
  intro k
  induction k with
  | zero => intro q s N R M B L m H r K C f I hmu; omega
  | succ k ih =>
    intro q s N R M B L m H r K C f I hmu
    have m0 : zv 4 176 0 [.ref 211, .int 0] [] (zQ h q s) = some (some (.int (zi_bI (msF s 0))), zQ h q s) := q_ms S I (c := 0) (by decide)
    rw [b179_7 (q_g0 S) (q_g1 S), m0]
    simp only [Option.bind_some, Option.toList_some, List.cons_append, List.nil_append]
    rw [b179_12]
    cases hm : msF s 0 with
    | true =>
      obtain ⟨x, q', s1, s', N', R', M', B', L', m', H', r', K', C', f', T, -, eq, J, hx⟩ := q_step S (q := q) I (c := 0) (by decide) (u2 := .double 0) (u3 := .double 0)
      have hx := hx (ms_x I (by decide) hm T)
      have eq' : zv 6 174 0 [.ref 211, .int 0, .double 0, .double 0] [] (zQ h q s) = some (some (.int x), zQ h q' s') := eq
      rw [zi_bI_t, if_neg (by decide), b179_15 (q_g0 S) (q_g1 S), eq']
      simp only [Option.bind_some, Option.toList_some, List.cons_append, List.nil_append]
      rw [b179_20]
      exact ih J (by omega)
    | false =>
      have c0 : zv 1 147 0 [.ref 211, .int 0, .int 0, .int 0] [] (zQ h q s) = some (none, zQ h q (up s (315 + 24 * 0) 0)) := q_cb0 S (c := 0) (by decide)
      have c4 : zv 1 146 0 [.ref 211, .int 0, .int 4] [] (zQ h q (up s (315 + 24 * 0) 0)) = some (some (.int (up s (315 + 24 * 0) 0 (315 + 24 * 0 + 4))), zQ h q (up s (315 + 24 * 0) 0)) := q_oc4 S (c := 0) (by decide)
      rw [zi_bI_f, if_pos rfl, b179_24 (q_g0 S) (q_g1 S), c0]
      simp only [Option.bind_some, Option.toList_none, List.nil_append]
      rw [b179_31 (q_g0 S) (q_g1 S), c4]
      simp only [Option.bind_some, Option.toList_some, List.cons_append, List.nil_append]
      rw [b179_37]
      exact ⟨_, q, _, rfl, N, R, M, B, L, m, H, r, K, C, f, I.idle (c := 0) (by decide)⟩
theorem q_does (S : Sh h) (I : Inv s) {a k : Nat} (ha : a ≤ 2) (hk : k ≤ 99) : ∃ x q' s', zv 7 179 0 [.ref 211, .int (nI a), .int (nI k)] [] (zQ h q s) = some (some (.int x), zQ h q' s') ∧ Inv s' := by
  obtain ⟨N, R, M, B, L, m, H, r, K, C, f, I⟩ := I
  have b0 : zv 4 177 0 [.ref 211, .int 0, .int (nI a), .int (nI k), .double 0] [] (zQ h q s) = some (none, zQ h q (beF s 0 (nI a) (nI k))) := q_beg S I (c := 0) (by decide) ha hk
  rw [b179_0 (q_g0 S) (q_g1 S), b0]
  simp only [Option.bind_some, Option.toList_none, List.nil_append]
  exact q_doL S (mu (beF s 0 (nI a) (nI k)) L f 0 + 1) (I.be (by decide) ha hk) (Nat.lt_succ_self _)
end R23B
