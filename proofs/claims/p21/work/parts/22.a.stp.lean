/-! A STEP, case by case, over the row alone -/
section STP
variable (s : Nat → Int32) (c : Nat) (x : Int32) (s' : Nat → Int32)
def StD : Prop := ∃ n, n < 24 ∧ s (315 + 24 * c + 3) = nI n ∧ (
    ((s (13 * n + 4) = 1 ∨ s (13 * n + 2) < s (315 + 24 * c + 2)) ∧ x = 1 ∧ s' = up s (315 + 24 * c + 3) (s (13 * n + 3)))
  ∨ (¬ s (13 * n + 4) = 1 ∧ ¬ s (13 * n + 2) < s (315 + 24 * c + 2) ∧ (
      (∃ t j, 0 < t ∧ t < 12 ∧ s (13 * n) = nI t ∧ j < 4 ∧ (∀ i, i < j → s (13 * n + (5 + i)) < s (315 + 24 * c + 2)) ∧ ¬ s (13 * n + (5 + j)) < s (315 + 24 * c + 2) ∧ x = 2 ∧ s' = up (up s (315 + 24 * c + (12 + t)) (nI n)) (315 + 24 * c + 3) (s (13 * n + (9 + j))))
    ∨ (s (13 * n) = 0 ∧ (
        (s (315 + 24 * c + 1) = 0 ∧ ∃ m, m ≤ 4 ∧ s (13 * n + 1) = nI m ∧ x = 3 ∧ s' = up (up s (315 + 24 * c + 4) (zi_bI (hkF s n (s (315 + 24 * c + 2)) m))) (315 + 24 * c) 5)
      ∨ (¬ s (315 + 24 * c + 1) = 0 ∧ lkB s (nI n) = -4 ∧ x = 4 ∧ s' = up s (315 + 24 * c) 2)
      ∨ (¬ s (315 + 24 * c + 1) = 0 ∧ ¬ lkB s (nI n) = -4 ∧ x = 0 ∧ s' = s))))))
def StP : Prop := ∃ n m M, n < 24 ∧ m ≤ M ∧ 2 ≤ M ∧ M ≤ 4 ∧ s (315 + 24 * c + 3) = nI n ∧ s (13 * n + 1) = nI m ∧ s 314 = nI M ∧ s (13 * n) = 0 ∧ (
    (hkF s n (s (315 + 24 * c + 2)) m = true ∧ x = 3 ∧ s' = up (up s (315 + 24 * c + 4) 0) (315 + 24 * c) 5)
  ∨ (hkF s n (s (315 + 24 * c + 2)) m = false ∧ ∃ p, p ≤ m ∧ (∀ i, i < p → ¬ s (315 + 24 * c + 2) < s (13 * n + (5 + i))) ∧ (∀ i, p ≤ i → i < m → s (315 + 24 * c + 2) < s (13 * n + (5 + i))) ∧ (
      (m + 1 ≤ M ∧ x = 3 ∧ s' = up (up (nH s n (blF s n p (s (315 + 24 * c + 2))) (fun _ => -4) (m + 1)) (315 + 24 * c + 4) 1) (315 + 24 * c) 5)
    ∨ (m = M ∧ s 312 = 24 ∧ x = 3 ∧ s' = up (up s (315 + 24 * c + 4) (-3)) (315 + 24 * c) 5)
    ∨ (m = M ∧ ∃ v ls, v < 24 ∧ n < v ∧ s 312 = nI v ∧ (m + 1 = 3 ∧ ls = 2 ∨ m + 1 = 4 ∧ ls = 2 ∨ m + 1 = 5 ∧ ls = 3) ∧ x = 5 ∧ s' = up (spF s c n v 0 ls (m + 1) (blF s n p (s (315 + 24 * c + 2))) (fun _ => -4)) (315 + 24 * c + 4) 1))))
def StT : Prop := ∃ n m, n < 24 ∧ m ≤ 4 ∧ s (315 + 24 * c + 3) = nI n ∧ s (13 * n + 1) = nI m ∧ s (13 * n) = 0 ∧ (
    (hkF s n (s (315 + 24 * c + 2)) m = false ∧ x = 3 ∧ s' = up (up s (315 + 24 * c + 4) 0) (315 + 24 * c) 5)
  ∨ (hkF s n (s (315 + 24 * c + 2)) m = true ∧ ∃ p, p < m ∧ s (13 * n + (5 + p)) = s (315 + 24 * c + 2) ∧ (∀ i, i < m → i ≠ p → ¬ s (13 * n + (5 + i)) = s (315 + 24 * c + 2)) ∧ (
      ((1 < m ∨ s (13 * n + 3) = -4) ∧ x = 3 ∧ s' = up (up (nH s n (rmF s n 5 p) (fun _ => -4) (m - 1)) (315 + 24 * c + 4) 1) (315 + 24 * c) 5)
    ∨ (m = 1 ∧ ¬ s (13 * n + 3) = -4 ∧ x = 6 ∧ s' = poF (up (up (nH s n (rmF s n 5 0) (fun _ => -4) 0) (315 + 24 * c + 4) 1) (13 * n + 4) 1) c 1 (s (13 * n + 2)) (nI n) 1))))
def StO : Prop := ∃ n r, n < 24 ∧ r < 24 ∧ s (315 + 24 * c + 3) = nI n ∧ s 313 = nI r ∧ (
    (s (13 * r) < s (315 + 24 * c + 10) ∧ (
      ((s (315 + 24 * c + 11) = 1 ∨ s 312 = 24) ∧ x = 3 ∧ s' = up s (315 + 24 * c) 5)
    ∨ (¬ s (315 + 24 * c + 11) = 1 ∧ ∃ v, v < 24 ∧ s 312 = nI v ∧ x = 7 ∧ s' = up (up (nH (nnF s v (s (315 + 24 * c + 10)) 100 (-4)) v (fun i => if i = 0 then s (315 + 24 * c + 8) else 100) (fun i => if i = 0 then s 313 else s (315 + 24 * c + 9)) 2) 313 (nI v)) (315 + 24 * c) 5)))
  ∨ (¬ s (13 * r) < s (315 + 24 * c + 10) ∧ (
      (s (13 * n) < s (315 + 24 * c + 10) ∧ x = 9 ∧ s' = up s (315 + 24 * c + 3) (nI r))
    ∨ (¬ s (13 * n) < s (315 + 24 * c + 10) ∧ (
        (s (13 * n + 2) < s (315 + 24 * c + 8) ∧ x = 1 ∧ s' = up s (315 + 24 * c + 3) (s (13 * n + 3)))
      ∨ (¬ s (13 * n + 2) < s (315 + 24 * c + 8) ∧ (
          (s (315 + 24 * c + 10) < s (13 * n) ∧ ∃ j, j < 4 ∧ (∀ i, i < j → s (13 * n + (5 + i)) < s (315 + 24 * c + 8)) ∧ ¬ s (13 * n + (5 + j)) < s (315 + 24 * c + 8) ∧ x = 2 ∧ s' = up s (315 + 24 * c + 3) (s (13 * n + (9 + j))))
        ∨ (¬ s (315 + 24 * c + 10) < s (13 * n) ∧ lkB s (nI n) = -4 ∧ x = 4 ∧ s' = up s (315 + 24 * c) 4)
        ∨ (¬ s (315 + 24 * c + 10) < s (13 * n) ∧ ¬ lkB s (nI n) = -4 ∧ x = 0 ∧ s' = s))))))))
def StX : Prop := ∃ n m j, n < 24 ∧ m ≤ 4 ∧ j < m ∧ s (315 + 24 * c + 3) = nI n ∧ s (13 * n + 1) = nI m ∧ (∀ i, i < j → s (13 * n + (5 + i)) < s (315 + 24 * c + 8)) ∧ ¬ s (13 * n + (5 + j)) < s (315 + 24 * c + 8) ∧ (
    ((¬ s (13 * n + (5 + j)) = s (315 + 24 * c + 8) ∨ ¬ s (13 * n + (9 + j)) = s (315 + 24 * c + 9) ∨ j + 1 = m) ∧ x = 3 ∧ s' = up s (315 + 24 * c) 5)
  ∨ (j + 1 < m ∧ s (13 * n + (5 + j)) = s (315 + 24 * c + 8) ∧ s (13 * n + (9 + j)) = s (315 + 24 * c + 9) ∧ x = 8 ∧ s' = up (nH s n (rmF s n 5 j) (rmF s n 9 j) (m - 1)) (315 + 24 * c) 5))
def StY : Prop := ∃ n m j M, n < 24 ∧ m ≤ M ∧ 2 ≤ M ∧ M ≤ 4 ∧ j < m ∧ s (315 + 24 * c + 3) = nI n ∧ s (13 * n + 1) = nI m ∧ s 314 = nI M ∧ (∀ i, i < j → s (13 * n + (5 + i)) < s (315 + 24 * c + 8)) ∧ ¬ s (13 * n + (5 + j)) < s (315 + 24 * c + 8) ∧ (
    (s (13 * n + (5 + j)) = s (315 + 24 * c + 8) ∧ x = 3 ∧ s' = up s (315 + 24 * c) 5)
  ∨ (¬ s (13 * n + (5 + j)) = s (315 + 24 * c + 8) ∧ (
      (m + 1 ≤ M ∧ x = 8 ∧ s' = up (nH s n (blF s n j (s (315 + 24 * c + 8))) (icF s n j (s (315 + 24 * c + 9))) (m + 1)) (315 + 24 * c) 5)
    ∨ (m = M ∧ s 312 = 24 ∧ x = 3 ∧ s' = up s (315 + 24 * c) 5)
    ∨ (m = M ∧ ∃ v t ls, v < 24 ∧ n < v ∧ s 312 = nI v ∧ s (13 * n) = nI t ∧ t < 11 ∧ (m + 1 = 3 ∧ ls = 2 ∨ m + 1 = 4 ∧ ls = 2 ∨ m + 1 = 5 ∧ ls = 3) ∧ x = 5 ∧ s' = spF s c n v t ls (m + 1) (blF s n j (s (315 + 24 * c + 8))) (icF s n j (s (315 + 24 * c + 9)))))))
def StA : Prop := (s (315 + 24 * c) = 1 ∧ StD s c x s') ∨ (s (315 + 24 * c) = 2 ∧ s (315 + 24 * c + 1) = 1 ∧ StP s c x s') ∨ (s (315 + 24 * c) = 2 ∧ ¬ s (315 + 24 * c + 1) = 1 ∧ StT s c x s') ∨ (s (315 + 24 * c) = 3 ∧ StO s c x s') ∨ (s (315 + 24 * c) = 4 ∧ s (315 + 24 * c + 11) = 1 ∧ StX s c x s') ∨ (s (315 + 24 * c) = 4 ∧ ¬ s (315 + 24 * c + 11) = 1 ∧ StY s c x s') ∨ ((s (315 + 24 * c) = 0 ∨ s (315 + 24 * c) = 5) ∧ x = 0 ∧ s' = s)
end STP
section STQ
variable {h : zi_Hp} {q : zQs} {s s' : Nat → Int32} {c : Nat} {x : Int32}
theorem q_stD (S : Sh h) (hc : c < 3) (T : StD s c x s') {u2 u3 : Value} : ∃ q', q'.2.2.2 = q.2.2.2 ∧ zv 4 163 0 [.ref 211, .int (nI c), u2, u3] [] (zQ h q s) = some (some (.int x), zQ h q' s') := by
  obtain ⟨n, hn, e, T⟩ := T
  rcases T with ⟨t1, rfl, rfl⟩ | ⟨t1, t2, ⟨t, j, k1, k2, k3, k4, k5, k6, rfl, rfl⟩ | ⟨t3, ⟨t4, m, k1, k2, rfl, rfl⟩ | ⟨t4, t5, rfl, rfl⟩ | ⟨t4, t5, rfl, rfl⟩⟩⟩
  · exact ⟨q, rfl, q_sdR S hc hn e t1⟩
  · exact ⟨q, rfl, q_sdC S hc hn k4 k2 e t1 t2 k3 k1 k5 k6⟩
  · exact ⟨q, rfl, q_sdF S hc hn k1 k2 e t1 t2 t3 t4⟩
  · exact ⟨q, rfl, by rw [q_sdL S hc hn e t1 t2 t3 t4, if_pos t5]⟩
  · exact ⟨q, rfl, by rw [q_sdL S hc hn e t1 t2 t3 t4, if_neg t5]⟩
theorem q_stP (S : Sh h) (hc : c < 3) (T : StP s c x s') {u2 u3 : Value} : ∃ q', q'.2.2.2 = q.2.2.2 ∧ zv 4 165 0 [.ref 211, .int (nI c), u2, u3] [] (zQ h q s) = some (some (.int x), zQ h q' s') := by
  obtain ⟨n, m, M, hn, hm, h2, hM, e, em, eM, e0, T⟩ := T
  rcases T with ⟨t1, rfl, rfl⟩ | ⟨t1, p, k1, k2, k3, ⟨k4, rfl, rfl⟩ | ⟨k4, k5, rfl, rfl⟩ | ⟨k4, v, ls, k5, k6, k7, k8, rfl, rfl⟩⟩
  · exact ⟨q, rfl, q_ptH S hc hn (by omega) em e t1⟩
  · exact q_ptF S hc hn (by omega) em e t1 k1 k2 k3 eM hM k4
  · exact q_ptX S hc hn (by omega) em e t1 k1 k2 k3 eM (by omega) k5
  · exact q_ptS S hc hn (by omega) em e t1 k1 k2 k3 eM (by omega) k5 k7 k6 k8 (t := 0) e0 (by decide)
theorem q_stT (S : Sh h) (hc : c < 3) (T : StT s c x s') {u2 u3 u4 : Value} : ∃ q', q'.2.2.2 = q.2.2.2 ∧ zv 4 166 0 [.ref 211, .int (nI c), u2, u3, u4] [] (zQ h q s) = some (some (.int x), zQ h q' s') := by
  obtain ⟨n, m, hn, hm, e, em, e0, T⟩ := T
  rcases T with ⟨t1, rfl, rfl⟩ | ⟨t1, p, k1, k2, k3, ⟨k4, rfl, rfl⟩ | ⟨rfl, k4, rfl, rfl⟩⟩
  · exact ⟨q, rfl, q_tkN S hc hn hm em e t1⟩
  · exact q_tkA S hc hn hm k1 em e t1 k2 k3 k4
  · have hp : p = 0 := by omega
    subst hp
    exact q_tkD S hc hn em e t1 k2 k4
theorem q_stO (S : Sh h) (hc : c < 3) (T : StO s c x s') {u2 u3 : Value} : ∃ q', q'.2.2.2 = q.2.2.2 ∧ zv 4 168 0 [.ref 211, .int (nI c), u2, u3] [] (zQ h q s) = some (some (.int x), zQ h q' s') := by
  obtain ⟨n, r, hn, hr, e, er, T⟩ := T
  rcases T with ⟨t1, ⟨t2, rfl, rfl⟩ | ⟨t2, v, k1, k2, rfl, rfl⟩⟩ | ⟨t1, ⟨t2, rfl, rfl⟩ | ⟨t2, ⟨t3, rfl, rfl⟩ | ⟨t3, ⟨t4, j, k1, k2, k3, rfl, rfl⟩ | ⟨t4, t5, rfl, rfl⟩ | ⟨t4, t5, rfl, rfl⟩⟩⟩⟩
  · exact ⟨q, rfl, q_poE S hc hn hr e er t1 t2⟩
  · exact q_poN S hc hn hr k1 e er t1 t2 k2
  · exact ⟨q, rfl, q_poT S hc hn hr e er t1 t2⟩
  · exact ⟨q, rfl, q_poR S hc hn hr e er t1 t2 t3⟩
  · exact ⟨q, rfl, q_poC S hc hn hr k1 e er t1 t2 t3 t4 k2 k3⟩
  · exact ⟨q, rfl, by rw [q_poL S hc hn hr e er t1 t2 t3 t4, if_pos t5]⟩
  · exact ⟨q, rfl, by rw [q_poL S hc hn hr e er t1 t2 t3 t4, if_neg t5]⟩
theorem q_stX (S : Sh h) (hc : c < 3) (T : StX s c x s') {u2 u3 : Value} : ∃ q', q'.2.2.2 = q.2.2.2 ∧ zv 3 170 0 [.ref 211, .int (nI c), u2, u3] [] (zQ h q s) = some (some (.int x), zQ h q' s') := by
  obtain ⟨n, m, j, hn, hm, hj, e, em, k1, k2, T⟩ := T
  rcases T with ⟨t1, rfl, rfl⟩ | ⟨t1, t2, t3, rfl, rfl⟩
  · exact ⟨q, rfl, q_adE S hc hn hm (by omega) (by omega) e em k1 k2 t1⟩
  · exact q_adR S hc hn hm t1 e em k1 t2 t3
theorem q_stY (S : Sh h) (hc : c < 3) (T : StY s c x s') {u2 u3 u4 u5 : Value} : ∃ q', q'.2.2.2 = q.2.2.2 ∧ zv 4 171 0 [.ref 211, .int (nI c), u2, u3, u4, u5] [] (zQ h q s) = some (some (.int x), zQ h q' s') := by
  obtain ⟨n, m, j, M, hn, hm, h2, hM, hj, e, em, eM, k1, k2, T⟩ := T
  rcases T with ⟨t1, rfl, rfl⟩ | ⟨t1, ⟨t2, rfl, rfl⟩ | ⟨t2, t3, rfl, rfl⟩ | ⟨t2, v, t, ls, t3, t4, t5, t6, t7, t8, rfl, rfl⟩⟩
  · exact ⟨q, rfl, q_asE S hc hn (by omega) e k1 t1⟩
  · exact q_asF S hc hn (by omega) hj e em k1 k2 t1 eM hM t2
  · exact q_asX S hc hn (by omega) hj e em k1 k2 t1 eM (by omega) t3
  · exact q_asS S hc hn (by omega) hj e em k1 k2 t1 eM (by omega) t3 t5 t4 t8 t6 t7
theorem q_stp (S : Sh h) (hc : c < 3) (T : StA s c x s') : ∃ q', q'.2.2.2 = q.2.2.2 ∧ zv 5 172 0 [.ref 211, .int (nI c)] [] (zQ h q s) = some (some (.int x), zQ h q' s') := by
  rcases T with ⟨t1, T⟩ | ⟨t1, t2, T⟩ | ⟨t1, t2, T⟩ | ⟨t1, T⟩ | ⟨t1, t2, T⟩ | ⟨t1, t2, T⟩ | ⟨t1, rfl, rfl⟩
  · obtain ⟨q', hw, eq⟩ := q_stD S (q := q) hc T (u2 := .double 0) (u3 := .double 0)
    refine ⟨q', hw, ?_⟩
    simp +decide only [b172_0, b172_6_c1, b172_6_c2, b172_6_c3, b172_6_c4, b172_6_d, b172_36, b172_41, b172_42, b172_48, b172_52, b172_57, b172_60, b172_65, b172_66, b172_71, b172_72, b172_79, b172_83, b172_88, b172_91, b172_96, b172_97, q_oc0, t1, eq, S, hc, zQ_n, zQ_k, S.n, S.k, kx_211, Option.bind_some, Option.toList_some, Option.toList_none, List.cons_append, List.nil_append, List.append_nil, zq_rf, or_false, false_or, or_true, true_or, not_false_eq_true, not_true_eq_false, and_true, true_and, and_false, false_and, and_self, or_self, ite_true, ite_false, ↓reduceIte, Int32.reduceAdd, Int32.reduceSub, Int32.reduceMul, Int32.reduceDiv, Int32.reduceLT, Int32.reduceLE, Int32.reduceToNatClampNeg, Int32.reduceToInt, Int32.reduceOfNat, Nat.reduceAdd, Nat.reduceSub, Nat.reduceMul, Nat.reduceLeDiff, Nat.reduceEqDiff]
  · obtain ⟨q', hw, eq⟩ := q_stP S (q := q) hc T (u2 := .double 0) (u3 := .double 0)
    refine ⟨q', hw, ?_⟩
    simp +decide only [b172_0, b172_6_c1, b172_6_c2, b172_6_c3, b172_6_c4, b172_6_d, b172_36, b172_41, b172_42, b172_48, b172_52, b172_57, b172_60, b172_65, b172_66, b172_71, b172_72, b172_79, b172_83, b172_88, b172_91, b172_96, b172_97, q_oc0, q_oc1, t1, t2, eq, S, hc, zQ_n, zQ_k, S.n, S.k, kx_211, Option.bind_some, Option.toList_some, Option.toList_none, List.cons_append, List.nil_append, List.append_nil, zq_rf, or_false, false_or, or_true, true_or, not_false_eq_true, not_true_eq_false, and_true, true_and, and_false, false_and, and_self, or_self, ite_true, ite_false, ↓reduceIte, Int32.reduceAdd, Int32.reduceSub, Int32.reduceMul, Int32.reduceDiv, Int32.reduceLT, Int32.reduceLE, Int32.reduceToNatClampNeg, Int32.reduceToInt, Int32.reduceOfNat, Nat.reduceAdd, Nat.reduceSub, Nat.reduceMul, Nat.reduceLeDiff, Nat.reduceEqDiff]
  · obtain ⟨q', hw, eq⟩ := q_stT S (q := q) hc T (u2 := .double 0) (u3 := .double 0) (u4 := .double 0)
    refine ⟨q', hw, ?_⟩
    simp +decide only [b172_0, b172_6_c1, b172_6_c2, b172_6_c3, b172_6_c4, b172_6_d, b172_36, b172_41, b172_42, b172_48, b172_52, b172_57, b172_60, b172_65, b172_66, b172_71, b172_72, b172_79, b172_83, b172_88, b172_91, b172_96, b172_97, q_oc0, q_oc1, t1, t2, eq, S, hc, zQ_n, zQ_k, S.n, S.k, kx_211, Option.bind_some, Option.toList_some, Option.toList_none, List.cons_append, List.nil_append, List.append_nil, zq_rf, or_false, false_or, or_true, true_or, not_false_eq_true, not_true_eq_false, and_true, true_and, and_false, false_and, and_self, or_self, ite_true, ite_false, ↓reduceIte, Int32.reduceAdd, Int32.reduceSub, Int32.reduceMul, Int32.reduceDiv, Int32.reduceLT, Int32.reduceLE, Int32.reduceToNatClampNeg, Int32.reduceToInt, Int32.reduceOfNat, Nat.reduceAdd, Nat.reduceSub, Nat.reduceMul, Nat.reduceLeDiff, Nat.reduceEqDiff]
  · obtain ⟨q', hw, eq⟩ := q_stO S (q := q) hc T (u2 := .double 0) (u3 := .double 0)
    refine ⟨q', hw, ?_⟩
    simp +decide only [b172_0, b172_6_c1, b172_6_c2, b172_6_c3, b172_6_c4, b172_6_d, b172_36, b172_41, b172_42, b172_48, b172_52, b172_57, b172_60, b172_65, b172_66, b172_71, b172_72, b172_79, b172_83, b172_88, b172_91, b172_96, b172_97, q_oc0, t1, eq, S, hc, zQ_n, zQ_k, S.n, S.k, kx_211, Option.bind_some, Option.toList_some, Option.toList_none, List.cons_append, List.nil_append, List.append_nil, zq_rf, or_false, false_or, or_true, true_or, not_false_eq_true, not_true_eq_false, and_true, true_and, and_false, false_and, and_self, or_self, ite_true, ite_false, ↓reduceIte, Int32.reduceAdd, Int32.reduceSub, Int32.reduceMul, Int32.reduceDiv, Int32.reduceLT, Int32.reduceLE, Int32.reduceToNatClampNeg, Int32.reduceToInt, Int32.reduceOfNat, Nat.reduceAdd, Nat.reduceSub, Nat.reduceMul, Nat.reduceLeDiff, Nat.reduceEqDiff]
  · obtain ⟨q', hw, eq⟩ := q_stX S (q := q) hc T (u2 := .double 0) (u3 := .double 0)
    refine ⟨q', hw, ?_⟩
    simp +decide only [b172_0, b172_6_c1, b172_6_c2, b172_6_c3, b172_6_c4, b172_6_d, b172_36, b172_41, b172_42, b172_48, b172_52, b172_57, b172_60, b172_65, b172_66, b172_71, b172_72, b172_79, b172_83, b172_88, b172_91, b172_96, b172_97, q_oc0, q_oc11, t1, t2, eq, S, hc, zQ_n, zQ_k, S.n, S.k, kx_211, Option.bind_some, Option.toList_some, Option.toList_none, List.cons_append, List.nil_append, List.append_nil, zq_rf, or_false, false_or, or_true, true_or, not_false_eq_true, not_true_eq_false, and_true, true_and, and_false, false_and, and_self, or_self, ite_true, ite_false, ↓reduceIte, Int32.reduceAdd, Int32.reduceSub, Int32.reduceMul, Int32.reduceDiv, Int32.reduceLT, Int32.reduceLE, Int32.reduceToNatClampNeg, Int32.reduceToInt, Int32.reduceOfNat, Nat.reduceAdd, Nat.reduceSub, Nat.reduceMul, Nat.reduceLeDiff, Nat.reduceEqDiff]
  · obtain ⟨q', hw, eq⟩ := q_stY S (q := q) hc T (u2 := .double 0) (u3 := .double 0) (u4 := .double 0) (u5 := .double 0)
    refine ⟨q', hw, ?_⟩
    simp +decide only [b172_0, b172_6_c1, b172_6_c2, b172_6_c3, b172_6_c4, b172_6_d, b172_36, b172_41, b172_42, b172_48, b172_52, b172_57, b172_60, b172_65, b172_66, b172_71, b172_72, b172_79, b172_83, b172_88, b172_91, b172_96, b172_97, q_oc0, q_oc11, t1, t2, eq, S, hc, zQ_n, zQ_k, S.n, S.k, kx_211, Option.bind_some, Option.toList_some, Option.toList_none, List.cons_append, List.nil_append, List.append_nil, zq_rf, or_false, false_or, or_true, true_or, not_false_eq_true, not_true_eq_false, and_true, true_and, and_false, false_and, and_self, or_self, ite_true, ite_false, ↓reduceIte, Int32.reduceAdd, Int32.reduceSub, Int32.reduceMul, Int32.reduceDiv, Int32.reduceLT, Int32.reduceLE, Int32.reduceToNatClampNeg, Int32.reduceToInt, Int32.reduceOfNat, Nat.reduceAdd, Nat.reduceSub, Nat.reduceMul, Nat.reduceLeDiff, Nat.reduceEqDiff]
  · refine ⟨q, rfl, ?_⟩
    rcases t1 with t1 | t1
    · simp +decide only [b172_0, b172_6_c1, b172_6_c2, b172_6_c3, b172_6_c4, b172_6_d, b172_36, b172_41, b172_42, b172_48, b172_52, b172_57, b172_60, b172_65, b172_66, b172_71, b172_72, b172_79, b172_83, b172_88, b172_91, b172_96, b172_97, q_oc0, t1, S, hc, zQ_n, zQ_k, S.n, S.k, kx_211, Option.bind_some, Option.toList_some, Option.toList_none, List.cons_append, List.nil_append, List.append_nil, zq_rf, or_false, false_or, or_true, true_or, not_false_eq_true, not_true_eq_false, and_true, true_and, and_false, false_and, and_self, or_self, ite_true, ite_false, ↓reduceIte, Int32.reduceAdd, Int32.reduceSub, Int32.reduceMul, Int32.reduceDiv, Int32.reduceLT, Int32.reduceLE, Int32.reduceToNatClampNeg, Int32.reduceToInt, Int32.reduceOfNat, Nat.reduceAdd, Nat.reduceSub, Nat.reduceMul, Nat.reduceLeDiff, Nat.reduceEqDiff]
    · simp +decide only [b172_0, b172_6_c1, b172_6_c2, b172_6_c3, b172_6_c4, b172_6_d, b172_36, b172_41, b172_42, b172_48, b172_52, b172_57, b172_60, b172_65, b172_66, b172_71, b172_72, b172_79, b172_83, b172_88, b172_91, b172_96, b172_97, q_oc0, t1, S, hc, zQ_n, zQ_k, S.n, S.k, kx_211, Option.bind_some, Option.toList_some, Option.toList_none, List.cons_append, List.nil_append, List.append_nil, zq_rf, or_false, false_or, or_true, true_or, not_false_eq_true, not_true_eq_false, and_true, true_and, and_false, false_and, and_self, or_self, ite_true, ite_false, ↓reduceIte, Int32.reduceAdd, Int32.reduceSub, Int32.reduceMul, Int32.reduceDiv, Int32.reduceLT, Int32.reduceLE, Int32.reduceToNatClampNeg, Int32.reduceToInt, Int32.reduceOfNat, Nat.reduceAdd, Nat.reduceSub, Nat.reduceMul, Nat.reduceLeDiff, Nat.reduceEqDiff]
end STQ
